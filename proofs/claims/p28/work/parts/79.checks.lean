/-! WHAT the law's own checks rest on: clearing, reading all nodes -/
theorem kj_cf_w {r : Nat → Int32} {n : Nat} (hn : n < 4) : ∀ i, i ≤ 8 → ∀ k, k < 8 → kf_w (kf_cf r n i) n k = if k < i ∧ kf_cl r n k = true then nI 0 else kf_w r n k
  | 0, _, k, hk => by rw [if_neg (by omega)]; rfl
  | i + 1, hi, k, hk => by
    have ih := kj_cf_w (r := r) hn i (by omega) k hk
    rw [kf_cf, kf_ck, kf_cl_cf hn i (by omega) i (Nat.le_refl _) (by omega)]
    by_cases q : kf_cl r n i = true
    · rw [if_pos q]
      unfold kf_z5
      rw [kf_pu_w hn (by omega) (by omega) hk]
      by_cases e : k = i
      · rw [if_pos ⟨rfl, e⟩, if_pos ⟨by omega, by rw [e]; exact q⟩]
      · rw [if_neg (by omega), ih]
        by_cases l : k < i ∧ kf_cl r n k = true
        · rw [if_pos l, if_pos ⟨by omega, l.2⟩]
        · rw [if_neg l, if_neg (fun g => l ⟨by omega, g.2⟩)]
    · rw [if_neg q, ih]
      by_cases l : k < i ∧ kf_cl r n k = true
      · rw [if_pos l, if_pos ⟨by omega, l.2⟩]
      · rw [if_neg l, if_neg (fun g => by
          by_cases e : k = i
          · rw [e] at g; exact q g.2
          · exact l ⟨by omega, g.2⟩)]
theorem kj_ct_d {P Q C : Nat → Bool} : ∀ {m : Nat}, (∀ k, k < m → C k = true → P k = true ∧ Q k = false) → (∀ k, k < m → C k = false → Q k = P k) → kf_ct Q m + kf_ct C m = kf_ct P m
  | 0, _, _ => rfl
  | m + 1, h1, h2 => by
    have ih := kj_ct_d (P := P) (Q := Q) (C := C) (m := m) (fun k hk => h1 k (by omega)) (fun k hk => h2 k (by omega))
    rw [kf_ct, kf_ct, kf_ct]
    cases q : C m with
    | true =>
      obtain ⟨e1, e2⟩ := h1 m (by omega) q
      rw [e1, e2]
      simp
      omega
    | false =>
      rw [h2 m (by omega) q]
      simp
      omega
theorem kj_cg_ct {r : Nat → Int32} {n : Nat} (hn : n < 4) : kf_ct (fun k => decide (kf_w (kf_cg r n) n k = nI 2)) 8 + kf_ct (kf_cl r n) 8 = kf_ct (fun k => decide (kf_w r n k = nI 2)) 8 := by
  have ew : ∀ k, k < 8 → kf_w (kf_cg r n) n k = if kf_cl r n k = true then nI 0 else kf_w r n k := by
    intro k hk
    have e1 : kf_w (kf_cg r n) n k = kf_w (kf_cf r n 8) n k := by
      unfold kf_cg kf_w
      split <;> exact kf_nt_o (by omega)
    rw [e1, kj_cf_w hn 8 (Nat.le_refl _) k hk]
    by_cases q : kf_cl r n k = true
    · rw [if_pos ⟨hk, q⟩, if_pos q]
    · rw [if_neg (fun g => q g.2), if_neg q]
  refine kj_ct_d (fun k hk q => ⟨?_, ?_⟩) (fun k hk q => ?_)
  · unfold kf_cl kf_rp kf_gr at q
    simp only [Bool.and_eq_true] at q
    exact q.1.1
  · rw [ew k hk, if_pos q]; decide
  · rw [ew k hk, if_neg (by rw [q]; decide)]
theorem kj_clr1 {A A' : kf_A} {n : Nat} {o : Int32} (hn : n < 4) (hu : A.1 (7 + n) = nI 1) (e : kf_clr A (nI n) = (o, A')) :
    o = (if kf_ct (fun k => kf_cl A.1 n k) 8 = 0 then kg_n 5 else nI (kf_ct (fun k => kf_cl A.1 n k) 8)) ∧ kf_ct (fun k => decide (kf_w A'.1 n k = nI 2)) 8 = kf_ct (fun k => decide (kf_w A.1 n k = nI 2)) 8 - kf_ct (fun k => kf_cl A.1 n k) 8 := by
  unfold kf_clr at e
  rw [kj_ix hn (by omega)] at e
  dsimp only at e
  rw [hu, if_neg (by decide)] at e
  by_cases q : kf_ct (fun k => kf_cl A.1 n k) 8 = 0
  · rw [if_pos q] at e
    cases e
    rw [if_pos q, q]
    exact ⟨rfl, rfl⟩
  · rw [if_neg q] at e
    have e1 := (congrArg Prod.fst e).symm
    have e2 : A'.1 = kf_cg A.1 n := (congrArg (fun t => t.2.1) e).symm
    rw [if_neg q, e2]
    refine ⟨e1, ?_⟩
    have h9 := kj_cg_ct (r := A.1) hn
    have h8 : kf_ct (kf_cl A.1 n) 8 = kf_ct (fun k => kf_cl A.1 n k) 8 := rfl
    omega
theorem kj_ct_a {P : Nat → Bool} : ∀ {n : Nat}, kf_ct P n = n → ∀ i, i < n → P i = true
  | 0, _, i, hi => by omega
  | n + 1, h, i, hi => by
    have l := kf_ct_le P n
    rw [kf_ct] at h
    by_cases q : P n = true
    · rw [if_pos q] at h
      by_cases e : i = n
      · rw [e]; exact q
      · exact kj_ct_a (n := n) (by omega) i (by omega)
    · rw [if_neg q] at h; omega
theorem kj_rl {r : Nat → Int32} {n : Nat} (hu : ∀ m, m < 4 → kf_u r m = true) : ∀ j, j ≤ 4 → (kf_rl r n 4 j).length = j ∧ ∀ i, i < j → (n + i) % 4 ∈ kf_rl r n 4 j
  | 0, _ => ⟨rfl, fun i hi => by omega⟩
  | j + 1, hj => by
    obtain ⟨h1, h2⟩ := kj_rl (r := r) (n := n) hu j (by omega)
    have hq : (kf_u r ((n + j) % 4) && decide ((kf_rl r n 4 j).length < 4)) = true := by
      rw [hu _ (Nat.mod_lt _ (by omega)), h1, decide_eq_true (by omega)]; rfl
    rw [kf_rl, if_pos hq]
    refine ⟨by rw [List.length_append, h1]; rfl, fun i hi => ?_⟩
    by_cases e : i = j
    · rw [e]; exact List.mem_append_right _ List.mem_cons_self
    · exact List.mem_append_left _ (h2 i (by omega))
theorem kj_rl_all {r : Nat → Int32} {n a : Nat} (hu : ∀ m, m < 4 → kf_u r m = true) (hn : n < 4) (ha : a < 4) : a ∈ kf_rl r n 4 4 := by
  have h := (kj_rl (r := r) (n := n) hu 4 (Nat.le_refl _)).2 ((a + 4 - n) % 4) (Nat.mod_lt _ (by omega))
  have e : (n + (a + 4 - n) % 4) % 4 = a := by omega
  rw [e] at h
  exact h
theorem kj_ln_w {r : Nat → Int32} {n s k n' k' : Nat} (hn : n < 4) (hs : s < 4) (hk : k < 8) (hn' : n' < 5) (hk' : k' < 8) : kf_w (kf_ln r n s k) n' k' = if n' = n ∧ k' = k then kf_w r s k else kf_w r n' k' := by
  rw [← kf_ta_w hn hs hk hn' hk']
  unfold kf_ln
  split
  · unfold kf_w; split <;> exact kf_nt_o (by omega)
  · rfl
theorem kj_ln_v {r : Nat → Int32} {n s k n' k' : Nat} (hn : n < 4) (hs : s < 4) (hk : k < 8) (hn' : n' < 5) (hk' : k' < 8) : kf_v (kf_ln r n s k) n' k' = if n' = n ∧ k' = k then kf_v r s k else kf_v r n' k' := by
  rw [← kf_ta_v hn hs hk hn' hk']
  unfold kf_ln
  split
  · unfold kf_v; split <;> exact kf_nt_o (by omega)
  · rfl
theorem kj_m1_s {s k : Nat} (hs : s < 4) (hk : k < 8) : ∀ (l : List Nat) (r : Nat → Int32), (∀ a ∈ l, a < 4) → kf_w (l.foldl (kf_m1 s k) r) s k = kf_w r s k ∧ kf_v (l.foldl (kf_m1 s k) r) s k = kf_v r s k
  | [], r, _ => ⟨rfl, rfl⟩
  | a :: l, r, hl => by
    obtain ⟨h1, h2⟩ := kj_m1_s hs hk l (kf_m1 s k r a) (fun b hb => hl b (List.mem_cons_of_mem _ hb))
    have ha := hl a List.mem_cons_self
    refine ⟨h1.trans ?_, h2.trans ?_⟩
    · unfold kf_m1
      split
      · rfl
      · rename_i q
        rw [kj_ln_w ha hs hk (by omega) hk]
        by_cases e : s = a ∧ k = k
        · rw [if_pos e]
        · rw [if_neg e]
    · unfold kf_m1
      split
      · rfl
      · rw [kj_ln_v ha hs hk (by omega) hk]
        by_cases e : s = a ∧ k = k
        · rw [if_pos e]
        · rw [if_neg e]
theorem kj_rda {A A' : kf_A} {n k : Nat} {o : Int32} (hJ : kj_J A.1) (hn : n < 4) (hk : k < 8) (h3 : A.1 3 = nI 4) (hu : kf_up4 A.1 = 4) (ht : 0 < kf_ct (fun n => decide (kf_s A.1 n k = kf_s A.1 4 k)) 4) (e : kf_rd A (nI n) (nI k) = (o, A')) :
    o = if kf_w A.1 4 k = nI 1 then kf_v A.1 4 k else kg_n 5 := by
  have hua : ∀ m, m < 4 → kf_u A.1 m = true := fun m hm => kj_ct_a (P := fun n => !decide (A.1 (7 + n) = nI 0)) hu m hm
  have em : kf_m2 A.1 3 = 4 := kf_m2_n (by omega) h3
  have el : kf_rdl A n = kf_rl A.1 n 4 4 := by unfold kf_rdl; rw [em]
  have hl : ∀ a ∈ kf_rdl A n, a < 4 := kf_rl_lt A.1 n _ 4
  have hs : kf_rds A n k < 4 := kf_nw_lt (r := A.1) (k := k) hl hn
  have hmx : ∀ a, a < 4 → kf_s A.1 a k ≤ kf_s A.1 (kf_rds A n k) k := by
    intro a ha
    refine (kf_nw_mx (r := A.1) (k := k) (kf_rdl A n) n).2 a ?_
    rw [el]
    exact kj_rl_all hua hn ha
  have hex : ∃ m, m < 4 ∧ kf_s A.1 m k = kf_s A.1 4 k := by
    refine Classical.byContradiction (fun hne => ?_)
    rw [kj_ct_z (fun i hi => decide_eq_false (fun q => hne ⟨i, hi, q⟩))] at ht
    omega
  obtain ⟨m, hm, q1⟩ := hex
  have q2 : kf_s A.1 (kf_rds A n k) k = kf_s A.1 4 k := by
    refine Int32.le_antisymm (hJ.1 _ k (by omega) hk).2 ?_
    rw [← q1]
    exact hmx m hm
  obtain ⟨j1, j2⟩ := hJ.2.2.1 _ 4 k (by omega) (by omega) hk q2
  have hw : kf_w (kf_rdr A n k) (kf_rds A n k) k = kf_w A.1 (kf_rds A n k) k ∧ kf_v (kf_rdr A n k) (kf_rds A n k) k = kf_v A.1 (kf_rds A n k) k := by
    unfold kf_rdr
    by_cases q : kf_rdc A n k = true
    · rw [if_pos q]
      exact kj_m1_s hs hk _ _ hl
    · rw [if_neg q]
      exact ⟨rfl, rfl⟩
  unfold kf_rd at e
  rw [kj_ix hn (by omega), kj_ix hk (by omega)] at e
  dsimp only at e
  rw [if_neg (by
    have := hua n hn
    unfold kf_u at this
    intro q
    rw [q] at this
    revert this
    decide)] at e
  have e1 := (congrArg Prod.fst e).symm
  dsimp only at e1
  rw [e1, hw.1, hw.2, j1]
  by_cases g : kf_w A.1 4 k = nI 1
  · rw [if_pos g, if_pos g, j2 (j1.trans g)]
  · rw [if_neg g, if_neg g]
