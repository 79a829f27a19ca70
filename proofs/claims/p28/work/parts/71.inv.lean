/-! THE INVARIANT over the class's calls -/
def kj_Q (r r' : Nat → Int32) : Prop := kj_J r' ∧ r' 1 = r 1 ∧ ∀ i, 187 ≤ i → i < 211 → r' i = r i
def kj_W (k : Nat) (r r' : Nat → Int32) : Prop := kj_J r' ∧ r' 1 = r 1 + nI 1 ∧ ∀ k', k' < 8 → kf_s r' 4 k' = if k' = k then r' 1 else kf_s r 4 k'
theorem kj_rf {r : Nat → Int32} (h : kj_J r) : kj_Q r r := ⟨h, rfl, fun _ _ _ => rfl⟩
theorem kj_Qs {r r' : Nat → Int32} (h : kj_Q r r') {k : Nat} (hk : k < 8) : kf_s r' 4 k = kf_s r 4 k := h.2.2 (187 + 3 * k + 2) (by omega) (by omega)
theorem kj_up {r : Nat → Int32} {i : Nat} {v : Int32} (h : kj_J r) (h1 : 2 ≤ i) (h2 : i < 27) : kj_Q r (upd r i v) := by
  have o : ∀ q, q ≠ i → upd r i v q = r q := fun q hq => by simp only [upd, if_neg hq]
  exact ⟨kj_o h (by rw [o 0 (by omega)]; exact Int32.le_refl _) (fun q h3 _ => o q (by omega)), o 1 (by omega), fun q h3 _ => o q (by omega)⟩
theorem kj_ix {n j : Nat} (h : j < n) (hn : n < 2147483648) : kf_ix n (nI j) = some j := by
  unfold kf_ix
  rw [nI_toInt (by omega), if_pos (by omega)]
  rfl
theorem kj_te_s {r : Nat → Int32} {k n' k' : Nat} {w v : Int32} (hk : k < 8) (hn' : n' < 5) (hk' : k' < 8) : kf_s (kf_te r k w v) n' k' = if n' = 4 ∧ k' = k then r 1 + nI 1 else kf_s r n' k' := by
  unfold kf_te
  rw [kf_pt_s hk hn' hk']
  split
  · rfl
  · unfold kf_s; split <;> exact if_neg (by omega)
theorem kj_te_w {r : Nat → Int32} {k n' k' : Nat} {w v : Int32} (hk : k < 8) (hn' : n' < 5) (hk' : k' < 8) : kf_w (kf_te r k w v) n' k' = if n' = 4 ∧ k' = k then w else kf_w r n' k' := by
  unfold kf_te
  rw [kf_pt_w hk hn' hk']
  split
  · rfl
  · unfold kf_w; split <;> exact if_neg (by omega)
theorem kj_te_v {r : Nat → Int32} {k n' k' : Nat} {w v : Int32} (hk : k < 8) (hn' : n' < 5) (hk' : k' < 8) : kf_v (kf_te r k w v) n' k' = if n' = 4 ∧ k' = k then v else kf_v r n' k' := by
  unfold kf_te
  rw [kf_pt_v hk hn' hk']
  split
  · rfl
  · unfold kf_v; split <;> exact if_neg (by omega)
theorem kj_te_o {r : Nat → Int32} {k i : Nat} {w v : Int32} (hk : k < 8) (h : i < 187 ∨ 211 ≤ i) (h1 : i ≠ 1) : kf_te r k w v i = r i := by
  unfold kf_te
  rw [kf_pt_o hk h]
  exact if_neg h1
theorem kj_te_1 {r : Nat → Int32} {k : Nat} {w v : Int32} (hk : k < 8) : kf_te r k w v 1 = r 1 + nI 1 := by
  unfold kf_te
  rw [kf_pt_o hk (by omega)]
  exact if_pos rfl
theorem kj_te {c k : Nat} {r : Nat → Int32} {w v : Int32} (h : kj_J r) (hI : kf_I c r) (hc : c + 1 < 1048576) (hk : k < 4) (hw : w ≠ nI 0) : kj_J (kf_te r k w v) := by
  obtain ⟨a1, a2, a3, a4, a5⟩ := h
  obtain ⟨-, ⟨s, hs, e1, hst⟩, -⟩ := hI
  have eS : r 1 + nI 1 = nI (s + 1) := by rw [e1, nI_add]
  have hlt : ∀ n k', n < 5 → k' < 8 → ∀ y, kf_s r n k' = y → ¬ y = nI (s + 1) := by
    intro n k' hn hk' y hy e
    obtain ⟨x, hx, ex⟩ := hst n k' hn hk'
    rw [← hy, ex, nI_eq (by omega) (by omega)] at e
    omega
  have h0 : ¬ nI (s + 1) = nI 0 := fun e => by
    rw [nI_eq (by omega) (by omega)] at e
    omega
  refine ⟨fun n k' hn hk' => ?_, fun n k' hn hk' => ?_, fun n m k' hn hm hk' e => ?_, fun n k' hn hk' hw' => ?_, fun n k' hn h4 hk' => ?_⟩
  · rw [kj_te_s (by omega) hn hk', kj_te_s (by omega) (by omega) hk', eS]
    by_cases q : k' = k
    · rw [if_pos (⟨rfl, q⟩ : 4 = 4 ∧ k' = k)]
      by_cases q4 : n = 4
      · rw [if_pos ⟨q4, q⟩]
        exact ⟨(nI_leI (by omega) (by omega)).mpr (by omega), Int32.le_refl _⟩
      · rw [if_neg (fun z => q4 z.1)]
        obtain ⟨x, hx, ex⟩ := hst n k' hn hk'
        rw [ex]
        exact ⟨(nI_leI (by omega) (by omega)).mpr (by omega), (nI_leI (by omega) (by omega)).mpr (by omega)⟩
    · rw [if_neg (fun z => q z.2), if_neg (fun z => q z.2)]
      exact a1 n k' hn hk'
  · rw [kj_te_s (by omega) hn hk', kj_te_w (by omega) hn hk', eS]
    by_cases q : n = 4 ∧ k' = k
    · rw [if_pos q, if_pos q]
      exact ⟨fun z => absurd z h0, fun z => absurd z hw⟩
    · rw [if_neg q, if_neg q]
      exact a2 n k' hn hk'
  · rw [kj_te_s (by omega) hn hk', kj_te_s (by omega) hm hk', eS] at e
    rw [kj_te_w (by omega) hn hk', kj_te_w (by omega) hm hk', kj_te_v (by omega) hn hk', kj_te_v (by omega) hm hk']
    by_cases q : n = 4 ∧ k' = k
    · rw [if_pos q] at e
      by_cases q2 : m = 4 ∧ k' = k
      · rw [if_pos q, if_pos q2, if_pos q, if_pos q2]
        exact ⟨rfl, fun _ => rfl⟩
      · rw [if_neg q2] at e
        exact absurd e.symm (hlt m k' hm hk' _ rfl)
    · rw [if_neg q] at e
      by_cases q2 : m = 4 ∧ k' = k
      · rw [if_pos q2] at e
        exact absurd e (hlt n k' hn hk' _ rfl)
      · rw [if_neg q2] at e
        rw [if_neg q, if_neg q2, if_neg q, if_neg q2]
        exact a3 n m k' hn hm hk' e
  · rw [kj_te_w (by omega) (by omega) hk', if_neg (fun z => by omega)] at hw'
    have := a4 n k' hn hk' hw'
    unfold kf_t kf_c at this ⊢
    rw [kj_te_o (by omega) (by omega) (by omega), kj_te_o (by omega) (by omega) (by omega), kj_te_o (by omega) (by omega) (by omega)]
    exact this
  · rw [kj_te_s (by omega) hn hk', if_neg (fun z => by omega)]
    exact a5 n k' hn h4 hk'
theorem kj_p1 {k : Nat} {w v : Int32} (hk : k < 8) : ∀ (l : List Nat) (r : Nat → Int32), kj_J r → kf_w r 4 k = w → kf_v r 4 k = v → kf_s r 4 k = r 1 → (∀ a ∈ l, a < 4) → kj_J (l.foldl (kf_p1 k w v) r)
  | [], r, h, _, _, _, _ => h
  | a :: l, r, h, ew, ev, es, hl => by
    have ha := hl a List.mem_cons_self
    have h' := h
    obtain ⟨a1, a2, a3, a4, a5⟩ := h'
    refine kj_p1 hk l (kf_p1 k w v r a) ?_ ?_ ?_ ?_ (fun b hb => hl b (List.mem_cons_of_mem _ hb))
    · unfold kf_p1
      refine kj_put (w := w) (v := v) (s := r 1) (t := r 0) (c := r 0) h ha hk (kf_pu_o ha hk (by omega)) (fun n' k' q1 q2 => kf_pu_s ha hk q1 q2) (fun n' k' q1 q2 => kf_pu_w ha hk q1 q2) (fun n' k' q1 q2 => kf_pu_v ha hk q1 q2) (fun n' k' q1 q2 => kf_pu_t ha hk q1 q2) (fun n' k' q1 q2 => kf_pu_c ha hk q1 q2) ?_ ?_ (fun m hm e => ?_) (fun _ => ⟨Int32.le_refl _, Int32.le_refl _⟩) (fun h4 => ?_)
      · rw [← es]; exact a1 4 k (by omega) hk
      · rw [← es, ← ew]; exact a2 4 k (by omega) hk
      · have := a3 m 4 k hm (by omega) hk (e.trans es.symm)
        rw [ew, ev] at this
        exact ⟨this.1, fun g => this.2 (this.1.trans g)⟩
      · rw [← es]; exact a5 4 k (by omega) h4 hk
    · unfold kf_p1; rw [kf_pu_w ha hk (by omega) hk, if_neg (by omega)]; exact ew
    · unfold kf_p1; rw [kf_pu_v ha hk (by omega) hk, if_neg (by omega)]; exact ev
    · unfold kf_p1; rw [kf_pu_s ha hk (by omega) hk, if_neg (by omega), kf_pu_o ha hk (by omega)]; exact es
theorem kj_tls {c n k : Nat} {A : kf_A} {w v : Int32} (h : kj_J A.1) (hI : kf_I c A.1) (hc : c + 1 < 1048576) (hk : k < 4) (hw : w ≠ nI 0) : kj_W k A.1 (kf_tls A n k w v).2.1 := by
  have hl := kf_rl_lt (kf_te A.1 k w v) n (kf_m2 A.1 2) 4
  show kj_W k A.1 ((kf_rl (kf_te A.1 k w v) n (kf_m2 A.1 2) 4).foldl (kf_p1 k w v) (kf_te A.1 k w v))
  refine ⟨kj_p1 (by omega) _ _ (kj_te h hI hc hk hw) ?_ ?_ ?_ hl, ?_, fun k' hk' => ?_⟩
  · rw [kj_te_w (by omega) (by omega) (by omega), if_pos ⟨rfl, rfl⟩]
  · rw [kj_te_v (by omega) (by omega) (by omega), if_pos ⟨rfl, rfl⟩]
  · rw [kj_te_s (by omega) (by omega) (by omega), if_pos ⟨rfl, rfl⟩, kj_te_1 (by omega)]
  · rw [kf_pl_o (by omega) (by omega) _ _ hl, kj_te_1 (by omega)]
  · rw [kf_pl_o (i := 1) (by omega) (by omega) _ _ hl, kj_te_1 (by omega)]
    have e : kf_s ((kf_rl (kf_te A.1 k w v) n (kf_m2 A.1 2) 4).foldl (kf_p1 k w v) (kf_te A.1 k w v)) 4 k' = kf_s (kf_te A.1 k w v) 4 k' := kf_pl_o (i := 187 + 3 * k' + 2) (by omega) (by omega) _ _ hl
    rw [e, kj_te_s (by omega) (by omega) hk']
    by_cases q : k' = k
    · rw [if_pos ⟨rfl, q⟩, if_pos q]
    · rw [if_neg (fun z => q z.2), if_neg q]
theorem kj_set {A A' : kf_A} {i v o : Int32} (h : kj_J A.1) (e : kf_set A i v = (o, A')) : kj_Q A.1 A'.1 := by
  unfold kf_set at e
  split at e
  · cases e; exact kj_rf h
  · rename_i j hj
    have hj5 := (kf_ix_s (by omega) hj).1
    split at e
    · cases e; exact kj_rf h
    · split at e
      · cases e; exact kj_rf h
      · cases e; exact kj_up h (by omega) (by omega)
theorem kj_sup {A A' : kf_A} {i v o : Int32} (h : kj_J A.1) (e : kf_sup A i v = (o, A')) : kj_Q A.1 A'.1 := by
  unfold kf_sup at e
  split at e
  · cases e; exact kj_rf h
  · rename_i j hj
    have hj5 := (kf_ix_s (by omega) hj).1
    split at e
    · cases e; exact kj_rf h
    · cases e; exact kj_up h (by omega) (by omega)
theorem kj_wri {c n k : Nat} {A A' : kf_A} {v o : Int32} (h : kj_J A.1) (hI : kf_I c A.1) (hc : c + 1 < 1048576) (hn : n < 4) (hk : k < 4) (e : kf_wri A (nI n) (nI k) v = (o, A')) : kj_Q A.1 A'.1 ∨ kj_W k A.1 A'.1 := by
  unfold kf_wri at e
  rw [kj_ix hn (by omega), kj_ix (n := 8) (by omega) (by omega)] at e
  dsimp only at e
  split at e
  · cases e; exact Or.inl (kj_rf h)
  · split at e
    · cases e; exact Or.inl (kj_rf h)
    · have h1 := kj_tls (n := n) (v := v) h hI hc hk (w := nI 1) (by decide)
      rw [e] at h1
      exact Or.inr h1
theorem kj_del {c n k : Nat} {A A' : kf_A} {o : Int32} (h : kj_J A.1) (hI : kf_I c A.1) (hc : c + 1 < 1048576) (hn : n < 4) (hk : k < 4) (e : kf_del A (nI n) (nI k) = (o, A')) : kj_Q A.1 A'.1 ∨ kj_W k A.1 A'.1 := by
  unfold kf_del at e
  rw [kj_ix hn (by omega), kj_ix (n := 8) (by omega) (by omega)] at e
  dsimp only at e
  split at e
  · cases e; exact Or.inl (kj_rf h)
  · have h1 := kj_tls (n := n) (v := nI 0) h hI hc hk (w := nI 2) (by decide)
    rw [e] at h1
    exact Or.inr h1
theorem kj_rd {A A' : kf_A} {n k o : Int32} (h : kj_J A.1) (e : kf_rd A n k = (o, A')) : kj_Q A.1 A'.1 := by
  unfold kf_rd at e
  split at e
  · rename_i n k hn hk
    have hn4 := (kf_ix_s (by omega) hn).1
    have hk8 := (kf_ix_s (by omega) hk).1
    split at e
    · cases e; exact kj_rf h
    · have e2 := congrArg Prod.snd e
      dsimp only at e2
      rw [← e2]
      by_cases q : kf_rdc A n k = true
      · rw [if_pos q]
        show kj_Q A.1 (kf_rdr A n k)
        unfold kf_rdr
        rw [if_pos q]
        have hl : ∀ a ∈ kf_rdl A n, a < 4 := kf_rl_lt A.1 n _ 4
        have hs : kf_rds A n k < 4 := kf_nw_lt (r := A.1) (k := k) hl hn4
        exact ⟨kj_m1 hs hk8 _ _ h hl, kj_m1_o hk8 (by omega) _ _ hl, fun i h1 h2 => kj_m1_o hk8 (by omega) _ _ hl⟩
      · rw [if_neg q]
        exact kj_rf h
  · cases e; exact kj_rf h
theorem kj_rep {A A' : kf_A} {a b o : Int32} (h : kj_J A.1) (e : kf_rep A a b = (o, A')) : kj_Q A.1 A'.1 := by
  unfold kf_rep at e
  split at e
  · rename_i a b ha hb
    have ha4 := (kf_ix_s (by omega) ha).1
    have hb4 := (kf_ix_s (by omega) hb).1
    split at e
    · cases e; exact kj_rf h
    · split at e
      · cases e; exact kj_rf h
      · cases e
        exact ⟨kj_jn ha4 hb4 h, kf_jn_o ha4 hb4 (by omega), fun i h1 h2 => kf_jn_o ha4 hb4 (by omega)⟩
  · cases e; exact kj_rf h
theorem kj_clr {A A' : kf_A} {n o : Int32} (h : kj_J A.1) (e : kf_clr A n = (o, A')) : kj_Q A.1 A'.1 := by
  unfold kf_clr at e
  split at e
  · rename_i n hn
    have hn4 := (kf_ix_s (by omega) hn).1
    split at e
    · cases e; exact kj_rf h
    · split at e
      · cases e; exact kj_rf h
      · cases e
        show kj_Q A.1 (kf_cg A.1 n)
        exact ⟨kj_cg hn4 h, kj_cg_o hn4 (by omega), fun i h1 h2 => kj_cg_o hn4 (by omega)⟩
  · cases e; exact kj_rf h
theorem kj_pla {r : Nat → Int32} {a b t : Int32} (h : kj_J r) : kj_Q r (kf_pla r a b t) := by
  have o : ∀ i, i < 211 → kf_pla r a b t i = r i := by
    intro i hi
    unfold kf_pla
    simp (disch := omega) only [upd, if_neg]
  exact ⟨kj_o h (by rw [o 0 (by omega)]; exact Int32.le_refl _) (fun i _ hi => o i hi), o 1 (by omega), fun i _ hi => o i hi⟩
theorem kj_plc {A A' : kf_A} {a b t o : Int32} (h : kj_J A.1) (e : kf_plc A a b t = (o, A')) : kj_Q A.1 A'.1 := by
  unfold kf_plc at e
  repeat' split at e
  all_goals (cases e; first | exact kj_rf h | exact kj_pla h)
theorem kj_pas {c : Nat} {M : kg_M} {A A' : kf_A} {t o : Int32} (h : kj_J A.1) (hR : kf_Rel c M 1 A.1) (e : kf_pas A t = (o, A')) : kj_Q A.1 A'.1 := by
  unfold kf_pas at e
  obtain ⟨t0, ht0, et⟩ := hR.2.2.2.2.2.2.2.1
  obtain ⟨p, hp10, -, hp, -⟩ := hR.2.2.2.2.2.1
  have hab := kf_PL_ab hR.2.2.2.2.2.1 hp hp10
  have ep := kf_m2_n (i := 211) (by omega) hp
  split at e
  · cases e; exact kj_rf h
  · rename_i m hm
    have hm := (kf_ix_s (by omega) hm).1
    split at e
    · cases e; exact kj_rf h
    · split at e
      · cases e; exact kj_rf h
      · cases e
        rw [ep]
        obtain ⟨b1, b2, b3⟩ := kj_pn hp10 et hab h m (by omega)
        exact ⟨b1, b3 1 (by omega), fun i h1 h2 => b3 i (by omega)⟩
