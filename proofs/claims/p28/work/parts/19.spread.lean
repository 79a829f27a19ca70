/-! SPREADING, CLEARING, JOINING -/
def kf_pu (r : Nat → Int32) (n k : Nat) (w v s t c : Int32) : Nat → Int32 := fun i => if i = 27 + 40 * n + 5 * k then w else if i = 27 + 40 * n + 5 * k + 1 then v else if i = 27 + 40 * n + 5 * k + 2 then s else if i = 27 + 40 * n + 5 * k + 3 then t else if i = 27 + 40 * n + 5 * k + 4 then c else r i
def kf_pt (r : Nat → Int32) (k : Nat) (w v s : Int32) : Nat → Int32 := fun i => if i = 187 + 3 * k then w else if i = 187 + 3 * k + 1 then v else if i = 187 + 3 * k + 2 then s else r i
section
variable {r : Nat → Int32} {n k n' k' : Nat} {w v s t c : Int32}
theorem kf_pu_o {i : Nat} (hn : n < 4) (hk : k < 8) (h : i < 27 ∨ 187 ≤ i) : kf_pu r n k w v s t c i = r i := by
  unfold kf_pu
  rw [if_neg (by omega), if_neg (by omega), if_neg (by omega), if_neg (by omega), if_neg (by omega)]
theorem kf_pu_w (hn : n < 4) (hk : k < 8) (hn' : n' < 5) (hk' : k' < 8) : kf_w (kf_pu r n k w v s t c) n' k' = if n' = n ∧ k' = k then w else kf_w r n' k' := by
  unfold kf_w
  by_cases h4 : n' < 4
  · rw [if_pos h4, if_pos h4]
    by_cases e : n' = n ∧ k' = k
    · rw [if_pos e, e.1, e.2]; simp (disch := omega) only [kf_pu, if_pos, if_neg, reduceIte]
    · rw [if_neg e]; simp (disch := omega) only [kf_pu, if_pos, if_neg, reduceIte]
  · rw [if_neg h4, if_neg h4, if_neg (by omega)]; exact kf_pu_o hn hk (by omega)
theorem kf_pu_v (hn : n < 4) (hk : k < 8) (hn' : n' < 5) (hk' : k' < 8) : kf_v (kf_pu r n k w v s t c) n' k' = if n' = n ∧ k' = k then v else kf_v r n' k' := by
  unfold kf_v
  by_cases h4 : n' < 4
  · rw [if_pos h4, if_pos h4]
    by_cases e : n' = n ∧ k' = k
    · rw [if_pos e, e.1, e.2]; simp (disch := omega) only [kf_pu, if_pos, if_neg, reduceIte]
    · rw [if_neg e]; simp (disch := omega) only [kf_pu, if_pos, if_neg, reduceIte]
  · rw [if_neg h4, if_neg h4, if_neg (by omega)]; exact kf_pu_o hn hk (by omega)
theorem kf_pu_s (hn : n < 4) (hk : k < 8) (hn' : n' < 5) (hk' : k' < 8) : kf_s (kf_pu r n k w v s t c) n' k' = if n' = n ∧ k' = k then s else kf_s r n' k' := by
  unfold kf_s
  by_cases h4 : n' < 4
  · rw [if_pos h4, if_pos h4]
    by_cases e : n' = n ∧ k' = k
    · rw [if_pos e, e.1, e.2]; simp (disch := omega) only [kf_pu, if_pos, if_neg, reduceIte]
    · rw [if_neg e]; simp (disch := omega) only [kf_pu, if_pos, if_neg, reduceIte]
  · rw [if_neg h4, if_neg h4, if_neg (by omega)]; exact kf_pu_o hn hk (by omega)
theorem kf_pu_t (hn : n < 4) (hk : k < 8) (hn' : n' < 4) (hk' : k' < 8) : kf_t (kf_pu r n k w v s t c) n' k' = if n' = n ∧ k' = k then t else kf_t r n' k' := by
  unfold kf_t
  by_cases e : n' = n ∧ k' = k
  · rw [if_pos e, e.1, e.2]; simp (disch := omega) only [kf_pu, if_pos, if_neg, reduceIte]
  · rw [if_neg e]; simp (disch := omega) only [kf_pu, if_pos, if_neg, reduceIte]
theorem kf_pu_c (hn : n < 4) (hk : k < 8) (hn' : n' < 4) (hk' : k' < 8) : kf_c (kf_pu r n k w v s t c) n' k' = if n' = n ∧ k' = k then c else kf_c r n' k' := by
  unfold kf_c
  by_cases e : n' = n ∧ k' = k
  · rw [if_pos e, e.1, e.2]; simp (disch := omega) only [kf_pu, if_pos, if_neg, reduceIte]
  · rw [if_neg e]; simp (disch := omega) only [kf_pu, if_pos, if_neg, reduceIte]
theorem kf_pt_o {i : Nat} (hk : k < 8) (h : i < 187 ∨ 211 ≤ i) : kf_pt r k w v s i = r i := by
  unfold kf_pt
  rw [if_neg (by omega), if_neg (by omega), if_neg (by omega)]
theorem kf_pt_w (hk : k < 8) (hn' : n' < 5) (hk' : k' < 8) : kf_w (kf_pt r k w v s) n' k' = if n' = 4 ∧ k' = k then w else kf_w r n' k' := by
  unfold kf_w
  by_cases h4 : n' < 4
  · rw [if_pos h4, if_pos h4, if_neg (by omega)]; exact kf_pt_o hk (by omega)
  · rw [if_neg h4, if_neg h4]
    by_cases e : n' = 4 ∧ k' = k
    · rw [if_pos e, e.2]; simp (disch := omega) only [kf_pt, if_pos, if_neg, reduceIte]
    · rw [if_neg e]; simp (disch := omega) only [kf_pt, if_pos, if_neg, reduceIte]
theorem kf_pt_v (hk : k < 8) (hn' : n' < 5) (hk' : k' < 8) : kf_v (kf_pt r k w v s) n' k' = if n' = 4 ∧ k' = k then v else kf_v r n' k' := by
  unfold kf_v
  by_cases h4 : n' < 4
  · rw [if_pos h4, if_pos h4, if_neg (by omega)]; exact kf_pt_o hk (by omega)
  · rw [if_neg h4, if_neg h4]
    by_cases e : n' = 4 ∧ k' = k
    · rw [if_pos e, e.2]; simp (disch := omega) only [kf_pt, if_pos, if_neg, reduceIte]
    · rw [if_neg e]; simp (disch := omega) only [kf_pt, if_pos, if_neg, reduceIte]
theorem kf_pt_s (hk : k < 8) (hn' : n' < 5) (hk' : k' < 8) : kf_s (kf_pt r k w v s) n' k' = if n' = 4 ∧ k' = k then s else kf_s r n' k' := by
  unfold kf_s
  by_cases h4 : n' < 4
  · rw [if_pos h4, if_pos h4, if_neg (by omega)]; exact kf_pt_o hk (by omega)
  · rw [if_neg h4, if_neg h4]
    by_cases e : n' = 4 ∧ k' = k
    · rw [if_pos e, e.2]; simp (disch := omega) only [kf_pt, if_pos, if_neg, reduceIte]
    · rw [if_neg e]; simp (disch := omega) only [kf_pt, if_pos, if_neg, reduceIte]
end
theorem kf_I_pu {c n k : Nat} {r : Nat → Int32} {w v s t l : Int32} (h : kf_I c r) (hn : n < 4) (hk : k < 8) (hs : ∃ x z : Nat, x ≤ z ∧ r 1 = nI z ∧ z < 2147483648 ∧ s = nI x) (ht : ∃ x : Nat, x ≤ 99999 ∧ t = nI x) (hl : ∃ x : Nat, x ≤ 99999 ∧ l = nI x) (hc : c < 2147483648) : kf_I c (kf_pu r n k w v s t l) := by
  obtain ⟨⟨t0, ht0, h1⟩, ⟨z, h2, h3, h4⟩, h5, h6, h7, h8, h9, h10, h11, h12⟩ := h
  have o : ∀ i, i < 27 → kf_pu r n k w v s t l i = r i := fun i hi => kf_pu_o hn hk (by omega)
  refine ⟨⟨t0, ht0, by rw [o _ (by omega)]; exact h1⟩, ⟨z, h2, by rw [o _ (by omega)]; exact h3, fun n' k' hn' hk' => ?_⟩, by rw [o _ (by omega)]; exact h5, by rw [o _ (by omega)]; exact h6, by rw [o _ (by omega)]; exact h7, by rw [o _ (by omega)]; exact h8, by rw [o _ (by omega)]; exact h9, fun n hn => by rw [o _ (by omega)]; exact h10 n hn, fun n' k' hn' hk' => ⟨?_, ?_⟩, fun i j hi hj => by rw [o _ (by omega), o _ (by omega)]; exact h12 i j hi hj⟩
  · rw [kf_pu_s hn hk hn' hk']
    split
    · obtain ⟨x, z', a1, a2, a3, a4⟩ := hs
      have : z' = z := (nI_eq (by omega) (by omega)).mp (a2.symm.trans h3)
      exact ⟨x, by omega, a4⟩
    · exact h4 n' k' hn' hk'
  · rw [kf_pu_t hn hk hn' hk']
    split
    · exact ht
    · exact (h11 n' k' hn' hk').1
  · rw [kf_pu_c hn hk hn' hk']
    split
    · exact hl
    · exact (h11 n' k' hn' hk').2
theorem kf_Rel_pu {c n k : Nat} {M : kg_M} {r : Nat → Int32} {w v s t l ct : Int32} (hR : kf_Rel c M 1 r) (hn : n < 4) (hk : k < 8) (hf : kf_fact w v s ct) (hs : ∃ x z : Nat, x ≤ z ∧ r 1 = nI z ∧ z < 2147483648 ∧ s = nI x) (ht : ∃ x : Nat, x ≤ 99999 ∧ t = nI x) (hl : ∃ x : Nat, x ≤ 99999 ∧ l = nI x) (hc : c < 2147483648) : kf_Rel c (kf_pm M (n * 8 + k) s ct t l) 1 (kf_pu r n k w v s t l) := by
  refine kf_Rel_F hR (fun p _ hp => kf_pm_o hp) (fun i hi => kf_pu_o hn hk (by omega)) ⟨fun n' k' hn' hk' => ?_, fun n' k' hn' hk' hw' => ?_⟩ (kf_I_pu hR.2.2.2.2.2.2.2 hn hk hs ht hl hc)
  · rw [kf_pm_5, kf_pm_6, kf_pu_w hn hk hn' hk', kf_pu_v hn hk hn' hk', kf_pu_s hn hk hn' hk']
    by_cases e : n' = n ∧ k' = k
    · have e2 : n' * 8 + k' = n * 8 + k := by rw [e.1, e.2]
      rw [if_pos e2, if_pos e2, if_pos e, if_pos e, if_pos e]
      exact ⟨rfl, hf⟩
    · have e2 : ¬ n' * 8 + k' = n * 8 + k := by omega
      rw [if_neg e2, if_neg e2, if_neg e, if_neg e, if_neg e]
      exact ⟨kf_st hR (by omega) hk', kf_fa hR (by omega) hk'⟩
  · rw [kf_pu_w hn hk (by omega) hk'] at hw'
    rw [kf_pm_7, kf_pm_8, kf_pu_t hn hk hn' hk', kf_pu_c hn hk hn' hk']
    by_cases e : n' = n ∧ k' = k
    · have e2 : n' * 8 + k' = n * 8 + k := by rw [e.1, e.2]
      rw [if_pos e2, if_pos e2, if_pos e, if_pos e]
      exact ⟨rfl, rfl⟩
    · have e2 : ¬ n' * 8 + k' = n * 8 + k := by omega
      rw [if_neg e] at hw'
      rw [if_neg e2, if_neg e2, if_neg e, if_neg e]
      exact kf_tk hR hn' hk' hw'
theorem kf_Rel_pt {c k : Nat} {M : kg_M} {r : Nat → Int32} {w v s t l ct : Int32} (hR : kf_Rel c M 1 r) (hk : k < 8) (hf : kf_fact w v s ct) (hs : ∃ x z : Nat, x ≤ z ∧ r 1 = nI z ∧ z < 2147483648 ∧ s = nI x) (hc : c < 2147483648) : kf_Rel c (kf_pm M (32 + k) s ct t l) 1 (kf_pt r k w v s) := by
  refine kf_Rel_F hR (fun p _ hp => kf_pm_o hp) (fun i hi => kf_pt_o hk (by omega)) ⟨fun n' k' hn' hk' => ?_, fun n' k' hn' hk' hw' => ?_⟩ ?_
  · rw [kf_pm_5, kf_pm_6, kf_pt_w hk hn' hk', kf_pt_v hk hn' hk', kf_pt_s hk hn' hk']
    by_cases e : n' = 4 ∧ k' = k
    · have e2 : n' * 8 + k' = 32 + k := by rw [e.1, e.2]
      rw [if_pos e2, if_pos e2, if_pos e, if_pos e, if_pos e]
      exact ⟨rfl, hf⟩
    · have e2 : ¬ n' * 8 + k' = 32 + k := by omega
      rw [if_neg e2, if_neg e2, if_neg e, if_neg e, if_neg e]
      exact ⟨kf_st hR (by omega) hk', kf_fa hR (by omega) hk'⟩
  · rw [kf_pt_w hk (by omega) hk', if_neg (by omega)] at hw'
    rw [kf_pm_7, kf_pm_8, if_neg (by omega), if_neg (by omega)]
    unfold kf_t kf_c
    rw [kf_pt_o hk (by omega), kf_pt_o hk (by omega)]
    exact kf_tk hR hn' hk' hw'
  · obtain ⟨⟨t0, ht0, h1⟩, ⟨z, h2, h3, h4⟩, h5, h6, h7, h8, h9, h10, h11, h12⟩ := hR.2.2.2.2.2.2.2
    have o : ∀ i, i < 187 → kf_pt r k w v s i = r i := fun i hi => kf_pt_o hk (by omega)
    refine ⟨⟨t0, ht0, by rw [o _ (by omega)]; exact h1⟩, ⟨z, h2, by rw [o _ (by omega)]; exact h3, fun n' k' hn' hk' => ?_⟩, by rw [o _ (by omega)]; exact h5, by rw [o _ (by omega)]; exact h6, by rw [o _ (by omega)]; exact h7, by rw [o _ (by omega)]; exact h8, by rw [o _ (by omega)]; exact h9, fun n hn => by rw [o _ (by omega)]; exact h10 n hn, fun n' k' hn' hk' => ?_, fun i j hi hj => by rw [o _ (by omega), o _ (by omega)]; exact h12 i j hi hj⟩
    · rw [kf_pt_s hk hn' hk']
      split
      · obtain ⟨x, z', a1, a2, a3, a4⟩ := hs
        have : z' = z := (nI_eq (by omega) (by omega)).mp (a2.symm.trans h3)
        exact ⟨x, by omega, a4⟩
      · exact h4 n' k' hn' hk'
    · unfold kf_t kf_c
      rw [o _ (by omega), o _ (by omega)]
      exact h11 n' k' hn' hk'
theorem kf_Rel_1 {c : Nat} {M : kg_M} {r : Nat → Int32} (hR : kf_Rel c M 1 r) : kf_Rel (c + 1) (kg_wr M 1 1 (r 1 + nI 1)) 1 (upd r 1 (r 1 + nI 1)) := by
  have o : ∀ i, i ≠ 1 → upd r 1 (r 1 + nI 1) i = r i := fun i hi => if_neg hi
  obtain ⟨⟨a1, a2⟩, a3, a4, a5, a6, ⟨p, b1, b2, b3, b4⟩, ⟨p2, q2, c1, c2, c3, c4, c5, c6, c7⟩, ⟨⟨t0, ht0, h1⟩, ⟨z, h2, h3, h4⟩, h5, h6, h7, h8, h9, h10, h11, h12⟩⟩ := hR
  refine ⟨⟨by simp [kg_wr, upd]; exact a1, by simp [kg_wr, upd]⟩, fun i hi => ?_, fun i hi => ?_, ?_, fun i j hij hj => ?_, ⟨p, b1, ?_, ?_, ?_⟩, ⟨p2, q2, c1, c2, ?_, ?_, ?_, ?_, ?_⟩, ⟨⟨t0, ht0, by rw [o _ (by omega)]; exact h1⟩, ⟨z + 1, by omega, ?_, fun n' k' hn' hk' => ?_⟩, by rw [o _ (by omega)]; exact h5, by rw [o _ (by omega)]; exact h6, by rw [o _ (by omega)]; exact h7, by rw [o _ (by omega)]; exact h8, by rw [o _ (by omega)]; exact h9, fun n hn => by rw [o _ (by omega)]; exact h10 n hn, fun n' k' hn' hk' => ?_, fun i j hi hj => by rw [o _ (by omega), o _ (by omega)]; exact h12 i j hi hj⟩⟩
  · rw [kg_wr_n (by omega), o _ (by omega)]; exact a3 i hi
  · rw [kg_wr_n (by omega), o _ (by omega)]; exact a4 i hi
  · rw [kg_wr_n (by omega), kg_wr_n (by omega), kg_wr_n (by omega), kg_wr_n (by omega)]; exact kf_F_o a5 (fun i hi _ => o i (by omega))
  · rw [kg_wr_n (by omega), o _ (by omega)]; exact a6 i j hij hj
  · rw [kg_wr_n (by omega)]; exact b2
  · rw [o _ (by omega)]; exact b3
  · intro i hi
    rw [kg_wr_n (by omega), kg_wr_n (by omega), kg_wr_n (by omega), o _ (by omega), o _ (by omega), o _ (by omega)]
    exact b4 i hi
  · rw [kg_wr_n (by omega)]; exact c3
  · rw [kg_wr_n (by omega)]; exact c4
  · rw [o _ (by omega)]; exact c5
  · intro i hi; rw [kg_wr_n (by omega), o _ (by omega)]; exact c6 i hi
  · intro i hi
    rw [kg_wr_n (by omega), kg_wr_n (by omega), kg_wr_n (by omega), kg_wr_n (by omega), o _ (by omega), o _ (by omega), o _ (by omega), o _ (by omega)]
    exact c7 i hi
  · simp [upd, h3, nI_add]
  · have e : kf_s (upd r 1 (r 1 + nI 1)) n' k' = kf_s r n' k' := by unfold kf_s; split <;> exact o _ (by omega)
    rw [e]
    obtain ⟨x, hx, ex⟩ := h4 n' k' hn' hk'
    exact ⟨x, by omega, ex⟩
  · unfold kf_t kf_c
    rw [o _ (by omega), o _ (by omega)]
    exact h11 n' k' hn' hk'
def kf_te (r : Nat → Int32) (k : Nat) (w v : Int32) : Nat → Int32 := kf_pt (upd r 1 (r 1 + nI 1)) k w v (r 1 + nI 1)
def kf_p1 (k : Nat) (w v : Int32) (r : Nat → Int32) (a : Nat) : Nat → Int32 := kf_pu r a k w v (r 1) (r 0) (r 0)
section
variable {G : kg_G} {d c : Nat} {h : Nat → Nat} {r : Nat → Int32} {M : kg_M} {K : kg_Qt}
theorem kf_stp (hR : kf_Rel c M 1 r) : ∃ s : Nat, s ≤ c ∧ r 1 = nI s := by
  obtain ⟨s, h1, h2, -⟩ := hR.2.2.2.2.2.2.2.2.1
  exact ⟨s, h1, h2⟩
theorem kf_tck (hR : kf_Rel c M 1 r) : ∃ s : Nat, s ≤ 99999 ∧ r 0 = nI s := hR.2.2.2.2.2.2.2.1
theorem kf_p1_o {k a i : Nat} {w v : Int32} (ha : a < 4) (hk : k < 8) (h : i < 27 ∨ 187 ≤ i) : kf_p1 k w v r a i = r i := kf_pu_o ha hk h
theorem kf_pl_o {k i : Nat} {w v : Int32} (hk : k < 8) (h : i < 27 ∨ 187 ≤ i) : ∀ (l : List Nat) (r : Nat → Int32), (∀ a ∈ l, a < 4) → l.foldl (kf_p1 k w v) r i = r i
  | [], r, _ => rfl
  | a :: l, r, hl => by
    rw [List.foldl_cons, kf_pl_o hk h l _ (fun b hb => hl b (List.mem_cons_of_mem _ hb))]
    exact kf_p1_o (hl a List.mem_cons_self) hk h
theorem kc24_l (hL : G.2.2.2.2.2.1 < 2 ^ 31) {M0 : kg_M} {r0 : Nat → Int32} {n k sg : Nat} {w v ct : Int32} {l : List Nat} (hc : c < 1048576) (hl0 : kf_RL M0 l) (hlt : ∀ a ∈ l, a < 4) (hll : l.length ≤ 4) (hk : k < 8) (hd : 3 ≤ d) (hsg : r0 1 = nI sg) (hs0 : 0 < sg) (hsc : sg ≤ c) (hf : ∀ s : Nat, 0 < s → s < 1048576 → kf_fact w v (nI s) ct) (hK : ∀ M' : kg_M, (∀ p, (p < 5 ∨ 8 < p) → M' p = M0 p) → kf_Rel c M' 1 (l.foldl (kf_p1 k w v) r0) → K (some (.int (nI l.length))) (kg_w0 h) M') : ∀ (z i : Nat) (M : kg_M), i + z = l.length → (∀ p, (p < 5 ∨ 8 < p) → M p = M0 p) → kf_Rel c M 1 ((l.take i).foldl (kf_p1 k w v) r0) → kg_P G d 24 5 125 125 K 45 [some (.ref 1), some (.int (nI n)), some (.int (nI k)), some (.int ct), some (.int (nI i))] [] (kg_w0 h) M := by
  intro z
  induction z with
  | zero =>
    intro i M hi hfr hR
    have h9 : M 1 9 = nI l.length := by rw [hfr 1 (by omega)]; exact hl0.1
    refine kg_v24 hL (by omega) 40 ?_
    simp (disch := omega) only [kg_S1, kg_S2, kg_br_T, kg_br_F, kg_br_N, kg_br_t, kg_br_f, kg_at_n, nI_add, pk_mul, kg_sub_n, kg_rem_n, kg_eq_n, kg_lt_n, kg_le_n, kg_nz, kg_01_0, kg_01_1, kg_w0_1, kg_ret0, kg_ret1, kg_ret2, kg_wr_n, kg_wr_s, kg_Skd, kg_Smc, kg_Sob, kg_Srf, kg_Sld, kg_pad, List.map_cons, List.map_nil, List.length_cons, List.length_nil, List.replicate, List.cons_append, List.nil_append, List.append_nil, Nat.reduceAdd, Nat.reduceSub, Nat.reduceMul, Nat.reduceMod, Nat.reduceDiv, Nat.reduceLT, Nat.reduceLeDiff, Nat.reduceEqDiff, ne_eq, not_true_eq_false, not_false_eq_true, reduceIte, true_and, and_true, kg_lk24, kg_ls24, h9]
    rw [List.take_of_length_le (by omega)] at hR
    exact hK M hfr hR
  | succ z ih =>
    intro i M hi hfr hR
    have h9 : M 1 9 = nI l.length := by rw [hfr 1 (by omega)]; exact hl0.1
    obtain ⟨u, e1, e2⟩ := kf_take (l := l) (i := i) (by omega)
    have e3 : M 20 i = nI u := by rw [hfr 20 (by omega)]; exact hl0.2 i u e1
    have hu := hlt u (List.mem_of_getElem? e1)
    have htk : ∀ a ∈ l.take i, a < 4 := fun a ha => hlt a (List.mem_of_mem_take ha)
    refine kg_v24 hL (by omega) 40 ?_
    simp (disch := omega) only [kg_S1, kg_S2, kg_br_T, kg_br_F, kg_br_N, kg_br_t, kg_br_f, kg_at_n, nI_add, pk_mul, kg_sub_n, kg_rem_n, kg_eq_n, kg_lt_n, kg_le_n, kg_nz, kg_01_0, kg_01_1, kg_w0_1, kg_ret0, kg_ret1, kg_ret2, kg_wr_n, kg_wr_s, kg_Skd, kg_Smc, kg_Sob, kg_Srf, kg_Sld, kg_pad, List.map_cons, List.map_nil, List.length_cons, List.length_nil, List.replicate, List.cons_append, List.nil_append, List.append_nil, Nat.reduceAdd, Nat.reduceSub, Nat.reduceMul, Nat.reduceMod, Nat.reduceDiv, Nat.reduceLT, Nat.reduceLeDiff, Nat.reduceEqDiff, ne_eq, not_true_eq_false, not_false_eq_true, reduceIte, true_and, and_true, kg_lk24, kg_ls24, h9, e3]
    refine kc64 hL (by omega) ?_
    simp (disch := omega) only [kg_S1, kg_S2, kg_br_T, kg_br_F, kg_br_N, kg_br_t, kg_br_f, kg_at_n, nI_add, pk_mul, kg_sub_n, kg_rem_n, kg_eq_n, kg_lt_n, kg_le_n, kg_nz, kg_01_0, kg_01_1, kg_w0_1, kg_ret0, kg_ret1, kg_ret2, kg_wr_n, kg_wr_s, kg_Skd, kg_Smc, kg_Sob, kg_Srf, kg_Sld, kg_pad, List.map_cons, List.map_nil, List.length_cons, List.length_nil, List.replicate, List.cons_append, List.nil_append, List.append_nil, Nat.reduceAdd, Nat.reduceSub, Nat.reduceMul, Nat.reduceMod, Nat.reduceDiv, Nat.reduceLT, Nat.reduceLeDiff, Nat.reduceEqDiff, ne_eq, not_true_eq_false, not_false_eq_true, reduceIte, true_and, and_true, kg_lk24, kg_ls24, h9, e3]
    rw [hR.1.1, hR.1.2]
    refine kc6 hL (by omega) (by omega) ?_
    simp (disch := omega) only [kg_S1, kg_S2, kg_br_T, kg_br_F, kg_br_N, kg_br_t, kg_br_f, kg_at_n, nI_add, pk_mul, kg_sub_n, kg_rem_n, kg_eq_n, kg_lt_n, kg_le_n, kg_nz, kg_01_0, kg_01_1, kg_w0_1, kg_ret0, kg_ret1, kg_ret2, kg_wr_n, kg_wr_s, kg_Skd, kg_Smc, kg_Sob, kg_Srf, kg_Sld, kg_pad, List.map_cons, List.map_nil, List.length_cons, List.length_nil, List.replicate, List.cons_append, List.nil_append, List.append_nil, Nat.reduceAdd, Nat.reduceSub, Nat.reduceMul, Nat.reduceMod, Nat.reduceDiv, Nat.reduceLT, Nat.reduceLeDiff, Nat.reduceEqDiff, ne_eq, not_true_eq_false, not_false_eq_true, reduceIte, true_and, and_true, kg_lk24, kg_ls24, h9, e3]
    have e4 : (l.take (i + 1)).foldl (kf_p1 k w v) r0 = kf_p1 k w v ((l.take i).foldl (kf_p1 k w v) r0) u := by rw [e2, List.foldl_append]; rfl
    have e5 : (l.take i).foldl (kf_p1 k w v) r0 1 = nI sg := by rw [kf_pl_o hk (by omega) _ _ htk]; exact hsg
    obtain ⟨t, ht, et⟩ := kf_tck hR
    refine ih (i + 1) _ (by omega) (fun p hp => (kf_pm_o hp).trans (hfr p hp)) ?_
    rw [e4]
    exact kf_Rel_pu hR hu hk (by rw [e5]; exact hf sg hs0 (by omega)) ⟨sg, sg, Nat.le_refl _, e5, by omega, e5⟩ ⟨t, ht, et⟩ ⟨t, ht, et⟩ (by omega)
theorem kc24 (hL : G.2.2.2.2.2.1 < 2 ^ 31) (hR : kf_Rel c M 1 r) {n k m : Nat} {w v ct : Int32} (hc : c + 1 < 1048576) (hn : n < 4) (hk : k < 8) (hm : r 2 = nI m) (hm4 : m ≤ 4) (hd : 4 ≤ d) (hf : ∀ s : Nat, 0 < s → s < 1048576 → kf_fact w v (nI s) ct) (hK : ∀ M' : kg_M, (∀ p, (p < 1 ∨ 20 < p) → M' p = M p) → kf_Rel (c + 1) M' 1 ((kf_rl (kf_te r k w v) n m 4).foldl (kf_p1 k w v) (kf_te r k w v)) → K (some (.int (nI (kf_rl (kf_te r k w v) n m 4).length))) (kg_w0 h) M') : kg_call G d 125 24 [.ref 1, .int (nI n), .int (nI k), .int ct] (kg_w0 h) M K := by
  obtain ⟨s, hs, es⟩ := kf_stp hR
  obtain ⟨d, rfl⟩ : ∃ e, d = e + 1 := ⟨d - 1, by omega⟩
  refine kg_m24 (by simp) (Nat.le_refl _) (kg_v24 hL (by omega) 40 ?_)
  simp (disch := omega) only [kg_S1, kg_S2, kg_br_T, kg_br_F, kg_br_N, kg_br_t, kg_br_f, kg_at_n, nI_add, pk_mul, kg_sub_n, kg_rem_n, kg_eq_n, kg_lt_n, kg_le_n, kg_nz, kg_01_0, kg_01_1, kg_w0_1, kg_ret0, kg_ret1, kg_ret2, kg_wr_n, kg_wr_s, kg_Skd, kg_Smc, kg_Sob, kg_Srf, kg_Sld, kg_pad, List.map_cons, List.map_nil, List.length_cons, List.length_nil, List.replicate, List.cons_append, List.nil_append, List.append_nil, Nat.reduceAdd, Nat.reduceSub, Nat.reduceMul, Nat.reduceMod, Nat.reduceDiv, Nat.reduceLT, Nat.reduceLeDiff, Nat.reduceEqDiff, ne_eq, not_true_eq_false, not_false_eq_true, reduceIte, true_and, and_true, kg_lk24, kg_ls24]
  refine kc64 hL (by omega) ?_
  simp (disch := omega) only [kg_S1, kg_S2, kg_br_T, kg_br_F, kg_br_N, kg_br_t, kg_br_f, kg_at_n, nI_add, pk_mul, kg_sub_n, kg_rem_n, kg_eq_n, kg_lt_n, kg_le_n, kg_nz, kg_01_0, kg_01_1, kg_w0_1, kg_ret0, kg_ret1, kg_ret2, kg_wr_n, kg_wr_s, kg_Skd, kg_Smc, kg_Sob, kg_Srf, kg_Sld, kg_pad, List.map_cons, List.map_nil, List.length_cons, List.length_nil, List.replicate, List.cons_append, List.nil_append, List.append_nil, Nat.reduceAdd, Nat.reduceSub, Nat.reduceMul, Nat.reduceMod, Nat.reduceDiv, Nat.reduceLT, Nat.reduceLeDiff, Nat.reduceEqDiff, ne_eq, not_true_eq_false, not_false_eq_true, reduceIte, true_and, and_true, kg_lk24, kg_ls24]
  rw [hR.1.2, hR.1.1]
  refine kc6 hL (by omega) (by omega) ?_
  simp (disch := omega) only [kg_S1, kg_S2, kg_br_T, kg_br_F, kg_br_N, kg_br_t, kg_br_f, kg_at_n, nI_add, pk_mul, kg_sub_n, kg_rem_n, kg_eq_n, kg_lt_n, kg_le_n, kg_nz, kg_01_0, kg_01_1, kg_w0_1, kg_ret0, kg_ret1, kg_ret2, kg_wr_n, kg_wr_s, kg_Skd, kg_Smc, kg_Sob, kg_Srf, kg_Sld, kg_pad, List.map_cons, List.map_nil, List.length_cons, List.length_nil, List.replicate, List.cons_append, List.nil_append, List.append_nil, Nat.reduceAdd, Nat.reduceSub, Nat.reduceMul, Nat.reduceMod, Nat.reduceDiv, Nat.reduceLT, Nat.reduceLeDiff, Nat.reduceEqDiff, ne_eq, not_true_eq_false, not_false_eq_true, reduceIte, true_and, and_true, kg_lk24, kg_ls24]
  have hR1 := kf_Rel_1 hR
  have e1 : upd r 1 (r 1 + nI 1) 1 = nI (s + 1) := by simp [upd, es, nI_add]
  have hR2 := kf_Rel_pt (t := r 0) (l := r 0) (w := w) (v := v) (s := r 1 + nI 1) (ct := ct) hR1 hk (by rw [es, nI_add]; exact hf (s + 1) (by omega) (by omega)) ⟨s + 1, s + 1, Nat.le_refl _, e1, by omega, by rw [es, nI_add]⟩ (by omega)
  have hM2 : ∀ p, (p < 1 ∨ 20 < p) → kf_pm (kg_wr M 1 1 (r 1 + nI 1)) (32 + k) (r 1 + nI 1) ct (r 0) (r 0) p = M p := fun p hp => by rw [kf_pm_o (by omega), kg_wr_n (by omega)]
  have e2 : kf_te r k w v 1 = nI (s + 1) := by unfold kf_te; rw [kf_pt_o hk (by omega)]; exact e1
  have e22 : kf_te r k w v 2 = nI m := by unfold kf_te; rw [kf_pt_o hk (by omega)]; exact hm
  change kf_Rel (c + 1) _ 1 (kf_te r k w v) at hR2
  generalize kf_pm (kg_wr M 1 1 (r 1 + nI 1)) (32 + k) (r 1 + nI 1) ct (r 0) (r 0) = M2 at hR2 hM2 ⊢
  rw [hR2.2.1 0 (by omega), show 2 + 0 = 2 from rfl, e22]
  refine kc25 hL hR2 hn hm4 (by omega) ?_
  intro M3 hM3 hRL
  simp (disch := omega) only [kg_S1, kg_S2, kg_br_T, kg_br_F, kg_br_N, kg_br_t, kg_br_f, kg_at_n, nI_add, pk_mul, kg_sub_n, kg_rem_n, kg_eq_n, kg_lt_n, kg_le_n, kg_nz, kg_01_0, kg_01_1, kg_w0_1, kg_ret0, kg_ret1, kg_ret2, kg_wr_n, kg_wr_s, kg_Skd, kg_Smc, kg_Sob, kg_Srf, kg_Sld, kg_pad, List.map_cons, List.map_nil, List.length_cons, List.length_nil, List.replicate, List.cons_append, List.nil_append, List.append_nil, Nat.reduceAdd, Nat.reduceSub, Nat.reduceMul, Nat.reduceMod, Nat.reduceDiv, Nat.reduceLT, Nat.reduceLeDiff, Nat.reduceEqDiff, ne_eq, not_true_eq_false, not_false_eq_true, reduceIte, true_and, and_true, kg_lk24, kg_ls24]
  refine kc24_l hL (M0 := M3) (r0 := kf_te r k w v) (sg := s + 1) (by omega) hRL (kf_rl_lt _ _ _ _) (kf_rl_len _ _ _ 4) hk (by omega) e2 (by omega) (by omega) hf ?_ _ 0 M3 (Nat.zero_add _) (fun _ _ => rfl) (kf_Rel_fr hR2 hM3)
  intro M' hM' hR'
  exact hK M' (fun p hp => by rw [hM' p (by omega), hM3.1 p (by omega) (by omega), hM2 p hp]) hR'

end
