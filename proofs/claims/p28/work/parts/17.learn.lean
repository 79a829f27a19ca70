/-! LEARNING: the row, and the class -/
/-- node n knows of k what node s knows -/
def kf_ta (r : Nat → Int32) (n s k : Nat) : Nat → Int32 := fun i => if i = 27 + 40 * n + 5 * k + 4 then r 0 else if 27 + 40 * n + 5 * k ≤ i ∧ i < 27 + 40 * n + 5 * k + 4 then r (27 + 40 * s + 5 * k + (i - (27 + 40 * n + 5 * k))) else r i
def kf_ln (r : Nat → Int32) (n s k : Nat) : Nat → Int32 := if (!kf_hn r n k && kf_hn (kf_ta r n s k) n k) = true then kf_nt (kf_ta r n s k) 2 (nI n) (nI k) else kf_ta r n s k
theorem kf_nt_o {r : Nat → Int32} {kd i : Nat} {a b : Int32} (h : i < 242) : kf_nt r kd a b i = r i := by
  unfold kf_nt
  rw [if_neg (by omega)]
  by_cases e : kf_q r = 10
  · rw [if_pos e, if_pos (by omega)]
  · rw [if_neg e, if_neg (by omega), if_neg (by omega), if_neg (by omega), if_neg (by omega), if_neg (by omega)]
section
variable {r : Nat → Int32} {n s k n' k' : Nat}
theorem kf_ta_o {i : Nat} (hn : n < 4) (hk : k < 8) (h : i < 27 ∨ 187 ≤ i) : kf_ta r n s k i = r i := by
  unfold kf_ta
  rw [if_neg (by omega), if_neg (by omega)]
theorem kf_ta_j {j : Nat} (hj : j < 4) : kf_ta r n s k (27 + 40 * n + 5 * k + j) = r (27 + 40 * s + 5 * k + j) := by
  unfold kf_ta
  rw [if_neg (by omega), if_pos (by omega)]
  congr 1; omega
theorem kf_ta_n {j : Nat} (hj : j < 5) (hn : n < 4) (hk : k < 8) (hn' : n' < 4) (hk' : k' < 8) (h : ¬ (n' = n ∧ k' = k)) : kf_ta r n s k (27 + 40 * n' + 5 * k' + j) = r (27 + 40 * n' + 5 * k' + j) := by
  unfold kf_ta
  rw [if_neg (by omega), if_neg (by omega)]
theorem kf_ta_w (hn : n < 4) (hs : s < 4) (hk : k < 8) (hn' : n' < 5) (hk' : k' < 8) : kf_w (kf_ta r n s k) n' k' = if n' = n ∧ k' = k then kf_w r s k else kf_w r n' k' := by
  unfold kf_w
  by_cases h4 : n' < 4
  · rw [if_pos h4, if_pos h4, if_pos hs]
    by_cases e : n' = n ∧ k' = k
    · rw [if_pos e, e.1, e.2]; exact kf_ta_j (j := 0) (by omega)
    · rw [if_neg e]; exact kf_ta_n (j := 0) (by omega) hn hk h4 hk' e
  · rw [if_neg h4, if_neg h4, if_neg (by omega)]; exact kf_ta_o hn hk (by omega)
theorem kf_ta_v (hn : n < 4) (hs : s < 4) (hk : k < 8) (hn' : n' < 5) (hk' : k' < 8) : kf_v (kf_ta r n s k) n' k' = if n' = n ∧ k' = k then kf_v r s k else kf_v r n' k' := by
  unfold kf_v
  by_cases h4 : n' < 4
  · rw [if_pos h4, if_pos h4, if_pos hs]
    by_cases e : n' = n ∧ k' = k
    · rw [if_pos e, e.1, e.2]; exact kf_ta_j (j := 1) (by omega)
    · rw [if_neg e]; exact kf_ta_n (j := 1) (by omega) hn hk h4 hk' e
  · rw [if_neg h4, if_neg h4, if_neg (by omega)]; exact kf_ta_o hn hk (by omega)
theorem kf_ta_s (hn : n < 4) (hs : s < 4) (hk : k < 8) (hn' : n' < 5) (hk' : k' < 8) : kf_s (kf_ta r n s k) n' k' = if n' = n ∧ k' = k then kf_s r s k else kf_s r n' k' := by
  unfold kf_s
  by_cases h4 : n' < 4
  · rw [if_pos h4, if_pos h4, if_pos hs]
    by_cases e : n' = n ∧ k' = k
    · rw [if_pos e, e.1, e.2]; exact kf_ta_j (j := 2) (by omega)
    · rw [if_neg e]; exact kf_ta_n (j := 2) (by omega) hn hk h4 hk' e
  · rw [if_neg h4, if_neg h4, if_neg (by omega)]; exact kf_ta_o hn hk (by omega)
theorem kf_ta_t (hn : n < 4) (hs : s < 4) (hk : k < 8) (hn' : n' < 4) (hk' : k' < 8) : kf_t (kf_ta r n s k) n' k' = if n' = n ∧ k' = k then kf_t r s k else kf_t r n' k' := by
  unfold kf_t
  by_cases e : n' = n ∧ k' = k
  · rw [if_pos e, e.1, e.2]; exact kf_ta_j (j := 3) (by omega)
  · rw [if_neg e]; exact kf_ta_n (j := 3) (by omega) hn hk hn' hk' e
theorem kf_ta_c (hn : n < 4) (hk : k < 8) (hn' : n' < 4) (hk' : k' < 8) : kf_c (kf_ta r n s k) n' k' = if n' = n ∧ k' = k then r 0 else kf_c r n' k' := by
  unfold kf_c
  by_cases e : n' = n ∧ k' = k
  · rw [if_pos e, e.1, e.2]; unfold kf_ta; rw [if_pos rfl]
  · rw [if_neg e]; exact kf_ta_n (j := 4) (by omega) hn hk hn' hk' e
end
theorem kf_pm_o {M : kg_M} {p q : Nat} {s ct t l : Int32} (h : q < 5 ∨ 8 < q) : kf_pm M p s ct t l q = M q := by
  unfold kf_pm
  rw [kg_wr_n (by omega), kg_wr_n (by omega), kg_wr_n (by omega), kg_wr_n (by omega)]
theorem kf_pm_5 {M : kg_M} {p i : Nat} {s ct t l : Int32} : kf_pm M p s ct t l 5 i = if i = p then s else M 5 i := by simp [kf_pm, kg_wr]
theorem kf_pm_6 {M : kg_M} {p i : Nat} {s ct t l : Int32} : kf_pm M p s ct t l 6 i = if i = p then ct else M 6 i := by simp [kf_pm, kg_wr]
theorem kf_pm_7 {M : kg_M} {p i : Nat} {s ct t l : Int32} : kf_pm M p s ct t l 7 i = if i = p then t else M 7 i := by simp [kf_pm, kg_wr]
theorem kf_pm_8 {M : kg_M} {p i : Nat} {s ct t l : Int32} : kf_pm M p s ct t l 8 i = if i = p then l else M 8 i := by simp [kf_pm, kg_wr]
/-- the row's facts have changed alone -/
theorem kf_Rel_F {c c' : Nat} {M M' : kg_M} {r r' : Nat → Int32} (hR : kf_Rel c M 1 r) (hM : ∀ p, p ≤ 20 → (p < 5 ∨ 8 < p) → M' p = M p) (hr : ∀ i, (i < 27 ∨ 211 ≤ i) → r' i = r i) (hF : kf_F (M' 5) (M' 6) (M' 7) (M' 8) r') (hI : kf_I c' r') : kf_Rel c' M' 1 r' := by
  obtain ⟨⟨a1, a2⟩, a3, a4, a5, a6, ⟨p, b1, b2, b3, b4⟩, ⟨p2, q2, c1, c2, c3, c4, c5, c6, c7⟩, a8⟩ := hR
  refine ⟨⟨?_, ?_⟩, ?_, ?_, hF, ?_, ⟨p, b1, ?_, ?_, ?_⟩, ⟨p2, q2, c1, c2, ?_, ?_, ?_, ?_, ?_⟩, hI⟩
  · rw [hM 1 (by omega) (by omega), hr _ (by omega)]; exact a1
  · rw [hM 1 (by omega) (by omega), hr _ (by omega)]; exact a2
  · intro i hi; rw [hM 2 (by omega) (by omega), hr _ (by omega)]; exact a3 i hi
  · intro i hi; rw [hM 3 (by omega) (by omega), hr _ (by omega)]; exact a4 i hi
  · intro i j hij hj; rw [hM 9 (by omega) (by omega), hr _ (by omega)]; exact a6 i j hij hj
  · rw [hM 10 (by omega) (by omega)]; exact b2
  · rw [hr _ (by omega)]; exact b3
  · intro i hi
    have h := b4 i hi
    rw [hM 11 (by omega) (by omega), hM 12 (by omega) (by omega), hM 13 (by omega) (by omega), hr _ (by omega), hr _ (by omega), hr _ (by omega)]
    exact h
  · rw [hM 14 (by omega) (by omega)]; exact c3
  · rw [hM 14 (by omega) (by omega)]; exact c4
  · rw [hr _ (by omega)]; exact c5
  · intro i hi; rw [hM 15 (by omega) (by omega), hr _ (by omega)]; exact c6 i hi
  · intro i hi
    rw [hM 16 (by omega) (by omega), hM 17 (by omega) (by omega), hM 18 (by omega) (by omega), hM 19 (by omega) (by omega), hr _ (by omega), hr _ (by omega), hr _ (by omega), hr _ (by omega)]
    exact c7 i hi
theorem kf_I_o {c : Nat} {r r' : Nat → Int32} (h : kf_I c r) (hr : ∀ i, i < 211 → r' i = r i) : kf_I c r' := by
  have ew : ∀ n k, n < 5 → k < 8 → kf_s r' n k = kf_s r n k := by
    intro n k hn hk
    unfold kf_s
    split <;> exact hr _ (by omega)
  have et : ∀ n k, n < 4 → k < 8 → kf_t r' n k = kf_t r n k := fun n k hn hk => hr _ (by omega)
  have ec : ∀ n k, n < 4 → k < 8 → kf_c r' n k = kf_c r n k := fun n k hn hk => hr _ (by omega)
  obtain ⟨h1, ⟨s, h2, h3, h4⟩, h5, h6, h7, h8, h9, h10, h11, h12⟩ := h
  refine ⟨by rw [hr _ (by omega)]; exact h1, ⟨s, h2, by rw [hr _ (by omega)]; exact h3, fun n k hn hk => by rw [ew n k hn hk]; exact h4 n k hn hk⟩, by rw [hr _ (by omega)]; exact h5, by rw [hr _ (by omega)]; exact h6, by rw [hr _ (by omega)]; exact h7, by rw [hr _ (by omega)]; exact h8, by rw [hr _ (by omega)]; exact h9, fun n hn => by rw [hr _ (by omega)]; exact h10 n hn, fun n k hn hk => by rw [et n k hn hk, ec n k hn hk]; exact h11 n k hn hk, fun i j hi hj => by rw [hr _ (by omega), hr _ (by omega)]; exact h12 i j hi hj⟩
theorem kf_F_o {S C T L r r' : Nat → Int32} (h : kf_F S C T L r) (hr : ∀ i, 27 ≤ i → i < 211 → r' i = r i) : kf_F S C T L r' := by
  have es : ∀ n k, n < 5 → k < 8 → kf_s r' n k = kf_s r n k := by intro n k hn hk; unfold kf_s; split <;> exact hr _ (by omega) (by omega)
  have ew : ∀ n k, n < 5 → k < 8 → kf_w r' n k = kf_w r n k := by intro n k hn hk; unfold kf_w; split <;> exact hr _ (by omega) (by omega)
  have ev : ∀ n k, n < 5 → k < 8 → kf_v r' n k = kf_v r n k := by intro n k hn hk; unfold kf_v; split <;> exact hr _ (by omega) (by omega)
  have et : ∀ n k, n < 4 → k < 8 → kf_t r' n k = kf_t r n k := fun n k hn hk => hr _ (by omega) (by omega)
  have ec : ∀ n k, n < 4 → k < 8 → kf_c r' n k = kf_c r n k := fun n k hn hk => hr _ (by omega) (by omega)
  refine ⟨fun n k hn hk => ?_, fun n k hn hk hw => ?_⟩
  · rw [es n k hn hk, ew n k hn hk, ev n k hn hk]; exact h.1 n k hn hk
  · rw [et n k hn hk, ec n k hn hk]; exact h.2 n k hn hk (by rw [← ew n k (by omega) hk]; exact hw)
/-- the events have changed alone -/
theorem kf_Rel_E {c : Nat} {M M' : kg_M} {r r' : Nat → Int32} (hR : kf_Rel c M 1 r) (hM : ∀ p, p ≤ 20 → (p < 14 ∨ 19 < p) → M' p = M p) (hr : ∀ i, i < 242 → r' i = r i) (hE : kf_EVM M' r') : kf_Rel c M' 1 r' := by
  obtain ⟨⟨a1, a2⟩, a3, a4, a5, a6, ⟨p, b1, b2, b3, b4⟩, -, a8⟩ := hR
  refine ⟨⟨?_, ?_⟩, ?_, ?_, ?_, ?_, ⟨p, b1, ?_, ?_, ?_⟩, hE, kf_I_o a8 (fun i hi => hr i (by omega))⟩
  · rw [hM 1 (by omega) (by omega), hr _ (by omega)]; exact a1
  · rw [hM 1 (by omega) (by omega), hr _ (by omega)]; exact a2
  · intro i hi; rw [hM 2 (by omega) (by omega), hr _ (by omega)]; exact a3 i hi
  · intro i hi; rw [hM 3 (by omega) (by omega), hr _ (by omega)]; exact a4 i hi
  · rw [hM (1 + 4) (by omega) (by omega), hM (1 + 5) (by omega) (by omega), hM (1 + 6) (by omega) (by omega), hM (1 + 7) (by omega) (by omega)]; exact kf_F_o a5 (fun i _ hi => hr i (by omega))
  · intro i j hij hj; rw [hM 9 (by omega) (by omega), hr _ (by omega)]; exact a6 i j hij hj
  · rw [hM 10 (by omega) (by omega)]; exact b2
  · rw [hr _ (by omega)]; exact b3
  · intro i hi
    have h := b4 i hi
    rw [hM 11 (by omega) (by omega), hM 12 (by omega) (by omega), hM 13 (by omega) (by omega), hr _ (by omega), hr _ (by omega), hr _ (by omega)]
    exact h
theorem kf_I_ta {c n s k : Nat} {r : Nat → Int32} (h : kf_I c r) (hn : n < 4) (hs : s < 4) (hk : k < 8) : kf_I c (kf_ta r n s k) := by
  obtain ⟨⟨t, ht, h1⟩, ⟨z, h2, h3, h4⟩, h5, h6, h7, h8, h9, h10, h11, h12⟩ := h
  have o : ∀ i, i < 27 → kf_ta r n s k i = r i := fun i hi => kf_ta_o hn hk (by omega)
  refine ⟨⟨t, ht, by rw [o _ (by omega)]; exact h1⟩, ⟨z, h2, by rw [o _ (by omega)]; exact h3, fun n' k' hn' hk' => ?_⟩, by rw [o _ (by omega)]; exact h5, by rw [o _ (by omega)]; exact h6, by rw [o _ (by omega)]; exact h7, by rw [o _ (by omega)]; exact h8, by rw [o _ (by omega)]; exact h9, fun n hn => by rw [o _ (by omega)]; exact h10 n hn, fun n' k' hn' hk' => ⟨?_, ?_⟩, fun i j hi hj => by rw [o _ (by omega), o _ (by omega)]; exact h12 i j hi hj⟩
  · rw [kf_ta_s hn hs hk hn' hk']
    split
    · exact h4 s k (by omega) hk
    · exact h4 n' k' hn' hk'
  · rw [kf_ta_t hn hs hk hn' hk']
    split
    · exact (h11 s k hs hk).1
    · exact (h11 n' k' hn' hk').1
  · rw [kf_ta_c hn hk hn' hk']
    split
    · exact ⟨t, ht, h1⟩
    · exact (h11 n' k' hn' hk').2
theorem kf_Rel_ta {c n s k : Nat} {M : kg_M} {r : Nat → Int32} (hR : kf_Rel c M 1 r) (hn : n < 4) (hs : s < 4) (hk : k < 8) (hw : kf_w r s k ≠ nI 0) : kf_Rel c (kf_pm M (n * 8 + k) (M 5 (s * 8 + k)) (M 6 (s * 8 + k)) (M 7 (s * 8 + k)) (r 0)) 1 (kf_ta r n s k) := by
  refine kf_Rel_F hR (fun p _ hp => kf_pm_o hp) (fun i hi => kf_ta_o hn hk (by omega)) ⟨fun n' k' hn' hk' => ?_, fun n' k' hn' hk' hw' => ?_⟩ (kf_I_ta hR.2.2.2.2.2.2.2 hn hs hk)
  · rw [kf_pm_5, kf_pm_6, kf_ta_w hn hs hk hn' hk', kf_ta_v hn hs hk hn' hk', kf_ta_s hn hs hk hn' hk']
    by_cases e : n' = n ∧ k' = k
    · have e2 : n' * 8 + k' = n * 8 + k := by rw [e.1, e.2]
      rw [if_pos e2, if_pos e2, if_pos e, if_pos e, if_pos e]
      exact ⟨kf_st hR (by omega) hk, kf_fa hR (by omega) hk⟩
    · have e2 : ¬ n' * 8 + k' = n * 8 + k := by omega
      rw [if_neg e2, if_neg e2, if_neg e, if_neg e, if_neg e]
      exact ⟨kf_st hR (by omega) hk', kf_fa hR (by omega) hk'⟩
  · rw [kf_ta_w hn hs hk (by omega) hk'] at hw'
    rw [kf_pm_7, kf_pm_8, kf_ta_t hn hs hk hn' hk', kf_ta_c hn hk hn' hk']
    by_cases e : n' = n ∧ k' = k
    · have e2 : n' * 8 + k' = n * 8 + k := by rw [e.1, e.2]
      rw [if_pos e2, if_pos e2, if_pos e, if_pos e]
      exact ⟨(kf_tk hR hs hk hw).1, rfl⟩
    · have e2 : ¬ n' * 8 + k' = n * 8 + k := by omega
      rw [if_neg e] at hw'
      rw [if_neg e2, if_neg e2, if_neg e, if_neg e]
      exact kf_tk hR hn' hk' hw'
section
variable {G : kg_G} {d c : Nat} {h : Nat → Nat} {r : Nat → Int32} {M : kg_M} {K : kg_Qt}
theorem kc30 (hL : G.2.2.2.2.2.1 < 2 ^ 31) (hR : kf_Rel c M 1 r) {n s k : Nat} (hd : 5 ≤ d) (hn : n < 4) (hs : s < 4) (hk : k < 8) (hw : kf_s r n k ≠ kf_s r s k → kf_w r s k ≠ nI 0) (h0 : kf_s r n k = kf_s r s k → K none (kg_w0 h) M) (hK : kf_s r n k ≠ kf_s r s k → ∀ M' : kg_M, (∀ p, (p < 5 ∨ 19 < p) → M' p = M p) → kf_Rel c M' 1 (kf_ln r n s k) → K none (kg_w0 h) M') : kg_call G d 125 30 [.ref 1, .int (nI n), .int (nI s), .int (nI k)] (kg_w0 h) M K := by
  obtain ⟨d, rfl⟩ : ∃ e, d = e + 1 := ⟨d - 1, by omega⟩
  refine kg_m30 (by simp) (Nat.le_refl _) (kg_v30 hL (by omega) 60 ?_)
  simp (disch := omega) only [kg_S1, kg_S2, kg_br_T, kg_br_F, kg_br_N, kg_br_t, kg_br_f, kg_at_n, nI_add, pk_mul, kg_sub_n, kg_rem_n, kg_eq_n, kg_lt_n, kg_le_n, kg_nz, kg_01_0, kg_01_1, kg_w0_1, kg_ret0, kg_ret1, kg_ret2, kg_wr_n, kg_wr_s, kg_Skd, kg_Smc, kg_Sob, kg_Srf, kg_Sld, kg_pad, List.map_cons, List.map_nil, List.length_cons, List.length_nil, List.replicate, List.cons_append, List.nil_append, List.append_nil, Nat.reduceAdd, Nat.reduceSub, Nat.reduceMul, Nat.reduceMod, Nat.reduceDiv, Nat.reduceLT, Nat.reduceLeDiff, Nat.reduceEqDiff, ne_eq, not_true_eq_false, not_false_eq_true, reduceIte, true_and, and_true, kg_lk30, kg_ls30]
  refine kc27 hL hR (by omega) (by omega) hk ?_
  simp (disch := omega) only [kg_S1, kg_S2, kg_br_T, kg_br_F, kg_br_N, kg_br_t, kg_br_f, kg_at_n, nI_add, pk_mul, kg_sub_n, kg_rem_n, kg_eq_n, kg_lt_n, kg_le_n, kg_nz, kg_01_0, kg_01_1, kg_w0_1, kg_ret0, kg_ret1, kg_ret2, kg_wr_n, kg_wr_s, kg_Skd, kg_Smc, kg_Sob, kg_Srf, kg_Sld, kg_pad, List.map_cons, List.map_nil, List.length_cons, List.length_nil, List.replicate, List.cons_append, List.nil_append, List.append_nil, Nat.reduceAdd, Nat.reduceSub, Nat.reduceMul, Nat.reduceMod, Nat.reduceDiv, Nat.reduceLT, Nat.reduceLeDiff, Nat.reduceEqDiff, ne_eq, not_true_eq_false, not_false_eq_true, reduceIte, true_and, and_true, kg_lk30, kg_ls30]
  refine kc27 hL hR (by omega) (by omega) hk ?_
  simp (disch := omega) only [kg_S1, kg_S2, kg_br_T, kg_br_F, kg_br_N, kg_br_t, kg_br_f, kg_at_n, nI_add, pk_mul, kg_sub_n, kg_rem_n, kg_eq_n, kg_lt_n, kg_le_n, kg_nz, kg_01_0, kg_01_1, kg_w0_1, kg_ret0, kg_ret1, kg_ret2, kg_wr_n, kg_wr_s, kg_Skd, kg_Smc, kg_Sob, kg_Srf, kg_Sld, kg_pad, List.map_cons, List.map_nil, List.length_cons, List.length_nil, List.replicate, List.cons_append, List.nil_append, List.append_nil, Nat.reduceAdd, Nat.reduceSub, Nat.reduceMul, Nat.reduceMod, Nat.reduceDiv, Nat.reduceLT, Nat.reduceLeDiff, Nat.reduceEqDiff, ne_eq, not_true_eq_false, not_false_eq_true, reduceIte, true_and, and_true, kg_lk30, kg_ls30]
  refine kg_br_i (fun q => h0 q) (fun q => ?_)
  have hw := hw q
  have hK := hK q
  refine kc31 hL hR (by omega) (by omega) hk ?_
  simp (disch := omega) only [kg_S1, kg_S2, kg_br_T, kg_br_F, kg_br_N, kg_br_t, kg_br_f, kg_at_n, nI_add, pk_mul, kg_sub_n, kg_rem_n, kg_eq_n, kg_lt_n, kg_le_n, kg_nz, kg_01_0, kg_01_1, kg_w0_1, kg_ret0, kg_ret1, kg_ret2, kg_wr_n, kg_wr_s, kg_Skd, kg_Smc, kg_Sob, kg_Srf, kg_Sld, kg_pad, List.map_cons, List.map_nil, List.length_cons, List.length_nil, List.replicate, List.cons_append, List.nil_append, List.append_nil, Nat.reduceAdd, Nat.reduceSub, Nat.reduceMul, Nat.reduceMod, Nat.reduceDiv, Nat.reduceLT, Nat.reduceLeDiff, Nat.reduceEqDiff, ne_eq, not_true_eq_false, not_false_eq_true, reduceIte, true_and, and_true, kg_lk30, kg_ls30]
  refine kc64 hL (by omega) ?_
  simp (disch := omega) only [kg_S1, kg_S2, kg_br_T, kg_br_F, kg_br_N, kg_br_t, kg_br_f, kg_at_n, nI_add, pk_mul, kg_sub_n, kg_rem_n, kg_eq_n, kg_lt_n, kg_le_n, kg_nz, kg_01_0, kg_01_1, kg_w0_1, kg_ret0, kg_ret1, kg_ret2, kg_wr_n, kg_wr_s, kg_Skd, kg_Smc, kg_Sob, kg_Srf, kg_Sld, kg_pad, List.map_cons, List.map_nil, List.length_cons, List.length_nil, List.replicate, List.cons_append, List.nil_append, List.append_nil, Nat.reduceAdd, Nat.reduceSub, Nat.reduceMul, Nat.reduceMod, Nat.reduceDiv, Nat.reduceLT, Nat.reduceLeDiff, Nat.reduceEqDiff, ne_eq, not_true_eq_false, not_false_eq_true, reduceIte, true_and, and_true, kg_lk30, kg_ls30]
  refine kc64 hL (by omega) ?_
  simp (disch := omega) only [kg_S1, kg_S2, kg_br_T, kg_br_F, kg_br_N, kg_br_t, kg_br_f, kg_at_n, nI_add, pk_mul, kg_sub_n, kg_rem_n, kg_eq_n, kg_lt_n, kg_le_n, kg_nz, kg_01_0, kg_01_1, kg_w0_1, kg_ret0, kg_ret1, kg_ret2, kg_wr_n, kg_wr_s, kg_Skd, kg_Smc, kg_Sob, kg_Srf, kg_Sld, kg_pad, List.map_cons, List.map_nil, List.length_cons, List.length_nil, List.replicate, List.cons_append, List.nil_append, List.append_nil, Nat.reduceAdd, Nat.reduceSub, Nat.reduceMul, Nat.reduceMod, Nat.reduceDiv, Nat.reduceLT, Nat.reduceLeDiff, Nat.reduceEqDiff, ne_eq, not_true_eq_false, not_false_eq_true, reduceIte, true_and, and_true, kg_lk30, kg_ls30]
  rw [hR.1.1]
  refine kc8 hL (by omega) (by omega) (by omega) ?_
  have hR1 := kf_Rel_ta hR hn hs hk hw
  have hM1 : ∀ p, (p < 5 ∨ 19 < p) → kf_pm M (n * 8 + k) (M 5 (s * 8 + k)) (M 6 (s * 8 + k)) (M 7 (s * 8 + k)) (r 0) p = M p := fun p hp => kf_pm_o (by omega)
  generalize kf_pm M (n * 8 + k) (M 5 (s * 8 + k)) (M 6 (s * 8 + k)) (M 7 (s * 8 + k)) (r 0) = M1 at hR1 hM1 ⊢
  simp (disch := omega) only [kg_S1, kg_S2, kg_br_T, kg_br_F, kg_br_N, kg_br_t, kg_br_f, kg_at_n, nI_add, pk_mul, kg_sub_n, kg_rem_n, kg_eq_n, kg_lt_n, kg_le_n, kg_nz, kg_01_0, kg_01_1, kg_w0_1, kg_ret0, kg_ret1, kg_ret2, kg_wr_n, kg_wr_s, kg_Skd, kg_Smc, kg_Sob, kg_Srf, kg_Sld, kg_pad, List.map_cons, List.map_nil, List.length_cons, List.length_nil, List.replicate, List.cons_append, List.nil_append, List.append_nil, Nat.reduceAdd, Nat.reduceSub, Nat.reduceMul, Nat.reduceMod, Nat.reduceDiv, Nat.reduceLT, Nat.reduceLeDiff, Nat.reduceEqDiff, ne_eq, not_true_eq_false, not_false_eq_true, reduceIte, true_and, and_true, kg_lk30, kg_ls30, kf_b0]
  refine kg_br_i (fun q1 => ?_) (fun q1 => ?_)
  · refine hK M1 hM1 ?_
    rw [kf_ln, if_neg (by simp [q1])]
    exact hR1
  · refine kc31 hL hR1 (by omega) (by omega) hk ?_
    simp (disch := omega) only [kg_S1, kg_S2, kg_br_T, kg_br_F, kg_br_N, kg_br_t, kg_br_f, kg_at_n, nI_add, pk_mul, kg_sub_n, kg_rem_n, kg_eq_n, kg_lt_n, kg_le_n, kg_nz, kg_01_0, kg_01_1, kg_w0_1, kg_ret0, kg_ret1, kg_ret2, kg_wr_n, kg_wr_s, kg_Skd, kg_Smc, kg_Sob, kg_Srf, kg_Sld, kg_pad, List.map_cons, List.map_nil, List.length_cons, List.length_nil, List.replicate, List.cons_append, List.nil_append, List.append_nil, Nat.reduceAdd, Nat.reduceSub, Nat.reduceMul, Nat.reduceMod, Nat.reduceDiv, Nat.reduceLT, Nat.reduceLeDiff, Nat.reduceEqDiff, ne_eq, not_true_eq_false, not_false_eq_true, reduceIte, true_and, and_true, kg_lk30, kg_ls30, kf_b0]
    refine kg_br_i (fun q2 => ?_) (fun q2 => ?_)
    · rw [hR1.1.1]
      refine kc2 hL (by omega) (by omega) hR1.2.2.2.2.2.2.1 ?_
      intro M2 hM2 hE2
      simp (disch := omega) only [kg_S1, kg_S2, kg_br_T, kg_br_F, kg_br_N, kg_br_t, kg_br_f, kg_at_n, nI_add, pk_mul, kg_sub_n, kg_rem_n, kg_eq_n, kg_lt_n, kg_le_n, kg_nz, kg_01_0, kg_01_1, kg_w0_1, kg_ret0, kg_ret1, kg_ret2, kg_wr_n, kg_wr_s, kg_Skd, kg_Smc, kg_Sob, kg_Srf, kg_Sld, kg_pad, List.map_cons, List.map_nil, List.length_cons, List.length_nil, List.replicate, List.cons_append, List.nil_append, List.append_nil, Nat.reduceAdd, Nat.reduceSub, Nat.reduceMul, Nat.reduceMod, Nat.reduceDiv, Nat.reduceLT, Nat.reduceLeDiff, Nat.reduceEqDiff, ne_eq, not_true_eq_false, not_false_eq_true, reduceIte, true_and, and_true, kg_lk30, kg_ls30]
      refine hK M2 (fun p hp => (hM2 p (by omega)).trans (hM1 p hp)) ?_
      rw [kf_ln, if_pos (by simp [q1, q2])]
      exact kf_Rel_E hR1 (fun p _ hp => hM2 p hp) (fun i hi => kf_nt_o hi) hE2
    · refine hK M1 hM1 ?_
      rw [kf_ln, if_neg (by simp [q2])]
      exact hR1

end
