/-! COPIES of a state -/
theorem kg_cp_n {n a b : Nat} {P : Nat → Prop} (h : n < 2147483648) : (∃ j, j < 2147483648 ∧ nI n = nI j ∧ j ≤ a ∧ j ≤ b ∧ P j) = (n ≤ a ∧ n ≤ b ∧ P n) := by
  refine propext ⟨fun ⟨j, h1, h2, h3, h4, h5⟩ => ?_, fun ⟨h3, h4, h5⟩ => ⟨n, h, rfl, h3, h4, h5⟩⟩
  have : n = j := (nI_eq h h1).mp h2
  subst this
  exact ⟨h3, h4, h5⟩
theorem kg_cpy_n {M : kg_M} {p q n r : Nat} (h : r ≠ q) : kg_cpy M p q n r = M r := by simp [kg_cpy, h]
theorem kg_cpy_s {M : kg_M} {p q n i : Nat} (h : i < n) : kg_cpy M p q n q i = M p i := by simp [kg_cpy, h]
def kf_cp (M' M : kg_M) (t f : Nat) : Prop := (M' t 0 = M f 0 ∧ M' t 1 = M f 1) ∧ (∀ i, i < 5 → M' (t + 1) i = M (f + 1) i) ∧ (∀ i, i < 4 → M' (t + 2) i = M (f + 2) i) ∧ (∀ j i, 4 ≤ j → j ≤ 7 → i < 40 → M' (t + j) i = M (f + j) i) ∧ (∀ i, i < 16 → M' (t + 8) i = M (f + 8) i) ∧ (M' (t + 9) 0 = M (f + 9) 0 ∧ ∀ j i, 10 ≤ j → j ≤ 12 → i < 10 → M' (t + j) i = M (f + j) i) ∧ M' (t + 13) 0 = M (f + 13) 0 ∧ M' (t + 13) 1 = M (f + 13) 1 ∧ (∀ i, i < 4 → M' (t + 14) i = M (f + 14) i) ∧ ∀ j i, 15 ≤ j → j ≤ 18 → i < 10 → M' (t + j) i = M (f + j) i
theorem kf_Rel_cp {c : Nat} {M M' : kg_M} {t f : Nat} {r : Nat → Int32} (hR : kf_Rel c M f r) (h : kf_cp M' M t f) : kf_Rel c M' t r := by
  obtain ⟨⟨a1, a2⟩, a3, a4, a5, a6, ⟨p, b1, b2, b3, b4⟩, ⟨p2, q2, c1, c2, c3, c4, c5, c6, c7⟩, a8⟩ := hR
  obtain ⟨⟨h1, h2⟩, h3, h4, h5, h6, ⟨h7, h8⟩, h9, h10, h11, h12⟩ := h
  refine ⟨⟨h1.trans a1, h2.trans a2⟩, fun i hi => (h3 i hi).trans (a3 i hi), fun i hi => (h4 i hi).trans (a4 i hi), ⟨fun n k hn hk => ?_, fun n k hn hk hw => ?_⟩, fun i j hij hj => (h6 _ (by omega)).trans (a6 i j hij hj), ⟨p, b1, h7.trans b2, b3, fun i hi => ?_⟩, ⟨p2, q2, c1, c2, h9.trans c3, h10.trans c4, c5, fun i hi => (h11 i hi).trans (c6 i hi), fun i hi => ?_⟩, a8⟩
  · have := a5.1 n k hn hk
    rw [h5 4 _ (by omega) (by omega) (by omega), h5 5 _ (by omega) (by omega) (by omega)]
    exact this
  · have := a5.2 n k hn hk hw
    rw [h5 6 _ (by omega) (by omega) (by omega), h5 7 _ (by omega) (by omega) (by omega)]
    exact this
  · have := b4 i hi
    rw [h8 10 _ (by omega) (by omega) (by omega), h8 11 _ (by omega) (by omega) (by omega), h8 12 _ (by omega) (by omega) (by omega)]
    exact this
  · have := c7 i hi
    have hm : (q2 + 10 - i) % 10 < 10 := Nat.mod_lt _ (by omega)
    rw [h12 15 _ (by omega) (by omega) hm, h12 16 _ (by omega) (by omega) hm, h12 17 _ (by omega) (by omega) hm, h12 18 _ (by omega) (by omega) hm]
    exact this
theorem kf_upx {c : Nat} {M : kg_M} {f n : Nat} {r : Nat → Int32} (hR : kf_Rel c M f r) (hn : n < 4) : kg_01 (M (f + 2) n) := by
  rw [hR.2.2.1 n hn]
  exact hR.2.2.2.2.2.2.2.2.2.2.2.2.2.2.1 n hn
section
variable {G : kg_G} {d c : Nat} {h : Nat → Nat} {r : Nat → Int32} {M : kg_M} {K : kg_Qt}

theorem kc5_22_1 (hL : G.2.2.2.2.2.1 < 2 ^ 31) (hd : 2 ≤ d) (hK : ∀ M' : kg_M, (∀ p, (p < 26 ∨ 29 < p) → M' p = M p) → (∀ j i, 4 ≤ j → j ≤ 7 → i < 40 → M' (22 + j) i = M (1 + j) i) → K none (kg_w0 h) M') : kg_call G d 125 5 [.ref 25, .ref 4] (kg_w0 h) M K := by
  obtain ⟨d, rfl⟩ : ∃ e, d = e + 1 := ⟨d - 1, by omega⟩
  refine kg_m5 (by simp) (Nat.le_refl _) (kg_v5 hL (by omega) 40 ?_)
  simp (disch := omega) only [kg_S1, kg_S2, kg_br_T, kg_br_F, kg_br_N, kg_br_t, kg_br_f, kg_at_n, nI_add, pk_mul, kg_sub_n, kg_rem_n, kg_eq_n, kg_lt_n, kg_le_n, kg_nz, kg_01_0, kg_01_1, kg_w0_1, kg_ret0, kg_ret1, kg_ret2, kg_wr_n, kg_wr_s, kg_Skd, kg_Smc, kg_Sob, kg_Srf, kg_Sld, kg_pad, List.map_cons, List.map_nil, List.length_cons, List.length_nil, List.replicate, List.cons_append, List.nil_append, List.append_nil, Nat.reduceAdd, Nat.reduceSub, Nat.reduceMul, Nat.reduceMod, Nat.reduceDiv, Nat.reduceLT, Nat.reduceLeDiff, Nat.reduceEqDiff, ne_eq, not_true_eq_false, not_false_eq_true, reduceIte, true_and, and_true, kg_lk5, kg_ls5, kg_cp_n, kg_cpy_n]
  refine hK _ (fun p hp => ?_) (fun j i h1 h2 hi => ?_)
  · simp (disch := omega) only [kg_cpy_n]
  · obtain rfl | rfl | rfl | rfl : j = 4 ∨ j = 5 ∨ j = 6 ∨ j = 7 := by omega
    all_goals (simp only [Nat.reduceAdd]; simp (disch := omega) only [kg_cpy_n, kg_cpy_s])
theorem kc12_22_1 (hL : G.2.2.2.2.2.1 < 2 ^ 31) (hd : 2 ≤ d) (hK : ∀ M' : kg_M, (∀ p, (p < 31 ∨ 34 < p) → M' p = M p) → M' 31 0 = M 10 0 → (∀ j i, 10 ≤ j → j ≤ 12 → i < 10 → M' (22 + j) i = M (1 + j) i) → K none (kg_w0 h) M') : kg_call G d 125 12 [.ref 31, .ref 10] (kg_w0 h) M K := by
  obtain ⟨d, rfl⟩ : ∃ e, d = e + 1 := ⟨d - 1, by omega⟩
  refine kg_m12 (by simp) (Nat.le_refl _) (kg_v12 hL (by omega) 40 ?_)
  simp (disch := omega) only [kg_S1, kg_S2, kg_br_T, kg_br_F, kg_br_N, kg_br_t, kg_br_f, kg_at_n, nI_add, pk_mul, kg_sub_n, kg_rem_n, kg_eq_n, kg_lt_n, kg_le_n, kg_nz, kg_01_0, kg_01_1, kg_w0_1, kg_ret0, kg_ret1, kg_ret2, kg_wr_n, kg_wr_s, kg_Skd, kg_Smc, kg_Sob, kg_Srf, kg_Sld, kg_pad, List.map_cons, List.map_nil, List.length_cons, List.length_nil, List.replicate, List.cons_append, List.nil_append, List.append_nil, Nat.reduceAdd, Nat.reduceSub, Nat.reduceMul, Nat.reduceMod, Nat.reduceDiv, Nat.reduceLT, Nat.reduceLeDiff, Nat.reduceEqDiff, ne_eq, not_true_eq_false, not_false_eq_true, reduceIte, true_and, and_true, kg_lk12, kg_ls12, kg_cp_n, kg_cpy_n]
  refine hK _ (fun p hp => ?_) ?_ (fun j i h1 h2 hi => ?_)
  · simp (disch := omega) only [kg_cpy_n, kg_wr_n]
  · simp (disch := omega) only [kg_cpy_n, kg_wr_s, reduceIte]
  · obtain rfl | rfl | rfl : j = 10 ∨ j = 11 ∨ j = 12 := by omega
    all_goals (simp only [Nat.reduceAdd]; simp (disch := omega) only [kg_cpy_n, kg_cpy_s, kg_wr_n])
set_option maxRecDepth 100000 in
theorem kc1_22_1 (hL : G.2.2.2.2.2.1 < 2 ^ 31) (hd : 2 ≤ d) (hK : ∀ M' : kg_M, (∀ p, (p < 35 ∨ 40 < p) → M' p = M p) → M' 35 0 = M 14 0 → M' 35 1 = M 14 1 → (∀ i, i < 4 → M' 36 i = M 15 i) → (∀ j i, 15 ≤ j → j ≤ 18 → i < 10 → M' (22 + j) i = M (1 + j) i) → K none (kg_w0 h) M') : kg_call G d 125 1 [.ref 35, .ref 14] (kg_w0 h) M K := by
  obtain ⟨d, rfl⟩ : ∃ e, d = e + 1 := ⟨d - 1, by omega⟩
  refine kg_m1 (by simp) (Nat.le_refl _) (kg_v1 hL (by omega) 60 ?_)
  simp (disch := omega) only [kg_S1, kg_S2, kg_br_T, kg_br_F, kg_br_N, kg_br_t, kg_br_f, kg_at_n, nI_add, pk_mul, kg_sub_n, kg_rem_n, kg_eq_n, kg_lt_n, kg_le_n, kg_nz, kg_01_0, kg_01_1, kg_w0_1, kg_ret0, kg_ret1, kg_ret2, kg_wr_n, kg_wr_s, kg_Skd, kg_Smc, kg_Sob, kg_Srf, kg_Sld, kg_pad, List.map_cons, List.map_nil, List.length_cons, List.length_nil, List.replicate, List.cons_append, List.nil_append, List.append_nil, Nat.reduceAdd, Nat.reduceSub, Nat.reduceMul, Nat.reduceMod, Nat.reduceDiv, Nat.reduceLT, Nat.reduceLeDiff, Nat.reduceEqDiff, ne_eq, not_true_eq_false, not_false_eq_true, reduceIte, true_and, and_true, kg_lk1, kg_ls1, kg_cp_n, kg_cpy_n]
  refine hK _ (fun p hp => ?_) ?_ ?_ (fun i hi => ?_) (fun j i h1 h2 hi => ?_)
  · simp (disch := omega) only [kg_cpy_n, kg_wr_n]
  · simp (disch := omega) only [kg_cpy_n, kg_wr_s, kg_wr_n, reduceIte, Nat.reduceEqDiff]
  · simp (disch := omega) only [kg_cpy_n, kg_wr_s, kg_wr_n, reduceIte, Nat.reduceEqDiff]
  · simp (disch := omega) only [kg_cpy_n, kg_cpy_s, kg_wr_n]
  · obtain rfl | rfl | rfl | rfl : j = 15 ∨ j = 16 ∨ j = 17 ∨ j = 18 := by omega
    all_goals (simp only [Nat.reduceAdd]; simp (disch := omega) only [kg_cpy_n, kg_cpy_s, kg_wr_n])
theorem kc22_22_1_l (hL : G.2.2.2.2.2.1 < 2 ^ 31) {M0 : kg_M} (hu : ∀ i, i < 4 → kg_01 (M0 3 i)) (hd : 3 ≤ d) (hK : ∀ M' : kg_M, (∀ p, (p < 24 ∨ 40 < p) → M' p = M0 p) → (∀ i, i < 4 → M' 24 i = M0 3 i) → (∀ j i, 4 ≤ j → j ≤ 7 → i < 40 → M' (22 + j) i = M0 (1 + j) i) → (∀ i, i < 16 → M' 30 i = M0 9 i) → M' 31 0 = M0 10 0 → (∀ j i, 10 ≤ j → j ≤ 12 → i < 10 → M' (22 + j) i = M0 (1 + j) i) → M' 35 0 = M0 14 0 → M' 35 1 = M0 14 1 → (∀ i, i < 4 → M' 36 i = M0 15 i) → (∀ j i, 15 ≤ j → j ≤ 18 → i < 10 → M' (22 + j) i = M0 (1 + j) i) → K none (kg_w0 h) M') : ∀ (z i : Nat) (M : kg_M), i + z = 4 → (∀ p, p ≠ 24 → M p = M0 p) → (∀ j, j < i → M 24 j = M0 3 j) → kg_P G d 22 3 125 125 K 32 [some (.ref 22), some (.ref 1), some (.int (nI i))] [] (kg_w0 h) M := by
  intro z
  induction z with
  | zero =>
    intro i M hi hf hc
    obtain rfl : i = 4 := by omega
    refine kg_v22 hL (by omega) 60 ?_
    simp (disch := omega) only [kg_S1, kg_S2, kg_br_T, kg_br_F, kg_br_N, kg_br_t, kg_br_f, kg_at_n, nI_add, pk_mul, kg_sub_n, kg_rem_n, kg_eq_n, kg_lt_n, kg_le_n, kg_nz, kg_01_0, kg_01_1, kg_w0_1, kg_ret0, kg_ret1, kg_ret2, kg_wr_n, kg_wr_s, kg_Skd, kg_Smc, kg_Sob, kg_Srf, kg_Sld, kg_pad, List.map_cons, List.map_nil, List.length_cons, List.length_nil, List.replicate, List.cons_append, List.nil_append, List.append_nil, Nat.reduceAdd, Nat.reduceSub, Nat.reduceMul, Nat.reduceMod, Nat.reduceDiv, Nat.reduceLT, Nat.reduceLeDiff, Nat.reduceEqDiff, ne_eq, not_true_eq_false, not_false_eq_true, reduceIte, true_and, and_true, kg_lk22, kg_ls22, kg_cp_n, kg_cpy_n]
    refine kc5_22_1 hL (by omega) ?_
    intro M1 a1 a2
    simp (disch := omega) only [kg_S1, kg_S2, kg_br_T, kg_br_F, kg_br_N, kg_br_t, kg_br_f, kg_at_n, nI_add, pk_mul, kg_sub_n, kg_rem_n, kg_eq_n, kg_lt_n, kg_le_n, kg_nz, kg_01_0, kg_01_1, kg_w0_1, kg_ret0, kg_ret1, kg_ret2, kg_wr_n, kg_wr_s, kg_Skd, kg_Smc, kg_Sob, kg_Srf, kg_Sld, kg_pad, List.map_cons, List.map_nil, List.length_cons, List.length_nil, List.replicate, List.cons_append, List.nil_append, List.append_nil, Nat.reduceAdd, Nat.reduceSub, Nat.reduceMul, Nat.reduceMod, Nat.reduceDiv, Nat.reduceLT, Nat.reduceLeDiff, Nat.reduceEqDiff, ne_eq, not_true_eq_false, not_false_eq_true, reduceIte, true_and, and_true, kg_lk22, kg_ls22, kg_cp_n, kg_cpy_n]
    refine kc12_22_1 hL (by omega) ?_
    intro M2 b1 b2 b3
    simp (disch := omega) only [kg_S1, kg_S2, kg_br_T, kg_br_F, kg_br_N, kg_br_t, kg_br_f, kg_at_n, nI_add, pk_mul, kg_sub_n, kg_rem_n, kg_eq_n, kg_lt_n, kg_le_n, kg_nz, kg_01_0, kg_01_1, kg_w0_1, kg_ret0, kg_ret1, kg_ret2, kg_wr_n, kg_wr_s, kg_Skd, kg_Smc, kg_Sob, kg_Srf, kg_Sld, kg_pad, List.map_cons, List.map_nil, List.length_cons, List.length_nil, List.replicate, List.cons_append, List.nil_append, List.append_nil, Nat.reduceAdd, Nat.reduceSub, Nat.reduceMul, Nat.reduceMod, Nat.reduceDiv, Nat.reduceLT, Nat.reduceLeDiff, Nat.reduceEqDiff, ne_eq, not_true_eq_false, not_false_eq_true, reduceIte, true_and, and_true, kg_lk22, kg_ls22, kg_cp_n, kg_cpy_n]
    refine kc1_22_1 hL (by omega) ?_
    intro M3 c1 c2 c3 c4 c5
    simp (disch := omega) only [kg_S1, kg_S2, kg_br_T, kg_br_F, kg_br_N, kg_br_t, kg_br_f, kg_at_n, nI_add, pk_mul, kg_sub_n, kg_rem_n, kg_eq_n, kg_lt_n, kg_le_n, kg_nz, kg_01_0, kg_01_1, kg_w0_1, kg_ret0, kg_ret1, kg_ret2, kg_wr_n, kg_wr_s, kg_Skd, kg_Smc, kg_Sob, kg_Srf, kg_Sld, kg_pad, List.map_cons, List.map_nil, List.length_cons, List.length_nil, List.replicate, List.cons_append, List.nil_append, List.append_nil, Nat.reduceAdd, Nat.reduceSub, Nat.reduceMul, Nat.reduceMod, Nat.reduceDiv, Nat.reduceLT, Nat.reduceLeDiff, Nat.reduceEqDiff, ne_eq, not_true_eq_false, not_false_eq_true, reduceIte, true_and, and_true, kg_lk22, kg_ls22, kg_cp_n, kg_cpy_n]
    have fr : ∀ p, (p < 35 ∨ 40 < p) → (p < 31 ∨ 34 < p) → p ≠ 30 → (p < 26 ∨ 29 < p) → p ≠ 24 → M3 p = M0 p := fun p h1 h2 h3 h4 h5 => by rw [c1 p h1, b1 p h2, kg_cpy_n h3, a1 p h4, hf p h5]
    have fr2 : ∀ p, (p < 31 ∨ 34 < p) → p ≠ 30 → (p < 26 ∨ 29 < p) → p ≠ 24 → M2 p = M0 p := fun p h2 h3 h4 h5 => by rw [b1 p h2, kg_cpy_n h3, a1 p h4, hf p h5]
    have fr1 : ∀ p, p ≠ 30 → (p < 26 ∨ 29 < p) → p ≠ 24 → kg_cpy M1 9 30 16 p = M0 p := fun p h3 h4 h5 => by rw [kg_cpy_n h3, a1 p h4, hf p h5]
    refine hK M3 (fun p hp => fr p (by omega) (by omega) (by omega) (by omega) (by omega)) ?_ ?_ ?_ ?_ ?_ ?_ ?_ ?_ ?_
    · intro i hi; rw [c1 _ (by omega), b1 _ (by omega), kg_cpy_n (by omega), a1 _ (by omega)]; exact hc i hi
    · intro j i h1 h2 hi; rw [c1 _ (by omega), b1 _ (by omega), kg_cpy_n (by omega), a2 j i h1 h2 hi, hf _ (by omega)]
    · intro i hi; rw [c1 _ (by omega), b1 _ (by omega), kg_cpy_s hi, a1 _ (by omega), hf _ (by omega)]
    · rw [c1 _ (by omega), b2, fr1 _ (by omega) (by omega) (by omega)]
    · intro j i h1 h2 hi; rw [c1 _ (by omega), b3 j i h1 h2 hi, fr1 _ (by omega) (by omega) (by omega)]
    · rw [c2, fr2 _ (by omega) (by omega) (by omega) (by omega)]
    · rw [c3, fr2 _ (by omega) (by omega) (by omega) (by omega)]
    · intro i hi; rw [c4 i hi, fr2 _ (by omega) (by omega) (by omega) (by omega)]
    · intro j i h1 h2 hi; rw [c5 j i h1 h2 hi, fr2 _ (by omega) (by omega) (by omega) (by omega)]
  | succ z ih =>
    intro i M hi hf hc
    have e1 : M 3 i = M0 3 i := by rw [hf _ (by omega)]
    have e2 := hu i (by omega)
    refine kg_v22 hL (by omega) 60 ?_
    simp (disch := omega) only [kg_S1, kg_S2, kg_br_T, kg_br_F, kg_br_N, kg_br_t, kg_br_f, kg_at_n, nI_add, pk_mul, kg_sub_n, kg_rem_n, kg_eq_n, kg_lt_n, kg_le_n, kg_nz, kg_01_0, kg_01_1, kg_w0_1, kg_ret0, kg_ret1, kg_ret2, kg_wr_n, kg_wr_s, kg_Skd, kg_Smc, kg_Sob, kg_Srf, kg_Sld, kg_pad, List.map_cons, List.map_nil, List.length_cons, List.length_nil, List.replicate, List.cons_append, List.nil_append, List.append_nil, Nat.reduceAdd, Nat.reduceSub, Nat.reduceMul, Nat.reduceMod, Nat.reduceDiv, Nat.reduceLT, Nat.reduceLeDiff, Nat.reduceEqDiff, ne_eq, not_true_eq_false, not_false_eq_true, reduceIte, true_and, and_true, kg_lk22, kg_ls22, kg_cp_n, kg_cpy_n, e1, e2]
    refine ih (i + 1) _ (by omega) (fun p hp => (kg_wr_n hp).trans (hf p hp)) (fun j hj => ?_)
    rw [kg_wr_s]
    by_cases e : j = i
    · rw [if_pos e, e]
    · rw [if_neg e]; exact hc j (by omega)
theorem kc22_22_1 (hL : G.2.2.2.2.2.1 < 2 ^ 31) (hR : kf_Rel c M 1 r) (hd : 4 ≤ d) (hK : ∀ M' : kg_M, (∀ p, (p < 22 ∨ 41 < p) → M' p = M p) → kf_Rel c M' 22 r → K none (kg_w0 h) M') : kg_call G d 125 22 [.ref 22, .ref 1] (kg_w0 h) M K := by
  obtain ⟨d, rfl⟩ : ∃ e, d = e + 1 := ⟨d - 1, by omega⟩
  refine kg_m22 (by simp) (Nat.le_refl _) (kg_v22 hL (by omega) 60 ?_)
  simp (disch := omega) only [kg_S1, kg_S2, kg_br_T, kg_br_F, kg_br_N, kg_br_t, kg_br_f, kg_at_n, nI_add, pk_mul, kg_sub_n, kg_rem_n, kg_eq_n, kg_lt_n, kg_le_n, kg_nz, kg_01_0, kg_01_1, kg_w0_1, kg_ret0, kg_ret1, kg_ret2, kg_wr_n, kg_wr_s, kg_Skd, kg_Smc, kg_Sob, kg_Srf, kg_Sld, kg_pad, List.map_cons, List.map_nil, List.length_cons, List.length_nil, List.replicate, List.cons_append, List.nil_append, List.append_nil, Nat.reduceAdd, Nat.reduceSub, Nat.reduceMul, Nat.reduceMod, Nat.reduceDiv, Nat.reduceLT, Nat.reduceLeDiff, Nat.reduceEqDiff, ne_eq, not_true_eq_false, not_false_eq_true, reduceIte, true_and, and_true, kg_lk22, kg_ls22, kg_cp_n, kg_cpy_n]
  have hu : ∀ i, i < 4 → kg_01 (M 3 i) := fun i hi => kf_upx hR hi
  have g1 : ∀ p, p ≠ 22 → p ≠ 23 → kg_cpy (kg_wr (kg_wr M 22 0 (M 1 0)) 22 1 (M 1 1)) 2 23 5 p = M p := fun p h1 h2 => by rw [kg_cpy_n h2, kg_wr_n h1, kg_wr_n h1]
  have g2 : kg_cpy (kg_wr (kg_wr M 22 0 (M 1 0)) 22 1 (M 1 1)) 2 23 5 22 0 = M 1 0 := by simp (disch := omega) only [kg_cpy_n, kg_wr_s, reduceIte, Nat.reduceEqDiff]
  have g3 : kg_cpy (kg_wr (kg_wr M 22 0 (M 1 0)) 22 1 (M 1 1)) 2 23 5 22 1 = M 1 1 := by simp (disch := omega) only [kg_cpy_n, kg_wr_s, reduceIte, Nat.reduceEqDiff]
  have g4 : ∀ i, i < 5 → kg_cpy (kg_wr (kg_wr M 22 0 (M 1 0)) 22 1 (M 1 1)) 2 23 5 23 i = M 2 i := fun i hi => by rw [kg_cpy_s hi, kg_wr_n (by omega), kg_wr_n (by omega)]
  generalize kg_cpy (kg_wr (kg_wr M 22 0 (M 1 0)) 22 1 (M 1 1)) 2 23 5 = M1 at g1 g2 g3 g4 ⊢
  refine kc22_22_1_l hL (M0 := M1) (fun i hi => by rw [g1 _ (by omega) (by omega)]; exact hu i hi) (by omega) ?_ 4 0 M1 rfl (fun _ _ => rfl) (fun j hj => by omega)
  intro M2 a0 a1 a2 a3 a4 a5 a6 a7 a8 a9
  refine hK M2 (fun p hp => by rw [a0 p (by omega), g1 p (by omega) (by omega)]) (kf_Rel_cp hR ⟨⟨?_, ?_⟩, ?_, ?_, ?_, ?_, ⟨?_, ?_⟩, ?_, ?_, ?_, ?_⟩)
  · rw [a0 _ (by omega), g2]
  · rw [a0 _ (by omega), g3]
  · intro i hi; rw [a0 _ (by omega)]; exact g4 i hi
  · intro i hi; rw [a1 i hi, g1 _ (by omega) (by omega)]
  · intro j i h1 h2 hi; rw [a2 j i h1 h2 hi, g1 _ (by omega) (by omega)]
  · intro i hi; rw [a3 i hi, g1 _ (by omega) (by omega)]
  · rw [a4, g1 _ (by omega) (by omega)]
  · intro j i h1 h2 hi; rw [a5 j i h1 h2 hi, g1 _ (by omega) (by omega)]
  · rw [a6, g1 _ (by omega) (by omega)]
  · rw [a7, g1 _ (by omega) (by omega)]
  · intro i hi; rw [a8 i hi, g1 _ (by omega) (by omega)]
  · intro j i h1 h2 hi; rw [a9 j i h1 h2 hi, g1 _ (by omega) (by omega)]

theorem kc5_42_1 (hL : G.2.2.2.2.2.1 < 2 ^ 31) (hd : 2 ≤ d) (hK : ∀ M' : kg_M, (∀ p, (p < 46 ∨ 49 < p) → M' p = M p) → (∀ j i, 4 ≤ j → j ≤ 7 → i < 40 → M' (42 + j) i = M (1 + j) i) → K none (kg_w0 h) M') : kg_call G d 125 5 [.ref 45, .ref 4] (kg_w0 h) M K := by
  obtain ⟨d, rfl⟩ : ∃ e, d = e + 1 := ⟨d - 1, by omega⟩
  refine kg_m5 (by simp) (Nat.le_refl _) (kg_v5 hL (by omega) 40 ?_)
  simp (disch := omega) only [kg_S1, kg_S2, kg_br_T, kg_br_F, kg_br_N, kg_br_t, kg_br_f, kg_at_n, nI_add, pk_mul, kg_sub_n, kg_rem_n, kg_eq_n, kg_lt_n, kg_le_n, kg_nz, kg_01_0, kg_01_1, kg_w0_1, kg_ret0, kg_ret1, kg_ret2, kg_wr_n, kg_wr_s, kg_Skd, kg_Smc, kg_Sob, kg_Srf, kg_Sld, kg_pad, List.map_cons, List.map_nil, List.length_cons, List.length_nil, List.replicate, List.cons_append, List.nil_append, List.append_nil, Nat.reduceAdd, Nat.reduceSub, Nat.reduceMul, Nat.reduceMod, Nat.reduceDiv, Nat.reduceLT, Nat.reduceLeDiff, Nat.reduceEqDiff, ne_eq, not_true_eq_false, not_false_eq_true, reduceIte, true_and, and_true, kg_lk5, kg_ls5, kg_cp_n, kg_cpy_n]
  refine hK _ (fun p hp => ?_) (fun j i h1 h2 hi => ?_)
  · simp (disch := omega) only [kg_cpy_n]
  · obtain rfl | rfl | rfl | rfl : j = 4 ∨ j = 5 ∨ j = 6 ∨ j = 7 := by omega
    all_goals (simp only [Nat.reduceAdd]; simp (disch := omega) only [kg_cpy_n, kg_cpy_s])
theorem kc12_42_1 (hL : G.2.2.2.2.2.1 < 2 ^ 31) (hd : 2 ≤ d) (hK : ∀ M' : kg_M, (∀ p, (p < 51 ∨ 54 < p) → M' p = M p) → M' 51 0 = M 10 0 → (∀ j i, 10 ≤ j → j ≤ 12 → i < 10 → M' (42 + j) i = M (1 + j) i) → K none (kg_w0 h) M') : kg_call G d 125 12 [.ref 51, .ref 10] (kg_w0 h) M K := by
  obtain ⟨d, rfl⟩ : ∃ e, d = e + 1 := ⟨d - 1, by omega⟩
  refine kg_m12 (by simp) (Nat.le_refl _) (kg_v12 hL (by omega) 40 ?_)
  simp (disch := omega) only [kg_S1, kg_S2, kg_br_T, kg_br_F, kg_br_N, kg_br_t, kg_br_f, kg_at_n, nI_add, pk_mul, kg_sub_n, kg_rem_n, kg_eq_n, kg_lt_n, kg_le_n, kg_nz, kg_01_0, kg_01_1, kg_w0_1, kg_ret0, kg_ret1, kg_ret2, kg_wr_n, kg_wr_s, kg_Skd, kg_Smc, kg_Sob, kg_Srf, kg_Sld, kg_pad, List.map_cons, List.map_nil, List.length_cons, List.length_nil, List.replicate, List.cons_append, List.nil_append, List.append_nil, Nat.reduceAdd, Nat.reduceSub, Nat.reduceMul, Nat.reduceMod, Nat.reduceDiv, Nat.reduceLT, Nat.reduceLeDiff, Nat.reduceEqDiff, ne_eq, not_true_eq_false, not_false_eq_true, reduceIte, true_and, and_true, kg_lk12, kg_ls12, kg_cp_n, kg_cpy_n]
  refine hK _ (fun p hp => ?_) ?_ (fun j i h1 h2 hi => ?_)
  · simp (disch := omega) only [kg_cpy_n, kg_wr_n]
  · simp (disch := omega) only [kg_cpy_n, kg_wr_s, reduceIte]
  · obtain rfl | rfl | rfl : j = 10 ∨ j = 11 ∨ j = 12 := by omega
    all_goals (simp only [Nat.reduceAdd]; simp (disch := omega) only [kg_cpy_n, kg_cpy_s, kg_wr_n])
set_option maxRecDepth 100000 in
theorem kc1_42_1 (hL : G.2.2.2.2.2.1 < 2 ^ 31) (hd : 2 ≤ d) (hK : ∀ M' : kg_M, (∀ p, (p < 55 ∨ 60 < p) → M' p = M p) → M' 55 0 = M 14 0 → M' 55 1 = M 14 1 → (∀ i, i < 4 → M' 56 i = M 15 i) → (∀ j i, 15 ≤ j → j ≤ 18 → i < 10 → M' (42 + j) i = M (1 + j) i) → K none (kg_w0 h) M') : kg_call G d 125 1 [.ref 55, .ref 14] (kg_w0 h) M K := by
  obtain ⟨d, rfl⟩ : ∃ e, d = e + 1 := ⟨d - 1, by omega⟩
  refine kg_m1 (by simp) (Nat.le_refl _) (kg_v1 hL (by omega) 60 ?_)
  simp (disch := omega) only [kg_S1, kg_S2, kg_br_T, kg_br_F, kg_br_N, kg_br_t, kg_br_f, kg_at_n, nI_add, pk_mul, kg_sub_n, kg_rem_n, kg_eq_n, kg_lt_n, kg_le_n, kg_nz, kg_01_0, kg_01_1, kg_w0_1, kg_ret0, kg_ret1, kg_ret2, kg_wr_n, kg_wr_s, kg_Skd, kg_Smc, kg_Sob, kg_Srf, kg_Sld, kg_pad, List.map_cons, List.map_nil, List.length_cons, List.length_nil, List.replicate, List.cons_append, List.nil_append, List.append_nil, Nat.reduceAdd, Nat.reduceSub, Nat.reduceMul, Nat.reduceMod, Nat.reduceDiv, Nat.reduceLT, Nat.reduceLeDiff, Nat.reduceEqDiff, ne_eq, not_true_eq_false, not_false_eq_true, reduceIte, true_and, and_true, kg_lk1, kg_ls1, kg_cp_n, kg_cpy_n]
  refine hK _ (fun p hp => ?_) ?_ ?_ (fun i hi => ?_) (fun j i h1 h2 hi => ?_)
  · simp (disch := omega) only [kg_cpy_n, kg_wr_n]
  · simp (disch := omega) only [kg_cpy_n, kg_wr_s, kg_wr_n, reduceIte, Nat.reduceEqDiff]
  · simp (disch := omega) only [kg_cpy_n, kg_wr_s, kg_wr_n, reduceIte, Nat.reduceEqDiff]
  · simp (disch := omega) only [kg_cpy_n, kg_cpy_s, kg_wr_n]
  · obtain rfl | rfl | rfl | rfl : j = 15 ∨ j = 16 ∨ j = 17 ∨ j = 18 := by omega
    all_goals (simp only [Nat.reduceAdd]; simp (disch := omega) only [kg_cpy_n, kg_cpy_s, kg_wr_n])
theorem kc22_42_1_l (hL : G.2.2.2.2.2.1 < 2 ^ 31) {M0 : kg_M} (hu : ∀ i, i < 4 → kg_01 (M0 3 i)) (hd : 3 ≤ d) (hK : ∀ M' : kg_M, (∀ p, (p < 44 ∨ 60 < p) → M' p = M0 p) → (∀ i, i < 4 → M' 44 i = M0 3 i) → (∀ j i, 4 ≤ j → j ≤ 7 → i < 40 → M' (42 + j) i = M0 (1 + j) i) → (∀ i, i < 16 → M' 50 i = M0 9 i) → M' 51 0 = M0 10 0 → (∀ j i, 10 ≤ j → j ≤ 12 → i < 10 → M' (42 + j) i = M0 (1 + j) i) → M' 55 0 = M0 14 0 → M' 55 1 = M0 14 1 → (∀ i, i < 4 → M' 56 i = M0 15 i) → (∀ j i, 15 ≤ j → j ≤ 18 → i < 10 → M' (42 + j) i = M0 (1 + j) i) → K none (kg_w0 h) M') : ∀ (z i : Nat) (M : kg_M), i + z = 4 → (∀ p, p ≠ 44 → M p = M0 p) → (∀ j, j < i → M 44 j = M0 3 j) → kg_P G d 22 3 125 125 K 32 [some (.ref 42), some (.ref 1), some (.int (nI i))] [] (kg_w0 h) M := by
  intro z
  induction z with
  | zero =>
    intro i M hi hf hc
    obtain rfl : i = 4 := by omega
    refine kg_v22 hL (by omega) 60 ?_
    simp (disch := omega) only [kg_S1, kg_S2, kg_br_T, kg_br_F, kg_br_N, kg_br_t, kg_br_f, kg_at_n, nI_add, pk_mul, kg_sub_n, kg_rem_n, kg_eq_n, kg_lt_n, kg_le_n, kg_nz, kg_01_0, kg_01_1, kg_w0_1, kg_ret0, kg_ret1, kg_ret2, kg_wr_n, kg_wr_s, kg_Skd, kg_Smc, kg_Sob, kg_Srf, kg_Sld, kg_pad, List.map_cons, List.map_nil, List.length_cons, List.length_nil, List.replicate, List.cons_append, List.nil_append, List.append_nil, Nat.reduceAdd, Nat.reduceSub, Nat.reduceMul, Nat.reduceMod, Nat.reduceDiv, Nat.reduceLT, Nat.reduceLeDiff, Nat.reduceEqDiff, ne_eq, not_true_eq_false, not_false_eq_true, reduceIte, true_and, and_true, kg_lk22, kg_ls22, kg_cp_n, kg_cpy_n]
    refine kc5_42_1 hL (by omega) ?_
    intro M1 a1 a2
    simp (disch := omega) only [kg_S1, kg_S2, kg_br_T, kg_br_F, kg_br_N, kg_br_t, kg_br_f, kg_at_n, nI_add, pk_mul, kg_sub_n, kg_rem_n, kg_eq_n, kg_lt_n, kg_le_n, kg_nz, kg_01_0, kg_01_1, kg_w0_1, kg_ret0, kg_ret1, kg_ret2, kg_wr_n, kg_wr_s, kg_Skd, kg_Smc, kg_Sob, kg_Srf, kg_Sld, kg_pad, List.map_cons, List.map_nil, List.length_cons, List.length_nil, List.replicate, List.cons_append, List.nil_append, List.append_nil, Nat.reduceAdd, Nat.reduceSub, Nat.reduceMul, Nat.reduceMod, Nat.reduceDiv, Nat.reduceLT, Nat.reduceLeDiff, Nat.reduceEqDiff, ne_eq, not_true_eq_false, not_false_eq_true, reduceIte, true_and, and_true, kg_lk22, kg_ls22, kg_cp_n, kg_cpy_n]
    refine kc12_42_1 hL (by omega) ?_
    intro M2 b1 b2 b3
    simp (disch := omega) only [kg_S1, kg_S2, kg_br_T, kg_br_F, kg_br_N, kg_br_t, kg_br_f, kg_at_n, nI_add, pk_mul, kg_sub_n, kg_rem_n, kg_eq_n, kg_lt_n, kg_le_n, kg_nz, kg_01_0, kg_01_1, kg_w0_1, kg_ret0, kg_ret1, kg_ret2, kg_wr_n, kg_wr_s, kg_Skd, kg_Smc, kg_Sob, kg_Srf, kg_Sld, kg_pad, List.map_cons, List.map_nil, List.length_cons, List.length_nil, List.replicate, List.cons_append, List.nil_append, List.append_nil, Nat.reduceAdd, Nat.reduceSub, Nat.reduceMul, Nat.reduceMod, Nat.reduceDiv, Nat.reduceLT, Nat.reduceLeDiff, Nat.reduceEqDiff, ne_eq, not_true_eq_false, not_false_eq_true, reduceIte, true_and, and_true, kg_lk22, kg_ls22, kg_cp_n, kg_cpy_n]
    refine kc1_42_1 hL (by omega) ?_
    intro M3 c1 c2 c3 c4 c5
    simp (disch := omega) only [kg_S1, kg_S2, kg_br_T, kg_br_F, kg_br_N, kg_br_t, kg_br_f, kg_at_n, nI_add, pk_mul, kg_sub_n, kg_rem_n, kg_eq_n, kg_lt_n, kg_le_n, kg_nz, kg_01_0, kg_01_1, kg_w0_1, kg_ret0, kg_ret1, kg_ret2, kg_wr_n, kg_wr_s, kg_Skd, kg_Smc, kg_Sob, kg_Srf, kg_Sld, kg_pad, List.map_cons, List.map_nil, List.length_cons, List.length_nil, List.replicate, List.cons_append, List.nil_append, List.append_nil, Nat.reduceAdd, Nat.reduceSub, Nat.reduceMul, Nat.reduceMod, Nat.reduceDiv, Nat.reduceLT, Nat.reduceLeDiff, Nat.reduceEqDiff, ne_eq, not_true_eq_false, not_false_eq_true, reduceIte, true_and, and_true, kg_lk22, kg_ls22, kg_cp_n, kg_cpy_n]
    have fr : ∀ p, (p < 55 ∨ 60 < p) → (p < 51 ∨ 54 < p) → p ≠ 50 → (p < 46 ∨ 49 < p) → p ≠ 44 → M3 p = M0 p := fun p h1 h2 h3 h4 h5 => by rw [c1 p h1, b1 p h2, kg_cpy_n h3, a1 p h4, hf p h5]
    have fr2 : ∀ p, (p < 51 ∨ 54 < p) → p ≠ 50 → (p < 46 ∨ 49 < p) → p ≠ 44 → M2 p = M0 p := fun p h2 h3 h4 h5 => by rw [b1 p h2, kg_cpy_n h3, a1 p h4, hf p h5]
    have fr1 : ∀ p, p ≠ 50 → (p < 46 ∨ 49 < p) → p ≠ 44 → kg_cpy M1 9 50 16 p = M0 p := fun p h3 h4 h5 => by rw [kg_cpy_n h3, a1 p h4, hf p h5]
    refine hK M3 (fun p hp => fr p (by omega) (by omega) (by omega) (by omega) (by omega)) ?_ ?_ ?_ ?_ ?_ ?_ ?_ ?_ ?_
    · intro i hi; rw [c1 _ (by omega), b1 _ (by omega), kg_cpy_n (by omega), a1 _ (by omega)]; exact hc i hi
    · intro j i h1 h2 hi; rw [c1 _ (by omega), b1 _ (by omega), kg_cpy_n (by omega), a2 j i h1 h2 hi, hf _ (by omega)]
    · intro i hi; rw [c1 _ (by omega), b1 _ (by omega), kg_cpy_s hi, a1 _ (by omega), hf _ (by omega)]
    · rw [c1 _ (by omega), b2, fr1 _ (by omega) (by omega) (by omega)]
    · intro j i h1 h2 hi; rw [c1 _ (by omega), b3 j i h1 h2 hi, fr1 _ (by omega) (by omega) (by omega)]
    · rw [c2, fr2 _ (by omega) (by omega) (by omega) (by omega)]
    · rw [c3, fr2 _ (by omega) (by omega) (by omega) (by omega)]
    · intro i hi; rw [c4 i hi, fr2 _ (by omega) (by omega) (by omega) (by omega)]
    · intro j i h1 h2 hi; rw [c5 j i h1 h2 hi, fr2 _ (by omega) (by omega) (by omega) (by omega)]
  | succ z ih =>
    intro i M hi hf hc
    have e1 : M 3 i = M0 3 i := by rw [hf _ (by omega)]
    have e2 := hu i (by omega)
    refine kg_v22 hL (by omega) 60 ?_
    simp (disch := omega) only [kg_S1, kg_S2, kg_br_T, kg_br_F, kg_br_N, kg_br_t, kg_br_f, kg_at_n, nI_add, pk_mul, kg_sub_n, kg_rem_n, kg_eq_n, kg_lt_n, kg_le_n, kg_nz, kg_01_0, kg_01_1, kg_w0_1, kg_ret0, kg_ret1, kg_ret2, kg_wr_n, kg_wr_s, kg_Skd, kg_Smc, kg_Sob, kg_Srf, kg_Sld, kg_pad, List.map_cons, List.map_nil, List.length_cons, List.length_nil, List.replicate, List.cons_append, List.nil_append, List.append_nil, Nat.reduceAdd, Nat.reduceSub, Nat.reduceMul, Nat.reduceMod, Nat.reduceDiv, Nat.reduceLT, Nat.reduceLeDiff, Nat.reduceEqDiff, ne_eq, not_true_eq_false, not_false_eq_true, reduceIte, true_and, and_true, kg_lk22, kg_ls22, kg_cp_n, kg_cpy_n, e1, e2]
    refine ih (i + 1) _ (by omega) (fun p hp => (kg_wr_n hp).trans (hf p hp)) (fun j hj => ?_)
    rw [kg_wr_s]
    by_cases e : j = i
    · rw [if_pos e, e]
    · rw [if_neg e]; exact hc j (by omega)
theorem kc22_42_1 (hL : G.2.2.2.2.2.1 < 2 ^ 31) (hR : kf_Rel c M 1 r) (hd : 4 ≤ d) (hK : ∀ M' : kg_M, (∀ p, (p < 42 ∨ 61 < p) → M' p = M p) → kf_Rel c M' 42 r → K none (kg_w0 h) M') : kg_call G d 125 22 [.ref 42, .ref 1] (kg_w0 h) M K := by
  obtain ⟨d, rfl⟩ : ∃ e, d = e + 1 := ⟨d - 1, by omega⟩
  refine kg_m22 (by simp) (Nat.le_refl _) (kg_v22 hL (by omega) 60 ?_)
  simp (disch := omega) only [kg_S1, kg_S2, kg_br_T, kg_br_F, kg_br_N, kg_br_t, kg_br_f, kg_at_n, nI_add, pk_mul, kg_sub_n, kg_rem_n, kg_eq_n, kg_lt_n, kg_le_n, kg_nz, kg_01_0, kg_01_1, kg_w0_1, kg_ret0, kg_ret1, kg_ret2, kg_wr_n, kg_wr_s, kg_Skd, kg_Smc, kg_Sob, kg_Srf, kg_Sld, kg_pad, List.map_cons, List.map_nil, List.length_cons, List.length_nil, List.replicate, List.cons_append, List.nil_append, List.append_nil, Nat.reduceAdd, Nat.reduceSub, Nat.reduceMul, Nat.reduceMod, Nat.reduceDiv, Nat.reduceLT, Nat.reduceLeDiff, Nat.reduceEqDiff, ne_eq, not_true_eq_false, not_false_eq_true, reduceIte, true_and, and_true, kg_lk22, kg_ls22, kg_cp_n, kg_cpy_n]
  have hu : ∀ i, i < 4 → kg_01 (M 3 i) := fun i hi => kf_upx hR hi
  have g1 : ∀ p, p ≠ 42 → p ≠ 43 → kg_cpy (kg_wr (kg_wr M 42 0 (M 1 0)) 42 1 (M 1 1)) 2 43 5 p = M p := fun p h1 h2 => by rw [kg_cpy_n h2, kg_wr_n h1, kg_wr_n h1]
  have g2 : kg_cpy (kg_wr (kg_wr M 42 0 (M 1 0)) 42 1 (M 1 1)) 2 43 5 42 0 = M 1 0 := by simp (disch := omega) only [kg_cpy_n, kg_wr_s, reduceIte, Nat.reduceEqDiff]
  have g3 : kg_cpy (kg_wr (kg_wr M 42 0 (M 1 0)) 42 1 (M 1 1)) 2 43 5 42 1 = M 1 1 := by simp (disch := omega) only [kg_cpy_n, kg_wr_s, reduceIte, Nat.reduceEqDiff]
  have g4 : ∀ i, i < 5 → kg_cpy (kg_wr (kg_wr M 42 0 (M 1 0)) 42 1 (M 1 1)) 2 43 5 43 i = M 2 i := fun i hi => by rw [kg_cpy_s hi, kg_wr_n (by omega), kg_wr_n (by omega)]
  generalize kg_cpy (kg_wr (kg_wr M 42 0 (M 1 0)) 42 1 (M 1 1)) 2 43 5 = M1 at g1 g2 g3 g4 ⊢
  refine kc22_42_1_l hL (M0 := M1) (fun i hi => by rw [g1 _ (by omega) (by omega)]; exact hu i hi) (by omega) ?_ 4 0 M1 rfl (fun _ _ => rfl) (fun j hj => by omega)
  intro M2 a0 a1 a2 a3 a4 a5 a6 a7 a8 a9
  refine hK M2 (fun p hp => by rw [a0 p (by omega), g1 p (by omega) (by omega)]) (kf_Rel_cp hR ⟨⟨?_, ?_⟩, ?_, ?_, ?_, ?_, ⟨?_, ?_⟩, ?_, ?_, ?_, ?_⟩)
  · rw [a0 _ (by omega), g2]
  · rw [a0 _ (by omega), g3]
  · intro i hi; rw [a0 _ (by omega)]; exact g4 i hi
  · intro i hi; rw [a1 i hi, g1 _ (by omega) (by omega)]
  · intro j i h1 h2 hi; rw [a2 j i h1 h2 hi, g1 _ (by omega) (by omega)]
  · intro i hi; rw [a3 i hi, g1 _ (by omega) (by omega)]
  · rw [a4, g1 _ (by omega) (by omega)]
  · intro j i h1 h2 hi; rw [a5 j i h1 h2 hi, g1 _ (by omega) (by omega)]
  · rw [a6, g1 _ (by omega) (by omega)]
  · rw [a7, g1 _ (by omega) (by omega)]
  · intro i hi; rw [a8 i hi, g1 _ (by omega) (by omega)]
  · intro j i h1 h2 hi; rw [a9 j i h1 h2 hi, g1 _ (by omega) (by omega)]

theorem kc5_62_1 (hL : G.2.2.2.2.2.1 < 2 ^ 31) (hd : 2 ≤ d) (hK : ∀ M' : kg_M, (∀ p, (p < 66 ∨ 69 < p) → M' p = M p) → (∀ j i, 4 ≤ j → j ≤ 7 → i < 40 → M' (62 + j) i = M (1 + j) i) → K none (kg_w0 h) M') : kg_call G d 125 5 [.ref 65, .ref 4] (kg_w0 h) M K := by
  obtain ⟨d, rfl⟩ : ∃ e, d = e + 1 := ⟨d - 1, by omega⟩
  refine kg_m5 (by simp) (Nat.le_refl _) (kg_v5 hL (by omega) 40 ?_)
  simp (disch := omega) only [kg_S1, kg_S2, kg_br_T, kg_br_F, kg_br_N, kg_br_t, kg_br_f, kg_at_n, nI_add, pk_mul, kg_sub_n, kg_rem_n, kg_eq_n, kg_lt_n, kg_le_n, kg_nz, kg_01_0, kg_01_1, kg_w0_1, kg_ret0, kg_ret1, kg_ret2, kg_wr_n, kg_wr_s, kg_Skd, kg_Smc, kg_Sob, kg_Srf, kg_Sld, kg_pad, List.map_cons, List.map_nil, List.length_cons, List.length_nil, List.replicate, List.cons_append, List.nil_append, List.append_nil, Nat.reduceAdd, Nat.reduceSub, Nat.reduceMul, Nat.reduceMod, Nat.reduceDiv, Nat.reduceLT, Nat.reduceLeDiff, Nat.reduceEqDiff, ne_eq, not_true_eq_false, not_false_eq_true, reduceIte, true_and, and_true, kg_lk5, kg_ls5, kg_cp_n, kg_cpy_n]
  refine hK _ (fun p hp => ?_) (fun j i h1 h2 hi => ?_)
  · simp (disch := omega) only [kg_cpy_n]
  · obtain rfl | rfl | rfl | rfl : j = 4 ∨ j = 5 ∨ j = 6 ∨ j = 7 := by omega
    all_goals (simp only [Nat.reduceAdd]; simp (disch := omega) only [kg_cpy_n, kg_cpy_s])
theorem kc12_62_1 (hL : G.2.2.2.2.2.1 < 2 ^ 31) (hd : 2 ≤ d) (hK : ∀ M' : kg_M, (∀ p, (p < 71 ∨ 74 < p) → M' p = M p) → M' 71 0 = M 10 0 → (∀ j i, 10 ≤ j → j ≤ 12 → i < 10 → M' (62 + j) i = M (1 + j) i) → K none (kg_w0 h) M') : kg_call G d 125 12 [.ref 71, .ref 10] (kg_w0 h) M K := by
  obtain ⟨d, rfl⟩ : ∃ e, d = e + 1 := ⟨d - 1, by omega⟩
  refine kg_m12 (by simp) (Nat.le_refl _) (kg_v12 hL (by omega) 40 ?_)
  simp (disch := omega) only [kg_S1, kg_S2, kg_br_T, kg_br_F, kg_br_N, kg_br_t, kg_br_f, kg_at_n, nI_add, pk_mul, kg_sub_n, kg_rem_n, kg_eq_n, kg_lt_n, kg_le_n, kg_nz, kg_01_0, kg_01_1, kg_w0_1, kg_ret0, kg_ret1, kg_ret2, kg_wr_n, kg_wr_s, kg_Skd, kg_Smc, kg_Sob, kg_Srf, kg_Sld, kg_pad, List.map_cons, List.map_nil, List.length_cons, List.length_nil, List.replicate, List.cons_append, List.nil_append, List.append_nil, Nat.reduceAdd, Nat.reduceSub, Nat.reduceMul, Nat.reduceMod, Nat.reduceDiv, Nat.reduceLT, Nat.reduceLeDiff, Nat.reduceEqDiff, ne_eq, not_true_eq_false, not_false_eq_true, reduceIte, true_and, and_true, kg_lk12, kg_ls12, kg_cp_n, kg_cpy_n]
  refine hK _ (fun p hp => ?_) ?_ (fun j i h1 h2 hi => ?_)
  · simp (disch := omega) only [kg_cpy_n, kg_wr_n]
  · simp (disch := omega) only [kg_cpy_n, kg_wr_s, reduceIte]
  · obtain rfl | rfl | rfl : j = 10 ∨ j = 11 ∨ j = 12 := by omega
    all_goals (simp only [Nat.reduceAdd]; simp (disch := omega) only [kg_cpy_n, kg_cpy_s, kg_wr_n])
set_option maxRecDepth 100000 in
theorem kc1_62_1 (hL : G.2.2.2.2.2.1 < 2 ^ 31) (hd : 2 ≤ d) (hK : ∀ M' : kg_M, (∀ p, (p < 75 ∨ 80 < p) → M' p = M p) → M' 75 0 = M 14 0 → M' 75 1 = M 14 1 → (∀ i, i < 4 → M' 76 i = M 15 i) → (∀ j i, 15 ≤ j → j ≤ 18 → i < 10 → M' (62 + j) i = M (1 + j) i) → K none (kg_w0 h) M') : kg_call G d 125 1 [.ref 75, .ref 14] (kg_w0 h) M K := by
  obtain ⟨d, rfl⟩ : ∃ e, d = e + 1 := ⟨d - 1, by omega⟩
  refine kg_m1 (by simp) (Nat.le_refl _) (kg_v1 hL (by omega) 60 ?_)
  simp (disch := omega) only [kg_S1, kg_S2, kg_br_T, kg_br_F, kg_br_N, kg_br_t, kg_br_f, kg_at_n, nI_add, pk_mul, kg_sub_n, kg_rem_n, kg_eq_n, kg_lt_n, kg_le_n, kg_nz, kg_01_0, kg_01_1, kg_w0_1, kg_ret0, kg_ret1, kg_ret2, kg_wr_n, kg_wr_s, kg_Skd, kg_Smc, kg_Sob, kg_Srf, kg_Sld, kg_pad, List.map_cons, List.map_nil, List.length_cons, List.length_nil, List.replicate, List.cons_append, List.nil_append, List.append_nil, Nat.reduceAdd, Nat.reduceSub, Nat.reduceMul, Nat.reduceMod, Nat.reduceDiv, Nat.reduceLT, Nat.reduceLeDiff, Nat.reduceEqDiff, ne_eq, not_true_eq_false, not_false_eq_true, reduceIte, true_and, and_true, kg_lk1, kg_ls1, kg_cp_n, kg_cpy_n]
  refine hK _ (fun p hp => ?_) ?_ ?_ (fun i hi => ?_) (fun j i h1 h2 hi => ?_)
  · simp (disch := omega) only [kg_cpy_n, kg_wr_n]
  · simp (disch := omega) only [kg_cpy_n, kg_wr_s, kg_wr_n, reduceIte, Nat.reduceEqDiff]
  · simp (disch := omega) only [kg_cpy_n, kg_wr_s, kg_wr_n, reduceIte, Nat.reduceEqDiff]
  · simp (disch := omega) only [kg_cpy_n, kg_cpy_s, kg_wr_n]
  · obtain rfl | rfl | rfl | rfl : j = 15 ∨ j = 16 ∨ j = 17 ∨ j = 18 := by omega
    all_goals (simp only [Nat.reduceAdd]; simp (disch := omega) only [kg_cpy_n, kg_cpy_s, kg_wr_n])
theorem kc22_62_1_l (hL : G.2.2.2.2.2.1 < 2 ^ 31) {M0 : kg_M} (hu : ∀ i, i < 4 → kg_01 (M0 3 i)) (hd : 3 ≤ d) (hK : ∀ M' : kg_M, (∀ p, (p < 64 ∨ 80 < p) → M' p = M0 p) → (∀ i, i < 4 → M' 64 i = M0 3 i) → (∀ j i, 4 ≤ j → j ≤ 7 → i < 40 → M' (62 + j) i = M0 (1 + j) i) → (∀ i, i < 16 → M' 70 i = M0 9 i) → M' 71 0 = M0 10 0 → (∀ j i, 10 ≤ j → j ≤ 12 → i < 10 → M' (62 + j) i = M0 (1 + j) i) → M' 75 0 = M0 14 0 → M' 75 1 = M0 14 1 → (∀ i, i < 4 → M' 76 i = M0 15 i) → (∀ j i, 15 ≤ j → j ≤ 18 → i < 10 → M' (62 + j) i = M0 (1 + j) i) → K none (kg_w0 h) M') : ∀ (z i : Nat) (M : kg_M), i + z = 4 → (∀ p, p ≠ 64 → M p = M0 p) → (∀ j, j < i → M 64 j = M0 3 j) → kg_P G d 22 3 125 125 K 32 [some (.ref 62), some (.ref 1), some (.int (nI i))] [] (kg_w0 h) M := by
  intro z
  induction z with
  | zero =>
    intro i M hi hf hc
    obtain rfl : i = 4 := by omega
    refine kg_v22 hL (by omega) 60 ?_
    simp (disch := omega) only [kg_S1, kg_S2, kg_br_T, kg_br_F, kg_br_N, kg_br_t, kg_br_f, kg_at_n, nI_add, pk_mul, kg_sub_n, kg_rem_n, kg_eq_n, kg_lt_n, kg_le_n, kg_nz, kg_01_0, kg_01_1, kg_w0_1, kg_ret0, kg_ret1, kg_ret2, kg_wr_n, kg_wr_s, kg_Skd, kg_Smc, kg_Sob, kg_Srf, kg_Sld, kg_pad, List.map_cons, List.map_nil, List.length_cons, List.length_nil, List.replicate, List.cons_append, List.nil_append, List.append_nil, Nat.reduceAdd, Nat.reduceSub, Nat.reduceMul, Nat.reduceMod, Nat.reduceDiv, Nat.reduceLT, Nat.reduceLeDiff, Nat.reduceEqDiff, ne_eq, not_true_eq_false, not_false_eq_true, reduceIte, true_and, and_true, kg_lk22, kg_ls22, kg_cp_n, kg_cpy_n]
    refine kc5_62_1 hL (by omega) ?_
    intro M1 a1 a2
    simp (disch := omega) only [kg_S1, kg_S2, kg_br_T, kg_br_F, kg_br_N, kg_br_t, kg_br_f, kg_at_n, nI_add, pk_mul, kg_sub_n, kg_rem_n, kg_eq_n, kg_lt_n, kg_le_n, kg_nz, kg_01_0, kg_01_1, kg_w0_1, kg_ret0, kg_ret1, kg_ret2, kg_wr_n, kg_wr_s, kg_Skd, kg_Smc, kg_Sob, kg_Srf, kg_Sld, kg_pad, List.map_cons, List.map_nil, List.length_cons, List.length_nil, List.replicate, List.cons_append, List.nil_append, List.append_nil, Nat.reduceAdd, Nat.reduceSub, Nat.reduceMul, Nat.reduceMod, Nat.reduceDiv, Nat.reduceLT, Nat.reduceLeDiff, Nat.reduceEqDiff, ne_eq, not_true_eq_false, not_false_eq_true, reduceIte, true_and, and_true, kg_lk22, kg_ls22, kg_cp_n, kg_cpy_n]
    refine kc12_62_1 hL (by omega) ?_
    intro M2 b1 b2 b3
    simp (disch := omega) only [kg_S1, kg_S2, kg_br_T, kg_br_F, kg_br_N, kg_br_t, kg_br_f, kg_at_n, nI_add, pk_mul, kg_sub_n, kg_rem_n, kg_eq_n, kg_lt_n, kg_le_n, kg_nz, kg_01_0, kg_01_1, kg_w0_1, kg_ret0, kg_ret1, kg_ret2, kg_wr_n, kg_wr_s, kg_Skd, kg_Smc, kg_Sob, kg_Srf, kg_Sld, kg_pad, List.map_cons, List.map_nil, List.length_cons, List.length_nil, List.replicate, List.cons_append, List.nil_append, List.append_nil, Nat.reduceAdd, Nat.reduceSub, Nat.reduceMul, Nat.reduceMod, Nat.reduceDiv, Nat.reduceLT, Nat.reduceLeDiff, Nat.reduceEqDiff, ne_eq, not_true_eq_false, not_false_eq_true, reduceIte, true_and, and_true, kg_lk22, kg_ls22, kg_cp_n, kg_cpy_n]
    refine kc1_62_1 hL (by omega) ?_
    intro M3 c1 c2 c3 c4 c5
    simp (disch := omega) only [kg_S1, kg_S2, kg_br_T, kg_br_F, kg_br_N, kg_br_t, kg_br_f, kg_at_n, nI_add, pk_mul, kg_sub_n, kg_rem_n, kg_eq_n, kg_lt_n, kg_le_n, kg_nz, kg_01_0, kg_01_1, kg_w0_1, kg_ret0, kg_ret1, kg_ret2, kg_wr_n, kg_wr_s, kg_Skd, kg_Smc, kg_Sob, kg_Srf, kg_Sld, kg_pad, List.map_cons, List.map_nil, List.length_cons, List.length_nil, List.replicate, List.cons_append, List.nil_append, List.append_nil, Nat.reduceAdd, Nat.reduceSub, Nat.reduceMul, Nat.reduceMod, Nat.reduceDiv, Nat.reduceLT, Nat.reduceLeDiff, Nat.reduceEqDiff, ne_eq, not_true_eq_false, not_false_eq_true, reduceIte, true_and, and_true, kg_lk22, kg_ls22, kg_cp_n, kg_cpy_n]
    have fr : ∀ p, (p < 75 ∨ 80 < p) → (p < 71 ∨ 74 < p) → p ≠ 70 → (p < 66 ∨ 69 < p) → p ≠ 64 → M3 p = M0 p := fun p h1 h2 h3 h4 h5 => by rw [c1 p h1, b1 p h2, kg_cpy_n h3, a1 p h4, hf p h5]
    have fr2 : ∀ p, (p < 71 ∨ 74 < p) → p ≠ 70 → (p < 66 ∨ 69 < p) → p ≠ 64 → M2 p = M0 p := fun p h2 h3 h4 h5 => by rw [b1 p h2, kg_cpy_n h3, a1 p h4, hf p h5]
    have fr1 : ∀ p, p ≠ 70 → (p < 66 ∨ 69 < p) → p ≠ 64 → kg_cpy M1 9 70 16 p = M0 p := fun p h3 h4 h5 => by rw [kg_cpy_n h3, a1 p h4, hf p h5]
    refine hK M3 (fun p hp => fr p (by omega) (by omega) (by omega) (by omega) (by omega)) ?_ ?_ ?_ ?_ ?_ ?_ ?_ ?_ ?_
    · intro i hi; rw [c1 _ (by omega), b1 _ (by omega), kg_cpy_n (by omega), a1 _ (by omega)]; exact hc i hi
    · intro j i h1 h2 hi; rw [c1 _ (by omega), b1 _ (by omega), kg_cpy_n (by omega), a2 j i h1 h2 hi, hf _ (by omega)]
    · intro i hi; rw [c1 _ (by omega), b1 _ (by omega), kg_cpy_s hi, a1 _ (by omega), hf _ (by omega)]
    · rw [c1 _ (by omega), b2, fr1 _ (by omega) (by omega) (by omega)]
    · intro j i h1 h2 hi; rw [c1 _ (by omega), b3 j i h1 h2 hi, fr1 _ (by omega) (by omega) (by omega)]
    · rw [c2, fr2 _ (by omega) (by omega) (by omega) (by omega)]
    · rw [c3, fr2 _ (by omega) (by omega) (by omega) (by omega)]
    · intro i hi; rw [c4 i hi, fr2 _ (by omega) (by omega) (by omega) (by omega)]
    · intro j i h1 h2 hi; rw [c5 j i h1 h2 hi, fr2 _ (by omega) (by omega) (by omega) (by omega)]
  | succ z ih =>
    intro i M hi hf hc
    have e1 : M 3 i = M0 3 i := by rw [hf _ (by omega)]
    have e2 := hu i (by omega)
    refine kg_v22 hL (by omega) 60 ?_
    simp (disch := omega) only [kg_S1, kg_S2, kg_br_T, kg_br_F, kg_br_N, kg_br_t, kg_br_f, kg_at_n, nI_add, pk_mul, kg_sub_n, kg_rem_n, kg_eq_n, kg_lt_n, kg_le_n, kg_nz, kg_01_0, kg_01_1, kg_w0_1, kg_ret0, kg_ret1, kg_ret2, kg_wr_n, kg_wr_s, kg_Skd, kg_Smc, kg_Sob, kg_Srf, kg_Sld, kg_pad, List.map_cons, List.map_nil, List.length_cons, List.length_nil, List.replicate, List.cons_append, List.nil_append, List.append_nil, Nat.reduceAdd, Nat.reduceSub, Nat.reduceMul, Nat.reduceMod, Nat.reduceDiv, Nat.reduceLT, Nat.reduceLeDiff, Nat.reduceEqDiff, ne_eq, not_true_eq_false, not_false_eq_true, reduceIte, true_and, and_true, kg_lk22, kg_ls22, kg_cp_n, kg_cpy_n, e1, e2]
    refine ih (i + 1) _ (by omega) (fun p hp => (kg_wr_n hp).trans (hf p hp)) (fun j hj => ?_)
    rw [kg_wr_s]
    by_cases e : j = i
    · rw [if_pos e, e]
    · rw [if_neg e]; exact hc j (by omega)
theorem kc22_62_1 (hL : G.2.2.2.2.2.1 < 2 ^ 31) (hR : kf_Rel c M 1 r) (hd : 4 ≤ d) (hK : ∀ M' : kg_M, (∀ p, (p < 62 ∨ 81 < p) → M' p = M p) → kf_Rel c M' 62 r → K none (kg_w0 h) M') : kg_call G d 125 22 [.ref 62, .ref 1] (kg_w0 h) M K := by
  obtain ⟨d, rfl⟩ : ∃ e, d = e + 1 := ⟨d - 1, by omega⟩
  refine kg_m22 (by simp) (Nat.le_refl _) (kg_v22 hL (by omega) 60 ?_)
  simp (disch := omega) only [kg_S1, kg_S2, kg_br_T, kg_br_F, kg_br_N, kg_br_t, kg_br_f, kg_at_n, nI_add, pk_mul, kg_sub_n, kg_rem_n, kg_eq_n, kg_lt_n, kg_le_n, kg_nz, kg_01_0, kg_01_1, kg_w0_1, kg_ret0, kg_ret1, kg_ret2, kg_wr_n, kg_wr_s, kg_Skd, kg_Smc, kg_Sob, kg_Srf, kg_Sld, kg_pad, List.map_cons, List.map_nil, List.length_cons, List.length_nil, List.replicate, List.cons_append, List.nil_append, List.append_nil, Nat.reduceAdd, Nat.reduceSub, Nat.reduceMul, Nat.reduceMod, Nat.reduceDiv, Nat.reduceLT, Nat.reduceLeDiff, Nat.reduceEqDiff, ne_eq, not_true_eq_false, not_false_eq_true, reduceIte, true_and, and_true, kg_lk22, kg_ls22, kg_cp_n, kg_cpy_n]
  have hu : ∀ i, i < 4 → kg_01 (M 3 i) := fun i hi => kf_upx hR hi
  have g1 : ∀ p, p ≠ 62 → p ≠ 63 → kg_cpy (kg_wr (kg_wr M 62 0 (M 1 0)) 62 1 (M 1 1)) 2 63 5 p = M p := fun p h1 h2 => by rw [kg_cpy_n h2, kg_wr_n h1, kg_wr_n h1]
  have g2 : kg_cpy (kg_wr (kg_wr M 62 0 (M 1 0)) 62 1 (M 1 1)) 2 63 5 62 0 = M 1 0 := by simp (disch := omega) only [kg_cpy_n, kg_wr_s, reduceIte, Nat.reduceEqDiff]
  have g3 : kg_cpy (kg_wr (kg_wr M 62 0 (M 1 0)) 62 1 (M 1 1)) 2 63 5 62 1 = M 1 1 := by simp (disch := omega) only [kg_cpy_n, kg_wr_s, reduceIte, Nat.reduceEqDiff]
  have g4 : ∀ i, i < 5 → kg_cpy (kg_wr (kg_wr M 62 0 (M 1 0)) 62 1 (M 1 1)) 2 63 5 63 i = M 2 i := fun i hi => by rw [kg_cpy_s hi, kg_wr_n (by omega), kg_wr_n (by omega)]
  generalize kg_cpy (kg_wr (kg_wr M 62 0 (M 1 0)) 62 1 (M 1 1)) 2 63 5 = M1 at g1 g2 g3 g4 ⊢
  refine kc22_62_1_l hL (M0 := M1) (fun i hi => by rw [g1 _ (by omega) (by omega)]; exact hu i hi) (by omega) ?_ 4 0 M1 rfl (fun _ _ => rfl) (fun j hj => by omega)
  intro M2 a0 a1 a2 a3 a4 a5 a6 a7 a8 a9
  refine hK M2 (fun p hp => by rw [a0 p (by omega), g1 p (by omega) (by omega)]) (kf_Rel_cp hR ⟨⟨?_, ?_⟩, ?_, ?_, ?_, ?_, ⟨?_, ?_⟩, ?_, ?_, ?_, ?_⟩)
  · rw [a0 _ (by omega), g2]
  · rw [a0 _ (by omega), g3]
  · intro i hi; rw [a0 _ (by omega)]; exact g4 i hi
  · intro i hi; rw [a1 i hi, g1 _ (by omega) (by omega)]
  · intro j i h1 h2 hi; rw [a2 j i h1 h2 hi, g1 _ (by omega) (by omega)]
  · intro i hi; rw [a3 i hi, g1 _ (by omega) (by omega)]
  · rw [a4, g1 _ (by omega) (by omega)]
  · intro j i h1 h2 hi; rw [a5 j i h1 h2 hi, g1 _ (by omega) (by omega)]
  · rw [a6, g1 _ (by omega) (by omega)]
  · rw [a7, g1 _ (by omega) (by omega)]
  · intro i hi; rw [a8 i hi, g1 _ (by omega) (by omega)]
  · intro j i h1 h2 hi; rw [a9 j i h1 h2 hi, g1 _ (by omega) (by omega)]

theorem kc5_82_1 (hL : G.2.2.2.2.2.1 < 2 ^ 31) (hd : 2 ≤ d) (hK : ∀ M' : kg_M, (∀ p, (p < 86 ∨ 89 < p) → M' p = M p) → (∀ j i, 4 ≤ j → j ≤ 7 → i < 40 → M' (82 + j) i = M (1 + j) i) → K none (kg_w0 h) M') : kg_call G d 125 5 [.ref 85, .ref 4] (kg_w0 h) M K := by
  obtain ⟨d, rfl⟩ : ∃ e, d = e + 1 := ⟨d - 1, by omega⟩
  refine kg_m5 (by simp) (Nat.le_refl _) (kg_v5 hL (by omega) 40 ?_)
  simp (disch := omega) only [kg_S1, kg_S2, kg_br_T, kg_br_F, kg_br_N, kg_br_t, kg_br_f, kg_at_n, nI_add, pk_mul, kg_sub_n, kg_rem_n, kg_eq_n, kg_lt_n, kg_le_n, kg_nz, kg_01_0, kg_01_1, kg_w0_1, kg_ret0, kg_ret1, kg_ret2, kg_wr_n, kg_wr_s, kg_Skd, kg_Smc, kg_Sob, kg_Srf, kg_Sld, kg_pad, List.map_cons, List.map_nil, List.length_cons, List.length_nil, List.replicate, List.cons_append, List.nil_append, List.append_nil, Nat.reduceAdd, Nat.reduceSub, Nat.reduceMul, Nat.reduceMod, Nat.reduceDiv, Nat.reduceLT, Nat.reduceLeDiff, Nat.reduceEqDiff, ne_eq, not_true_eq_false, not_false_eq_true, reduceIte, true_and, and_true, kg_lk5, kg_ls5, kg_cp_n, kg_cpy_n]
  refine hK _ (fun p hp => ?_) (fun j i h1 h2 hi => ?_)
  · simp (disch := omega) only [kg_cpy_n]
  · obtain rfl | rfl | rfl | rfl : j = 4 ∨ j = 5 ∨ j = 6 ∨ j = 7 := by omega
    all_goals (simp only [Nat.reduceAdd]; simp (disch := omega) only [kg_cpy_n, kg_cpy_s])
theorem kc12_82_1 (hL : G.2.2.2.2.2.1 < 2 ^ 31) (hd : 2 ≤ d) (hK : ∀ M' : kg_M, (∀ p, (p < 91 ∨ 94 < p) → M' p = M p) → M' 91 0 = M 10 0 → (∀ j i, 10 ≤ j → j ≤ 12 → i < 10 → M' (82 + j) i = M (1 + j) i) → K none (kg_w0 h) M') : kg_call G d 125 12 [.ref 91, .ref 10] (kg_w0 h) M K := by
  obtain ⟨d, rfl⟩ : ∃ e, d = e + 1 := ⟨d - 1, by omega⟩
  refine kg_m12 (by simp) (Nat.le_refl _) (kg_v12 hL (by omega) 40 ?_)
  simp (disch := omega) only [kg_S1, kg_S2, kg_br_T, kg_br_F, kg_br_N, kg_br_t, kg_br_f, kg_at_n, nI_add, pk_mul, kg_sub_n, kg_rem_n, kg_eq_n, kg_lt_n, kg_le_n, kg_nz, kg_01_0, kg_01_1, kg_w0_1, kg_ret0, kg_ret1, kg_ret2, kg_wr_n, kg_wr_s, kg_Skd, kg_Smc, kg_Sob, kg_Srf, kg_Sld, kg_pad, List.map_cons, List.map_nil, List.length_cons, List.length_nil, List.replicate, List.cons_append, List.nil_append, List.append_nil, Nat.reduceAdd, Nat.reduceSub, Nat.reduceMul, Nat.reduceMod, Nat.reduceDiv, Nat.reduceLT, Nat.reduceLeDiff, Nat.reduceEqDiff, ne_eq, not_true_eq_false, not_false_eq_true, reduceIte, true_and, and_true, kg_lk12, kg_ls12, kg_cp_n, kg_cpy_n]
  refine hK _ (fun p hp => ?_) ?_ (fun j i h1 h2 hi => ?_)
  · simp (disch := omega) only [kg_cpy_n, kg_wr_n]
  · simp (disch := omega) only [kg_cpy_n, kg_wr_s, reduceIte]
  · obtain rfl | rfl | rfl : j = 10 ∨ j = 11 ∨ j = 12 := by omega
    all_goals (simp only [Nat.reduceAdd]; simp (disch := omega) only [kg_cpy_n, kg_cpy_s, kg_wr_n])
set_option maxRecDepth 100000 in
theorem kc1_82_1 (hL : G.2.2.2.2.2.1 < 2 ^ 31) (hd : 2 ≤ d) (hK : ∀ M' : kg_M, (∀ p, (p < 95 ∨ 100 < p) → M' p = M p) → M' 95 0 = M 14 0 → M' 95 1 = M 14 1 → (∀ i, i < 4 → M' 96 i = M 15 i) → (∀ j i, 15 ≤ j → j ≤ 18 → i < 10 → M' (82 + j) i = M (1 + j) i) → K none (kg_w0 h) M') : kg_call G d 125 1 [.ref 95, .ref 14] (kg_w0 h) M K := by
  obtain ⟨d, rfl⟩ : ∃ e, d = e + 1 := ⟨d - 1, by omega⟩
  refine kg_m1 (by simp) (Nat.le_refl _) (kg_v1 hL (by omega) 60 ?_)
  simp (disch := omega) only [kg_S1, kg_S2, kg_br_T, kg_br_F, kg_br_N, kg_br_t, kg_br_f, kg_at_n, nI_add, pk_mul, kg_sub_n, kg_rem_n, kg_eq_n, kg_lt_n, kg_le_n, kg_nz, kg_01_0, kg_01_1, kg_w0_1, kg_ret0, kg_ret1, kg_ret2, kg_wr_n, kg_wr_s, kg_Skd, kg_Smc, kg_Sob, kg_Srf, kg_Sld, kg_pad, List.map_cons, List.map_nil, List.length_cons, List.length_nil, List.replicate, List.cons_append, List.nil_append, List.append_nil, Nat.reduceAdd, Nat.reduceSub, Nat.reduceMul, Nat.reduceMod, Nat.reduceDiv, Nat.reduceLT, Nat.reduceLeDiff, Nat.reduceEqDiff, ne_eq, not_true_eq_false, not_false_eq_true, reduceIte, true_and, and_true, kg_lk1, kg_ls1, kg_cp_n, kg_cpy_n]
  refine hK _ (fun p hp => ?_) ?_ ?_ (fun i hi => ?_) (fun j i h1 h2 hi => ?_)
  · simp (disch := omega) only [kg_cpy_n, kg_wr_n]
  · simp (disch := omega) only [kg_cpy_n, kg_wr_s, kg_wr_n, reduceIte, Nat.reduceEqDiff]
  · simp (disch := omega) only [kg_cpy_n, kg_wr_s, kg_wr_n, reduceIte, Nat.reduceEqDiff]
  · simp (disch := omega) only [kg_cpy_n, kg_cpy_s, kg_wr_n]
  · obtain rfl | rfl | rfl | rfl : j = 15 ∨ j = 16 ∨ j = 17 ∨ j = 18 := by omega
    all_goals (simp only [Nat.reduceAdd]; simp (disch := omega) only [kg_cpy_n, kg_cpy_s, kg_wr_n])
theorem kc22_82_1_l (hL : G.2.2.2.2.2.1 < 2 ^ 31) {M0 : kg_M} (hu : ∀ i, i < 4 → kg_01 (M0 3 i)) (hd : 3 ≤ d) (hK : ∀ M' : kg_M, (∀ p, (p < 84 ∨ 100 < p) → M' p = M0 p) → (∀ i, i < 4 → M' 84 i = M0 3 i) → (∀ j i, 4 ≤ j → j ≤ 7 → i < 40 → M' (82 + j) i = M0 (1 + j) i) → (∀ i, i < 16 → M' 90 i = M0 9 i) → M' 91 0 = M0 10 0 → (∀ j i, 10 ≤ j → j ≤ 12 → i < 10 → M' (82 + j) i = M0 (1 + j) i) → M' 95 0 = M0 14 0 → M' 95 1 = M0 14 1 → (∀ i, i < 4 → M' 96 i = M0 15 i) → (∀ j i, 15 ≤ j → j ≤ 18 → i < 10 → M' (82 + j) i = M0 (1 + j) i) → K none (kg_w0 h) M') : ∀ (z i : Nat) (M : kg_M), i + z = 4 → (∀ p, p ≠ 84 → M p = M0 p) → (∀ j, j < i → M 84 j = M0 3 j) → kg_P G d 22 3 125 125 K 32 [some (.ref 82), some (.ref 1), some (.int (nI i))] [] (kg_w0 h) M := by
  intro z
  induction z with
  | zero =>
    intro i M hi hf hc
    obtain rfl : i = 4 := by omega
    refine kg_v22 hL (by omega) 60 ?_
    simp (disch := omega) only [kg_S1, kg_S2, kg_br_T, kg_br_F, kg_br_N, kg_br_t, kg_br_f, kg_at_n, nI_add, pk_mul, kg_sub_n, kg_rem_n, kg_eq_n, kg_lt_n, kg_le_n, kg_nz, kg_01_0, kg_01_1, kg_w0_1, kg_ret0, kg_ret1, kg_ret2, kg_wr_n, kg_wr_s, kg_Skd, kg_Smc, kg_Sob, kg_Srf, kg_Sld, kg_pad, List.map_cons, List.map_nil, List.length_cons, List.length_nil, List.replicate, List.cons_append, List.nil_append, List.append_nil, Nat.reduceAdd, Nat.reduceSub, Nat.reduceMul, Nat.reduceMod, Nat.reduceDiv, Nat.reduceLT, Nat.reduceLeDiff, Nat.reduceEqDiff, ne_eq, not_true_eq_false, not_false_eq_true, reduceIte, true_and, and_true, kg_lk22, kg_ls22, kg_cp_n, kg_cpy_n]
    refine kc5_82_1 hL (by omega) ?_
    intro M1 a1 a2
    simp (disch := omega) only [kg_S1, kg_S2, kg_br_T, kg_br_F, kg_br_N, kg_br_t, kg_br_f, kg_at_n, nI_add, pk_mul, kg_sub_n, kg_rem_n, kg_eq_n, kg_lt_n, kg_le_n, kg_nz, kg_01_0, kg_01_1, kg_w0_1, kg_ret0, kg_ret1, kg_ret2, kg_wr_n, kg_wr_s, kg_Skd, kg_Smc, kg_Sob, kg_Srf, kg_Sld, kg_pad, List.map_cons, List.map_nil, List.length_cons, List.length_nil, List.replicate, List.cons_append, List.nil_append, List.append_nil, Nat.reduceAdd, Nat.reduceSub, Nat.reduceMul, Nat.reduceMod, Nat.reduceDiv, Nat.reduceLT, Nat.reduceLeDiff, Nat.reduceEqDiff, ne_eq, not_true_eq_false, not_false_eq_true, reduceIte, true_and, and_true, kg_lk22, kg_ls22, kg_cp_n, kg_cpy_n]
    refine kc12_82_1 hL (by omega) ?_
    intro M2 b1 b2 b3
    simp (disch := omega) only [kg_S1, kg_S2, kg_br_T, kg_br_F, kg_br_N, kg_br_t, kg_br_f, kg_at_n, nI_add, pk_mul, kg_sub_n, kg_rem_n, kg_eq_n, kg_lt_n, kg_le_n, kg_nz, kg_01_0, kg_01_1, kg_w0_1, kg_ret0, kg_ret1, kg_ret2, kg_wr_n, kg_wr_s, kg_Skd, kg_Smc, kg_Sob, kg_Srf, kg_Sld, kg_pad, List.map_cons, List.map_nil, List.length_cons, List.length_nil, List.replicate, List.cons_append, List.nil_append, List.append_nil, Nat.reduceAdd, Nat.reduceSub, Nat.reduceMul, Nat.reduceMod, Nat.reduceDiv, Nat.reduceLT, Nat.reduceLeDiff, Nat.reduceEqDiff, ne_eq, not_true_eq_false, not_false_eq_true, reduceIte, true_and, and_true, kg_lk22, kg_ls22, kg_cp_n, kg_cpy_n]
    refine kc1_82_1 hL (by omega) ?_
    intro M3 c1 c2 c3 c4 c5
    simp (disch := omega) only [kg_S1, kg_S2, kg_br_T, kg_br_F, kg_br_N, kg_br_t, kg_br_f, kg_at_n, nI_add, pk_mul, kg_sub_n, kg_rem_n, kg_eq_n, kg_lt_n, kg_le_n, kg_nz, kg_01_0, kg_01_1, kg_w0_1, kg_ret0, kg_ret1, kg_ret2, kg_wr_n, kg_wr_s, kg_Skd, kg_Smc, kg_Sob, kg_Srf, kg_Sld, kg_pad, List.map_cons, List.map_nil, List.length_cons, List.length_nil, List.replicate, List.cons_append, List.nil_append, List.append_nil, Nat.reduceAdd, Nat.reduceSub, Nat.reduceMul, Nat.reduceMod, Nat.reduceDiv, Nat.reduceLT, Nat.reduceLeDiff, Nat.reduceEqDiff, ne_eq, not_true_eq_false, not_false_eq_true, reduceIte, true_and, and_true, kg_lk22, kg_ls22, kg_cp_n, kg_cpy_n]
    have fr : ∀ p, (p < 95 ∨ 100 < p) → (p < 91 ∨ 94 < p) → p ≠ 90 → (p < 86 ∨ 89 < p) → p ≠ 84 → M3 p = M0 p := fun p h1 h2 h3 h4 h5 => by rw [c1 p h1, b1 p h2, kg_cpy_n h3, a1 p h4, hf p h5]
    have fr2 : ∀ p, (p < 91 ∨ 94 < p) → p ≠ 90 → (p < 86 ∨ 89 < p) → p ≠ 84 → M2 p = M0 p := fun p h2 h3 h4 h5 => by rw [b1 p h2, kg_cpy_n h3, a1 p h4, hf p h5]
    have fr1 : ∀ p, p ≠ 90 → (p < 86 ∨ 89 < p) → p ≠ 84 → kg_cpy M1 9 90 16 p = M0 p := fun p h3 h4 h5 => by rw [kg_cpy_n h3, a1 p h4, hf p h5]
    refine hK M3 (fun p hp => fr p (by omega) (by omega) (by omega) (by omega) (by omega)) ?_ ?_ ?_ ?_ ?_ ?_ ?_ ?_ ?_
    · intro i hi; rw [c1 _ (by omega), b1 _ (by omega), kg_cpy_n (by omega), a1 _ (by omega)]; exact hc i hi
    · intro j i h1 h2 hi; rw [c1 _ (by omega), b1 _ (by omega), kg_cpy_n (by omega), a2 j i h1 h2 hi, hf _ (by omega)]
    · intro i hi; rw [c1 _ (by omega), b1 _ (by omega), kg_cpy_s hi, a1 _ (by omega), hf _ (by omega)]
    · rw [c1 _ (by omega), b2, fr1 _ (by omega) (by omega) (by omega)]
    · intro j i h1 h2 hi; rw [c1 _ (by omega), b3 j i h1 h2 hi, fr1 _ (by omega) (by omega) (by omega)]
    · rw [c2, fr2 _ (by omega) (by omega) (by omega) (by omega)]
    · rw [c3, fr2 _ (by omega) (by omega) (by omega) (by omega)]
    · intro i hi; rw [c4 i hi, fr2 _ (by omega) (by omega) (by omega) (by omega)]
    · intro j i h1 h2 hi; rw [c5 j i h1 h2 hi, fr2 _ (by omega) (by omega) (by omega) (by omega)]
  | succ z ih =>
    intro i M hi hf hc
    have e1 : M 3 i = M0 3 i := by rw [hf _ (by omega)]
    have e2 := hu i (by omega)
    refine kg_v22 hL (by omega) 60 ?_
    simp (disch := omega) only [kg_S1, kg_S2, kg_br_T, kg_br_F, kg_br_N, kg_br_t, kg_br_f, kg_at_n, nI_add, pk_mul, kg_sub_n, kg_rem_n, kg_eq_n, kg_lt_n, kg_le_n, kg_nz, kg_01_0, kg_01_1, kg_w0_1, kg_ret0, kg_ret1, kg_ret2, kg_wr_n, kg_wr_s, kg_Skd, kg_Smc, kg_Sob, kg_Srf, kg_Sld, kg_pad, List.map_cons, List.map_nil, List.length_cons, List.length_nil, List.replicate, List.cons_append, List.nil_append, List.append_nil, Nat.reduceAdd, Nat.reduceSub, Nat.reduceMul, Nat.reduceMod, Nat.reduceDiv, Nat.reduceLT, Nat.reduceLeDiff, Nat.reduceEqDiff, ne_eq, not_true_eq_false, not_false_eq_true, reduceIte, true_and, and_true, kg_lk22, kg_ls22, kg_cp_n, kg_cpy_n, e1, e2]
    refine ih (i + 1) _ (by omega) (fun p hp => (kg_wr_n hp).trans (hf p hp)) (fun j hj => ?_)
    rw [kg_wr_s]
    by_cases e : j = i
    · rw [if_pos e, e]
    · rw [if_neg e]; exact hc j (by omega)
theorem kc22_82_1 (hL : G.2.2.2.2.2.1 < 2 ^ 31) (hR : kf_Rel c M 1 r) (hd : 4 ≤ d) (hK : ∀ M' : kg_M, (∀ p, (p < 82 ∨ 101 < p) → M' p = M p) → kf_Rel c M' 82 r → K none (kg_w0 h) M') : kg_call G d 125 22 [.ref 82, .ref 1] (kg_w0 h) M K := by
  obtain ⟨d, rfl⟩ : ∃ e, d = e + 1 := ⟨d - 1, by omega⟩
  refine kg_m22 (by simp) (Nat.le_refl _) (kg_v22 hL (by omega) 60 ?_)
  simp (disch := omega) only [kg_S1, kg_S2, kg_br_T, kg_br_F, kg_br_N, kg_br_t, kg_br_f, kg_at_n, nI_add, pk_mul, kg_sub_n, kg_rem_n, kg_eq_n, kg_lt_n, kg_le_n, kg_nz, kg_01_0, kg_01_1, kg_w0_1, kg_ret0, kg_ret1, kg_ret2, kg_wr_n, kg_wr_s, kg_Skd, kg_Smc, kg_Sob, kg_Srf, kg_Sld, kg_pad, List.map_cons, List.map_nil, List.length_cons, List.length_nil, List.replicate, List.cons_append, List.nil_append, List.append_nil, Nat.reduceAdd, Nat.reduceSub, Nat.reduceMul, Nat.reduceMod, Nat.reduceDiv, Nat.reduceLT, Nat.reduceLeDiff, Nat.reduceEqDiff, ne_eq, not_true_eq_false, not_false_eq_true, reduceIte, true_and, and_true, kg_lk22, kg_ls22, kg_cp_n, kg_cpy_n]
  have hu : ∀ i, i < 4 → kg_01 (M 3 i) := fun i hi => kf_upx hR hi
  have g1 : ∀ p, p ≠ 82 → p ≠ 83 → kg_cpy (kg_wr (kg_wr M 82 0 (M 1 0)) 82 1 (M 1 1)) 2 83 5 p = M p := fun p h1 h2 => by rw [kg_cpy_n h2, kg_wr_n h1, kg_wr_n h1]
  have g2 : kg_cpy (kg_wr (kg_wr M 82 0 (M 1 0)) 82 1 (M 1 1)) 2 83 5 82 0 = M 1 0 := by simp (disch := omega) only [kg_cpy_n, kg_wr_s, reduceIte, Nat.reduceEqDiff]
  have g3 : kg_cpy (kg_wr (kg_wr M 82 0 (M 1 0)) 82 1 (M 1 1)) 2 83 5 82 1 = M 1 1 := by simp (disch := omega) only [kg_cpy_n, kg_wr_s, reduceIte, Nat.reduceEqDiff]
  have g4 : ∀ i, i < 5 → kg_cpy (kg_wr (kg_wr M 82 0 (M 1 0)) 82 1 (M 1 1)) 2 83 5 83 i = M 2 i := fun i hi => by rw [kg_cpy_s hi, kg_wr_n (by omega), kg_wr_n (by omega)]
  generalize kg_cpy (kg_wr (kg_wr M 82 0 (M 1 0)) 82 1 (M 1 1)) 2 83 5 = M1 at g1 g2 g3 g4 ⊢
  refine kc22_82_1_l hL (M0 := M1) (fun i hi => by rw [g1 _ (by omega) (by omega)]; exact hu i hi) (by omega) ?_ 4 0 M1 rfl (fun _ _ => rfl) (fun j hj => by omega)
  intro M2 a0 a1 a2 a3 a4 a5 a6 a7 a8 a9
  refine hK M2 (fun p hp => by rw [a0 p (by omega), g1 p (by omega) (by omega)]) (kf_Rel_cp hR ⟨⟨?_, ?_⟩, ?_, ?_, ?_, ?_, ⟨?_, ?_⟩, ?_, ?_, ?_, ?_⟩)
  · rw [a0 _ (by omega), g2]
  · rw [a0 _ (by omega), g3]
  · intro i hi; rw [a0 _ (by omega)]; exact g4 i hi
  · intro i hi; rw [a1 i hi, g1 _ (by omega) (by omega)]
  · intro j i h1 h2 hi; rw [a2 j i h1 h2 hi, g1 _ (by omega) (by omega)]
  · intro i hi; rw [a3 i hi, g1 _ (by omega) (by omega)]
  · rw [a4, g1 _ (by omega) (by omega)]
  · intro j i h1 h2 hi; rw [a5 j i h1 h2 hi, g1 _ (by omega) (by omega)]
  · rw [a6, g1 _ (by omega) (by omega)]
  · rw [a7, g1 _ (by omega) (by omega)]
  · intro i hi; rw [a8 i hi, g1 _ (by omega) (by omega)]
  · intro j i h1 h2 hi; rw [a9 j i h1 h2 hi, g1 _ (by omega) (by omega)]

theorem kc5_1_22 (hL : G.2.2.2.2.2.1 < 2 ^ 31) (hd : 2 ≤ d) (hK : ∀ M' : kg_M, (∀ p, (p < 5 ∨ 8 < p) → M' p = M p) → (∀ j i, 4 ≤ j → j ≤ 7 → i < 40 → M' (1 + j) i = M (22 + j) i) → K none (kg_w0 h) M') : kg_call G d 125 5 [.ref 4, .ref 25] (kg_w0 h) M K := by
  obtain ⟨d, rfl⟩ : ∃ e, d = e + 1 := ⟨d - 1, by omega⟩
  refine kg_m5 (by simp) (Nat.le_refl _) (kg_v5 hL (by omega) 40 ?_)
  simp (disch := omega) only [kg_S1, kg_S2, kg_br_T, kg_br_F, kg_br_N, kg_br_t, kg_br_f, kg_at_n, nI_add, pk_mul, kg_sub_n, kg_rem_n, kg_eq_n, kg_lt_n, kg_le_n, kg_nz, kg_01_0, kg_01_1, kg_w0_1, kg_ret0, kg_ret1, kg_ret2, kg_wr_n, kg_wr_s, kg_Skd, kg_Smc, kg_Sob, kg_Srf, kg_Sld, kg_pad, List.map_cons, List.map_nil, List.length_cons, List.length_nil, List.replicate, List.cons_append, List.nil_append, List.append_nil, Nat.reduceAdd, Nat.reduceSub, Nat.reduceMul, Nat.reduceMod, Nat.reduceDiv, Nat.reduceLT, Nat.reduceLeDiff, Nat.reduceEqDiff, ne_eq, not_true_eq_false, not_false_eq_true, reduceIte, true_and, and_true, kg_lk5, kg_ls5, kg_cp_n, kg_cpy_n]
  refine hK _ (fun p hp => ?_) (fun j i h1 h2 hi => ?_)
  · simp (disch := omega) only [kg_cpy_n]
  · obtain rfl | rfl | rfl | rfl : j = 4 ∨ j = 5 ∨ j = 6 ∨ j = 7 := by omega
    all_goals (simp only [Nat.reduceAdd]; simp (disch := omega) only [kg_cpy_n, kg_cpy_s])
theorem kc12_1_22 (hL : G.2.2.2.2.2.1 < 2 ^ 31) (hd : 2 ≤ d) (hK : ∀ M' : kg_M, (∀ p, (p < 10 ∨ 13 < p) → M' p = M p) → M' 10 0 = M 31 0 → (∀ j i, 10 ≤ j → j ≤ 12 → i < 10 → M' (1 + j) i = M (22 + j) i) → K none (kg_w0 h) M') : kg_call G d 125 12 [.ref 10, .ref 31] (kg_w0 h) M K := by
  obtain ⟨d, rfl⟩ : ∃ e, d = e + 1 := ⟨d - 1, by omega⟩
  refine kg_m12 (by simp) (Nat.le_refl _) (kg_v12 hL (by omega) 40 ?_)
  simp (disch := omega) only [kg_S1, kg_S2, kg_br_T, kg_br_F, kg_br_N, kg_br_t, kg_br_f, kg_at_n, nI_add, pk_mul, kg_sub_n, kg_rem_n, kg_eq_n, kg_lt_n, kg_le_n, kg_nz, kg_01_0, kg_01_1, kg_w0_1, kg_ret0, kg_ret1, kg_ret2, kg_wr_n, kg_wr_s, kg_Skd, kg_Smc, kg_Sob, kg_Srf, kg_Sld, kg_pad, List.map_cons, List.map_nil, List.length_cons, List.length_nil, List.replicate, List.cons_append, List.nil_append, List.append_nil, Nat.reduceAdd, Nat.reduceSub, Nat.reduceMul, Nat.reduceMod, Nat.reduceDiv, Nat.reduceLT, Nat.reduceLeDiff, Nat.reduceEqDiff, ne_eq, not_true_eq_false, not_false_eq_true, reduceIte, true_and, and_true, kg_lk12, kg_ls12, kg_cp_n, kg_cpy_n]
  refine hK _ (fun p hp => ?_) ?_ (fun j i h1 h2 hi => ?_)
  · simp (disch := omega) only [kg_cpy_n, kg_wr_n]
  · simp (disch := omega) only [kg_cpy_n, kg_wr_s, reduceIte]
  · obtain rfl | rfl | rfl : j = 10 ∨ j = 11 ∨ j = 12 := by omega
    all_goals (simp only [Nat.reduceAdd]; simp (disch := omega) only [kg_cpy_n, kg_cpy_s, kg_wr_n])
set_option maxRecDepth 100000 in
theorem kc1_1_22 (hL : G.2.2.2.2.2.1 < 2 ^ 31) (hd : 2 ≤ d) (hK : ∀ M' : kg_M, (∀ p, (p < 14 ∨ 19 < p) → M' p = M p) → M' 14 0 = M 35 0 → M' 14 1 = M 35 1 → (∀ i, i < 4 → M' 15 i = M 36 i) → (∀ j i, 15 ≤ j → j ≤ 18 → i < 10 → M' (1 + j) i = M (22 + j) i) → K none (kg_w0 h) M') : kg_call G d 125 1 [.ref 14, .ref 35] (kg_w0 h) M K := by
  obtain ⟨d, rfl⟩ : ∃ e, d = e + 1 := ⟨d - 1, by omega⟩
  refine kg_m1 (by simp) (Nat.le_refl _) (kg_v1 hL (by omega) 60 ?_)
  simp (disch := omega) only [kg_S1, kg_S2, kg_br_T, kg_br_F, kg_br_N, kg_br_t, kg_br_f, kg_at_n, nI_add, pk_mul, kg_sub_n, kg_rem_n, kg_eq_n, kg_lt_n, kg_le_n, kg_nz, kg_01_0, kg_01_1, kg_w0_1, kg_ret0, kg_ret1, kg_ret2, kg_wr_n, kg_wr_s, kg_Skd, kg_Smc, kg_Sob, kg_Srf, kg_Sld, kg_pad, List.map_cons, List.map_nil, List.length_cons, List.length_nil, List.replicate, List.cons_append, List.nil_append, List.append_nil, Nat.reduceAdd, Nat.reduceSub, Nat.reduceMul, Nat.reduceMod, Nat.reduceDiv, Nat.reduceLT, Nat.reduceLeDiff, Nat.reduceEqDiff, ne_eq, not_true_eq_false, not_false_eq_true, reduceIte, true_and, and_true, kg_lk1, kg_ls1, kg_cp_n, kg_cpy_n]
  refine hK _ (fun p hp => ?_) ?_ ?_ (fun i hi => ?_) (fun j i h1 h2 hi => ?_)
  · simp (disch := omega) only [kg_cpy_n, kg_wr_n]
  · simp (disch := omega) only [kg_cpy_n, kg_wr_s, kg_wr_n, reduceIte, Nat.reduceEqDiff]
  · simp (disch := omega) only [kg_cpy_n, kg_wr_s, kg_wr_n, reduceIte, Nat.reduceEqDiff]
  · simp (disch := omega) only [kg_cpy_n, kg_cpy_s, kg_wr_n]
  · obtain rfl | rfl | rfl | rfl : j = 15 ∨ j = 16 ∨ j = 17 ∨ j = 18 := by omega
    all_goals (simp only [Nat.reduceAdd]; simp (disch := omega) only [kg_cpy_n, kg_cpy_s, kg_wr_n])
theorem kc22_1_22_l (hL : G.2.2.2.2.2.1 < 2 ^ 31) {M0 : kg_M} (hu : ∀ i, i < 4 → kg_01 (M0 24 i)) (hd : 3 ≤ d) (hK : ∀ M' : kg_M, (∀ p, (p < 3 ∨ 19 < p) → M' p = M0 p) → (∀ i, i < 4 → M' 3 i = M0 24 i) → (∀ j i, 4 ≤ j → j ≤ 7 → i < 40 → M' (1 + j) i = M0 (22 + j) i) → (∀ i, i < 16 → M' 9 i = M0 30 i) → M' 10 0 = M0 31 0 → (∀ j i, 10 ≤ j → j ≤ 12 → i < 10 → M' (1 + j) i = M0 (22 + j) i) → M' 14 0 = M0 35 0 → M' 14 1 = M0 35 1 → (∀ i, i < 4 → M' 15 i = M0 36 i) → (∀ j i, 15 ≤ j → j ≤ 18 → i < 10 → M' (1 + j) i = M0 (22 + j) i) → K none (kg_w0 h) M') : ∀ (z i : Nat) (M : kg_M), i + z = 4 → (∀ p, p ≠ 3 → M p = M0 p) → (∀ j, j < i → M 3 j = M0 24 j) → kg_P G d 22 3 125 125 K 32 [some (.ref 1), some (.ref 22), some (.int (nI i))] [] (kg_w0 h) M := by
  intro z
  induction z with
  | zero =>
    intro i M hi hf hc
    obtain rfl : i = 4 := by omega
    refine kg_v22 hL (by omega) 60 ?_
    simp (disch := omega) only [kg_S1, kg_S2, kg_br_T, kg_br_F, kg_br_N, kg_br_t, kg_br_f, kg_at_n, nI_add, pk_mul, kg_sub_n, kg_rem_n, kg_eq_n, kg_lt_n, kg_le_n, kg_nz, kg_01_0, kg_01_1, kg_w0_1, kg_ret0, kg_ret1, kg_ret2, kg_wr_n, kg_wr_s, kg_Skd, kg_Smc, kg_Sob, kg_Srf, kg_Sld, kg_pad, List.map_cons, List.map_nil, List.length_cons, List.length_nil, List.replicate, List.cons_append, List.nil_append, List.append_nil, Nat.reduceAdd, Nat.reduceSub, Nat.reduceMul, Nat.reduceMod, Nat.reduceDiv, Nat.reduceLT, Nat.reduceLeDiff, Nat.reduceEqDiff, ne_eq, not_true_eq_false, not_false_eq_true, reduceIte, true_and, and_true, kg_lk22, kg_ls22, kg_cp_n, kg_cpy_n]
    refine kc5_1_22 hL (by omega) ?_
    intro M1 a1 a2
    simp (disch := omega) only [kg_S1, kg_S2, kg_br_T, kg_br_F, kg_br_N, kg_br_t, kg_br_f, kg_at_n, nI_add, pk_mul, kg_sub_n, kg_rem_n, kg_eq_n, kg_lt_n, kg_le_n, kg_nz, kg_01_0, kg_01_1, kg_w0_1, kg_ret0, kg_ret1, kg_ret2, kg_wr_n, kg_wr_s, kg_Skd, kg_Smc, kg_Sob, kg_Srf, kg_Sld, kg_pad, List.map_cons, List.map_nil, List.length_cons, List.length_nil, List.replicate, List.cons_append, List.nil_append, List.append_nil, Nat.reduceAdd, Nat.reduceSub, Nat.reduceMul, Nat.reduceMod, Nat.reduceDiv, Nat.reduceLT, Nat.reduceLeDiff, Nat.reduceEqDiff, ne_eq, not_true_eq_false, not_false_eq_true, reduceIte, true_and, and_true, kg_lk22, kg_ls22, kg_cp_n, kg_cpy_n]
    refine kc12_1_22 hL (by omega) ?_
    intro M2 b1 b2 b3
    simp (disch := omega) only [kg_S1, kg_S2, kg_br_T, kg_br_F, kg_br_N, kg_br_t, kg_br_f, kg_at_n, nI_add, pk_mul, kg_sub_n, kg_rem_n, kg_eq_n, kg_lt_n, kg_le_n, kg_nz, kg_01_0, kg_01_1, kg_w0_1, kg_ret0, kg_ret1, kg_ret2, kg_wr_n, kg_wr_s, kg_Skd, kg_Smc, kg_Sob, kg_Srf, kg_Sld, kg_pad, List.map_cons, List.map_nil, List.length_cons, List.length_nil, List.replicate, List.cons_append, List.nil_append, List.append_nil, Nat.reduceAdd, Nat.reduceSub, Nat.reduceMul, Nat.reduceMod, Nat.reduceDiv, Nat.reduceLT, Nat.reduceLeDiff, Nat.reduceEqDiff, ne_eq, not_true_eq_false, not_false_eq_true, reduceIte, true_and, and_true, kg_lk22, kg_ls22, kg_cp_n, kg_cpy_n]
    refine kc1_1_22 hL (by omega) ?_
    intro M3 c1 c2 c3 c4 c5
    simp (disch := omega) only [kg_S1, kg_S2, kg_br_T, kg_br_F, kg_br_N, kg_br_t, kg_br_f, kg_at_n, nI_add, pk_mul, kg_sub_n, kg_rem_n, kg_eq_n, kg_lt_n, kg_le_n, kg_nz, kg_01_0, kg_01_1, kg_w0_1, kg_ret0, kg_ret1, kg_ret2, kg_wr_n, kg_wr_s, kg_Skd, kg_Smc, kg_Sob, kg_Srf, kg_Sld, kg_pad, List.map_cons, List.map_nil, List.length_cons, List.length_nil, List.replicate, List.cons_append, List.nil_append, List.append_nil, Nat.reduceAdd, Nat.reduceSub, Nat.reduceMul, Nat.reduceMod, Nat.reduceDiv, Nat.reduceLT, Nat.reduceLeDiff, Nat.reduceEqDiff, ne_eq, not_true_eq_false, not_false_eq_true, reduceIte, true_and, and_true, kg_lk22, kg_ls22, kg_cp_n, kg_cpy_n]
    have fr : ∀ p, (p < 14 ∨ 19 < p) → (p < 10 ∨ 13 < p) → p ≠ 9 → (p < 5 ∨ 8 < p) → p ≠ 3 → M3 p = M0 p := fun p h1 h2 h3 h4 h5 => by rw [c1 p h1, b1 p h2, kg_cpy_n h3, a1 p h4, hf p h5]
    have fr2 : ∀ p, (p < 10 ∨ 13 < p) → p ≠ 9 → (p < 5 ∨ 8 < p) → p ≠ 3 → M2 p = M0 p := fun p h2 h3 h4 h5 => by rw [b1 p h2, kg_cpy_n h3, a1 p h4, hf p h5]
    have fr1 : ∀ p, p ≠ 9 → (p < 5 ∨ 8 < p) → p ≠ 3 → kg_cpy M1 30 9 16 p = M0 p := fun p h3 h4 h5 => by rw [kg_cpy_n h3, a1 p h4, hf p h5]
    refine hK M3 (fun p hp => fr p (by omega) (by omega) (by omega) (by omega) (by omega)) ?_ ?_ ?_ ?_ ?_ ?_ ?_ ?_ ?_
    · intro i hi; rw [c1 _ (by omega), b1 _ (by omega), kg_cpy_n (by omega), a1 _ (by omega)]; exact hc i hi
    · intro j i h1 h2 hi; rw [c1 _ (by omega), b1 _ (by omega), kg_cpy_n (by omega), a2 j i h1 h2 hi, hf _ (by omega)]
    · intro i hi; rw [c1 _ (by omega), b1 _ (by omega), kg_cpy_s hi, a1 _ (by omega), hf _ (by omega)]
    · rw [c1 _ (by omega), b2, fr1 _ (by omega) (by omega) (by omega)]
    · intro j i h1 h2 hi; rw [c1 _ (by omega), b3 j i h1 h2 hi, fr1 _ (by omega) (by omega) (by omega)]
    · rw [c2, fr2 _ (by omega) (by omega) (by omega) (by omega)]
    · rw [c3, fr2 _ (by omega) (by omega) (by omega) (by omega)]
    · intro i hi; rw [c4 i hi, fr2 _ (by omega) (by omega) (by omega) (by omega)]
    · intro j i h1 h2 hi; rw [c5 j i h1 h2 hi, fr2 _ (by omega) (by omega) (by omega) (by omega)]
  | succ z ih =>
    intro i M hi hf hc
    have e1 : M 24 i = M0 24 i := by rw [hf _ (by omega)]
    have e2 := hu i (by omega)
    refine kg_v22 hL (by omega) 60 ?_
    simp (disch := omega) only [kg_S1, kg_S2, kg_br_T, kg_br_F, kg_br_N, kg_br_t, kg_br_f, kg_at_n, nI_add, pk_mul, kg_sub_n, kg_rem_n, kg_eq_n, kg_lt_n, kg_le_n, kg_nz, kg_01_0, kg_01_1, kg_w0_1, kg_ret0, kg_ret1, kg_ret2, kg_wr_n, kg_wr_s, kg_Skd, kg_Smc, kg_Sob, kg_Srf, kg_Sld, kg_pad, List.map_cons, List.map_nil, List.length_cons, List.length_nil, List.replicate, List.cons_append, List.nil_append, List.append_nil, Nat.reduceAdd, Nat.reduceSub, Nat.reduceMul, Nat.reduceMod, Nat.reduceDiv, Nat.reduceLT, Nat.reduceLeDiff, Nat.reduceEqDiff, ne_eq, not_true_eq_false, not_false_eq_true, reduceIte, true_and, and_true, kg_lk22, kg_ls22, kg_cp_n, kg_cpy_n, e1, e2]
    refine ih (i + 1) _ (by omega) (fun p hp => (kg_wr_n hp).trans (hf p hp)) (fun j hj => ?_)
    rw [kg_wr_s]
    by_cases e : j = i
    · rw [if_pos e, e]
    · rw [if_neg e]; exact hc j (by omega)
theorem kc22_1_22 (hL : G.2.2.2.2.2.1 < 2 ^ 31) (hR : kf_Rel c M 22 r) (hd : 4 ≤ d) (hK : ∀ M' : kg_M, (∀ p, (p < 1 ∨ 20 < p) → M' p = M p) → kf_Rel c M' 1 r → K none (kg_w0 h) M') : kg_call G d 125 22 [.ref 1, .ref 22] (kg_w0 h) M K := by
  obtain ⟨d, rfl⟩ : ∃ e, d = e + 1 := ⟨d - 1, by omega⟩
  refine kg_m22 (by simp) (Nat.le_refl _) (kg_v22 hL (by omega) 60 ?_)
  simp (disch := omega) only [kg_S1, kg_S2, kg_br_T, kg_br_F, kg_br_N, kg_br_t, kg_br_f, kg_at_n, nI_add, pk_mul, kg_sub_n, kg_rem_n, kg_eq_n, kg_lt_n, kg_le_n, kg_nz, kg_01_0, kg_01_1, kg_w0_1, kg_ret0, kg_ret1, kg_ret2, kg_wr_n, kg_wr_s, kg_Skd, kg_Smc, kg_Sob, kg_Srf, kg_Sld, kg_pad, List.map_cons, List.map_nil, List.length_cons, List.length_nil, List.replicate, List.cons_append, List.nil_append, List.append_nil, Nat.reduceAdd, Nat.reduceSub, Nat.reduceMul, Nat.reduceMod, Nat.reduceDiv, Nat.reduceLT, Nat.reduceLeDiff, Nat.reduceEqDiff, ne_eq, not_true_eq_false, not_false_eq_true, reduceIte, true_and, and_true, kg_lk22, kg_ls22, kg_cp_n, kg_cpy_n]
  have hu : ∀ i, i < 4 → kg_01 (M 24 i) := fun i hi => kf_upx hR hi
  have g1 : ∀ p, p ≠ 1 → p ≠ 2 → kg_cpy (kg_wr (kg_wr M 1 0 (M 22 0)) 1 1 (M 22 1)) 23 2 5 p = M p := fun p h1 h2 => by rw [kg_cpy_n h2, kg_wr_n h1, kg_wr_n h1]
  have g2 : kg_cpy (kg_wr (kg_wr M 1 0 (M 22 0)) 1 1 (M 22 1)) 23 2 5 1 0 = M 22 0 := by simp (disch := omega) only [kg_cpy_n, kg_wr_s, reduceIte, Nat.reduceEqDiff]
  have g3 : kg_cpy (kg_wr (kg_wr M 1 0 (M 22 0)) 1 1 (M 22 1)) 23 2 5 1 1 = M 22 1 := by simp (disch := omega) only [kg_cpy_n, kg_wr_s, reduceIte, Nat.reduceEqDiff]
  have g4 : ∀ i, i < 5 → kg_cpy (kg_wr (kg_wr M 1 0 (M 22 0)) 1 1 (M 22 1)) 23 2 5 2 i = M 23 i := fun i hi => by rw [kg_cpy_s hi, kg_wr_n (by omega), kg_wr_n (by omega)]
  generalize kg_cpy (kg_wr (kg_wr M 1 0 (M 22 0)) 1 1 (M 22 1)) 23 2 5 = M1 at g1 g2 g3 g4 ⊢
  refine kc22_1_22_l hL (M0 := M1) (fun i hi => by rw [g1 _ (by omega) (by omega)]; exact hu i hi) (by omega) ?_ 4 0 M1 rfl (fun _ _ => rfl) (fun j hj => by omega)
  intro M2 a0 a1 a2 a3 a4 a5 a6 a7 a8 a9
  refine hK M2 (fun p hp => by rw [a0 p (by omega), g1 p (by omega) (by omega)]) (kf_Rel_cp hR ⟨⟨?_, ?_⟩, ?_, ?_, ?_, ?_, ⟨?_, ?_⟩, ?_, ?_, ?_, ?_⟩)
  · rw [a0 _ (by omega), g2]
  · rw [a0 _ (by omega), g3]
  · intro i hi; rw [a0 _ (by omega)]; exact g4 i hi
  · intro i hi; rw [a1 i hi, g1 _ (by omega) (by omega)]
  · intro j i h1 h2 hi; rw [a2 j i h1 h2 hi, g1 _ (by omega) (by omega)]
  · intro i hi; rw [a3 i hi, g1 _ (by omega) (by omega)]
  · rw [a4, g1 _ (by omega) (by omega)]
  · intro j i h1 h2 hi; rw [a5 j i h1 h2 hi, g1 _ (by omega) (by omega)]
  · rw [a6, g1 _ (by omega) (by omega)]
  · rw [a7, g1 _ (by omega) (by omega)]
  · intro i hi; rw [a8 i hi, g1 _ (by omega) (by omega)]
  · intro j i h1 h2 hi; rw [a9 j i h1 h2 hi, g1 _ (by omega) (by omega)]

theorem kc5_1_42 (hL : G.2.2.2.2.2.1 < 2 ^ 31) (hd : 2 ≤ d) (hK : ∀ M' : kg_M, (∀ p, (p < 5 ∨ 8 < p) → M' p = M p) → (∀ j i, 4 ≤ j → j ≤ 7 → i < 40 → M' (1 + j) i = M (42 + j) i) → K none (kg_w0 h) M') : kg_call G d 125 5 [.ref 4, .ref 45] (kg_w0 h) M K := by
  obtain ⟨d, rfl⟩ : ∃ e, d = e + 1 := ⟨d - 1, by omega⟩
  refine kg_m5 (by simp) (Nat.le_refl _) (kg_v5 hL (by omega) 40 ?_)
  simp (disch := omega) only [kg_S1, kg_S2, kg_br_T, kg_br_F, kg_br_N, kg_br_t, kg_br_f, kg_at_n, nI_add, pk_mul, kg_sub_n, kg_rem_n, kg_eq_n, kg_lt_n, kg_le_n, kg_nz, kg_01_0, kg_01_1, kg_w0_1, kg_ret0, kg_ret1, kg_ret2, kg_wr_n, kg_wr_s, kg_Skd, kg_Smc, kg_Sob, kg_Srf, kg_Sld, kg_pad, List.map_cons, List.map_nil, List.length_cons, List.length_nil, List.replicate, List.cons_append, List.nil_append, List.append_nil, Nat.reduceAdd, Nat.reduceSub, Nat.reduceMul, Nat.reduceMod, Nat.reduceDiv, Nat.reduceLT, Nat.reduceLeDiff, Nat.reduceEqDiff, ne_eq, not_true_eq_false, not_false_eq_true, reduceIte, true_and, and_true, kg_lk5, kg_ls5, kg_cp_n, kg_cpy_n]
  refine hK _ (fun p hp => ?_) (fun j i h1 h2 hi => ?_)
  · simp (disch := omega) only [kg_cpy_n]
  · obtain rfl | rfl | rfl | rfl : j = 4 ∨ j = 5 ∨ j = 6 ∨ j = 7 := by omega
    all_goals (simp only [Nat.reduceAdd]; simp (disch := omega) only [kg_cpy_n, kg_cpy_s])
theorem kc12_1_42 (hL : G.2.2.2.2.2.1 < 2 ^ 31) (hd : 2 ≤ d) (hK : ∀ M' : kg_M, (∀ p, (p < 10 ∨ 13 < p) → M' p = M p) → M' 10 0 = M 51 0 → (∀ j i, 10 ≤ j → j ≤ 12 → i < 10 → M' (1 + j) i = M (42 + j) i) → K none (kg_w0 h) M') : kg_call G d 125 12 [.ref 10, .ref 51] (kg_w0 h) M K := by
  obtain ⟨d, rfl⟩ : ∃ e, d = e + 1 := ⟨d - 1, by omega⟩
  refine kg_m12 (by simp) (Nat.le_refl _) (kg_v12 hL (by omega) 40 ?_)
  simp (disch := omega) only [kg_S1, kg_S2, kg_br_T, kg_br_F, kg_br_N, kg_br_t, kg_br_f, kg_at_n, nI_add, pk_mul, kg_sub_n, kg_rem_n, kg_eq_n, kg_lt_n, kg_le_n, kg_nz, kg_01_0, kg_01_1, kg_w0_1, kg_ret0, kg_ret1, kg_ret2, kg_wr_n, kg_wr_s, kg_Skd, kg_Smc, kg_Sob, kg_Srf, kg_Sld, kg_pad, List.map_cons, List.map_nil, List.length_cons, List.length_nil, List.replicate, List.cons_append, List.nil_append, List.append_nil, Nat.reduceAdd, Nat.reduceSub, Nat.reduceMul, Nat.reduceMod, Nat.reduceDiv, Nat.reduceLT, Nat.reduceLeDiff, Nat.reduceEqDiff, ne_eq, not_true_eq_false, not_false_eq_true, reduceIte, true_and, and_true, kg_lk12, kg_ls12, kg_cp_n, kg_cpy_n]
  refine hK _ (fun p hp => ?_) ?_ (fun j i h1 h2 hi => ?_)
  · simp (disch := omega) only [kg_cpy_n, kg_wr_n]
  · simp (disch := omega) only [kg_cpy_n, kg_wr_s, reduceIte]
  · obtain rfl | rfl | rfl : j = 10 ∨ j = 11 ∨ j = 12 := by omega
    all_goals (simp only [Nat.reduceAdd]; simp (disch := omega) only [kg_cpy_n, kg_cpy_s, kg_wr_n])
set_option maxRecDepth 100000 in
theorem kc1_1_42 (hL : G.2.2.2.2.2.1 < 2 ^ 31) (hd : 2 ≤ d) (hK : ∀ M' : kg_M, (∀ p, (p < 14 ∨ 19 < p) → M' p = M p) → M' 14 0 = M 55 0 → M' 14 1 = M 55 1 → (∀ i, i < 4 → M' 15 i = M 56 i) → (∀ j i, 15 ≤ j → j ≤ 18 → i < 10 → M' (1 + j) i = M (42 + j) i) → K none (kg_w0 h) M') : kg_call G d 125 1 [.ref 14, .ref 55] (kg_w0 h) M K := by
  obtain ⟨d, rfl⟩ : ∃ e, d = e + 1 := ⟨d - 1, by omega⟩
  refine kg_m1 (by simp) (Nat.le_refl _) (kg_v1 hL (by omega) 60 ?_)
  simp (disch := omega) only [kg_S1, kg_S2, kg_br_T, kg_br_F, kg_br_N, kg_br_t, kg_br_f, kg_at_n, nI_add, pk_mul, kg_sub_n, kg_rem_n, kg_eq_n, kg_lt_n, kg_le_n, kg_nz, kg_01_0, kg_01_1, kg_w0_1, kg_ret0, kg_ret1, kg_ret2, kg_wr_n, kg_wr_s, kg_Skd, kg_Smc, kg_Sob, kg_Srf, kg_Sld, kg_pad, List.map_cons, List.map_nil, List.length_cons, List.length_nil, List.replicate, List.cons_append, List.nil_append, List.append_nil, Nat.reduceAdd, Nat.reduceSub, Nat.reduceMul, Nat.reduceMod, Nat.reduceDiv, Nat.reduceLT, Nat.reduceLeDiff, Nat.reduceEqDiff, ne_eq, not_true_eq_false, not_false_eq_true, reduceIte, true_and, and_true, kg_lk1, kg_ls1, kg_cp_n, kg_cpy_n]
  refine hK _ (fun p hp => ?_) ?_ ?_ (fun i hi => ?_) (fun j i h1 h2 hi => ?_)
  · simp (disch := omega) only [kg_cpy_n, kg_wr_n]
  · simp (disch := omega) only [kg_cpy_n, kg_wr_s, kg_wr_n, reduceIte, Nat.reduceEqDiff]
  · simp (disch := omega) only [kg_cpy_n, kg_wr_s, kg_wr_n, reduceIte, Nat.reduceEqDiff]
  · simp (disch := omega) only [kg_cpy_n, kg_cpy_s, kg_wr_n]
  · obtain rfl | rfl | rfl | rfl : j = 15 ∨ j = 16 ∨ j = 17 ∨ j = 18 := by omega
    all_goals (simp only [Nat.reduceAdd]; simp (disch := omega) only [kg_cpy_n, kg_cpy_s, kg_wr_n])
theorem kc22_1_42_l (hL : G.2.2.2.2.2.1 < 2 ^ 31) {M0 : kg_M} (hu : ∀ i, i < 4 → kg_01 (M0 44 i)) (hd : 3 ≤ d) (hK : ∀ M' : kg_M, (∀ p, (p < 3 ∨ 19 < p) → M' p = M0 p) → (∀ i, i < 4 → M' 3 i = M0 44 i) → (∀ j i, 4 ≤ j → j ≤ 7 → i < 40 → M' (1 + j) i = M0 (42 + j) i) → (∀ i, i < 16 → M' 9 i = M0 50 i) → M' 10 0 = M0 51 0 → (∀ j i, 10 ≤ j → j ≤ 12 → i < 10 → M' (1 + j) i = M0 (42 + j) i) → M' 14 0 = M0 55 0 → M' 14 1 = M0 55 1 → (∀ i, i < 4 → M' 15 i = M0 56 i) → (∀ j i, 15 ≤ j → j ≤ 18 → i < 10 → M' (1 + j) i = M0 (42 + j) i) → K none (kg_w0 h) M') : ∀ (z i : Nat) (M : kg_M), i + z = 4 → (∀ p, p ≠ 3 → M p = M0 p) → (∀ j, j < i → M 3 j = M0 44 j) → kg_P G d 22 3 125 125 K 32 [some (.ref 1), some (.ref 42), some (.int (nI i))] [] (kg_w0 h) M := by
  intro z
  induction z with
  | zero =>
    intro i M hi hf hc
    obtain rfl : i = 4 := by omega
    refine kg_v22 hL (by omega) 60 ?_
    simp (disch := omega) only [kg_S1, kg_S2, kg_br_T, kg_br_F, kg_br_N, kg_br_t, kg_br_f, kg_at_n, nI_add, pk_mul, kg_sub_n, kg_rem_n, kg_eq_n, kg_lt_n, kg_le_n, kg_nz, kg_01_0, kg_01_1, kg_w0_1, kg_ret0, kg_ret1, kg_ret2, kg_wr_n, kg_wr_s, kg_Skd, kg_Smc, kg_Sob, kg_Srf, kg_Sld, kg_pad, List.map_cons, List.map_nil, List.length_cons, List.length_nil, List.replicate, List.cons_append, List.nil_append, List.append_nil, Nat.reduceAdd, Nat.reduceSub, Nat.reduceMul, Nat.reduceMod, Nat.reduceDiv, Nat.reduceLT, Nat.reduceLeDiff, Nat.reduceEqDiff, ne_eq, not_true_eq_false, not_false_eq_true, reduceIte, true_and, and_true, kg_lk22, kg_ls22, kg_cp_n, kg_cpy_n]
    refine kc5_1_42 hL (by omega) ?_
    intro M1 a1 a2
    simp (disch := omega) only [kg_S1, kg_S2, kg_br_T, kg_br_F, kg_br_N, kg_br_t, kg_br_f, kg_at_n, nI_add, pk_mul, kg_sub_n, kg_rem_n, kg_eq_n, kg_lt_n, kg_le_n, kg_nz, kg_01_0, kg_01_1, kg_w0_1, kg_ret0, kg_ret1, kg_ret2, kg_wr_n, kg_wr_s, kg_Skd, kg_Smc, kg_Sob, kg_Srf, kg_Sld, kg_pad, List.map_cons, List.map_nil, List.length_cons, List.length_nil, List.replicate, List.cons_append, List.nil_append, List.append_nil, Nat.reduceAdd, Nat.reduceSub, Nat.reduceMul, Nat.reduceMod, Nat.reduceDiv, Nat.reduceLT, Nat.reduceLeDiff, Nat.reduceEqDiff, ne_eq, not_true_eq_false, not_false_eq_true, reduceIte, true_and, and_true, kg_lk22, kg_ls22, kg_cp_n, kg_cpy_n]
    refine kc12_1_42 hL (by omega) ?_
    intro M2 b1 b2 b3
    simp (disch := omega) only [kg_S1, kg_S2, kg_br_T, kg_br_F, kg_br_N, kg_br_t, kg_br_f, kg_at_n, nI_add, pk_mul, kg_sub_n, kg_rem_n, kg_eq_n, kg_lt_n, kg_le_n, kg_nz, kg_01_0, kg_01_1, kg_w0_1, kg_ret0, kg_ret1, kg_ret2, kg_wr_n, kg_wr_s, kg_Skd, kg_Smc, kg_Sob, kg_Srf, kg_Sld, kg_pad, List.map_cons, List.map_nil, List.length_cons, List.length_nil, List.replicate, List.cons_append, List.nil_append, List.append_nil, Nat.reduceAdd, Nat.reduceSub, Nat.reduceMul, Nat.reduceMod, Nat.reduceDiv, Nat.reduceLT, Nat.reduceLeDiff, Nat.reduceEqDiff, ne_eq, not_true_eq_false, not_false_eq_true, reduceIte, true_and, and_true, kg_lk22, kg_ls22, kg_cp_n, kg_cpy_n]
    refine kc1_1_42 hL (by omega) ?_
    intro M3 c1 c2 c3 c4 c5
    simp (disch := omega) only [kg_S1, kg_S2, kg_br_T, kg_br_F, kg_br_N, kg_br_t, kg_br_f, kg_at_n, nI_add, pk_mul, kg_sub_n, kg_rem_n, kg_eq_n, kg_lt_n, kg_le_n, kg_nz, kg_01_0, kg_01_1, kg_w0_1, kg_ret0, kg_ret1, kg_ret2, kg_wr_n, kg_wr_s, kg_Skd, kg_Smc, kg_Sob, kg_Srf, kg_Sld, kg_pad, List.map_cons, List.map_nil, List.length_cons, List.length_nil, List.replicate, List.cons_append, List.nil_append, List.append_nil, Nat.reduceAdd, Nat.reduceSub, Nat.reduceMul, Nat.reduceMod, Nat.reduceDiv, Nat.reduceLT, Nat.reduceLeDiff, Nat.reduceEqDiff, ne_eq, not_true_eq_false, not_false_eq_true, reduceIte, true_and, and_true, kg_lk22, kg_ls22, kg_cp_n, kg_cpy_n]
    have fr : ∀ p, (p < 14 ∨ 19 < p) → (p < 10 ∨ 13 < p) → p ≠ 9 → (p < 5 ∨ 8 < p) → p ≠ 3 → M3 p = M0 p := fun p h1 h2 h3 h4 h5 => by rw [c1 p h1, b1 p h2, kg_cpy_n h3, a1 p h4, hf p h5]
    have fr2 : ∀ p, (p < 10 ∨ 13 < p) → p ≠ 9 → (p < 5 ∨ 8 < p) → p ≠ 3 → M2 p = M0 p := fun p h2 h3 h4 h5 => by rw [b1 p h2, kg_cpy_n h3, a1 p h4, hf p h5]
    have fr1 : ∀ p, p ≠ 9 → (p < 5 ∨ 8 < p) → p ≠ 3 → kg_cpy M1 50 9 16 p = M0 p := fun p h3 h4 h5 => by rw [kg_cpy_n h3, a1 p h4, hf p h5]
    refine hK M3 (fun p hp => fr p (by omega) (by omega) (by omega) (by omega) (by omega)) ?_ ?_ ?_ ?_ ?_ ?_ ?_ ?_ ?_
    · intro i hi; rw [c1 _ (by omega), b1 _ (by omega), kg_cpy_n (by omega), a1 _ (by omega)]; exact hc i hi
    · intro j i h1 h2 hi; rw [c1 _ (by omega), b1 _ (by omega), kg_cpy_n (by omega), a2 j i h1 h2 hi, hf _ (by omega)]
    · intro i hi; rw [c1 _ (by omega), b1 _ (by omega), kg_cpy_s hi, a1 _ (by omega), hf _ (by omega)]
    · rw [c1 _ (by omega), b2, fr1 _ (by omega) (by omega) (by omega)]
    · intro j i h1 h2 hi; rw [c1 _ (by omega), b3 j i h1 h2 hi, fr1 _ (by omega) (by omega) (by omega)]
    · rw [c2, fr2 _ (by omega) (by omega) (by omega) (by omega)]
    · rw [c3, fr2 _ (by omega) (by omega) (by omega) (by omega)]
    · intro i hi; rw [c4 i hi, fr2 _ (by omega) (by omega) (by omega) (by omega)]
    · intro j i h1 h2 hi; rw [c5 j i h1 h2 hi, fr2 _ (by omega) (by omega) (by omega) (by omega)]
  | succ z ih =>
    intro i M hi hf hc
    have e1 : M 44 i = M0 44 i := by rw [hf _ (by omega)]
    have e2 := hu i (by omega)
    refine kg_v22 hL (by omega) 60 ?_
    simp (disch := omega) only [kg_S1, kg_S2, kg_br_T, kg_br_F, kg_br_N, kg_br_t, kg_br_f, kg_at_n, nI_add, pk_mul, kg_sub_n, kg_rem_n, kg_eq_n, kg_lt_n, kg_le_n, kg_nz, kg_01_0, kg_01_1, kg_w0_1, kg_ret0, kg_ret1, kg_ret2, kg_wr_n, kg_wr_s, kg_Skd, kg_Smc, kg_Sob, kg_Srf, kg_Sld, kg_pad, List.map_cons, List.map_nil, List.length_cons, List.length_nil, List.replicate, List.cons_append, List.nil_append, List.append_nil, Nat.reduceAdd, Nat.reduceSub, Nat.reduceMul, Nat.reduceMod, Nat.reduceDiv, Nat.reduceLT, Nat.reduceLeDiff, Nat.reduceEqDiff, ne_eq, not_true_eq_false, not_false_eq_true, reduceIte, true_and, and_true, kg_lk22, kg_ls22, kg_cp_n, kg_cpy_n, e1, e2]
    refine ih (i + 1) _ (by omega) (fun p hp => (kg_wr_n hp).trans (hf p hp)) (fun j hj => ?_)
    rw [kg_wr_s]
    by_cases e : j = i
    · rw [if_pos e, e]
    · rw [if_neg e]; exact hc j (by omega)
theorem kc22_1_42 (hL : G.2.2.2.2.2.1 < 2 ^ 31) (hR : kf_Rel c M 42 r) (hd : 4 ≤ d) (hK : ∀ M' : kg_M, (∀ p, (p < 1 ∨ 20 < p) → M' p = M p) → kf_Rel c M' 1 r → K none (kg_w0 h) M') : kg_call G d 125 22 [.ref 1, .ref 42] (kg_w0 h) M K := by
  obtain ⟨d, rfl⟩ : ∃ e, d = e + 1 := ⟨d - 1, by omega⟩
  refine kg_m22 (by simp) (Nat.le_refl _) (kg_v22 hL (by omega) 60 ?_)
  simp (disch := omega) only [kg_S1, kg_S2, kg_br_T, kg_br_F, kg_br_N, kg_br_t, kg_br_f, kg_at_n, nI_add, pk_mul, kg_sub_n, kg_rem_n, kg_eq_n, kg_lt_n, kg_le_n, kg_nz, kg_01_0, kg_01_1, kg_w0_1, kg_ret0, kg_ret1, kg_ret2, kg_wr_n, kg_wr_s, kg_Skd, kg_Smc, kg_Sob, kg_Srf, kg_Sld, kg_pad, List.map_cons, List.map_nil, List.length_cons, List.length_nil, List.replicate, List.cons_append, List.nil_append, List.append_nil, Nat.reduceAdd, Nat.reduceSub, Nat.reduceMul, Nat.reduceMod, Nat.reduceDiv, Nat.reduceLT, Nat.reduceLeDiff, Nat.reduceEqDiff, ne_eq, not_true_eq_false, not_false_eq_true, reduceIte, true_and, and_true, kg_lk22, kg_ls22, kg_cp_n, kg_cpy_n]
  have hu : ∀ i, i < 4 → kg_01 (M 44 i) := fun i hi => kf_upx hR hi
  have g1 : ∀ p, p ≠ 1 → p ≠ 2 → kg_cpy (kg_wr (kg_wr M 1 0 (M 42 0)) 1 1 (M 42 1)) 43 2 5 p = M p := fun p h1 h2 => by rw [kg_cpy_n h2, kg_wr_n h1, kg_wr_n h1]
  have g2 : kg_cpy (kg_wr (kg_wr M 1 0 (M 42 0)) 1 1 (M 42 1)) 43 2 5 1 0 = M 42 0 := by simp (disch := omega) only [kg_cpy_n, kg_wr_s, reduceIte, Nat.reduceEqDiff]
  have g3 : kg_cpy (kg_wr (kg_wr M 1 0 (M 42 0)) 1 1 (M 42 1)) 43 2 5 1 1 = M 42 1 := by simp (disch := omega) only [kg_cpy_n, kg_wr_s, reduceIte, Nat.reduceEqDiff]
  have g4 : ∀ i, i < 5 → kg_cpy (kg_wr (kg_wr M 1 0 (M 42 0)) 1 1 (M 42 1)) 43 2 5 2 i = M 43 i := fun i hi => by rw [kg_cpy_s hi, kg_wr_n (by omega), kg_wr_n (by omega)]
  generalize kg_cpy (kg_wr (kg_wr M 1 0 (M 42 0)) 1 1 (M 42 1)) 43 2 5 = M1 at g1 g2 g3 g4 ⊢
  refine kc22_1_42_l hL (M0 := M1) (fun i hi => by rw [g1 _ (by omega) (by omega)]; exact hu i hi) (by omega) ?_ 4 0 M1 rfl (fun _ _ => rfl) (fun j hj => by omega)
  intro M2 a0 a1 a2 a3 a4 a5 a6 a7 a8 a9
  refine hK M2 (fun p hp => by rw [a0 p (by omega), g1 p (by omega) (by omega)]) (kf_Rel_cp hR ⟨⟨?_, ?_⟩, ?_, ?_, ?_, ?_, ⟨?_, ?_⟩, ?_, ?_, ?_, ?_⟩)
  · rw [a0 _ (by omega), g2]
  · rw [a0 _ (by omega), g3]
  · intro i hi; rw [a0 _ (by omega)]; exact g4 i hi
  · intro i hi; rw [a1 i hi, g1 _ (by omega) (by omega)]
  · intro j i h1 h2 hi; rw [a2 j i h1 h2 hi, g1 _ (by omega) (by omega)]
  · intro i hi; rw [a3 i hi, g1 _ (by omega) (by omega)]
  · rw [a4, g1 _ (by omega) (by omega)]
  · intro j i h1 h2 hi; rw [a5 j i h1 h2 hi, g1 _ (by omega) (by omega)]
  · rw [a6, g1 _ (by omega) (by omega)]
  · rw [a7, g1 _ (by omega) (by omega)]
  · intro i hi; rw [a8 i hi, g1 _ (by omega) (by omega)]
  · intro j i h1 h2 hi; rw [a9 j i h1 h2 hi, g1 _ (by omega) (by omega)]

theorem kc5_1_62 (hL : G.2.2.2.2.2.1 < 2 ^ 31) (hd : 2 ≤ d) (hK : ∀ M' : kg_M, (∀ p, (p < 5 ∨ 8 < p) → M' p = M p) → (∀ j i, 4 ≤ j → j ≤ 7 → i < 40 → M' (1 + j) i = M (62 + j) i) → K none (kg_w0 h) M') : kg_call G d 125 5 [.ref 4, .ref 65] (kg_w0 h) M K := by
  obtain ⟨d, rfl⟩ : ∃ e, d = e + 1 := ⟨d - 1, by omega⟩
  refine kg_m5 (by simp) (Nat.le_refl _) (kg_v5 hL (by omega) 40 ?_)
  simp (disch := omega) only [kg_S1, kg_S2, kg_br_T, kg_br_F, kg_br_N, kg_br_t, kg_br_f, kg_at_n, nI_add, pk_mul, kg_sub_n, kg_rem_n, kg_eq_n, kg_lt_n, kg_le_n, kg_nz, kg_01_0, kg_01_1, kg_w0_1, kg_ret0, kg_ret1, kg_ret2, kg_wr_n, kg_wr_s, kg_Skd, kg_Smc, kg_Sob, kg_Srf, kg_Sld, kg_pad, List.map_cons, List.map_nil, List.length_cons, List.length_nil, List.replicate, List.cons_append, List.nil_append, List.append_nil, Nat.reduceAdd, Nat.reduceSub, Nat.reduceMul, Nat.reduceMod, Nat.reduceDiv, Nat.reduceLT, Nat.reduceLeDiff, Nat.reduceEqDiff, ne_eq, not_true_eq_false, not_false_eq_true, reduceIte, true_and, and_true, kg_lk5, kg_ls5, kg_cp_n, kg_cpy_n]
  refine hK _ (fun p hp => ?_) (fun j i h1 h2 hi => ?_)
  · simp (disch := omega) only [kg_cpy_n]
  · obtain rfl | rfl | rfl | rfl : j = 4 ∨ j = 5 ∨ j = 6 ∨ j = 7 := by omega
    all_goals (simp only [Nat.reduceAdd]; simp (disch := omega) only [kg_cpy_n, kg_cpy_s])
theorem kc12_1_62 (hL : G.2.2.2.2.2.1 < 2 ^ 31) (hd : 2 ≤ d) (hK : ∀ M' : kg_M, (∀ p, (p < 10 ∨ 13 < p) → M' p = M p) → M' 10 0 = M 71 0 → (∀ j i, 10 ≤ j → j ≤ 12 → i < 10 → M' (1 + j) i = M (62 + j) i) → K none (kg_w0 h) M') : kg_call G d 125 12 [.ref 10, .ref 71] (kg_w0 h) M K := by
  obtain ⟨d, rfl⟩ : ∃ e, d = e + 1 := ⟨d - 1, by omega⟩
  refine kg_m12 (by simp) (Nat.le_refl _) (kg_v12 hL (by omega) 40 ?_)
  simp (disch := omega) only [kg_S1, kg_S2, kg_br_T, kg_br_F, kg_br_N, kg_br_t, kg_br_f, kg_at_n, nI_add, pk_mul, kg_sub_n, kg_rem_n, kg_eq_n, kg_lt_n, kg_le_n, kg_nz, kg_01_0, kg_01_1, kg_w0_1, kg_ret0, kg_ret1, kg_ret2, kg_wr_n, kg_wr_s, kg_Skd, kg_Smc, kg_Sob, kg_Srf, kg_Sld, kg_pad, List.map_cons, List.map_nil, List.length_cons, List.length_nil, List.replicate, List.cons_append, List.nil_append, List.append_nil, Nat.reduceAdd, Nat.reduceSub, Nat.reduceMul, Nat.reduceMod, Nat.reduceDiv, Nat.reduceLT, Nat.reduceLeDiff, Nat.reduceEqDiff, ne_eq, not_true_eq_false, not_false_eq_true, reduceIte, true_and, and_true, kg_lk12, kg_ls12, kg_cp_n, kg_cpy_n]
  refine hK _ (fun p hp => ?_) ?_ (fun j i h1 h2 hi => ?_)
  · simp (disch := omega) only [kg_cpy_n, kg_wr_n]
  · simp (disch := omega) only [kg_cpy_n, kg_wr_s, reduceIte]
  · obtain rfl | rfl | rfl : j = 10 ∨ j = 11 ∨ j = 12 := by omega
    all_goals (simp only [Nat.reduceAdd]; simp (disch := omega) only [kg_cpy_n, kg_cpy_s, kg_wr_n])
set_option maxRecDepth 100000 in
theorem kc1_1_62 (hL : G.2.2.2.2.2.1 < 2 ^ 31) (hd : 2 ≤ d) (hK : ∀ M' : kg_M, (∀ p, (p < 14 ∨ 19 < p) → M' p = M p) → M' 14 0 = M 75 0 → M' 14 1 = M 75 1 → (∀ i, i < 4 → M' 15 i = M 76 i) → (∀ j i, 15 ≤ j → j ≤ 18 → i < 10 → M' (1 + j) i = M (62 + j) i) → K none (kg_w0 h) M') : kg_call G d 125 1 [.ref 14, .ref 75] (kg_w0 h) M K := by
  obtain ⟨d, rfl⟩ : ∃ e, d = e + 1 := ⟨d - 1, by omega⟩
  refine kg_m1 (by simp) (Nat.le_refl _) (kg_v1 hL (by omega) 60 ?_)
  simp (disch := omega) only [kg_S1, kg_S2, kg_br_T, kg_br_F, kg_br_N, kg_br_t, kg_br_f, kg_at_n, nI_add, pk_mul, kg_sub_n, kg_rem_n, kg_eq_n, kg_lt_n, kg_le_n, kg_nz, kg_01_0, kg_01_1, kg_w0_1, kg_ret0, kg_ret1, kg_ret2, kg_wr_n, kg_wr_s, kg_Skd, kg_Smc, kg_Sob, kg_Srf, kg_Sld, kg_pad, List.map_cons, List.map_nil, List.length_cons, List.length_nil, List.replicate, List.cons_append, List.nil_append, List.append_nil, Nat.reduceAdd, Nat.reduceSub, Nat.reduceMul, Nat.reduceMod, Nat.reduceDiv, Nat.reduceLT, Nat.reduceLeDiff, Nat.reduceEqDiff, ne_eq, not_true_eq_false, not_false_eq_true, reduceIte, true_and, and_true, kg_lk1, kg_ls1, kg_cp_n, kg_cpy_n]
  refine hK _ (fun p hp => ?_) ?_ ?_ (fun i hi => ?_) (fun j i h1 h2 hi => ?_)
  · simp (disch := omega) only [kg_cpy_n, kg_wr_n]
  · simp (disch := omega) only [kg_cpy_n, kg_wr_s, kg_wr_n, reduceIte, Nat.reduceEqDiff]
  · simp (disch := omega) only [kg_cpy_n, kg_wr_s, kg_wr_n, reduceIte, Nat.reduceEqDiff]
  · simp (disch := omega) only [kg_cpy_n, kg_cpy_s, kg_wr_n]
  · obtain rfl | rfl | rfl | rfl : j = 15 ∨ j = 16 ∨ j = 17 ∨ j = 18 := by omega
    all_goals (simp only [Nat.reduceAdd]; simp (disch := omega) only [kg_cpy_n, kg_cpy_s, kg_wr_n])
theorem kc22_1_62_l (hL : G.2.2.2.2.2.1 < 2 ^ 31) {M0 : kg_M} (hu : ∀ i, i < 4 → kg_01 (M0 64 i)) (hd : 3 ≤ d) (hK : ∀ M' : kg_M, (∀ p, (p < 3 ∨ 19 < p) → M' p = M0 p) → (∀ i, i < 4 → M' 3 i = M0 64 i) → (∀ j i, 4 ≤ j → j ≤ 7 → i < 40 → M' (1 + j) i = M0 (62 + j) i) → (∀ i, i < 16 → M' 9 i = M0 70 i) → M' 10 0 = M0 71 0 → (∀ j i, 10 ≤ j → j ≤ 12 → i < 10 → M' (1 + j) i = M0 (62 + j) i) → M' 14 0 = M0 75 0 → M' 14 1 = M0 75 1 → (∀ i, i < 4 → M' 15 i = M0 76 i) → (∀ j i, 15 ≤ j → j ≤ 18 → i < 10 → M' (1 + j) i = M0 (62 + j) i) → K none (kg_w0 h) M') : ∀ (z i : Nat) (M : kg_M), i + z = 4 → (∀ p, p ≠ 3 → M p = M0 p) → (∀ j, j < i → M 3 j = M0 64 j) → kg_P G d 22 3 125 125 K 32 [some (.ref 1), some (.ref 62), some (.int (nI i))] [] (kg_w0 h) M := by
  intro z
  induction z with
  | zero =>
    intro i M hi hf hc
    obtain rfl : i = 4 := by omega
    refine kg_v22 hL (by omega) 60 ?_
    simp (disch := omega) only [kg_S1, kg_S2, kg_br_T, kg_br_F, kg_br_N, kg_br_t, kg_br_f, kg_at_n, nI_add, pk_mul, kg_sub_n, kg_rem_n, kg_eq_n, kg_lt_n, kg_le_n, kg_nz, kg_01_0, kg_01_1, kg_w0_1, kg_ret0, kg_ret1, kg_ret2, kg_wr_n, kg_wr_s, kg_Skd, kg_Smc, kg_Sob, kg_Srf, kg_Sld, kg_pad, List.map_cons, List.map_nil, List.length_cons, List.length_nil, List.replicate, List.cons_append, List.nil_append, List.append_nil, Nat.reduceAdd, Nat.reduceSub, Nat.reduceMul, Nat.reduceMod, Nat.reduceDiv, Nat.reduceLT, Nat.reduceLeDiff, Nat.reduceEqDiff, ne_eq, not_true_eq_false, not_false_eq_true, reduceIte, true_and, and_true, kg_lk22, kg_ls22, kg_cp_n, kg_cpy_n]
    refine kc5_1_62 hL (by omega) ?_
    intro M1 a1 a2
    simp (disch := omega) only [kg_S1, kg_S2, kg_br_T, kg_br_F, kg_br_N, kg_br_t, kg_br_f, kg_at_n, nI_add, pk_mul, kg_sub_n, kg_rem_n, kg_eq_n, kg_lt_n, kg_le_n, kg_nz, kg_01_0, kg_01_1, kg_w0_1, kg_ret0, kg_ret1, kg_ret2, kg_wr_n, kg_wr_s, kg_Skd, kg_Smc, kg_Sob, kg_Srf, kg_Sld, kg_pad, List.map_cons, List.map_nil, List.length_cons, List.length_nil, List.replicate, List.cons_append, List.nil_append, List.append_nil, Nat.reduceAdd, Nat.reduceSub, Nat.reduceMul, Nat.reduceMod, Nat.reduceDiv, Nat.reduceLT, Nat.reduceLeDiff, Nat.reduceEqDiff, ne_eq, not_true_eq_false, not_false_eq_true, reduceIte, true_and, and_true, kg_lk22, kg_ls22, kg_cp_n, kg_cpy_n]
    refine kc12_1_62 hL (by omega) ?_
    intro M2 b1 b2 b3
    simp (disch := omega) only [kg_S1, kg_S2, kg_br_T, kg_br_F, kg_br_N, kg_br_t, kg_br_f, kg_at_n, nI_add, pk_mul, kg_sub_n, kg_rem_n, kg_eq_n, kg_lt_n, kg_le_n, kg_nz, kg_01_0, kg_01_1, kg_w0_1, kg_ret0, kg_ret1, kg_ret2, kg_wr_n, kg_wr_s, kg_Skd, kg_Smc, kg_Sob, kg_Srf, kg_Sld, kg_pad, List.map_cons, List.map_nil, List.length_cons, List.length_nil, List.replicate, List.cons_append, List.nil_append, List.append_nil, Nat.reduceAdd, Nat.reduceSub, Nat.reduceMul, Nat.reduceMod, Nat.reduceDiv, Nat.reduceLT, Nat.reduceLeDiff, Nat.reduceEqDiff, ne_eq, not_true_eq_false, not_false_eq_true, reduceIte, true_and, and_true, kg_lk22, kg_ls22, kg_cp_n, kg_cpy_n]
    refine kc1_1_62 hL (by omega) ?_
    intro M3 c1 c2 c3 c4 c5
    simp (disch := omega) only [kg_S1, kg_S2, kg_br_T, kg_br_F, kg_br_N, kg_br_t, kg_br_f, kg_at_n, nI_add, pk_mul, kg_sub_n, kg_rem_n, kg_eq_n, kg_lt_n, kg_le_n, kg_nz, kg_01_0, kg_01_1, kg_w0_1, kg_ret0, kg_ret1, kg_ret2, kg_wr_n, kg_wr_s, kg_Skd, kg_Smc, kg_Sob, kg_Srf, kg_Sld, kg_pad, List.map_cons, List.map_nil, List.length_cons, List.length_nil, List.replicate, List.cons_append, List.nil_append, List.append_nil, Nat.reduceAdd, Nat.reduceSub, Nat.reduceMul, Nat.reduceMod, Nat.reduceDiv, Nat.reduceLT, Nat.reduceLeDiff, Nat.reduceEqDiff, ne_eq, not_true_eq_false, not_false_eq_true, reduceIte, true_and, and_true, kg_lk22, kg_ls22, kg_cp_n, kg_cpy_n]
    have fr : ∀ p, (p < 14 ∨ 19 < p) → (p < 10 ∨ 13 < p) → p ≠ 9 → (p < 5 ∨ 8 < p) → p ≠ 3 → M3 p = M0 p := fun p h1 h2 h3 h4 h5 => by rw [c1 p h1, b1 p h2, kg_cpy_n h3, a1 p h4, hf p h5]
    have fr2 : ∀ p, (p < 10 ∨ 13 < p) → p ≠ 9 → (p < 5 ∨ 8 < p) → p ≠ 3 → M2 p = M0 p := fun p h2 h3 h4 h5 => by rw [b1 p h2, kg_cpy_n h3, a1 p h4, hf p h5]
    have fr1 : ∀ p, p ≠ 9 → (p < 5 ∨ 8 < p) → p ≠ 3 → kg_cpy M1 70 9 16 p = M0 p := fun p h3 h4 h5 => by rw [kg_cpy_n h3, a1 p h4, hf p h5]
    refine hK M3 (fun p hp => fr p (by omega) (by omega) (by omega) (by omega) (by omega)) ?_ ?_ ?_ ?_ ?_ ?_ ?_ ?_ ?_
    · intro i hi; rw [c1 _ (by omega), b1 _ (by omega), kg_cpy_n (by omega), a1 _ (by omega)]; exact hc i hi
    · intro j i h1 h2 hi; rw [c1 _ (by omega), b1 _ (by omega), kg_cpy_n (by omega), a2 j i h1 h2 hi, hf _ (by omega)]
    · intro i hi; rw [c1 _ (by omega), b1 _ (by omega), kg_cpy_s hi, a1 _ (by omega), hf _ (by omega)]
    · rw [c1 _ (by omega), b2, fr1 _ (by omega) (by omega) (by omega)]
    · intro j i h1 h2 hi; rw [c1 _ (by omega), b3 j i h1 h2 hi, fr1 _ (by omega) (by omega) (by omega)]
    · rw [c2, fr2 _ (by omega) (by omega) (by omega) (by omega)]
    · rw [c3, fr2 _ (by omega) (by omega) (by omega) (by omega)]
    · intro i hi; rw [c4 i hi, fr2 _ (by omega) (by omega) (by omega) (by omega)]
    · intro j i h1 h2 hi; rw [c5 j i h1 h2 hi, fr2 _ (by omega) (by omega) (by omega) (by omega)]
  | succ z ih =>
    intro i M hi hf hc
    have e1 : M 64 i = M0 64 i := by rw [hf _ (by omega)]
    have e2 := hu i (by omega)
    refine kg_v22 hL (by omega) 60 ?_
    simp (disch := omega) only [kg_S1, kg_S2, kg_br_T, kg_br_F, kg_br_N, kg_br_t, kg_br_f, kg_at_n, nI_add, pk_mul, kg_sub_n, kg_rem_n, kg_eq_n, kg_lt_n, kg_le_n, kg_nz, kg_01_0, kg_01_1, kg_w0_1, kg_ret0, kg_ret1, kg_ret2, kg_wr_n, kg_wr_s, kg_Skd, kg_Smc, kg_Sob, kg_Srf, kg_Sld, kg_pad, List.map_cons, List.map_nil, List.length_cons, List.length_nil, List.replicate, List.cons_append, List.nil_append, List.append_nil, Nat.reduceAdd, Nat.reduceSub, Nat.reduceMul, Nat.reduceMod, Nat.reduceDiv, Nat.reduceLT, Nat.reduceLeDiff, Nat.reduceEqDiff, ne_eq, not_true_eq_false, not_false_eq_true, reduceIte, true_and, and_true, kg_lk22, kg_ls22, kg_cp_n, kg_cpy_n, e1, e2]
    refine ih (i + 1) _ (by omega) (fun p hp => (kg_wr_n hp).trans (hf p hp)) (fun j hj => ?_)
    rw [kg_wr_s]
    by_cases e : j = i
    · rw [if_pos e, e]
    · rw [if_neg e]; exact hc j (by omega)
theorem kc22_1_62 (hL : G.2.2.2.2.2.1 < 2 ^ 31) (hR : kf_Rel c M 62 r) (hd : 4 ≤ d) (hK : ∀ M' : kg_M, (∀ p, (p < 1 ∨ 20 < p) → M' p = M p) → kf_Rel c M' 1 r → K none (kg_w0 h) M') : kg_call G d 125 22 [.ref 1, .ref 62] (kg_w0 h) M K := by
  obtain ⟨d, rfl⟩ : ∃ e, d = e + 1 := ⟨d - 1, by omega⟩
  refine kg_m22 (by simp) (Nat.le_refl _) (kg_v22 hL (by omega) 60 ?_)
  simp (disch := omega) only [kg_S1, kg_S2, kg_br_T, kg_br_F, kg_br_N, kg_br_t, kg_br_f, kg_at_n, nI_add, pk_mul, kg_sub_n, kg_rem_n, kg_eq_n, kg_lt_n, kg_le_n, kg_nz, kg_01_0, kg_01_1, kg_w0_1, kg_ret0, kg_ret1, kg_ret2, kg_wr_n, kg_wr_s, kg_Skd, kg_Smc, kg_Sob, kg_Srf, kg_Sld, kg_pad, List.map_cons, List.map_nil, List.length_cons, List.length_nil, List.replicate, List.cons_append, List.nil_append, List.append_nil, Nat.reduceAdd, Nat.reduceSub, Nat.reduceMul, Nat.reduceMod, Nat.reduceDiv, Nat.reduceLT, Nat.reduceLeDiff, Nat.reduceEqDiff, ne_eq, not_true_eq_false, not_false_eq_true, reduceIte, true_and, and_true, kg_lk22, kg_ls22, kg_cp_n, kg_cpy_n]
  have hu : ∀ i, i < 4 → kg_01 (M 64 i) := fun i hi => kf_upx hR hi
  have g1 : ∀ p, p ≠ 1 → p ≠ 2 → kg_cpy (kg_wr (kg_wr M 1 0 (M 62 0)) 1 1 (M 62 1)) 63 2 5 p = M p := fun p h1 h2 => by rw [kg_cpy_n h2, kg_wr_n h1, kg_wr_n h1]
  have g2 : kg_cpy (kg_wr (kg_wr M 1 0 (M 62 0)) 1 1 (M 62 1)) 63 2 5 1 0 = M 62 0 := by simp (disch := omega) only [kg_cpy_n, kg_wr_s, reduceIte, Nat.reduceEqDiff]
  have g3 : kg_cpy (kg_wr (kg_wr M 1 0 (M 62 0)) 1 1 (M 62 1)) 63 2 5 1 1 = M 62 1 := by simp (disch := omega) only [kg_cpy_n, kg_wr_s, reduceIte, Nat.reduceEqDiff]
  have g4 : ∀ i, i < 5 → kg_cpy (kg_wr (kg_wr M 1 0 (M 62 0)) 1 1 (M 62 1)) 63 2 5 2 i = M 63 i := fun i hi => by rw [kg_cpy_s hi, kg_wr_n (by omega), kg_wr_n (by omega)]
  generalize kg_cpy (kg_wr (kg_wr M 1 0 (M 62 0)) 1 1 (M 62 1)) 63 2 5 = M1 at g1 g2 g3 g4 ⊢
  refine kc22_1_62_l hL (M0 := M1) (fun i hi => by rw [g1 _ (by omega) (by omega)]; exact hu i hi) (by omega) ?_ 4 0 M1 rfl (fun _ _ => rfl) (fun j hj => by omega)
  intro M2 a0 a1 a2 a3 a4 a5 a6 a7 a8 a9
  refine hK M2 (fun p hp => by rw [a0 p (by omega), g1 p (by omega) (by omega)]) (kf_Rel_cp hR ⟨⟨?_, ?_⟩, ?_, ?_, ?_, ?_, ⟨?_, ?_⟩, ?_, ?_, ?_, ?_⟩)
  · rw [a0 _ (by omega), g2]
  · rw [a0 _ (by omega), g3]
  · intro i hi; rw [a0 _ (by omega)]; exact g4 i hi
  · intro i hi; rw [a1 i hi, g1 _ (by omega) (by omega)]
  · intro j i h1 h2 hi; rw [a2 j i h1 h2 hi, g1 _ (by omega) (by omega)]
  · intro i hi; rw [a3 i hi, g1 _ (by omega) (by omega)]
  · rw [a4, g1 _ (by omega) (by omega)]
  · intro j i h1 h2 hi; rw [a5 j i h1 h2 hi, g1 _ (by omega) (by omega)]
  · rw [a6, g1 _ (by omega) (by omega)]
  · rw [a7, g1 _ (by omega) (by omega)]
  · intro i hi; rw [a8 i hi, g1 _ (by omega) (by omega)]
  · intro j i h1 h2 hi; rw [a9 j i h1 h2 hi, g1 _ (by omega) (by omega)]

theorem kc5_1_82 (hL : G.2.2.2.2.2.1 < 2 ^ 31) (hd : 2 ≤ d) (hK : ∀ M' : kg_M, (∀ p, (p < 5 ∨ 8 < p) → M' p = M p) → (∀ j i, 4 ≤ j → j ≤ 7 → i < 40 → M' (1 + j) i = M (82 + j) i) → K none (kg_w0 h) M') : kg_call G d 125 5 [.ref 4, .ref 85] (kg_w0 h) M K := by
  obtain ⟨d, rfl⟩ : ∃ e, d = e + 1 := ⟨d - 1, by omega⟩
  refine kg_m5 (by simp) (Nat.le_refl _) (kg_v5 hL (by omega) 40 ?_)
  simp (disch := omega) only [kg_S1, kg_S2, kg_br_T, kg_br_F, kg_br_N, kg_br_t, kg_br_f, kg_at_n, nI_add, pk_mul, kg_sub_n, kg_rem_n, kg_eq_n, kg_lt_n, kg_le_n, kg_nz, kg_01_0, kg_01_1, kg_w0_1, kg_ret0, kg_ret1, kg_ret2, kg_wr_n, kg_wr_s, kg_Skd, kg_Smc, kg_Sob, kg_Srf, kg_Sld, kg_pad, List.map_cons, List.map_nil, List.length_cons, List.length_nil, List.replicate, List.cons_append, List.nil_append, List.append_nil, Nat.reduceAdd, Nat.reduceSub, Nat.reduceMul, Nat.reduceMod, Nat.reduceDiv, Nat.reduceLT, Nat.reduceLeDiff, Nat.reduceEqDiff, ne_eq, not_true_eq_false, not_false_eq_true, reduceIte, true_and, and_true, kg_lk5, kg_ls5, kg_cp_n, kg_cpy_n]
  refine hK _ (fun p hp => ?_) (fun j i h1 h2 hi => ?_)
  · simp (disch := omega) only [kg_cpy_n]
  · obtain rfl | rfl | rfl | rfl : j = 4 ∨ j = 5 ∨ j = 6 ∨ j = 7 := by omega
    all_goals (simp only [Nat.reduceAdd]; simp (disch := omega) only [kg_cpy_n, kg_cpy_s])
theorem kc12_1_82 (hL : G.2.2.2.2.2.1 < 2 ^ 31) (hd : 2 ≤ d) (hK : ∀ M' : kg_M, (∀ p, (p < 10 ∨ 13 < p) → M' p = M p) → M' 10 0 = M 91 0 → (∀ j i, 10 ≤ j → j ≤ 12 → i < 10 → M' (1 + j) i = M (82 + j) i) → K none (kg_w0 h) M') : kg_call G d 125 12 [.ref 10, .ref 91] (kg_w0 h) M K := by
  obtain ⟨d, rfl⟩ : ∃ e, d = e + 1 := ⟨d - 1, by omega⟩
  refine kg_m12 (by simp) (Nat.le_refl _) (kg_v12 hL (by omega) 40 ?_)
  simp (disch := omega) only [kg_S1, kg_S2, kg_br_T, kg_br_F, kg_br_N, kg_br_t, kg_br_f, kg_at_n, nI_add, pk_mul, kg_sub_n, kg_rem_n, kg_eq_n, kg_lt_n, kg_le_n, kg_nz, kg_01_0, kg_01_1, kg_w0_1, kg_ret0, kg_ret1, kg_ret2, kg_wr_n, kg_wr_s, kg_Skd, kg_Smc, kg_Sob, kg_Srf, kg_Sld, kg_pad, List.map_cons, List.map_nil, List.length_cons, List.length_nil, List.replicate, List.cons_append, List.nil_append, List.append_nil, Nat.reduceAdd, Nat.reduceSub, Nat.reduceMul, Nat.reduceMod, Nat.reduceDiv, Nat.reduceLT, Nat.reduceLeDiff, Nat.reduceEqDiff, ne_eq, not_true_eq_false, not_false_eq_true, reduceIte, true_and, and_true, kg_lk12, kg_ls12, kg_cp_n, kg_cpy_n]
  refine hK _ (fun p hp => ?_) ?_ (fun j i h1 h2 hi => ?_)
  · simp (disch := omega) only [kg_cpy_n, kg_wr_n]
  · simp (disch := omega) only [kg_cpy_n, kg_wr_s, reduceIte]
  · obtain rfl | rfl | rfl : j = 10 ∨ j = 11 ∨ j = 12 := by omega
    all_goals (simp only [Nat.reduceAdd]; simp (disch := omega) only [kg_cpy_n, kg_cpy_s, kg_wr_n])
set_option maxRecDepth 100000 in
theorem kc1_1_82 (hL : G.2.2.2.2.2.1 < 2 ^ 31) (hd : 2 ≤ d) (hK : ∀ M' : kg_M, (∀ p, (p < 14 ∨ 19 < p) → M' p = M p) → M' 14 0 = M 95 0 → M' 14 1 = M 95 1 → (∀ i, i < 4 → M' 15 i = M 96 i) → (∀ j i, 15 ≤ j → j ≤ 18 → i < 10 → M' (1 + j) i = M (82 + j) i) → K none (kg_w0 h) M') : kg_call G d 125 1 [.ref 14, .ref 95] (kg_w0 h) M K := by
  obtain ⟨d, rfl⟩ : ∃ e, d = e + 1 := ⟨d - 1, by omega⟩
  refine kg_m1 (by simp) (Nat.le_refl _) (kg_v1 hL (by omega) 60 ?_)
  simp (disch := omega) only [kg_S1, kg_S2, kg_br_T, kg_br_F, kg_br_N, kg_br_t, kg_br_f, kg_at_n, nI_add, pk_mul, kg_sub_n, kg_rem_n, kg_eq_n, kg_lt_n, kg_le_n, kg_nz, kg_01_0, kg_01_1, kg_w0_1, kg_ret0, kg_ret1, kg_ret2, kg_wr_n, kg_wr_s, kg_Skd, kg_Smc, kg_Sob, kg_Srf, kg_Sld, kg_pad, List.map_cons, List.map_nil, List.length_cons, List.length_nil, List.replicate, List.cons_append, List.nil_append, List.append_nil, Nat.reduceAdd, Nat.reduceSub, Nat.reduceMul, Nat.reduceMod, Nat.reduceDiv, Nat.reduceLT, Nat.reduceLeDiff, Nat.reduceEqDiff, ne_eq, not_true_eq_false, not_false_eq_true, reduceIte, true_and, and_true, kg_lk1, kg_ls1, kg_cp_n, kg_cpy_n]
  refine hK _ (fun p hp => ?_) ?_ ?_ (fun i hi => ?_) (fun j i h1 h2 hi => ?_)
  · simp (disch := omega) only [kg_cpy_n, kg_wr_n]
  · simp (disch := omega) only [kg_cpy_n, kg_wr_s, kg_wr_n, reduceIte, Nat.reduceEqDiff]
  · simp (disch := omega) only [kg_cpy_n, kg_wr_s, kg_wr_n, reduceIte, Nat.reduceEqDiff]
  · simp (disch := omega) only [kg_cpy_n, kg_cpy_s, kg_wr_n]
  · obtain rfl | rfl | rfl | rfl : j = 15 ∨ j = 16 ∨ j = 17 ∨ j = 18 := by omega
    all_goals (simp only [Nat.reduceAdd]; simp (disch := omega) only [kg_cpy_n, kg_cpy_s, kg_wr_n])
theorem kc22_1_82_l (hL : G.2.2.2.2.2.1 < 2 ^ 31) {M0 : kg_M} (hu : ∀ i, i < 4 → kg_01 (M0 84 i)) (hd : 3 ≤ d) (hK : ∀ M' : kg_M, (∀ p, (p < 3 ∨ 19 < p) → M' p = M0 p) → (∀ i, i < 4 → M' 3 i = M0 84 i) → (∀ j i, 4 ≤ j → j ≤ 7 → i < 40 → M' (1 + j) i = M0 (82 + j) i) → (∀ i, i < 16 → M' 9 i = M0 90 i) → M' 10 0 = M0 91 0 → (∀ j i, 10 ≤ j → j ≤ 12 → i < 10 → M' (1 + j) i = M0 (82 + j) i) → M' 14 0 = M0 95 0 → M' 14 1 = M0 95 1 → (∀ i, i < 4 → M' 15 i = M0 96 i) → (∀ j i, 15 ≤ j → j ≤ 18 → i < 10 → M' (1 + j) i = M0 (82 + j) i) → K none (kg_w0 h) M') : ∀ (z i : Nat) (M : kg_M), i + z = 4 → (∀ p, p ≠ 3 → M p = M0 p) → (∀ j, j < i → M 3 j = M0 84 j) → kg_P G d 22 3 125 125 K 32 [some (.ref 1), some (.ref 82), some (.int (nI i))] [] (kg_w0 h) M := by
  intro z
  induction z with
  | zero =>
    intro i M hi hf hc
    obtain rfl : i = 4 := by omega
    refine kg_v22 hL (by omega) 60 ?_
    simp (disch := omega) only [kg_S1, kg_S2, kg_br_T, kg_br_F, kg_br_N, kg_br_t, kg_br_f, kg_at_n, nI_add, pk_mul, kg_sub_n, kg_rem_n, kg_eq_n, kg_lt_n, kg_le_n, kg_nz, kg_01_0, kg_01_1, kg_w0_1, kg_ret0, kg_ret1, kg_ret2, kg_wr_n, kg_wr_s, kg_Skd, kg_Smc, kg_Sob, kg_Srf, kg_Sld, kg_pad, List.map_cons, List.map_nil, List.length_cons, List.length_nil, List.replicate, List.cons_append, List.nil_append, List.append_nil, Nat.reduceAdd, Nat.reduceSub, Nat.reduceMul, Nat.reduceMod, Nat.reduceDiv, Nat.reduceLT, Nat.reduceLeDiff, Nat.reduceEqDiff, ne_eq, not_true_eq_false, not_false_eq_true, reduceIte, true_and, and_true, kg_lk22, kg_ls22, kg_cp_n, kg_cpy_n]
    refine kc5_1_82 hL (by omega) ?_
    intro M1 a1 a2
    simp (disch := omega) only [kg_S1, kg_S2, kg_br_T, kg_br_F, kg_br_N, kg_br_t, kg_br_f, kg_at_n, nI_add, pk_mul, kg_sub_n, kg_rem_n, kg_eq_n, kg_lt_n, kg_le_n, kg_nz, kg_01_0, kg_01_1, kg_w0_1, kg_ret0, kg_ret1, kg_ret2, kg_wr_n, kg_wr_s, kg_Skd, kg_Smc, kg_Sob, kg_Srf, kg_Sld, kg_pad, List.map_cons, List.map_nil, List.length_cons, List.length_nil, List.replicate, List.cons_append, List.nil_append, List.append_nil, Nat.reduceAdd, Nat.reduceSub, Nat.reduceMul, Nat.reduceMod, Nat.reduceDiv, Nat.reduceLT, Nat.reduceLeDiff, Nat.reduceEqDiff, ne_eq, not_true_eq_false, not_false_eq_true, reduceIte, true_and, and_true, kg_lk22, kg_ls22, kg_cp_n, kg_cpy_n]
    refine kc12_1_82 hL (by omega) ?_
    intro M2 b1 b2 b3
    simp (disch := omega) only [kg_S1, kg_S2, kg_br_T, kg_br_F, kg_br_N, kg_br_t, kg_br_f, kg_at_n, nI_add, pk_mul, kg_sub_n, kg_rem_n, kg_eq_n, kg_lt_n, kg_le_n, kg_nz, kg_01_0, kg_01_1, kg_w0_1, kg_ret0, kg_ret1, kg_ret2, kg_wr_n, kg_wr_s, kg_Skd, kg_Smc, kg_Sob, kg_Srf, kg_Sld, kg_pad, List.map_cons, List.map_nil, List.length_cons, List.length_nil, List.replicate, List.cons_append, List.nil_append, List.append_nil, Nat.reduceAdd, Nat.reduceSub, Nat.reduceMul, Nat.reduceMod, Nat.reduceDiv, Nat.reduceLT, Nat.reduceLeDiff, Nat.reduceEqDiff, ne_eq, not_true_eq_false, not_false_eq_true, reduceIte, true_and, and_true, kg_lk22, kg_ls22, kg_cp_n, kg_cpy_n]
    refine kc1_1_82 hL (by omega) ?_
    intro M3 c1 c2 c3 c4 c5
    simp (disch := omega) only [kg_S1, kg_S2, kg_br_T, kg_br_F, kg_br_N, kg_br_t, kg_br_f, kg_at_n, nI_add, pk_mul, kg_sub_n, kg_rem_n, kg_eq_n, kg_lt_n, kg_le_n, kg_nz, kg_01_0, kg_01_1, kg_w0_1, kg_ret0, kg_ret1, kg_ret2, kg_wr_n, kg_wr_s, kg_Skd, kg_Smc, kg_Sob, kg_Srf, kg_Sld, kg_pad, List.map_cons, List.map_nil, List.length_cons, List.length_nil, List.replicate, List.cons_append, List.nil_append, List.append_nil, Nat.reduceAdd, Nat.reduceSub, Nat.reduceMul, Nat.reduceMod, Nat.reduceDiv, Nat.reduceLT, Nat.reduceLeDiff, Nat.reduceEqDiff, ne_eq, not_true_eq_false, not_false_eq_true, reduceIte, true_and, and_true, kg_lk22, kg_ls22, kg_cp_n, kg_cpy_n]
    have fr : ∀ p, (p < 14 ∨ 19 < p) → (p < 10 ∨ 13 < p) → p ≠ 9 → (p < 5 ∨ 8 < p) → p ≠ 3 → M3 p = M0 p := fun p h1 h2 h3 h4 h5 => by rw [c1 p h1, b1 p h2, kg_cpy_n h3, a1 p h4, hf p h5]
    have fr2 : ∀ p, (p < 10 ∨ 13 < p) → p ≠ 9 → (p < 5 ∨ 8 < p) → p ≠ 3 → M2 p = M0 p := fun p h2 h3 h4 h5 => by rw [b1 p h2, kg_cpy_n h3, a1 p h4, hf p h5]
    have fr1 : ∀ p, p ≠ 9 → (p < 5 ∨ 8 < p) → p ≠ 3 → kg_cpy M1 90 9 16 p = M0 p := fun p h3 h4 h5 => by rw [kg_cpy_n h3, a1 p h4, hf p h5]
    refine hK M3 (fun p hp => fr p (by omega) (by omega) (by omega) (by omega) (by omega)) ?_ ?_ ?_ ?_ ?_ ?_ ?_ ?_ ?_
    · intro i hi; rw [c1 _ (by omega), b1 _ (by omega), kg_cpy_n (by omega), a1 _ (by omega)]; exact hc i hi
    · intro j i h1 h2 hi; rw [c1 _ (by omega), b1 _ (by omega), kg_cpy_n (by omega), a2 j i h1 h2 hi, hf _ (by omega)]
    · intro i hi; rw [c1 _ (by omega), b1 _ (by omega), kg_cpy_s hi, a1 _ (by omega), hf _ (by omega)]
    · rw [c1 _ (by omega), b2, fr1 _ (by omega) (by omega) (by omega)]
    · intro j i h1 h2 hi; rw [c1 _ (by omega), b3 j i h1 h2 hi, fr1 _ (by omega) (by omega) (by omega)]
    · rw [c2, fr2 _ (by omega) (by omega) (by omega) (by omega)]
    · rw [c3, fr2 _ (by omega) (by omega) (by omega) (by omega)]
    · intro i hi; rw [c4 i hi, fr2 _ (by omega) (by omega) (by omega) (by omega)]
    · intro j i h1 h2 hi; rw [c5 j i h1 h2 hi, fr2 _ (by omega) (by omega) (by omega) (by omega)]
  | succ z ih =>
    intro i M hi hf hc
    have e1 : M 84 i = M0 84 i := by rw [hf _ (by omega)]
    have e2 := hu i (by omega)
    refine kg_v22 hL (by omega) 60 ?_
    simp (disch := omega) only [kg_S1, kg_S2, kg_br_T, kg_br_F, kg_br_N, kg_br_t, kg_br_f, kg_at_n, nI_add, pk_mul, kg_sub_n, kg_rem_n, kg_eq_n, kg_lt_n, kg_le_n, kg_nz, kg_01_0, kg_01_1, kg_w0_1, kg_ret0, kg_ret1, kg_ret2, kg_wr_n, kg_wr_s, kg_Skd, kg_Smc, kg_Sob, kg_Srf, kg_Sld, kg_pad, List.map_cons, List.map_nil, List.length_cons, List.length_nil, List.replicate, List.cons_append, List.nil_append, List.append_nil, Nat.reduceAdd, Nat.reduceSub, Nat.reduceMul, Nat.reduceMod, Nat.reduceDiv, Nat.reduceLT, Nat.reduceLeDiff, Nat.reduceEqDiff, ne_eq, not_true_eq_false, not_false_eq_true, reduceIte, true_and, and_true, kg_lk22, kg_ls22, kg_cp_n, kg_cpy_n, e1, e2]
    refine ih (i + 1) _ (by omega) (fun p hp => (kg_wr_n hp).trans (hf p hp)) (fun j hj => ?_)
    rw [kg_wr_s]
    by_cases e : j = i
    · rw [if_pos e, e]
    · rw [if_neg e]; exact hc j (by omega)
theorem kc22_1_82 (hL : G.2.2.2.2.2.1 < 2 ^ 31) (hR : kf_Rel c M 82 r) (hd : 4 ≤ d) (hK : ∀ M' : kg_M, (∀ p, (p < 1 ∨ 20 < p) → M' p = M p) → kf_Rel c M' 1 r → K none (kg_w0 h) M') : kg_call G d 125 22 [.ref 1, .ref 82] (kg_w0 h) M K := by
  obtain ⟨d, rfl⟩ : ∃ e, d = e + 1 := ⟨d - 1, by omega⟩
  refine kg_m22 (by simp) (Nat.le_refl _) (kg_v22 hL (by omega) 60 ?_)
  simp (disch := omega) only [kg_S1, kg_S2, kg_br_T, kg_br_F, kg_br_N, kg_br_t, kg_br_f, kg_at_n, nI_add, pk_mul, kg_sub_n, kg_rem_n, kg_eq_n, kg_lt_n, kg_le_n, kg_nz, kg_01_0, kg_01_1, kg_w0_1, kg_ret0, kg_ret1, kg_ret2, kg_wr_n, kg_wr_s, kg_Skd, kg_Smc, kg_Sob, kg_Srf, kg_Sld, kg_pad, List.map_cons, List.map_nil, List.length_cons, List.length_nil, List.replicate, List.cons_append, List.nil_append, List.append_nil, Nat.reduceAdd, Nat.reduceSub, Nat.reduceMul, Nat.reduceMod, Nat.reduceDiv, Nat.reduceLT, Nat.reduceLeDiff, Nat.reduceEqDiff, ne_eq, not_true_eq_false, not_false_eq_true, reduceIte, true_and, and_true, kg_lk22, kg_ls22, kg_cp_n, kg_cpy_n]
  have hu : ∀ i, i < 4 → kg_01 (M 84 i) := fun i hi => kf_upx hR hi
  have g1 : ∀ p, p ≠ 1 → p ≠ 2 → kg_cpy (kg_wr (kg_wr M 1 0 (M 82 0)) 1 1 (M 82 1)) 83 2 5 p = M p := fun p h1 h2 => by rw [kg_cpy_n h2, kg_wr_n h1, kg_wr_n h1]
  have g2 : kg_cpy (kg_wr (kg_wr M 1 0 (M 82 0)) 1 1 (M 82 1)) 83 2 5 1 0 = M 82 0 := by simp (disch := omega) only [kg_cpy_n, kg_wr_s, reduceIte, Nat.reduceEqDiff]
  have g3 : kg_cpy (kg_wr (kg_wr M 1 0 (M 82 0)) 1 1 (M 82 1)) 83 2 5 1 1 = M 82 1 := by simp (disch := omega) only [kg_cpy_n, kg_wr_s, reduceIte, Nat.reduceEqDiff]
  have g4 : ∀ i, i < 5 → kg_cpy (kg_wr (kg_wr M 1 0 (M 82 0)) 1 1 (M 82 1)) 83 2 5 2 i = M 83 i := fun i hi => by rw [kg_cpy_s hi, kg_wr_n (by omega), kg_wr_n (by omega)]
  generalize kg_cpy (kg_wr (kg_wr M 1 0 (M 82 0)) 1 1 (M 82 1)) 83 2 5 = M1 at g1 g2 g3 g4 ⊢
  refine kc22_1_82_l hL (M0 := M1) (fun i hi => by rw [g1 _ (by omega) (by omega)]; exact hu i hi) (by omega) ?_ 4 0 M1 rfl (fun _ _ => rfl) (fun j hj => by omega)
  intro M2 a0 a1 a2 a3 a4 a5 a6 a7 a8 a9
  refine hK M2 (fun p hp => by rw [a0 p (by omega), g1 p (by omega) (by omega)]) (kf_Rel_cp hR ⟨⟨?_, ?_⟩, ?_, ?_, ?_, ?_, ⟨?_, ?_⟩, ?_, ?_, ?_, ?_⟩)
  · rw [a0 _ (by omega), g2]
  · rw [a0 _ (by omega), g3]
  · intro i hi; rw [a0 _ (by omega)]; exact g4 i hi
  · intro i hi; rw [a1 i hi, g1 _ (by omega) (by omega)]
  · intro j i h1 h2 hi; rw [a2 j i h1 h2 hi, g1 _ (by omega) (by omega)]
  · intro i hi; rw [a3 i hi, g1 _ (by omega) (by omega)]
  · rw [a4, g1 _ (by omega) (by omega)]
  · intro j i h1 h2 hi; rw [a5 j i h1 h2 hi, g1 _ (by omega) (by omega)]
  · rw [a6, g1 _ (by omega) (by omega)]
  · rw [a7, g1 _ (by omega) (by omega)]
  · intro i hi; rw [a8 i hi, g1 _ (by omega) (by omega)]
  · intro j i h1 h2 hi; rw [a9 j i h1 h2 hi, g1 _ (by omega) (by omega)]

theorem kc5_102_1 (hL : G.2.2.2.2.2.1 < 2 ^ 31) (hd : 2 ≤ d) (hK : ∀ M' : kg_M, (∀ p, (p < 106 ∨ 109 < p) → M' p = M p) → (∀ j i, 4 ≤ j → j ≤ 7 → i < 40 → M' (102 + j) i = M (1 + j) i) → K none (kg_w0 h) M') : kg_call G d 125 5 [.ref 105, .ref 4] (kg_w0 h) M K := by
  obtain ⟨d, rfl⟩ : ∃ e, d = e + 1 := ⟨d - 1, by omega⟩
  refine kg_m5 (by simp) (Nat.le_refl _) (kg_v5 hL (by omega) 40 ?_)
  simp (disch := omega) only [kg_S1, kg_S2, kg_br_T, kg_br_F, kg_br_N, kg_br_t, kg_br_f, kg_at_n, nI_add, pk_mul, kg_sub_n, kg_rem_n, kg_eq_n, kg_lt_n, kg_le_n, kg_nz, kg_01_0, kg_01_1, kg_w0_1, kg_ret0, kg_ret1, kg_ret2, kg_wr_n, kg_wr_s, kg_Skd, kg_Smc, kg_Sob, kg_Srf, kg_Sld, kg_pad, List.map_cons, List.map_nil, List.length_cons, List.length_nil, List.replicate, List.cons_append, List.nil_append, List.append_nil, Nat.reduceAdd, Nat.reduceSub, Nat.reduceMul, Nat.reduceMod, Nat.reduceDiv, Nat.reduceLT, Nat.reduceLeDiff, Nat.reduceEqDiff, ne_eq, not_true_eq_false, not_false_eq_true, reduceIte, true_and, and_true, kg_lk5, kg_ls5, kg_cp_n, kg_cpy_n]
  refine hK _ (fun p hp => ?_) (fun j i h1 h2 hi => ?_)
  · simp (disch := omega) only [kg_cpy_n]
  · obtain rfl | rfl | rfl | rfl : j = 4 ∨ j = 5 ∨ j = 6 ∨ j = 7 := by omega
    all_goals (simp only [Nat.reduceAdd]; simp (disch := omega) only [kg_cpy_n, kg_cpy_s])
theorem kc12_102_1 (hL : G.2.2.2.2.2.1 < 2 ^ 31) (hd : 2 ≤ d) (hK : ∀ M' : kg_M, (∀ p, (p < 111 ∨ 114 < p) → M' p = M p) → M' 111 0 = M 10 0 → (∀ j i, 10 ≤ j → j ≤ 12 → i < 10 → M' (102 + j) i = M (1 + j) i) → K none (kg_w0 h) M') : kg_call G d 125 12 [.ref 111, .ref 10] (kg_w0 h) M K := by
  obtain ⟨d, rfl⟩ : ∃ e, d = e + 1 := ⟨d - 1, by omega⟩
  refine kg_m12 (by simp) (Nat.le_refl _) (kg_v12 hL (by omega) 40 ?_)
  simp (disch := omega) only [kg_S1, kg_S2, kg_br_T, kg_br_F, kg_br_N, kg_br_t, kg_br_f, kg_at_n, nI_add, pk_mul, kg_sub_n, kg_rem_n, kg_eq_n, kg_lt_n, kg_le_n, kg_nz, kg_01_0, kg_01_1, kg_w0_1, kg_ret0, kg_ret1, kg_ret2, kg_wr_n, kg_wr_s, kg_Skd, kg_Smc, kg_Sob, kg_Srf, kg_Sld, kg_pad, List.map_cons, List.map_nil, List.length_cons, List.length_nil, List.replicate, List.cons_append, List.nil_append, List.append_nil, Nat.reduceAdd, Nat.reduceSub, Nat.reduceMul, Nat.reduceMod, Nat.reduceDiv, Nat.reduceLT, Nat.reduceLeDiff, Nat.reduceEqDiff, ne_eq, not_true_eq_false, not_false_eq_true, reduceIte, true_and, and_true, kg_lk12, kg_ls12, kg_cp_n, kg_cpy_n]
  refine hK _ (fun p hp => ?_) ?_ (fun j i h1 h2 hi => ?_)
  · simp (disch := omega) only [kg_cpy_n, kg_wr_n]
  · simp (disch := omega) only [kg_cpy_n, kg_wr_s, reduceIte]
  · obtain rfl | rfl | rfl : j = 10 ∨ j = 11 ∨ j = 12 := by omega
    all_goals (simp only [Nat.reduceAdd]; simp (disch := omega) only [kg_cpy_n, kg_cpy_s, kg_wr_n])
set_option maxRecDepth 100000 in
theorem kc1_102_1 (hL : G.2.2.2.2.2.1 < 2 ^ 31) (hd : 2 ≤ d) (hK : ∀ M' : kg_M, (∀ p, (p < 115 ∨ 120 < p) → M' p = M p) → M' 115 0 = M 14 0 → M' 115 1 = M 14 1 → (∀ i, i < 4 → M' 116 i = M 15 i) → (∀ j i, 15 ≤ j → j ≤ 18 → i < 10 → M' (102 + j) i = M (1 + j) i) → K none (kg_w0 h) M') : kg_call G d 125 1 [.ref 115, .ref 14] (kg_w0 h) M K := by
  obtain ⟨d, rfl⟩ : ∃ e, d = e + 1 := ⟨d - 1, by omega⟩
  refine kg_m1 (by simp) (Nat.le_refl _) (kg_v1 hL (by omega) 60 ?_)
  simp (disch := omega) only [kg_S1, kg_S2, kg_br_T, kg_br_F, kg_br_N, kg_br_t, kg_br_f, kg_at_n, nI_add, pk_mul, kg_sub_n, kg_rem_n, kg_eq_n, kg_lt_n, kg_le_n, kg_nz, kg_01_0, kg_01_1, kg_w0_1, kg_ret0, kg_ret1, kg_ret2, kg_wr_n, kg_wr_s, kg_Skd, kg_Smc, kg_Sob, kg_Srf, kg_Sld, kg_pad, List.map_cons, List.map_nil, List.length_cons, List.length_nil, List.replicate, List.cons_append, List.nil_append, List.append_nil, Nat.reduceAdd, Nat.reduceSub, Nat.reduceMul, Nat.reduceMod, Nat.reduceDiv, Nat.reduceLT, Nat.reduceLeDiff, Nat.reduceEqDiff, ne_eq, not_true_eq_false, not_false_eq_true, reduceIte, true_and, and_true, kg_lk1, kg_ls1, kg_cp_n, kg_cpy_n]
  refine hK _ (fun p hp => ?_) ?_ ?_ (fun i hi => ?_) (fun j i h1 h2 hi => ?_)
  · simp (disch := omega) only [kg_cpy_n, kg_wr_n]
  · simp (disch := omega) only [kg_cpy_n, kg_wr_s, kg_wr_n, reduceIte, Nat.reduceEqDiff]
  · simp (disch := omega) only [kg_cpy_n, kg_wr_s, kg_wr_n, reduceIte, Nat.reduceEqDiff]
  · simp (disch := omega) only [kg_cpy_n, kg_cpy_s, kg_wr_n]
  · obtain rfl | rfl | rfl | rfl : j = 15 ∨ j = 16 ∨ j = 17 ∨ j = 18 := by omega
    all_goals (simp only [Nat.reduceAdd]; simp (disch := omega) only [kg_cpy_n, kg_cpy_s, kg_wr_n])
theorem kc22_102_1_l (hL : G.2.2.2.2.2.1 < 2 ^ 31) {M0 : kg_M} (hu : ∀ i, i < 4 → kg_01 (M0 3 i)) (hd : 3 ≤ d) (hK : ∀ M' : kg_M, (∀ p, (p < 104 ∨ 120 < p) → M' p = M0 p) → (∀ i, i < 4 → M' 104 i = M0 3 i) → (∀ j i, 4 ≤ j → j ≤ 7 → i < 40 → M' (102 + j) i = M0 (1 + j) i) → (∀ i, i < 16 → M' 110 i = M0 9 i) → M' 111 0 = M0 10 0 → (∀ j i, 10 ≤ j → j ≤ 12 → i < 10 → M' (102 + j) i = M0 (1 + j) i) → M' 115 0 = M0 14 0 → M' 115 1 = M0 14 1 → (∀ i, i < 4 → M' 116 i = M0 15 i) → (∀ j i, 15 ≤ j → j ≤ 18 → i < 10 → M' (102 + j) i = M0 (1 + j) i) → K none (kg_w0 h) M') : ∀ (z i : Nat) (M : kg_M), i + z = 4 → (∀ p, p ≠ 104 → M p = M0 p) → (∀ j, j < i → M 104 j = M0 3 j) → kg_P G d 22 3 125 125 K 32 [some (.ref 102), some (.ref 1), some (.int (nI i))] [] (kg_w0 h) M := by
  intro z
  induction z with
  | zero =>
    intro i M hi hf hc
    obtain rfl : i = 4 := by omega
    refine kg_v22 hL (by omega) 60 ?_
    simp (disch := omega) only [kg_S1, kg_S2, kg_br_T, kg_br_F, kg_br_N, kg_br_t, kg_br_f, kg_at_n, nI_add, pk_mul, kg_sub_n, kg_rem_n, kg_eq_n, kg_lt_n, kg_le_n, kg_nz, kg_01_0, kg_01_1, kg_w0_1, kg_ret0, kg_ret1, kg_ret2, kg_wr_n, kg_wr_s, kg_Skd, kg_Smc, kg_Sob, kg_Srf, kg_Sld, kg_pad, List.map_cons, List.map_nil, List.length_cons, List.length_nil, List.replicate, List.cons_append, List.nil_append, List.append_nil, Nat.reduceAdd, Nat.reduceSub, Nat.reduceMul, Nat.reduceMod, Nat.reduceDiv, Nat.reduceLT, Nat.reduceLeDiff, Nat.reduceEqDiff, ne_eq, not_true_eq_false, not_false_eq_true, reduceIte, true_and, and_true, kg_lk22, kg_ls22, kg_cp_n, kg_cpy_n]
    refine kc5_102_1 hL (by omega) ?_
    intro M1 a1 a2
    simp (disch := omega) only [kg_S1, kg_S2, kg_br_T, kg_br_F, kg_br_N, kg_br_t, kg_br_f, kg_at_n, nI_add, pk_mul, kg_sub_n, kg_rem_n, kg_eq_n, kg_lt_n, kg_le_n, kg_nz, kg_01_0, kg_01_1, kg_w0_1, kg_ret0, kg_ret1, kg_ret2, kg_wr_n, kg_wr_s, kg_Skd, kg_Smc, kg_Sob, kg_Srf, kg_Sld, kg_pad, List.map_cons, List.map_nil, List.length_cons, List.length_nil, List.replicate, List.cons_append, List.nil_append, List.append_nil, Nat.reduceAdd, Nat.reduceSub, Nat.reduceMul, Nat.reduceMod, Nat.reduceDiv, Nat.reduceLT, Nat.reduceLeDiff, Nat.reduceEqDiff, ne_eq, not_true_eq_false, not_false_eq_true, reduceIte, true_and, and_true, kg_lk22, kg_ls22, kg_cp_n, kg_cpy_n]
    refine kc12_102_1 hL (by omega) ?_
    intro M2 b1 b2 b3
    simp (disch := omega) only [kg_S1, kg_S2, kg_br_T, kg_br_F, kg_br_N, kg_br_t, kg_br_f, kg_at_n, nI_add, pk_mul, kg_sub_n, kg_rem_n, kg_eq_n, kg_lt_n, kg_le_n, kg_nz, kg_01_0, kg_01_1, kg_w0_1, kg_ret0, kg_ret1, kg_ret2, kg_wr_n, kg_wr_s, kg_Skd, kg_Smc, kg_Sob, kg_Srf, kg_Sld, kg_pad, List.map_cons, List.map_nil, List.length_cons, List.length_nil, List.replicate, List.cons_append, List.nil_append, List.append_nil, Nat.reduceAdd, Nat.reduceSub, Nat.reduceMul, Nat.reduceMod, Nat.reduceDiv, Nat.reduceLT, Nat.reduceLeDiff, Nat.reduceEqDiff, ne_eq, not_true_eq_false, not_false_eq_true, reduceIte, true_and, and_true, kg_lk22, kg_ls22, kg_cp_n, kg_cpy_n]
    refine kc1_102_1 hL (by omega) ?_
    intro M3 c1 c2 c3 c4 c5
    simp (disch := omega) only [kg_S1, kg_S2, kg_br_T, kg_br_F, kg_br_N, kg_br_t, kg_br_f, kg_at_n, nI_add, pk_mul, kg_sub_n, kg_rem_n, kg_eq_n, kg_lt_n, kg_le_n, kg_nz, kg_01_0, kg_01_1, kg_w0_1, kg_ret0, kg_ret1, kg_ret2, kg_wr_n, kg_wr_s, kg_Skd, kg_Smc, kg_Sob, kg_Srf, kg_Sld, kg_pad, List.map_cons, List.map_nil, List.length_cons, List.length_nil, List.replicate, List.cons_append, List.nil_append, List.append_nil, Nat.reduceAdd, Nat.reduceSub, Nat.reduceMul, Nat.reduceMod, Nat.reduceDiv, Nat.reduceLT, Nat.reduceLeDiff, Nat.reduceEqDiff, ne_eq, not_true_eq_false, not_false_eq_true, reduceIte, true_and, and_true, kg_lk22, kg_ls22, kg_cp_n, kg_cpy_n]
    have fr : ∀ p, (p < 115 ∨ 120 < p) → (p < 111 ∨ 114 < p) → p ≠ 110 → (p < 106 ∨ 109 < p) → p ≠ 104 → M3 p = M0 p := fun p h1 h2 h3 h4 h5 => by rw [c1 p h1, b1 p h2, kg_cpy_n h3, a1 p h4, hf p h5]
    have fr2 : ∀ p, (p < 111 ∨ 114 < p) → p ≠ 110 → (p < 106 ∨ 109 < p) → p ≠ 104 → M2 p = M0 p := fun p h2 h3 h4 h5 => by rw [b1 p h2, kg_cpy_n h3, a1 p h4, hf p h5]
    have fr1 : ∀ p, p ≠ 110 → (p < 106 ∨ 109 < p) → p ≠ 104 → kg_cpy M1 9 110 16 p = M0 p := fun p h3 h4 h5 => by rw [kg_cpy_n h3, a1 p h4, hf p h5]
    refine hK M3 (fun p hp => fr p (by omega) (by omega) (by omega) (by omega) (by omega)) ?_ ?_ ?_ ?_ ?_ ?_ ?_ ?_ ?_
    · intro i hi; rw [c1 _ (by omega), b1 _ (by omega), kg_cpy_n (by omega), a1 _ (by omega)]; exact hc i hi
    · intro j i h1 h2 hi; rw [c1 _ (by omega), b1 _ (by omega), kg_cpy_n (by omega), a2 j i h1 h2 hi, hf _ (by omega)]
    · intro i hi; rw [c1 _ (by omega), b1 _ (by omega), kg_cpy_s hi, a1 _ (by omega), hf _ (by omega)]
    · rw [c1 _ (by omega), b2, fr1 _ (by omega) (by omega) (by omega)]
    · intro j i h1 h2 hi; rw [c1 _ (by omega), b3 j i h1 h2 hi, fr1 _ (by omega) (by omega) (by omega)]
    · rw [c2, fr2 _ (by omega) (by omega) (by omega) (by omega)]
    · rw [c3, fr2 _ (by omega) (by omega) (by omega) (by omega)]
    · intro i hi; rw [c4 i hi, fr2 _ (by omega) (by omega) (by omega) (by omega)]
    · intro j i h1 h2 hi; rw [c5 j i h1 h2 hi, fr2 _ (by omega) (by omega) (by omega) (by omega)]
  | succ z ih =>
    intro i M hi hf hc
    have e1 : M 3 i = M0 3 i := by rw [hf _ (by omega)]
    have e2 := hu i (by omega)
    refine kg_v22 hL (by omega) 60 ?_
    simp (disch := omega) only [kg_S1, kg_S2, kg_br_T, kg_br_F, kg_br_N, kg_br_t, kg_br_f, kg_at_n, nI_add, pk_mul, kg_sub_n, kg_rem_n, kg_eq_n, kg_lt_n, kg_le_n, kg_nz, kg_01_0, kg_01_1, kg_w0_1, kg_ret0, kg_ret1, kg_ret2, kg_wr_n, kg_wr_s, kg_Skd, kg_Smc, kg_Sob, kg_Srf, kg_Sld, kg_pad, List.map_cons, List.map_nil, List.length_cons, List.length_nil, List.replicate, List.cons_append, List.nil_append, List.append_nil, Nat.reduceAdd, Nat.reduceSub, Nat.reduceMul, Nat.reduceMod, Nat.reduceDiv, Nat.reduceLT, Nat.reduceLeDiff, Nat.reduceEqDiff, ne_eq, not_true_eq_false, not_false_eq_true, reduceIte, true_and, and_true, kg_lk22, kg_ls22, kg_cp_n, kg_cpy_n, e1, e2]
    refine ih (i + 1) _ (by omega) (fun p hp => (kg_wr_n hp).trans (hf p hp)) (fun j hj => ?_)
    rw [kg_wr_s]
    by_cases e : j = i
    · rw [if_pos e, e]
    · rw [if_neg e]; exact hc j (by omega)
theorem kc22_102_1 (hL : G.2.2.2.2.2.1 < 2 ^ 31) (hR : kf_Rel c M 1 r) (hd : 4 ≤ d) (hK : ∀ M' : kg_M, (∀ p, (p < 102 ∨ 121 < p) → M' p = M p) → kf_Rel c M' 102 r → K none (kg_w0 h) M') : kg_call G d 125 22 [.ref 102, .ref 1] (kg_w0 h) M K := by
  obtain ⟨d, rfl⟩ : ∃ e, d = e + 1 := ⟨d - 1, by omega⟩
  refine kg_m22 (by simp) (Nat.le_refl _) (kg_v22 hL (by omega) 60 ?_)
  simp (disch := omega) only [kg_S1, kg_S2, kg_br_T, kg_br_F, kg_br_N, kg_br_t, kg_br_f, kg_at_n, nI_add, pk_mul, kg_sub_n, kg_rem_n, kg_eq_n, kg_lt_n, kg_le_n, kg_nz, kg_01_0, kg_01_1, kg_w0_1, kg_ret0, kg_ret1, kg_ret2, kg_wr_n, kg_wr_s, kg_Skd, kg_Smc, kg_Sob, kg_Srf, kg_Sld, kg_pad, List.map_cons, List.map_nil, List.length_cons, List.length_nil, List.replicate, List.cons_append, List.nil_append, List.append_nil, Nat.reduceAdd, Nat.reduceSub, Nat.reduceMul, Nat.reduceMod, Nat.reduceDiv, Nat.reduceLT, Nat.reduceLeDiff, Nat.reduceEqDiff, ne_eq, not_true_eq_false, not_false_eq_true, reduceIte, true_and, and_true, kg_lk22, kg_ls22, kg_cp_n, kg_cpy_n]
  have hu : ∀ i, i < 4 → kg_01 (M 3 i) := fun i hi => kf_upx hR hi
  have g1 : ∀ p, p ≠ 102 → p ≠ 103 → kg_cpy (kg_wr (kg_wr M 102 0 (M 1 0)) 102 1 (M 1 1)) 2 103 5 p = M p := fun p h1 h2 => by rw [kg_cpy_n h2, kg_wr_n h1, kg_wr_n h1]
  have g2 : kg_cpy (kg_wr (kg_wr M 102 0 (M 1 0)) 102 1 (M 1 1)) 2 103 5 102 0 = M 1 0 := by simp (disch := omega) only [kg_cpy_n, kg_wr_s, reduceIte, Nat.reduceEqDiff]
  have g3 : kg_cpy (kg_wr (kg_wr M 102 0 (M 1 0)) 102 1 (M 1 1)) 2 103 5 102 1 = M 1 1 := by simp (disch := omega) only [kg_cpy_n, kg_wr_s, reduceIte, Nat.reduceEqDiff]
  have g4 : ∀ i, i < 5 → kg_cpy (kg_wr (kg_wr M 102 0 (M 1 0)) 102 1 (M 1 1)) 2 103 5 103 i = M 2 i := fun i hi => by rw [kg_cpy_s hi, kg_wr_n (by omega), kg_wr_n (by omega)]
  generalize kg_cpy (kg_wr (kg_wr M 102 0 (M 1 0)) 102 1 (M 1 1)) 2 103 5 = M1 at g1 g2 g3 g4 ⊢
  refine kc22_102_1_l hL (M0 := M1) (fun i hi => by rw [g1 _ (by omega) (by omega)]; exact hu i hi) (by omega) ?_ 4 0 M1 rfl (fun _ _ => rfl) (fun j hj => by omega)
  intro M2 a0 a1 a2 a3 a4 a5 a6 a7 a8 a9
  refine hK M2 (fun p hp => by rw [a0 p (by omega), g1 p (by omega) (by omega)]) (kf_Rel_cp hR ⟨⟨?_, ?_⟩, ?_, ?_, ?_, ?_, ⟨?_, ?_⟩, ?_, ?_, ?_, ?_⟩)
  · rw [a0 _ (by omega), g2]
  · rw [a0 _ (by omega), g3]
  · intro i hi; rw [a0 _ (by omega)]; exact g4 i hi
  · intro i hi; rw [a1 i hi, g1 _ (by omega) (by omega)]
  · intro j i h1 h2 hi; rw [a2 j i h1 h2 hi, g1 _ (by omega) (by omega)]
  · intro i hi; rw [a3 i hi, g1 _ (by omega) (by omega)]
  · rw [a4, g1 _ (by omega) (by omega)]
  · intro j i h1 h2 hi; rw [a5 j i h1 h2 hi, g1 _ (by omega) (by omega)]
  · rw [a6, g1 _ (by omega) (by omega)]
  · rw [a7, g1 _ (by omega) (by omega)]
  · intro i hi; rw [a8 i hi, g1 _ (by omega) (by omega)]
  · intro j i h1 h2 hi; rw [a9 j i h1 h2 hi, g1 _ (by omega) (by omega)]

theorem kc5_1_102 (hL : G.2.2.2.2.2.1 < 2 ^ 31) (hd : 2 ≤ d) (hK : ∀ M' : kg_M, (∀ p, (p < 5 ∨ 8 < p) → M' p = M p) → (∀ j i, 4 ≤ j → j ≤ 7 → i < 40 → M' (1 + j) i = M (102 + j) i) → K none (kg_w0 h) M') : kg_call G d 125 5 [.ref 4, .ref 105] (kg_w0 h) M K := by
  obtain ⟨d, rfl⟩ : ∃ e, d = e + 1 := ⟨d - 1, by omega⟩
  refine kg_m5 (by simp) (Nat.le_refl _) (kg_v5 hL (by omega) 40 ?_)
  simp (disch := omega) only [kg_S1, kg_S2, kg_br_T, kg_br_F, kg_br_N, kg_br_t, kg_br_f, kg_at_n, nI_add, pk_mul, kg_sub_n, kg_rem_n, kg_eq_n, kg_lt_n, kg_le_n, kg_nz, kg_01_0, kg_01_1, kg_w0_1, kg_ret0, kg_ret1, kg_ret2, kg_wr_n, kg_wr_s, kg_Skd, kg_Smc, kg_Sob, kg_Srf, kg_Sld, kg_pad, List.map_cons, List.map_nil, List.length_cons, List.length_nil, List.replicate, List.cons_append, List.nil_append, List.append_nil, Nat.reduceAdd, Nat.reduceSub, Nat.reduceMul, Nat.reduceMod, Nat.reduceDiv, Nat.reduceLT, Nat.reduceLeDiff, Nat.reduceEqDiff, ne_eq, not_true_eq_false, not_false_eq_true, reduceIte, true_and, and_true, kg_lk5, kg_ls5, kg_cp_n, kg_cpy_n]
  refine hK _ (fun p hp => ?_) (fun j i h1 h2 hi => ?_)
  · simp (disch := omega) only [kg_cpy_n]
  · obtain rfl | rfl | rfl | rfl : j = 4 ∨ j = 5 ∨ j = 6 ∨ j = 7 := by omega
    all_goals (simp only [Nat.reduceAdd]; simp (disch := omega) only [kg_cpy_n, kg_cpy_s])
theorem kc12_1_102 (hL : G.2.2.2.2.2.1 < 2 ^ 31) (hd : 2 ≤ d) (hK : ∀ M' : kg_M, (∀ p, (p < 10 ∨ 13 < p) → M' p = M p) → M' 10 0 = M 111 0 → (∀ j i, 10 ≤ j → j ≤ 12 → i < 10 → M' (1 + j) i = M (102 + j) i) → K none (kg_w0 h) M') : kg_call G d 125 12 [.ref 10, .ref 111] (kg_w0 h) M K := by
  obtain ⟨d, rfl⟩ : ∃ e, d = e + 1 := ⟨d - 1, by omega⟩
  refine kg_m12 (by simp) (Nat.le_refl _) (kg_v12 hL (by omega) 40 ?_)
  simp (disch := omega) only [kg_S1, kg_S2, kg_br_T, kg_br_F, kg_br_N, kg_br_t, kg_br_f, kg_at_n, nI_add, pk_mul, kg_sub_n, kg_rem_n, kg_eq_n, kg_lt_n, kg_le_n, kg_nz, kg_01_0, kg_01_1, kg_w0_1, kg_ret0, kg_ret1, kg_ret2, kg_wr_n, kg_wr_s, kg_Skd, kg_Smc, kg_Sob, kg_Srf, kg_Sld, kg_pad, List.map_cons, List.map_nil, List.length_cons, List.length_nil, List.replicate, List.cons_append, List.nil_append, List.append_nil, Nat.reduceAdd, Nat.reduceSub, Nat.reduceMul, Nat.reduceMod, Nat.reduceDiv, Nat.reduceLT, Nat.reduceLeDiff, Nat.reduceEqDiff, ne_eq, not_true_eq_false, not_false_eq_true, reduceIte, true_and, and_true, kg_lk12, kg_ls12, kg_cp_n, kg_cpy_n]
  refine hK _ (fun p hp => ?_) ?_ (fun j i h1 h2 hi => ?_)
  · simp (disch := omega) only [kg_cpy_n, kg_wr_n]
  · simp (disch := omega) only [kg_cpy_n, kg_wr_s, reduceIte]
  · obtain rfl | rfl | rfl : j = 10 ∨ j = 11 ∨ j = 12 := by omega
    all_goals (simp only [Nat.reduceAdd]; simp (disch := omega) only [kg_cpy_n, kg_cpy_s, kg_wr_n])
set_option maxRecDepth 100000 in
theorem kc1_1_102 (hL : G.2.2.2.2.2.1 < 2 ^ 31) (hd : 2 ≤ d) (hK : ∀ M' : kg_M, (∀ p, (p < 14 ∨ 19 < p) → M' p = M p) → M' 14 0 = M 115 0 → M' 14 1 = M 115 1 → (∀ i, i < 4 → M' 15 i = M 116 i) → (∀ j i, 15 ≤ j → j ≤ 18 → i < 10 → M' (1 + j) i = M (102 + j) i) → K none (kg_w0 h) M') : kg_call G d 125 1 [.ref 14, .ref 115] (kg_w0 h) M K := by
  obtain ⟨d, rfl⟩ : ∃ e, d = e + 1 := ⟨d - 1, by omega⟩
  refine kg_m1 (by simp) (Nat.le_refl _) (kg_v1 hL (by omega) 60 ?_)
  simp (disch := omega) only [kg_S1, kg_S2, kg_br_T, kg_br_F, kg_br_N, kg_br_t, kg_br_f, kg_at_n, nI_add, pk_mul, kg_sub_n, kg_rem_n, kg_eq_n, kg_lt_n, kg_le_n, kg_nz, kg_01_0, kg_01_1, kg_w0_1, kg_ret0, kg_ret1, kg_ret2, kg_wr_n, kg_wr_s, kg_Skd, kg_Smc, kg_Sob, kg_Srf, kg_Sld, kg_pad, List.map_cons, List.map_nil, List.length_cons, List.length_nil, List.replicate, List.cons_append, List.nil_append, List.append_nil, Nat.reduceAdd, Nat.reduceSub, Nat.reduceMul, Nat.reduceMod, Nat.reduceDiv, Nat.reduceLT, Nat.reduceLeDiff, Nat.reduceEqDiff, ne_eq, not_true_eq_false, not_false_eq_true, reduceIte, true_and, and_true, kg_lk1, kg_ls1, kg_cp_n, kg_cpy_n]
  refine hK _ (fun p hp => ?_) ?_ ?_ (fun i hi => ?_) (fun j i h1 h2 hi => ?_)
  · simp (disch := omega) only [kg_cpy_n, kg_wr_n]
  · simp (disch := omega) only [kg_cpy_n, kg_wr_s, kg_wr_n, reduceIte, Nat.reduceEqDiff]
  · simp (disch := omega) only [kg_cpy_n, kg_wr_s, kg_wr_n, reduceIte, Nat.reduceEqDiff]
  · simp (disch := omega) only [kg_cpy_n, kg_cpy_s, kg_wr_n]
  · obtain rfl | rfl | rfl | rfl : j = 15 ∨ j = 16 ∨ j = 17 ∨ j = 18 := by omega
    all_goals (simp only [Nat.reduceAdd]; simp (disch := omega) only [kg_cpy_n, kg_cpy_s, kg_wr_n])
theorem kc22_1_102_l (hL : G.2.2.2.2.2.1 < 2 ^ 31) {M0 : kg_M} (hu : ∀ i, i < 4 → kg_01 (M0 104 i)) (hd : 3 ≤ d) (hK : ∀ M' : kg_M, (∀ p, (p < 3 ∨ 19 < p) → M' p = M0 p) → (∀ i, i < 4 → M' 3 i = M0 104 i) → (∀ j i, 4 ≤ j → j ≤ 7 → i < 40 → M' (1 + j) i = M0 (102 + j) i) → (∀ i, i < 16 → M' 9 i = M0 110 i) → M' 10 0 = M0 111 0 → (∀ j i, 10 ≤ j → j ≤ 12 → i < 10 → M' (1 + j) i = M0 (102 + j) i) → M' 14 0 = M0 115 0 → M' 14 1 = M0 115 1 → (∀ i, i < 4 → M' 15 i = M0 116 i) → (∀ j i, 15 ≤ j → j ≤ 18 → i < 10 → M' (1 + j) i = M0 (102 + j) i) → K none (kg_w0 h) M') : ∀ (z i : Nat) (M : kg_M), i + z = 4 → (∀ p, p ≠ 3 → M p = M0 p) → (∀ j, j < i → M 3 j = M0 104 j) → kg_P G d 22 3 125 125 K 32 [some (.ref 1), some (.ref 102), some (.int (nI i))] [] (kg_w0 h) M := by
  intro z
  induction z with
  | zero =>
    intro i M hi hf hc
    obtain rfl : i = 4 := by omega
    refine kg_v22 hL (by omega) 60 ?_
    simp (disch := omega) only [kg_S1, kg_S2, kg_br_T, kg_br_F, kg_br_N, kg_br_t, kg_br_f, kg_at_n, nI_add, pk_mul, kg_sub_n, kg_rem_n, kg_eq_n, kg_lt_n, kg_le_n, kg_nz, kg_01_0, kg_01_1, kg_w0_1, kg_ret0, kg_ret1, kg_ret2, kg_wr_n, kg_wr_s, kg_Skd, kg_Smc, kg_Sob, kg_Srf, kg_Sld, kg_pad, List.map_cons, List.map_nil, List.length_cons, List.length_nil, List.replicate, List.cons_append, List.nil_append, List.append_nil, Nat.reduceAdd, Nat.reduceSub, Nat.reduceMul, Nat.reduceMod, Nat.reduceDiv, Nat.reduceLT, Nat.reduceLeDiff, Nat.reduceEqDiff, ne_eq, not_true_eq_false, not_false_eq_true, reduceIte, true_and, and_true, kg_lk22, kg_ls22, kg_cp_n, kg_cpy_n]
    refine kc5_1_102 hL (by omega) ?_
    intro M1 a1 a2
    simp (disch := omega) only [kg_S1, kg_S2, kg_br_T, kg_br_F, kg_br_N, kg_br_t, kg_br_f, kg_at_n, nI_add, pk_mul, kg_sub_n, kg_rem_n, kg_eq_n, kg_lt_n, kg_le_n, kg_nz, kg_01_0, kg_01_1, kg_w0_1, kg_ret0, kg_ret1, kg_ret2, kg_wr_n, kg_wr_s, kg_Skd, kg_Smc, kg_Sob, kg_Srf, kg_Sld, kg_pad, List.map_cons, List.map_nil, List.length_cons, List.length_nil, List.replicate, List.cons_append, List.nil_append, List.append_nil, Nat.reduceAdd, Nat.reduceSub, Nat.reduceMul, Nat.reduceMod, Nat.reduceDiv, Nat.reduceLT, Nat.reduceLeDiff, Nat.reduceEqDiff, ne_eq, not_true_eq_false, not_false_eq_true, reduceIte, true_and, and_true, kg_lk22, kg_ls22, kg_cp_n, kg_cpy_n]
    refine kc12_1_102 hL (by omega) ?_
    intro M2 b1 b2 b3
    simp (disch := omega) only [kg_S1, kg_S2, kg_br_T, kg_br_F, kg_br_N, kg_br_t, kg_br_f, kg_at_n, nI_add, pk_mul, kg_sub_n, kg_rem_n, kg_eq_n, kg_lt_n, kg_le_n, kg_nz, kg_01_0, kg_01_1, kg_w0_1, kg_ret0, kg_ret1, kg_ret2, kg_wr_n, kg_wr_s, kg_Skd, kg_Smc, kg_Sob, kg_Srf, kg_Sld, kg_pad, List.map_cons, List.map_nil, List.length_cons, List.length_nil, List.replicate, List.cons_append, List.nil_append, List.append_nil, Nat.reduceAdd, Nat.reduceSub, Nat.reduceMul, Nat.reduceMod, Nat.reduceDiv, Nat.reduceLT, Nat.reduceLeDiff, Nat.reduceEqDiff, ne_eq, not_true_eq_false, not_false_eq_true, reduceIte, true_and, and_true, kg_lk22, kg_ls22, kg_cp_n, kg_cpy_n]
    refine kc1_1_102 hL (by omega) ?_
    intro M3 c1 c2 c3 c4 c5
    simp (disch := omega) only [kg_S1, kg_S2, kg_br_T, kg_br_F, kg_br_N, kg_br_t, kg_br_f, kg_at_n, nI_add, pk_mul, kg_sub_n, kg_rem_n, kg_eq_n, kg_lt_n, kg_le_n, kg_nz, kg_01_0, kg_01_1, kg_w0_1, kg_ret0, kg_ret1, kg_ret2, kg_wr_n, kg_wr_s, kg_Skd, kg_Smc, kg_Sob, kg_Srf, kg_Sld, kg_pad, List.map_cons, List.map_nil, List.length_cons, List.length_nil, List.replicate, List.cons_append, List.nil_append, List.append_nil, Nat.reduceAdd, Nat.reduceSub, Nat.reduceMul, Nat.reduceMod, Nat.reduceDiv, Nat.reduceLT, Nat.reduceLeDiff, Nat.reduceEqDiff, ne_eq, not_true_eq_false, not_false_eq_true, reduceIte, true_and, and_true, kg_lk22, kg_ls22, kg_cp_n, kg_cpy_n]
    have fr : ∀ p, (p < 14 ∨ 19 < p) → (p < 10 ∨ 13 < p) → p ≠ 9 → (p < 5 ∨ 8 < p) → p ≠ 3 → M3 p = M0 p := fun p h1 h2 h3 h4 h5 => by rw [c1 p h1, b1 p h2, kg_cpy_n h3, a1 p h4, hf p h5]
    have fr2 : ∀ p, (p < 10 ∨ 13 < p) → p ≠ 9 → (p < 5 ∨ 8 < p) → p ≠ 3 → M2 p = M0 p := fun p h2 h3 h4 h5 => by rw [b1 p h2, kg_cpy_n h3, a1 p h4, hf p h5]
    have fr1 : ∀ p, p ≠ 9 → (p < 5 ∨ 8 < p) → p ≠ 3 → kg_cpy M1 110 9 16 p = M0 p := fun p h3 h4 h5 => by rw [kg_cpy_n h3, a1 p h4, hf p h5]
    refine hK M3 (fun p hp => fr p (by omega) (by omega) (by omega) (by omega) (by omega)) ?_ ?_ ?_ ?_ ?_ ?_ ?_ ?_ ?_
    · intro i hi; rw [c1 _ (by omega), b1 _ (by omega), kg_cpy_n (by omega), a1 _ (by omega)]; exact hc i hi
    · intro j i h1 h2 hi; rw [c1 _ (by omega), b1 _ (by omega), kg_cpy_n (by omega), a2 j i h1 h2 hi, hf _ (by omega)]
    · intro i hi; rw [c1 _ (by omega), b1 _ (by omega), kg_cpy_s hi, a1 _ (by omega), hf _ (by omega)]
    · rw [c1 _ (by omega), b2, fr1 _ (by omega) (by omega) (by omega)]
    · intro j i h1 h2 hi; rw [c1 _ (by omega), b3 j i h1 h2 hi, fr1 _ (by omega) (by omega) (by omega)]
    · rw [c2, fr2 _ (by omega) (by omega) (by omega) (by omega)]
    · rw [c3, fr2 _ (by omega) (by omega) (by omega) (by omega)]
    · intro i hi; rw [c4 i hi, fr2 _ (by omega) (by omega) (by omega) (by omega)]
    · intro j i h1 h2 hi; rw [c5 j i h1 h2 hi, fr2 _ (by omega) (by omega) (by omega) (by omega)]
  | succ z ih =>
    intro i M hi hf hc
    have e1 : M 104 i = M0 104 i := by rw [hf _ (by omega)]
    have e2 := hu i (by omega)
    refine kg_v22 hL (by omega) 60 ?_
    simp (disch := omega) only [kg_S1, kg_S2, kg_br_T, kg_br_F, kg_br_N, kg_br_t, kg_br_f, kg_at_n, nI_add, pk_mul, kg_sub_n, kg_rem_n, kg_eq_n, kg_lt_n, kg_le_n, kg_nz, kg_01_0, kg_01_1, kg_w0_1, kg_ret0, kg_ret1, kg_ret2, kg_wr_n, kg_wr_s, kg_Skd, kg_Smc, kg_Sob, kg_Srf, kg_Sld, kg_pad, List.map_cons, List.map_nil, List.length_cons, List.length_nil, List.replicate, List.cons_append, List.nil_append, List.append_nil, Nat.reduceAdd, Nat.reduceSub, Nat.reduceMul, Nat.reduceMod, Nat.reduceDiv, Nat.reduceLT, Nat.reduceLeDiff, Nat.reduceEqDiff, ne_eq, not_true_eq_false, not_false_eq_true, reduceIte, true_and, and_true, kg_lk22, kg_ls22, kg_cp_n, kg_cpy_n, e1, e2]
    refine ih (i + 1) _ (by omega) (fun p hp => (kg_wr_n hp).trans (hf p hp)) (fun j hj => ?_)
    rw [kg_wr_s]
    by_cases e : j = i
    · rw [if_pos e, e]
    · rw [if_neg e]; exact hc j (by omega)
theorem kc22_1_102 (hL : G.2.2.2.2.2.1 < 2 ^ 31) (hR : kf_Rel c M 102 r) (hd : 4 ≤ d) (hK : ∀ M' : kg_M, (∀ p, (p < 1 ∨ 20 < p) → M' p = M p) → kf_Rel c M' 1 r → K none (kg_w0 h) M') : kg_call G d 125 22 [.ref 1, .ref 102] (kg_w0 h) M K := by
  obtain ⟨d, rfl⟩ : ∃ e, d = e + 1 := ⟨d - 1, by omega⟩
  refine kg_m22 (by simp) (Nat.le_refl _) (kg_v22 hL (by omega) 60 ?_)
  simp (disch := omega) only [kg_S1, kg_S2, kg_br_T, kg_br_F, kg_br_N, kg_br_t, kg_br_f, kg_at_n, nI_add, pk_mul, kg_sub_n, kg_rem_n, kg_eq_n, kg_lt_n, kg_le_n, kg_nz, kg_01_0, kg_01_1, kg_w0_1, kg_ret0, kg_ret1, kg_ret2, kg_wr_n, kg_wr_s, kg_Skd, kg_Smc, kg_Sob, kg_Srf, kg_Sld, kg_pad, List.map_cons, List.map_nil, List.length_cons, List.length_nil, List.replicate, List.cons_append, List.nil_append, List.append_nil, Nat.reduceAdd, Nat.reduceSub, Nat.reduceMul, Nat.reduceMod, Nat.reduceDiv, Nat.reduceLT, Nat.reduceLeDiff, Nat.reduceEqDiff, ne_eq, not_true_eq_false, not_false_eq_true, reduceIte, true_and, and_true, kg_lk22, kg_ls22, kg_cp_n, kg_cpy_n]
  have hu : ∀ i, i < 4 → kg_01 (M 104 i) := fun i hi => kf_upx hR hi
  have g1 : ∀ p, p ≠ 1 → p ≠ 2 → kg_cpy (kg_wr (kg_wr M 1 0 (M 102 0)) 1 1 (M 102 1)) 103 2 5 p = M p := fun p h1 h2 => by rw [kg_cpy_n h2, kg_wr_n h1, kg_wr_n h1]
  have g2 : kg_cpy (kg_wr (kg_wr M 1 0 (M 102 0)) 1 1 (M 102 1)) 103 2 5 1 0 = M 102 0 := by simp (disch := omega) only [kg_cpy_n, kg_wr_s, reduceIte, Nat.reduceEqDiff]
  have g3 : kg_cpy (kg_wr (kg_wr M 1 0 (M 102 0)) 1 1 (M 102 1)) 103 2 5 1 1 = M 102 1 := by simp (disch := omega) only [kg_cpy_n, kg_wr_s, reduceIte, Nat.reduceEqDiff]
  have g4 : ∀ i, i < 5 → kg_cpy (kg_wr (kg_wr M 1 0 (M 102 0)) 1 1 (M 102 1)) 103 2 5 2 i = M 103 i := fun i hi => by rw [kg_cpy_s hi, kg_wr_n (by omega), kg_wr_n (by omega)]
  generalize kg_cpy (kg_wr (kg_wr M 1 0 (M 102 0)) 1 1 (M 102 1)) 103 2 5 = M1 at g1 g2 g3 g4 ⊢
  refine kc22_1_102_l hL (M0 := M1) (fun i hi => by rw [g1 _ (by omega) (by omega)]; exact hu i hi) (by omega) ?_ 4 0 M1 rfl (fun _ _ => rfl) (fun j hj => by omega)
  intro M2 a0 a1 a2 a3 a4 a5 a6 a7 a8 a9
  refine hK M2 (fun p hp => by rw [a0 p (by omega), g1 p (by omega) (by omega)]) (kf_Rel_cp hR ⟨⟨?_, ?_⟩, ?_, ?_, ?_, ?_, ⟨?_, ?_⟩, ?_, ?_, ?_, ?_⟩)
  · rw [a0 _ (by omega), g2]
  · rw [a0 _ (by omega), g3]
  · intro i hi; rw [a0 _ (by omega)]; exact g4 i hi
  · intro i hi; rw [a1 i hi, g1 _ (by omega) (by omega)]
  · intro j i h1 h2 hi; rw [a2 j i h1 h2 hi, g1 _ (by omega) (by omega)]
  · intro i hi; rw [a3 i hi, g1 _ (by omega) (by omega)]
  · rw [a4, g1 _ (by omega) (by omega)]
  · intro j i h1 h2 hi; rw [a5 j i h1 h2 hi, g1 _ (by omega) (by omega)]
  · rw [a6, g1 _ (by omega) (by omega)]
  · rw [a7, g1 _ (by omega) (by omega)]
  · intro i hi; rw [a8 i hi, g1 _ (by omega) (by omega)]
  · intro j i h1 h2 hi; rw [a9 j i h1 h2 hi, g1 _ (by omega) (by omega)]

end
