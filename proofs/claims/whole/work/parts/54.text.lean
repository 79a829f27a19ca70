/-! the model's text: sign and number -/
def kf_T (M M0 : kg_M) (r : Nat → Int32) (a w : Nat) : Prop := (∀ p, p ≠ 124 → p ≠ 125 → M p = M0 p) ∧ (∀ i, i ≠ 7 → i ≠ 8 → M 124 i = M0 124 i) ∧ M 125 = r ∧ M 124 7 = nI a ∧ M 124 8 = nI w
theorem kf_T_8 {M M0 : kg_M} {r : Nat → Int32} {a w w' : Nat} (h : kf_T M M0 r a w) : kf_T (kg_wr M 124 8 (nI w')) M0 r a w' := by
  obtain ⟨h1, h2, h3, h4, h5⟩ := h
  refine ⟨fun p p1 p2 => (kg_wr_n p1).trans (h1 p p1 p2), fun i i1 i2 => ?_, (kg_wr_n (by omega)).trans h3, ?_, ?_⟩
  · rw [kg_wr_s, if_neg i2]; exact h2 i i1 i2
  · rw [kg_wr_s, if_neg (by omega)]; exact h4
  · rw [kg_wr_s, if_pos rfl]
theorem kf_T_7 {M M0 : kg_M} {r : Nat → Int32} {a a' w : Nat} (h : kf_T M M0 r a w) : kf_T (kg_wr M 124 7 (nI a')) M0 r a' w := by
  obtain ⟨h1, h2, h3, h4, h5⟩ := h
  refine ⟨fun p p1 p2 => (kg_wr_n p1).trans (h1 p p1 p2), fun i i1 i2 => ?_, (kg_wr_n (by omega)).trans h3, ?_, ?_⟩
  · rw [kg_wr_s, if_neg i1]; exact h2 i i1 i2
  · rw [kg_wr_s, if_pos rfl]
  · rw [kg_wr_s, if_neg (by omega)]; exact h5
/-- the text that the model holds -/
def kf_X (M0 : kg_M) (x : Nat → Nat) (L : Nat) : Prop := M0 124 6 = nI L ∧ L ≤ 60 ∧ ∀ i, i < L → M0 128 i = nI (x i) ∧ x i < 65536
section
variable {G : kg_G} {d c : Nat} {h : Nat → Nat} {A : kf_A} {M M0 : kg_M} {K : kg_Qt} {r r0 : Nat → Int32} {x : Nat → Nat} {L : Nat}

set_option maxRecDepth 100000 in
theorem kc117g (hL : G.2.2.2.2.2.1 < 2 ^ 31) {a lo hi : Nat} (hX : kf_X M0 x L) (hT : kf_T M M0 r a 0) (ha : a < L) (h1 : lo ≤ x a) (h2 : x a ≤ hi) (hhi : hi < 100) (hd : 3 ≤ d) (hK : ∀ M' : kg_M, kf_T M' M0 r (a + 1) 0 → K (some (.int (nI (x a)))) (kg_w0 h) M') : kg_call G d 129 117 [.ref 124, .int (nI lo), .int (nI hi)] (kg_w0 h) M K := by
  obtain ⟨d, rfl⟩ : ∃ e, d = e + 1 := ⟨d - 1, by omega⟩
  refine kg_m117 (by simp) (Nat.le_refl _) (kg_v117 hL (by omega) 40 ?_)
  have e7 := hT.2.2.2.1
  have e8 := hT.2.2.2.2
  have e6 : M 124 6 = nI L := (hT.2.1 6 (by omega) (by omega)).trans hX.1
  have ex : M 128 a = nI (x a) := by rw [hT.1 128 (by omega) (by omega)]; exact (hX.2.2 a ha).1
  have hl := hX.2.1
  have b1 : kf_b true = nI 1 := rfl
  simp (disch := omega) only [↓kb_0t, ↓kb_0f, ↓kb_1t, ↓kb_1f, ↓kb_2t, ↓kb_2f, ↓kb_3t, ↓kb_3f, ↓kb_4t, ↓kb_4f, ↓kb_5t, ↓kb_5f, ↓kg_S1, kg_S2, kg_br_T, kg_br_F, kg_br_N, kg_br_t, kg_br_f, ↓kg_at_n, nI_add, pk_mul, kg_sub_n, kg_rem_n, kg_eq_n, kg_lt_n, kg_le_n, kg_nz, kg_01_0, kg_01_1, kg_w0_1, kg_ret0, kg_ret1, kg_ret2, kg_wr_n, kg_Skd, kg_Smc, kg_Sob, kg_Srf, kg_Sld, kg_pad, List.map_cons, List.map_nil, List.length_cons, List.length_nil, List.replicate, List.cons_append, List.nil_append, List.append_nil, Nat.reduceAdd, Nat.reduceSub, Nat.reduceMul, Nat.reduceMod, Nat.reduceDiv, Nat.reduceLT, Nat.reduceLeDiff, Nat.reduceEqDiff, ne_eq, not_true_eq_false, not_false_eq_true, reduceIte, true_and, and_true, kw_n, kw_s, kw_w, kw_o, kw_ws, kw_wn, ku_s, ku_n, kg_lk117, kg_ls117, e7, e8, e6, ex]
  refine kc90 hL (by omega) ?_
  have eb : (decide (nI lo ≤ nI (x a)) && decide (nI (x a) ≤ nI hi)) = true := by
    simp (disch := omega) only [kg_le_n]
    simp; omega
  rw [eb, b1]
  simp (disch := omega) only [↓kb_0t, ↓kb_0f, ↓kb_1t, ↓kb_1f, ↓kb_2t, ↓kb_2f, ↓kb_3t, ↓kb_3f, ↓kb_4t, ↓kb_4f, ↓kb_5t, ↓kb_5f, ↓kg_S1, kg_S2, kg_br_T, kg_br_F, kg_br_N, kg_br_t, kg_br_f, ↓kg_at_n, nI_add, pk_mul, kg_sub_n, kg_rem_n, kg_eq_n, kg_lt_n, kg_le_n, kg_nz, kg_01_0, kg_01_1, kg_w0_1, kg_ret0, kg_ret1, kg_ret2, kg_wr_n, kg_Skd, kg_Smc, kg_Sob, kg_Srf, kg_Sld, kg_pad, List.map_cons, List.map_nil, List.length_cons, List.length_nil, List.replicate, List.cons_append, List.nil_append, List.append_nil, Nat.reduceAdd, Nat.reduceSub, Nat.reduceMul, Nat.reduceMod, Nat.reduceDiv, Nat.reduceLT, Nat.reduceLeDiff, Nat.reduceEqDiff, ne_eq, not_true_eq_false, not_false_eq_true, reduceIte, true_and, and_true, kw_n, kw_s, kw_w, kw_o, kw_ws, kw_wn, ku_s, ku_n, kg_lk117, kg_ls117, e7, e8]
  have := hK (kg_wr (kg_wr M 124 8 (nI 0)) 124 7 (nI (a + 1))) (kf_T_7 (kf_T_8 hT))
  exact this
set_option maxRecDepth 100000 in
theorem kc117e (hL : G.2.2.2.2.2.1 < 2 ^ 31) {a lo hi w : Nat} (hX : kf_X M0 x L) (hT : kf_T M M0 r a w) (ha : a ≤ L) (hw : w = 1 ∨ (w = 0 ∧ (a < L → x a < lo ∨ hi < x a))) (hlo : 0 < lo) (hlo2 : lo < 100) (hhi : hi < 100) (hd : 3 ≤ d) (hK : ∀ (M' : kg_M) (v : Int32), kf_T M' M0 r a 1 → K (some (.int v)) (kg_w0 h) M') : kg_call G d 129 117 [.ref 124, .int (nI lo), .int (nI hi)] (kg_w0 h) M K := by
  obtain ⟨d, rfl⟩ : ∃ e, d = e + 1 := ⟨d - 1, by omega⟩
  refine kg_m117 (by simp) (Nat.le_refl _) (kg_v117 hL (by omega) 40 ?_)
  have e7 := hT.2.2.2.1
  have e8 := hT.2.2.2.2
  have e6 : M 124 6 = nI L := (hT.2.1 6 (by omega) (by omega)).trans hX.1
  have hl := hX.2.1
  have b0 : kf_b false = nI 0 := rfl
  by_cases q : a < L
  · have ex : M 128 a = nI (x a) := by rw [hT.1 128 (by omega) (by omega)]; exact (hX.2.2 a q).1
    have hx2 := (hX.2.2 a q).2
    rcases hw with rfl | ⟨rfl, hw⟩
    · simp (disch := omega) only [↓kb_0t, ↓kb_0f, ↓kb_1t, ↓kb_1f, ↓kb_2t, ↓kb_2f, ↓kb_3t, ↓kb_3f, ↓kb_4t, ↓kb_4f, ↓kb_5t, ↓kb_5f, ↓kg_S1, kg_S2, kg_br_T, kg_br_F, kg_br_N, kg_br_t, kg_br_f, ↓kg_at_n, nI_add, pk_mul, kg_sub_n, kg_rem_n, kg_eq_n, kg_lt_n, kg_le_n, kg_nz, kg_01_0, kg_01_1, kg_w0_1, kg_ret0, kg_ret1, kg_ret2, kg_wr_n, kg_Skd, kg_Smc, kg_Sob, kg_Srf, kg_Sld, kg_pad, List.map_cons, List.map_nil, List.length_cons, List.length_nil, List.replicate, List.cons_append, List.nil_append, List.append_nil, Nat.reduceAdd, Nat.reduceSub, Nat.reduceMul, Nat.reduceMod, Nat.reduceDiv, Nat.reduceLT, Nat.reduceLeDiff, Nat.reduceEqDiff, ne_eq, not_true_eq_false, not_false_eq_true, reduceIte, true_and, and_true, kw_n, kw_s, kw_w, kw_o, kw_ws, kw_wn, ku_s, ku_n, kg_lk117, kg_ls117, e7, e8, e6, ex]
      exact hK (kg_wr (kg_wr M 124 8 (nI 1)) 124 7 (nI (a + 0))) _ (kf_T_7 (kf_T_8 hT))
    · have hw' := hw q
      simp (disch := omega) only [↓kb_0t, ↓kb_0f, ↓kb_1t, ↓kb_1f, ↓kb_2t, ↓kb_2f, ↓kb_3t, ↓kb_3f, ↓kb_4t, ↓kb_4f, ↓kb_5t, ↓kb_5f, ↓kg_S1, kg_S2, kg_br_T, kg_br_F, kg_br_N, kg_br_t, kg_br_f, ↓kg_at_n, nI_add, pk_mul, kg_sub_n, kg_rem_n, kg_eq_n, kg_lt_n, kg_le_n, kg_nz, kg_01_0, kg_01_1, kg_w0_1, kg_ret0, kg_ret1, kg_ret2, kg_wr_n, kg_Skd, kg_Smc, kg_Sob, kg_Srf, kg_Sld, kg_pad, List.map_cons, List.map_nil, List.length_cons, List.length_nil, List.replicate, List.cons_append, List.nil_append, List.append_nil, Nat.reduceAdd, Nat.reduceSub, Nat.reduceMul, Nat.reduceMod, Nat.reduceDiv, Nat.reduceLT, Nat.reduceLeDiff, Nat.reduceEqDiff, ne_eq, not_true_eq_false, not_false_eq_true, reduceIte, true_and, and_true, kw_n, kw_s, kw_w, kw_o, kw_ws, kw_wn, ku_s, ku_n, kg_lk117, kg_ls117, e7, e8, e6, ex]
      refine kc90 hL (by omega) ?_
      have eb : (decide (nI lo ≤ nI (x a)) && decide (nI (x a) ≤ nI hi)) = false := by
        simp (disch := omega) only [kg_le_n]
        simp; omega
      rw [eb, b0]
      simp (disch := omega) only [↓kb_0t, ↓kb_0f, ↓kb_1t, ↓kb_1f, ↓kb_2t, ↓kb_2f, ↓kb_3t, ↓kb_3f, ↓kb_4t, ↓kb_4f, ↓kb_5t, ↓kb_5f, ↓kg_S1, kg_S2, kg_br_T, kg_br_F, kg_br_N, kg_br_t, kg_br_f, ↓kg_at_n, nI_add, pk_mul, kg_sub_n, kg_rem_n, kg_eq_n, kg_lt_n, kg_le_n, kg_nz, kg_01_0, kg_01_1, kg_w0_1, kg_ret0, kg_ret1, kg_ret2, kg_wr_n, kg_Skd, kg_Smc, kg_Sob, kg_Srf, kg_Sld, kg_pad, List.map_cons, List.map_nil, List.length_cons, List.length_nil, List.replicate, List.cons_append, List.nil_append, List.append_nil, Nat.reduceAdd, Nat.reduceSub, Nat.reduceMul, Nat.reduceMod, Nat.reduceDiv, Nat.reduceLT, Nat.reduceLeDiff, Nat.reduceEqDiff, ne_eq, not_true_eq_false, not_false_eq_true, reduceIte, true_and, and_true, kw_n, kw_s, kw_w, kw_o, kw_ws, kw_wn, ku_s, ku_n, kg_lk117, kg_ls117, e7, e8]
      exact hK (kg_wr (kg_wr M 124 8 (nI 1)) 124 7 (nI (a + 0))) _ (kf_T_7 (kf_T_8 hT))
  · rcases hw with rfl | ⟨rfl, hw⟩
    · simp (disch := omega) only [↓kb_0t, ↓kb_0f, ↓kb_1t, ↓kb_1f, ↓kb_2t, ↓kb_2f, ↓kb_3t, ↓kb_3f, ↓kb_4t, ↓kb_4f, ↓kb_5t, ↓kb_5f, ↓kg_S1, kg_S2, kg_br_T, kg_br_F, kg_br_N, kg_br_t, kg_br_f, ↓kg_at_n, nI_add, pk_mul, kg_sub_n, kg_rem_n, kg_eq_n, kg_lt_n, kg_le_n, kg_nz, kg_01_0, kg_01_1, kg_w0_1, kg_ret0, kg_ret1, kg_ret2, kg_wr_n, kg_Skd, kg_Smc, kg_Sob, kg_Srf, kg_Sld, kg_pad, List.map_cons, List.map_nil, List.length_cons, List.length_nil, List.replicate, List.cons_append, List.nil_append, List.append_nil, Nat.reduceAdd, Nat.reduceSub, Nat.reduceMul, Nat.reduceMod, Nat.reduceDiv, Nat.reduceLT, Nat.reduceLeDiff, Nat.reduceEqDiff, ne_eq, not_true_eq_false, not_false_eq_true, reduceIte, true_and, and_true, kw_n, kw_s, kw_w, kw_o, kw_ws, kw_wn, ku_s, ku_n, kg_lk117, kg_ls117, e7, e8, e6]
      exact hK (kg_wr (kg_wr M 124 8 (nI 1)) 124 7 (nI (a + 0))) _ (kf_T_7 (kf_T_8 hT))
    · simp (disch := omega) only [↓kb_0t, ↓kb_0f, ↓kb_1t, ↓kb_1f, ↓kb_2t, ↓kb_2f, ↓kb_3t, ↓kb_3f, ↓kb_4t, ↓kb_4f, ↓kb_5t, ↓kb_5f, ↓kg_S1, kg_S2, kg_br_T, kg_br_F, kg_br_N, kg_br_t, kg_br_f, ↓kg_at_n, nI_add, pk_mul, kg_sub_n, kg_rem_n, kg_eq_n, kg_lt_n, kg_le_n, kg_nz, kg_01_0, kg_01_1, kg_w0_1, kg_ret0, kg_ret1, kg_ret2, kg_wr_n, kg_Skd, kg_Smc, kg_Sob, kg_Srf, kg_Sld, kg_pad, List.map_cons, List.map_nil, List.length_cons, List.length_nil, List.replicate, List.cons_append, List.nil_append, List.append_nil, Nat.reduceAdd, Nat.reduceSub, Nat.reduceMul, Nat.reduceMod, Nat.reduceDiv, Nat.reduceLT, Nat.reduceLeDiff, Nat.reduceEqDiff, ne_eq, not_true_eq_false, not_false_eq_true, reduceIte, true_and, and_true, kw_n, kw_s, kw_w, kw_o, kw_ws, kw_wn, ku_s, ku_n, kg_lk117, kg_ls117, e7, e8, e6]
      refine kc90 hL (by omega) ?_
      have eb : (decide (nI lo ≤ nI 0) && decide (nI 0 ≤ nI hi)) = false := by
        simp (disch := omega) only [kg_le_n]
        simp; omega
      rw [eb, b0]
      simp (disch := omega) only [↓kb_0t, ↓kb_0f, ↓kb_1t, ↓kb_1f, ↓kb_2t, ↓kb_2f, ↓kb_3t, ↓kb_3f, ↓kb_4t, ↓kb_4f, ↓kb_5t, ↓kb_5f, ↓kg_S1, kg_S2, kg_br_T, kg_br_F, kg_br_N, kg_br_t, kg_br_f, ↓kg_at_n, nI_add, pk_mul, kg_sub_n, kg_rem_n, kg_eq_n, kg_lt_n, kg_le_n, kg_nz, kg_01_0, kg_01_1, kg_w0_1, kg_ret0, kg_ret1, kg_ret2, kg_wr_n, kg_Skd, kg_Smc, kg_Sob, kg_Srf, kg_Sld, kg_pad, List.map_cons, List.map_nil, List.length_cons, List.length_nil, List.replicate, List.cons_append, List.nil_append, List.append_nil, Nat.reduceAdd, Nat.reduceSub, Nat.reduceMul, Nat.reduceMod, Nat.reduceDiv, Nat.reduceLT, Nat.reduceLeDiff, Nat.reduceEqDiff, ne_eq, not_true_eq_false, not_false_eq_true, reduceIte, true_and, and_true, kw_n, kw_s, kw_w, kw_o, kw_ws, kw_wn, ku_s, ku_n, kg_lk117, kg_ls117, e7, e8]
      exact hK (kg_wr (kg_wr M 124 8 (nI 1)) 124 7 (nI (a + 0))) _ (kf_T_7 (kf_T_8 hT))
set_option maxRecDepth 100000 in
theorem kc118e (hL : G.2.2.2.2.2.1 < 2 ^ 31) {a w : Nat} (hX : kf_X M0 x L) (hT : kf_T M M0 r a w) (ha : a ≤ L) (hw : w = 1 ∨ (w = 0 ∧ (a < L → x a < 48 ∨ 57 < x a))) (hd : 4 ≤ d) (hK : ∀ (M' : kg_M) (v : Int32), kf_T M' M0 r a 1 → K (some (.int v)) (kg_w0 h) M') : kg_call G d 129 118 [.ref 124] (kg_w0 h) M K := by
  obtain ⟨d, rfl⟩ : ∃ e, d = e + 1 := ⟨d - 1, by omega⟩
  refine kg_m118 (by simp) (Nat.le_refl _) (kg_v118 hL (by omega) 20 ?_)
  simp (disch := omega) only [↓kb_0t, ↓kb_0f, ↓kb_1t, ↓kb_1f, ↓kb_2t, ↓kb_2f, ↓kb_3t, ↓kb_3f, ↓kb_4t, ↓kb_4f, ↓kb_5t, ↓kb_5f, ↓kg_S1, kg_S2, kg_br_T, kg_br_F, kg_br_N, kg_br_t, kg_br_f, ↓kg_at_n, nI_add, pk_mul, kg_sub_n, kg_rem_n, kg_eq_n, kg_lt_n, kg_le_n, kg_nz, kg_01_0, kg_01_1, kg_w0_1, kg_ret0, kg_ret1, kg_ret2, kg_wr_n, kg_Skd, kg_Smc, kg_Sob, kg_Srf, kg_Sld, kg_pad, List.map_cons, List.map_nil, List.length_cons, List.length_nil, List.replicate, List.cons_append, List.nil_append, List.append_nil, Nat.reduceAdd, Nat.reduceSub, Nat.reduceMul, Nat.reduceMod, Nat.reduceDiv, Nat.reduceLT, Nat.reduceLeDiff, Nat.reduceEqDiff, ne_eq, not_true_eq_false, not_false_eq_true, reduceIte, true_and, and_true, kw_n, kw_s, kw_w, kw_o, kw_ws, kw_wn, ku_s, ku_n, kg_lk118, kg_ls118]
  refine kc117e hL hX hT ha hw (by omega) (by omega) (by omega) (by omega) ?_
  intro M1 v h1
  have e8 := h1.2.2.2.2
  simp (disch := omega) only [↓kb_0t, ↓kb_0f, ↓kb_1t, ↓kb_1f, ↓kb_2t, ↓kb_2f, ↓kb_3t, ↓kb_3f, ↓kb_4t, ↓kb_4f, ↓kb_5t, ↓kb_5f, ↓kg_S1, kg_S2, kg_br_T, kg_br_F, kg_br_N, kg_br_t, kg_br_f, ↓kg_at_n, nI_add, pk_mul, kg_sub_n, kg_rem_n, kg_eq_n, kg_lt_n, kg_le_n, kg_nz, kg_01_0, kg_01_1, kg_w0_1, kg_ret0, kg_ret1, kg_ret2, kg_wr_n, kg_Skd, kg_Smc, kg_Sob, kg_Srf, kg_Sld, kg_pad, List.map_cons, List.map_nil, List.length_cons, List.length_nil, List.replicate, List.cons_append, List.nil_append, List.append_nil, Nat.reduceAdd, Nat.reduceSub, Nat.reduceMul, Nat.reduceMod, Nat.reduceDiv, Nat.reduceLT, Nat.reduceLeDiff, Nat.reduceEqDiff, ne_eq, not_true_eq_false, not_false_eq_true, reduceIte, true_and, and_true, kw_n, kw_s, kw_w, kw_o, kw_ws, kw_wn, ku_s, ku_n, kg_lk118, kg_ls118]
  refine kg_v118 hL (by omega) 20 ?_
  simp (disch := omega) only [↓kb_0t, ↓kb_0f, ↓kb_1t, ↓kb_1f, ↓kb_2t, ↓kb_2f, ↓kb_3t, ↓kb_3f, ↓kb_4t, ↓kb_4f, ↓kb_5t, ↓kb_5f, ↓kg_S1, kg_S2, kg_br_T, kg_br_F, kg_br_N, kg_br_t, kg_br_f, ↓kg_at_n, nI_add, pk_mul, kg_sub_n, kg_rem_n, kg_eq_n, kg_lt_n, kg_le_n, kg_nz, kg_01_0, kg_01_1, kg_w0_1, kg_ret0, kg_ret1, kg_ret2, kg_wr_n, kg_Skd, kg_Smc, kg_Sob, kg_Srf, kg_Sld, kg_pad, List.map_cons, List.map_nil, List.length_cons, List.length_nil, List.replicate, List.cons_append, List.nil_append, List.append_nil, Nat.reduceAdd, Nat.reduceSub, Nat.reduceMul, Nat.reduceMod, Nat.reduceDiv, Nat.reduceLT, Nat.reduceLeDiff, Nat.reduceEqDiff, ne_eq, not_true_eq_false, not_false_eq_true, reduceIte, true_and, and_true, kw_n, kw_s, kw_w, kw_o, kw_ws, kw_wn, ku_s, ku_n, kg_lk118, kg_ls118, e8]
  exact hK _ _ h1
theorem kf_da_d {i : Nat} (h : kf_dig (x i) = true) : kf_da x r (i + 1) = ((kf_da x r i).1, (kf_da x r i).2.1, (kf_da x r i).2.2.1 * 10 + (x i - 48), (kf_da x r i).2.2.2) := by
  rw [kf_da, if_pos h]
theorem kf_nd_p {p c nd : Nat} (h : p ≠ 0) : kf_nd p c nd = nd := if_neg h
set_option maxRecDepth 100000 in
theorem kc118_l (hL : G.2.2.2.2.2.1 < 2 ^ 31) {nd n0 : Nat} (hX : kf_X M0 x L) (hx2 : ∀ i, i < L → x i < 65536) (hd : 4 ≤ d) {D0 : kf_DT} (hK : ∀ (M' : kg_M) (a p : Nat), kf_T M' M0 r a 0 → a ≤ L → kf_au x a = some (p, nd) → 4 < p → (a < L → ¬ (kf_dig (x a) = true ∧ p < 8)) → (kf_da x r0 a).1 = D0.1 → (kf_da x r0 a).2.1 = D0.2.1 → (kf_da x r0 a).2.2.2 = D0.2.2.2 → kf_cm x a = D0.2.2.1 → n0 ≤ a → K (some (.int (nI (kf_da x r0 a).2.2.1))) (kg_w0 h) M') : ∀ (z a p g : Nat) (M : kg_M), a + z = L → kf_T M M0 r a 0 → kf_au x a = some (p, nd) → ((p = 8 ∧ (kf_da x r0 a).2.2.1 = 0 ∧ g = 1) ∨ (0 < (kf_da x r0 a).2.2.1 ∧ p = 4 + g ∧ 1 ≤ g ∧ g ≤ 4)) → (kf_da x r0 a).1 = D0.1 → (kf_da x r0 a).2.1 = D0.2.1 → (kf_da x r0 a).2.2.2 = D0.2.2.2 → kf_cm x a = D0.2.2.1 → n0 ≤ a → kg_P G d 118 3 129 129 K 14 [some (.ref 124), some (.int (nI (kf_da x r0 a).2.2.1)), some (.int (nI g))] [] (kg_w0 h) M := by
  intro z
  induction z with
  | zero =>
    intro a p g M haz hT hau hp d1 d2 d3 d4 d5
    obtain rfl : a = L := by omega
    have e7 := hT.2.2.2.1
    have e8 := hT.2.2.2.2
    have e6 : M 124 6 = nI a := (hT.2.1 6 (by omega) (by omega)).trans hX.1
    have hl := hX.2.1
    have hn := kf_iv_n (kf_iv_a (r := r0) hx2 a p nd (Nat.le_refl _) hau)
    have fin := hK M a p hT (Nat.le_refl _) hau (by omega) (fun q => absurd q (Nat.lt_irrefl _)) d1 d2 d3 d4 d5
    refine kg_v118 hL (by omega) 40 ?_
    rcases hp with ⟨p8, n0, g1⟩ | ⟨n0, pg, g1, g4⟩
    · simp (disch := omega) only [↓kb_0t, ↓kb_0f, ↓kb_1t, ↓kb_1f, ↓kb_2t, ↓kb_2f, ↓kb_3t, ↓kb_3f, ↓kb_4t, ↓kb_4f, ↓kb_5t, ↓kb_5f, ↓kg_S1, kg_S2, kg_br_T, kg_br_F, kg_br_N, kg_br_t, kg_br_f, ↓kg_at_n, nI_add, pk_mul, kg_sub_n, kg_rem_n, kg_eq_n, kg_lt_n, kg_le_n, kg_nz, kg_01_0, kg_01_1, kg_w0_1, kg_ret0, kg_ret1, kg_ret2, kg_wr_n, kg_Skd, kg_Smc, kg_Sob, kg_Srf, kg_Sld, kg_pad, List.map_cons, List.map_nil, List.length_cons, List.length_nil, List.replicate, List.cons_append, List.nil_append, List.append_nil, Nat.reduceAdd, Nat.reduceSub, Nat.reduceMul, Nat.reduceMod, Nat.reduceDiv, Nat.reduceLT, Nat.reduceLeDiff, Nat.reduceEqDiff, ne_eq, not_true_eq_false, not_false_eq_true, reduceIte, true_and, and_true, kw_n, kw_s, kw_w, kw_o, kw_ws, kw_wn, ku_s, ku_n, kg_lk118, kg_ls118, e7, e8, e6]
      exact fin
    · by_cases q : g = 4
      · simp (disch := omega) only [↓kb_0t, ↓kb_0f, ↓kb_1t, ↓kb_1f, ↓kb_2t, ↓kb_2f, ↓kb_3t, ↓kb_3f, ↓kb_4t, ↓kb_4f, ↓kb_5t, ↓kb_5f, ↓kg_S1, kg_S2, kg_br_T, kg_br_F, kg_br_N, kg_br_t, kg_br_f, ↓kg_at_n, nI_add, pk_mul, kg_sub_n, kg_rem_n, kg_eq_n, kg_lt_n, kg_le_n, kg_nz, kg_01_0, kg_01_1, kg_w0_1, kg_ret0, kg_ret1, kg_ret2, kg_wr_n, kg_Skd, kg_Smc, kg_Sob, kg_Srf, kg_Sld, kg_pad, List.map_cons, List.map_nil, List.length_cons, List.length_nil, List.replicate, List.cons_append, List.nil_append, List.append_nil, Nat.reduceAdd, Nat.reduceSub, Nat.reduceMul, Nat.reduceMod, Nat.reduceDiv, Nat.reduceLT, Nat.reduceLeDiff, Nat.reduceEqDiff, ne_eq, not_true_eq_false, not_false_eq_true, reduceIte, true_and, and_true, kw_n, kw_s, kw_w, kw_o, kw_ws, kw_wn, ku_s, ku_n, kg_lk118, kg_ls118, e7, e8, e6]
        exact fin
      · simp (disch := omega) only [↓kb_0t, ↓kb_0f, ↓kb_1t, ↓kb_1f, ↓kb_2t, ↓kb_2f, ↓kb_3t, ↓kb_3f, ↓kb_4t, ↓kb_4f, ↓kb_5t, ↓kb_5f, ↓kg_S1, kg_S2, kg_br_T, kg_br_F, kg_br_N, kg_br_t, kg_br_f, ↓kg_at_n, nI_add, pk_mul, kg_sub_n, kg_rem_n, kg_eq_n, kg_lt_n, kg_le_n, kg_nz, kg_01_0, kg_01_1, kg_w0_1, kg_ret0, kg_ret1, kg_ret2, kg_wr_n, kg_Skd, kg_Smc, kg_Sob, kg_Srf, kg_Sld, kg_pad, List.map_cons, List.map_nil, List.length_cons, List.length_nil, List.replicate, List.cons_append, List.nil_append, List.append_nil, Nat.reduceAdd, Nat.reduceSub, Nat.reduceMul, Nat.reduceMod, Nat.reduceDiv, Nat.reduceLT, Nat.reduceLeDiff, Nat.reduceEqDiff, ne_eq, not_true_eq_false, not_false_eq_true, reduceIte, true_and, and_true, kw_n, kw_s, kw_w, kw_o, kw_ws, kw_wn, ku_s, ku_n, kg_lk118, kg_ls118, e7, e8, e6]
        exact fin
  | succ z ih =>
    intro a p g M haz hT hau hp d1 d2 d3 d4 d5
    have hal : a < L := by omega
    have e7 := hT.2.2.2.1
    have e8 := hT.2.2.2.2
    have e6 : M 124 6 = nI L := (hT.2.1 6 (by omega) (by omega)).trans hX.1
    have ex : M 128 a = nI (x a) := by rw [hT.1 128 (by omega) (by omega)]; exact (hX.2.2 a hal).1
    have hxa := hx2 a hal
    have hl := hX.2.1
    have hn := kf_iv_n (kf_iv_a (r := r0) hx2 a p nd (by omega) hau)
    refine kg_v118 hL (by omega) 40 ?_
    rcases hp with ⟨p8, n0, g1⟩ | ⟨n0, pg, g1, g4⟩
    · have fin := hK M a p hT (by omega) hau (by omega) (fun _ q => by omega) d1 d2 d3 d4 d5
      simp (disch := omega) only [↓kb_0t, ↓kb_0f, ↓kb_1t, ↓kb_1f, ↓kb_2t, ↓kb_2f, ↓kb_3t, ↓kb_3f, ↓kb_4t, ↓kb_4f, ↓kb_5t, ↓kb_5f, ↓kg_S1, kg_S2, kg_br_T, kg_br_F, kg_br_N, kg_br_t, kg_br_f, ↓kg_at_n, nI_add, pk_mul, kg_sub_n, kg_rem_n, kg_eq_n, kg_lt_n, kg_le_n, kg_nz, kg_01_0, kg_01_1, kg_w0_1, kg_ret0, kg_ret1, kg_ret2, kg_wr_n, kg_Skd, kg_Smc, kg_Sob, kg_Srf, kg_Sld, kg_pad, List.map_cons, List.map_nil, List.length_cons, List.length_nil, List.replicate, List.cons_append, List.nil_append, List.append_nil, Nat.reduceAdd, Nat.reduceSub, Nat.reduceMul, Nat.reduceMod, Nat.reduceDiv, Nat.reduceLT, Nat.reduceLeDiff, Nat.reduceEqDiff, ne_eq, not_true_eq_false, not_false_eq_true, reduceIte, true_and, and_true, kw_n, kw_s, kw_w, kw_o, kw_ws, kw_wn, ku_s, ku_n, kg_lk118, kg_ls118, e7, e8, e6]
      exact fin
    · by_cases q : g = 4
      · have fin := hK M a p hT (by omega) hau (by omega) (fun _ q => by omega) d1 d2 d3 d4 d5
        simp (disch := omega) only [↓kb_0t, ↓kb_0f, ↓kb_1t, ↓kb_1f, ↓kb_2t, ↓kb_2f, ↓kb_3t, ↓kb_3f, ↓kb_4t, ↓kb_4f, ↓kb_5t, ↓kb_5f, ↓kg_S1, kg_S2, kg_br_T, kg_br_F, kg_br_N, kg_br_t, kg_br_f, ↓kg_at_n, nI_add, pk_mul, kg_sub_n, kg_rem_n, kg_eq_n, kg_lt_n, kg_le_n, kg_nz, kg_01_0, kg_01_1, kg_w0_1, kg_ret0, kg_ret1, kg_ret2, kg_wr_n, kg_Skd, kg_Smc, kg_Sob, kg_Srf, kg_Sld, kg_pad, List.map_cons, List.map_nil, List.length_cons, List.length_nil, List.replicate, List.cons_append, List.nil_append, List.append_nil, Nat.reduceAdd, Nat.reduceSub, Nat.reduceMul, Nat.reduceMod, Nat.reduceDiv, Nat.reduceLT, Nat.reduceLeDiff, Nat.reduceEqDiff, ne_eq, not_true_eq_false, not_false_eq_true, reduceIte, true_and, and_true, kw_n, kw_s, kw_w, kw_o, kw_ws, kw_wn, ku_s, ku_n, kg_lk118, kg_ls118, e7, e8, e6]
        exact fin
      · simp (disch := omega) only [↓kb_0t, ↓kb_0f, ↓kb_1t, ↓kb_1f, ↓kb_2t, ↓kb_2f, ↓kb_3t, ↓kb_3f, ↓kb_4t, ↓kb_4f, ↓kb_5t, ↓kb_5f, ↓kg_S1, kg_S2, kg_br_T, kg_br_F, kg_br_N, kg_br_t, kg_br_f, ↓kg_at_n, nI_add, pk_mul, kg_sub_n, kg_rem_n, kg_eq_n, kg_lt_n, kg_le_n, kg_nz, kg_01_0, kg_01_1, kg_w0_1, kg_ret0, kg_ret1, kg_ret2, kg_wr_n, kg_Skd, kg_Smc, kg_Sob, kg_Srf, kg_Sld, kg_pad, List.map_cons, List.map_nil, List.length_cons, List.length_nil, List.replicate, List.cons_append, List.nil_append, List.append_nil, Nat.reduceAdd, Nat.reduceSub, Nat.reduceMul, Nat.reduceMod, Nat.reduceDiv, Nat.reduceLT, Nat.reduceLeDiff, Nat.reduceEqDiff, ne_eq, not_true_eq_false, not_false_eq_true, reduceIte, true_and, and_true, kw_n, kw_s, kw_w, kw_o, kw_ws, kw_wn, ku_s, ku_n, kg_lk118, kg_ls118, e7, e8, e6, ex]
        refine kc90 hL (by omega) ?_
        by_cases qd : kf_dig (x a) = true
        · have h48 := kf_dig_t qd
          have b1 : kf_b true = nI 1 := rfl
          have eb : (decide (nI 48 ≤ nI (x a)) && decide (nI (x a) ≤ nI 57)) = true := by
            simp (disch := omega) only [kg_le_n]
            simp; omega
          rw [eb, b1]
          simp (disch := omega) only [↓kb_0t, ↓kb_0f, ↓kb_1t, ↓kb_1f, ↓kb_2t, ↓kb_2f, ↓kb_3t, ↓kb_3f, ↓kb_4t, ↓kb_4f, ↓kb_5t, ↓kb_5f, ↓kg_S1, kg_S2, kg_br_T, kg_br_F, kg_br_N, kg_br_t, kg_br_f, ↓kg_at_n, nI_add, pk_mul, kg_sub_n, kg_rem_n, kg_eq_n, kg_lt_n, kg_le_n, kg_nz, kg_01_0, kg_01_1, kg_w0_1, kg_ret0, kg_ret1, kg_ret2, kg_wr_n, kg_Skd, kg_Smc, kg_Sob, kg_Srf, kg_Sld, kg_pad, List.map_cons, List.map_nil, List.length_cons, List.length_nil, List.replicate, List.cons_append, List.nil_append, List.append_nil, Nat.reduceAdd, Nat.reduceSub, Nat.reduceMul, Nat.reduceMod, Nat.reduceDiv, Nat.reduceLT, Nat.reduceLeDiff, Nat.reduceEqDiff, ne_eq, not_true_eq_false, not_false_eq_true, reduceIte, true_and, and_true, kw_n, kw_s, kw_w, kw_o, kw_ws, kw_wn, ku_s, ku_n, kg_lk118, kg_ls118]
          refine kc117g hL hX hT hal h48.1 h48.2 (by omega) (by omega) ?_
          intro M1 hT1
          have edd := kf_da_d (r := r0) qd
          have ena : 10 * (kf_da x r0 a).2.2.1 + x a - 48 = (kf_da x r0 (a + 1)).2.2.1 := by
            rw [edd]
            show _ = (kf_da x r0 a).2.2.1 * 10 + (x a - 48)
            omega
          have hs : kf_sg p (x a) (kf_nd p (x a) nd) = some (p + 1) := by
            unfold kf_sg
            rw [if_neg (by omega), if_neg (by omega), if_neg (by omega), if_neg (by omega), if_neg (by omega), if_neg (by omega), if_pos ⟨qd, by omega⟩]
          have hau1 := kf_au_s hau hs
          rw [kf_nd_p (by omega)] at hau1
          have ecm : kf_cm x (a + 1) = kf_cm x a := kf_ct_f (by simp; omega)
          have := ih (a + 1) (p + 1) (g + 1) M1 (by omega) hT1 hau1 (Or.inr ⟨by rw [← ena]; omega, by omega, by omega, by omega⟩) (by rw [edd]; exact d1) (by rw [edd]; exact d2) (by rw [edd]; exact d3) (by rw [ecm]; exact d4) (by omega)
          simp (disch := omega) only [↓kb_0t, ↓kb_0f, ↓kb_1t, ↓kb_1f, ↓kb_2t, ↓kb_2f, ↓kb_3t, ↓kb_3f, ↓kb_4t, ↓kb_4f, ↓kb_5t, ↓kb_5f, ↓kg_S1, kg_S2, kg_br_T, kg_br_F, kg_br_N, kg_br_t, kg_br_f, ↓kg_at_n, nI_add, pk_mul, kg_sub_n, kg_rem_n, kg_eq_n, kg_lt_n, kg_le_n, kg_nz, kg_01_0, kg_01_1, kg_w0_1, kg_ret0, kg_ret1, kg_ret2, kg_wr_n, kg_Skd, kg_Smc, kg_Sob, kg_Srf, kg_Sld, kg_pad, List.map_cons, List.map_nil, List.length_cons, List.length_nil, List.replicate, List.cons_append, List.nil_append, List.append_nil, Nat.reduceAdd, Nat.reduceSub, Nat.reduceMul, Nat.reduceMod, Nat.reduceDiv, Nat.reduceLT, Nat.reduceLeDiff, Nat.reduceEqDiff, ne_eq, not_true_eq_false, not_false_eq_true, reduceIte, true_and, and_true, kw_n, kw_s, kw_w, kw_o, kw_ws, kw_wn, ku_s, ku_n, kg_lk118, kg_ls118, ena]
          exact this
        · have b0 : kf_b false = nI 0 := rfl
          have eb : (decide (nI 48 ≤ nI (x a)) && decide (nI (x a) ≤ nI 57)) = false := by
            simp (disch := omega) only [kg_le_n]
            by_cases q1 : 48 ≤ x a
            · by_cases q2 : x a ≤ 57
              · exact absurd (kf_dig_i q1 q2) qd
              · simp [q2]
            · simp [q1]
          have fin := hK M a p hT (by omega) hau (by omega) (fun _ q => qd q.1) d1 d2 d3 d4 d5
          rw [eb, b0]
          simp (disch := omega) only [↓kb_0t, ↓kb_0f, ↓kb_1t, ↓kb_1f, ↓kb_2t, ↓kb_2f, ↓kb_3t, ↓kb_3f, ↓kb_4t, ↓kb_4f, ↓kb_5t, ↓kb_5f, ↓kg_S1, kg_S2, kg_br_T, kg_br_F, kg_br_N, kg_br_t, kg_br_f, ↓kg_at_n, nI_add, pk_mul, kg_sub_n, kg_rem_n, kg_eq_n, kg_lt_n, kg_le_n, kg_nz, kg_01_0, kg_01_1, kg_w0_1, kg_ret0, kg_ret1, kg_ret2, kg_wr_n, kg_Skd, kg_Smc, kg_Sob, kg_Srf, kg_Sld, kg_pad, List.map_cons, List.map_nil, List.length_cons, List.length_nil, List.replicate, List.cons_append, List.nil_append, List.append_nil, Nat.reduceAdd, Nat.reduceSub, Nat.reduceMul, Nat.reduceMod, Nat.reduceDiv, Nat.reduceLT, Nat.reduceLeDiff, Nat.reduceEqDiff, ne_eq, not_true_eq_false, not_false_eq_true, reduceIte, true_and, and_true, kw_n, kw_s, kw_w, kw_o, kw_ws, kw_wn, ku_s, ku_n, kg_lk118, kg_ls118]
          exact fin
set_option maxRecDepth 100000 in
theorem kc118g (hL : G.2.2.2.2.2.1 < 2 ^ 31) {nd a : Nat} (hX : kf_X M0 x L) (hx2 : ∀ i, i < L → x i < 65536) (hd : 5 ≤ d) (hT : kf_T M M0 r a 0) (hal : a < L) (hau : kf_au x a = some (4, nd)) (hdg : kf_dig (x a) = true) (hK : ∀ (M' : kg_M) (b p : Nat), kf_T M' M0 r b 0 → b ≤ L → kf_au x b = some (p, nd) → 4 < p → (b < L → ¬ (kf_dig (x b) = true ∧ p < 8)) → (kf_da x r0 b).1 = (kf_da x r0 a).1 → (kf_da x r0 b).2.1 = (kf_da x r0 a).2.1 → (kf_da x r0 b).2.2.2 = (kf_da x r0 a).2.2.2 → kf_cm x b = kf_cm x a → a + 1 ≤ b → K (some (.int (nI (kf_da x r0 b).2.2.1))) (kg_w0 h) M') : kg_call G d 129 118 [.ref 124] (kg_w0 h) M K := by
  have h48 := kf_dig_t hdg
  have hxa := hx2 a hal
  obtain ⟨d, rfl⟩ : ∃ e, d = e + 1 := ⟨d - 1, by omega⟩
  refine kg_m118 (by simp) (Nat.le_refl _) (kg_v118 hL (by omega) 20 ?_)
  simp (disch := omega) only [↓kb_0t, ↓kb_0f, ↓kb_1t, ↓kb_1f, ↓kb_2t, ↓kb_2f, ↓kb_3t, ↓kb_3f, ↓kb_4t, ↓kb_4f, ↓kb_5t, ↓kb_5f, ↓kg_S1, kg_S2, kg_br_T, kg_br_F, kg_br_N, kg_br_t, kg_br_f, ↓kg_at_n, nI_add, pk_mul, kg_sub_n, kg_rem_n, kg_eq_n, kg_lt_n, kg_le_n, kg_nz, kg_01_0, kg_01_1, kg_w0_1, kg_ret0, kg_ret1, kg_ret2, kg_wr_n, kg_Skd, kg_Smc, kg_Sob, kg_Srf, kg_Sld, kg_pad, List.map_cons, List.map_nil, List.length_cons, List.length_nil, List.replicate, List.cons_append, List.nil_append, List.append_nil, Nat.reduceAdd, Nat.reduceSub, Nat.reduceMul, Nat.reduceMod, Nat.reduceDiv, Nat.reduceLT, Nat.reduceLeDiff, Nat.reduceEqDiff, ne_eq, not_true_eq_false, not_false_eq_true, reduceIte, true_and, and_true, kw_n, kw_s, kw_w, kw_o, kw_ws, kw_wn, ku_s, ku_n, kg_lk118, kg_ls118]
  refine kc117g hL hX hT hal h48.1 h48.2 (by omega) (by omega) ?_
  intro M1 hT1
  have iv := kf_iv_4 (kf_iv_a (r := r0) hx2 a 4 nd (by omega) hau)
  have edd := kf_da_d (r := r0) hdg
  have ena : x a - 48 = (kf_da x r0 (a + 1)).2.2.1 := by
    rw [edd]
    show _ = (kf_da x r0 a).2.2.1 * 10 + (x a - 48)
    omega
  have ecm : kf_cm x (a + 1) = kf_cm x a := kf_ct_f (by simp; omega)
  have hs : kf_sg 4 (x a) (kf_nd 4 (x a) nd) = some (if x a = 48 then 8 else 5) := by
    unfold kf_sg
    simp only [reduceIte, Nat.reduceEqDiff]
    by_cases q : x a = 48
    · rw [if_pos q, if_pos q]
    · rw [if_neg q, if_neg q, if_pos hdg]
  have hau1 := kf_au_s hau hs
  rw [kf_nd_p (by omega)] at hau1
  have := kc118_l (d := d) (K := K) (h := h) (r := r) (n0 := a + 1) (D0 := ((kf_da x r0 a).1, (kf_da x r0 a).2.1, kf_cm x a, (kf_da x r0 a).2.2.2)) hL hX hx2 (by omega) hK (L - (a + 1)) (a + 1) (if x a = 48 then 8 else 5) 1 M1 (by omega) hT1 hau1 (by
    rw [← ena]
    by_cases q : x a = 48
    · left; rw [if_pos q]; omega
    · right; rw [if_neg q]; omega) (by rw [edd]) (by rw [edd]) (by rw [edd]) ecm (Nat.le_refl _)
  simp (disch := omega) only [↓kb_0t, ↓kb_0f, ↓kb_1t, ↓kb_1f, ↓kb_2t, ↓kb_2f, ↓kb_3t, ↓kb_3f, ↓kb_4t, ↓kb_4f, ↓kb_5t, ↓kb_5f, ↓kg_S1, kg_S2, kg_br_T, kg_br_F, kg_br_N, kg_br_t, kg_br_f, ↓kg_at_n, nI_add, pk_mul, kg_sub_n, kg_rem_n, kg_eq_n, kg_lt_n, kg_le_n, kg_nz, kg_01_0, kg_01_1, kg_w0_1, kg_ret0, kg_ret1, kg_ret2, kg_wr_n, kg_Skd, kg_Smc, kg_Sob, kg_Srf, kg_Sld, kg_pad, List.map_cons, List.map_nil, List.length_cons, List.length_nil, List.replicate, List.cons_append, List.nil_append, List.append_nil, Nat.reduceAdd, Nat.reduceSub, Nat.reduceMul, Nat.reduceMod, Nat.reduceDiv, Nat.reduceLT, Nat.reduceLeDiff, Nat.reduceEqDiff, ne_eq, not_true_eq_false, not_false_eq_true, reduceIte, true_and, and_true, kw_n, kw_s, kw_w, kw_o, kw_ws, kw_wn, ku_s, ku_n, kg_lk118, kg_ls118, ena]
  exact this
end
