/-! THE CONSTRUCTORS of the class -/
theorem kx_zs {M : kg_M} {p : Nat} {f : Nat → Int32} (h : M p = f) : kg_row M p f = M := by rw [← h]; exact kw_i _ _
section
variable {G : kg_G} {d : Nat} {R : Nat → Nat → Nat} {M : kg_M} {K : kg_Qt}

set_option maxRecDepth 100000 in
theorem kc21_1_83 (hL : G.2.2.2.2.2.1 < 2 ^ 31) (hR : R 1 2 = 2) (hd : 1 ≤ d) (hK : kg_P G d 21 2 2 21 K 107 [some (.ref 1), some (.int (nI 0))] [] (21, R) (kg_row M 2 (kx_fl (kg_sv 1003) 5))) : ∀ z i : Nat, i + z = 5 → kg_P G d 21 2 2 21 K 83 [some (.ref 1), some (.int (nI i))] [] (21, R) (kg_row M 2 (kx_fl (kg_sv 1003) i)) := by
  intro z
  induction z with
  | zero =>
    intro i hi
    obtain rfl : i = 5 := by omega
    refine kg_v21 hL (by omega) 30 ?_
    simp (disch := omega) only [↓kb_0t, ↓kb_0f, ↓kb_1t, ↓kb_1f, ↓kb_2t, ↓kb_2f, ↓kb_3t, ↓kb_3f, ↓kb_4t, ↓kb_4f, ↓kb_5t, ↓kb_5f, ↓kg_S1, kg_S2, kg_br_T, kg_br_F, kg_br_N, kg_br_t, kg_br_f, ↓kg_at_n, nI_add, pk_mul, kg_sub_n, kg_rem_n, kg_eq_n, kg_lt_n, kg_le_n, kg_nz, kg_01_0, kg_01_1, kg_w0_1, kg_ret0, kg_ret1, kg_ret2, kg_wr_n, kg_Skd, kg_Smc, kg_Sob, kg_Srf, kg_Sld, kg_pad, List.map_cons, List.map_nil, List.length_cons, List.length_nil, List.replicate, List.cons_append, List.nil_append, List.append_nil, Nat.reduceAdd, Nat.reduceSub, Nat.reduceMul, Nat.reduceMod, Nat.reduceDiv, Nat.reduceLT, Nat.reduceLeDiff, Nat.reduceEqDiff, ne_eq, not_true_eq_false, not_false_eq_true, reduceIte, true_and, and_true, kx_new, kx_wrr, kx_ret, kx_ld, kg_obj, eq_self, kx_ws, kx_wn, kx_ns, kx_nn, kg_wr_n, kw_n, kw_s, kw_w, kg_lk21, kg_ls21]
    exact hK
  | succ z ih =>
    intro i hi
    have ih' := ih (i + 1) (by omega)
    rw [← kx_fl_s] at ih'
    refine kg_v21 hL (by omega) 30 ?_
    simp (disch := omega) only [↓kb_0t, ↓kb_0f, ↓kb_1t, ↓kb_1f, ↓kb_2t, ↓kb_2f, ↓kb_3t, ↓kb_3f, ↓kb_4t, ↓kb_4f, ↓kb_5t, ↓kb_5f, ↓kg_S1, kg_S2, kg_br_T, kg_br_F, kg_br_N, kg_br_t, kg_br_f, ↓kg_at_n, nI_add, pk_mul, kg_sub_n, kg_rem_n, kg_eq_n, kg_lt_n, kg_le_n, kg_nz, kg_01_0, kg_01_1, kg_w0_1, kg_ret0, kg_ret1, kg_ret2, kg_wr_n, kg_Skd, kg_Smc, kg_Sob, kg_Srf, kg_Sld, kg_pad, List.map_cons, List.map_nil, List.length_cons, List.length_nil, List.replicate, List.cons_append, List.nil_append, List.append_nil, Nat.reduceAdd, Nat.reduceSub, Nat.reduceMul, Nat.reduceMod, Nat.reduceDiv, Nat.reduceLT, Nat.reduceLeDiff, Nat.reduceEqDiff, ne_eq, not_true_eq_false, not_false_eq_true, reduceIte, true_and, and_true, kx_new, kx_wrr, kx_ret, kx_ld, kg_obj, eq_self, kx_ws, kx_wn, kx_ns, kx_nn, kg_wr_n, kw_n, kw_s, kw_w, kg_lk21, kg_ls21, hR]
    exact ih'
set_option maxRecDepth 100000 in
theorem kc21_1_107 (hL : G.2.2.2.2.2.1 < 2 ^ 31) (hR : R 1 3 = 3) (hd : 1 ≤ d) (hK : kg_P G d 21 2 2 21 K 127 [some (.ref 1), some (.int (nI 0))] [] (21, R) (kg_row M 3 (kx_fl (fun _ => nI 1) 4))) : ∀ z i : Nat, i + z = 4 → kg_P G d 21 2 2 21 K 107 [some (.ref 1), some (.int (nI i))] [] (21, R) (kg_row M 3 (kx_fl (fun _ => nI 1) i)) := by
  intro z
  induction z with
  | zero =>
    intro i hi
    obtain rfl : i = 4 := by omega
    refine kg_v21 hL (by omega) 30 ?_
    simp (disch := omega) only [↓kb_0t, ↓kb_0f, ↓kb_1t, ↓kb_1f, ↓kb_2t, ↓kb_2f, ↓kb_3t, ↓kb_3f, ↓kb_4t, ↓kb_4f, ↓kb_5t, ↓kb_5f, ↓kg_S1, kg_S2, kg_br_T, kg_br_F, kg_br_N, kg_br_t, kg_br_f, ↓kg_at_n, nI_add, pk_mul, kg_sub_n, kg_rem_n, kg_eq_n, kg_lt_n, kg_le_n, kg_nz, kg_01_0, kg_01_1, kg_w0_1, kg_ret0, kg_ret1, kg_ret2, kg_wr_n, kg_Skd, kg_Smc, kg_Sob, kg_Srf, kg_Sld, kg_pad, List.map_cons, List.map_nil, List.length_cons, List.length_nil, List.replicate, List.cons_append, List.nil_append, List.append_nil, Nat.reduceAdd, Nat.reduceSub, Nat.reduceMul, Nat.reduceMod, Nat.reduceDiv, Nat.reduceLT, Nat.reduceLeDiff, Nat.reduceEqDiff, ne_eq, not_true_eq_false, not_false_eq_true, reduceIte, true_and, and_true, kx_new, kx_wrr, kx_ret, kx_ld, kg_obj, eq_self, kx_ws, kx_wn, kx_ns, kx_nn, kg_wr_n, kw_n, kw_s, kw_w, kg_lk21, kg_ls21]
    exact hK
  | succ z ih =>
    intro i hi
    have ih' := ih (i + 1) (by omega)
    rw [← kx_fl_s] at ih'
    refine kg_v21 hL (by omega) 30 ?_
    simp (disch := omega) only [↓kb_0t, ↓kb_0f, ↓kb_1t, ↓kb_1f, ↓kb_2t, ↓kb_2f, ↓kb_3t, ↓kb_3f, ↓kb_4t, ↓kb_4f, ↓kb_5t, ↓kb_5f, ↓kg_S1, kg_S2, kg_br_T, kg_br_F, kg_br_N, kg_br_t, kg_br_f, ↓kg_at_n, nI_add, pk_mul, kg_sub_n, kg_rem_n, kg_eq_n, kg_lt_n, kg_le_n, kg_nz, kg_01_0, kg_01_1, kg_w0_1, kg_ret0, kg_ret1, kg_ret2, kg_wr_n, kg_Skd, kg_Smc, kg_Sob, kg_Srf, kg_Sld, kg_pad, List.map_cons, List.map_nil, List.length_cons, List.length_nil, List.replicate, List.cons_append, List.nil_append, List.append_nil, Nat.reduceAdd, Nat.reduceSub, Nat.reduceMul, Nat.reduceMod, Nat.reduceDiv, Nat.reduceLT, Nat.reduceLeDiff, Nat.reduceEqDiff, ne_eq, not_true_eq_false, not_false_eq_true, reduceIte, true_and, and_true, kx_new, kx_wrr, kx_ret, kx_ld, kg_obj, eq_self, kx_ws, kx_wn, kx_ns, kx_nn, kg_wr_n, kw_n, kw_s, kw_w, kg_lk21, kg_ls21, hR]
    exact ih'
set_option maxRecDepth 100000 in
theorem kc21_1_127 (hL : G.2.2.2.2.2.1 < 2 ^ 31) (hR : R 1 5 = 9) (hd : 1 ≤ d) (hK : K none (21, R) (kg_row M 9 (kx_fl (fun _ => kg_n 1) 16))) : ∀ z i : Nat, i + z = 16 → kg_P G d 21 2 2 21 K 127 [some (.ref 1), some (.int (nI i))] [] (21, R) (kg_row M 9 (kx_fl (fun _ => kg_n 1) i)) := by
  intro z
  induction z with
  | zero =>
    intro i hi
    obtain rfl : i = 16 := by omega
    refine kg_v21 hL (by omega) 30 ?_
    simp (disch := omega) only [↓kb_0t, ↓kb_0f, ↓kb_1t, ↓kb_1f, ↓kb_2t, ↓kb_2f, ↓kb_3t, ↓kb_3f, ↓kb_4t, ↓kb_4f, ↓kb_5t, ↓kb_5f, ↓kg_S1, kg_S2, kg_br_T, kg_br_F, kg_br_N, kg_br_t, kg_br_f, ↓kg_at_n, nI_add, pk_mul, kg_sub_n, kg_rem_n, kg_eq_n, kg_lt_n, kg_le_n, kg_nz, kg_01_0, kg_01_1, kg_w0_1, kg_ret0, kg_ret1, kg_ret2, kg_wr_n, kg_Skd, kg_Smc, kg_Sob, kg_Srf, kg_Sld, kg_pad, List.map_cons, List.map_nil, List.length_cons, List.length_nil, List.replicate, List.cons_append, List.nil_append, List.append_nil, Nat.reduceAdd, Nat.reduceSub, Nat.reduceMul, Nat.reduceMod, Nat.reduceDiv, Nat.reduceLT, Nat.reduceLeDiff, Nat.reduceEqDiff, ne_eq, not_true_eq_false, not_false_eq_true, reduceIte, true_and, and_true, kx_new, kx_wrr, kx_ret, kx_ld, kg_obj, eq_self, kx_ws, kx_wn, kx_ns, kx_nn, kg_wr_n, kw_n, kw_s, kw_w, kg_lk21, kg_ls21]
    exact hK
  | succ z ih =>
    intro i hi
    have ih' := ih (i + 1) (by omega)
    rw [← kx_fl_s] at ih'
    refine kg_v21 hL (by omega) 30 ?_
    simp (disch := omega) only [↓kb_0t, ↓kb_0f, ↓kb_1t, ↓kb_1f, ↓kb_2t, ↓kb_2f, ↓kb_3t, ↓kb_3f, ↓kb_4t, ↓kb_4f, ↓kb_5t, ↓kb_5f, ↓kg_S1, kg_S2, kg_br_T, kg_br_F, kg_br_N, kg_br_t, kg_br_f, ↓kg_at_n, nI_add, pk_mul, kg_sub_n, kg_rem_n, kg_eq_n, kg_lt_n, kg_le_n, kg_nz, kg_01_0, kg_01_1, kg_w0_1, kg_ret0, kg_ret1, kg_ret2, kg_wr_n, kg_Skd, kg_Smc, kg_Sob, kg_Srf, kg_Sld, kg_pad, List.map_cons, List.map_nil, List.length_cons, List.length_nil, List.replicate, List.cons_append, List.nil_append, List.append_nil, Nat.reduceAdd, Nat.reduceSub, Nat.reduceMul, Nat.reduceMod, Nat.reduceDiv, Nat.reduceLT, Nat.reduceLeDiff, Nat.reduceEqDiff, ne_eq, not_true_eq_false, not_false_eq_true, reduceIte, true_and, and_true, kx_new, kx_wrr, kx_ret, kx_ld, kg_obj, eq_self, kx_ws, kx_wn, kx_ns, kx_nn, kg_wr_n, kw_n, kw_s, kw_w, kg_lk21, kg_ls21, hR]
    exact ih'
set_option maxRecDepth 100000 in
theorem kc21_1 (hL : G.2.2.2.2.2.1 < 2 ^ 31) (hd : 3 ≤ d) (hK : K none (21, kx_b 1 21 R) (kx_s 1 M)) : kg_call G d 21 21 [.ref 1] (2, kx_n R 1 (fun _ => 0)) (kg_row M 1 (fun _ => 0)) K := by
  obtain ⟨d, rfl⟩ : ∃ e, d = e + 1 := ⟨d - 1, by omega⟩
  refine kg_m21 (by simp) (by show 2 ≤ 21; omega) (kg_v21 hL (by omega) 90 ?_)
  simp (disch := omega) only [↓kb_0t, ↓kb_0f, ↓kb_1t, ↓kb_1f, ↓kb_2t, ↓kb_2f, ↓kb_3t, ↓kb_3f, ↓kb_4t, ↓kb_4f, ↓kb_5t, ↓kb_5f, ↓kg_S1, kg_S2, kg_br_T, kg_br_F, kg_br_N, kg_br_t, kg_br_f, ↓kg_at_n, nI_add, pk_mul, kg_sub_n, kg_rem_n, kg_eq_n, kg_lt_n, kg_le_n, kg_nz, kg_01_0, kg_01_1, kg_w0_1, kg_ret0, kg_ret1, kg_ret2, kg_wr_n, kg_Skd, kg_Smc, kg_Sob, kg_Srf, kg_Sld, kg_pad, List.map_cons, List.map_nil, List.length_cons, List.length_nil, List.replicate, List.cons_append, List.nil_append, List.append_nil, Nat.reduceAdd, Nat.reduceSub, Nat.reduceMul, Nat.reduceMod, Nat.reduceDiv, Nat.reduceLT, Nat.reduceLeDiff, Nat.reduceEqDiff, ne_eq, not_true_eq_false, not_false_eq_true, reduceIte, true_and, and_true, kx_new, kx_wrr, kx_ret, kx_ld, kg_obj, eq_self, kx_ws, kx_wn, kx_ns, kx_nn, kg_wr_n, kw_n, kw_s, kw_w, kg_lk21, kg_ls21, kx_u0]
  refine kg_call_up (kc4_4 hL (by omega) ?_) (by omega)
  simp (disch := omega) only [↓kb_0t, ↓kb_0f, ↓kb_1t, ↓kb_1f, ↓kb_2t, ↓kb_2f, ↓kb_3t, ↓kb_3f, ↓kb_4t, ↓kb_4f, ↓kb_5t, ↓kb_5f, ↓kg_S1, kg_S2, kg_br_T, kg_br_F, kg_br_N, kg_br_t, kg_br_f, ↓kg_at_n, nI_add, pk_mul, kg_sub_n, kg_rem_n, kg_eq_n, kg_lt_n, kg_le_n, kg_nz, kg_01_0, kg_01_1, kg_w0_1, kg_ret0, kg_ret1, kg_ret2, kg_wr_n, kg_Skd, kg_Smc, kg_Sob, kg_Srf, kg_Sld, kg_pad, List.map_cons, List.map_nil, List.length_cons, List.length_nil, List.replicate, List.cons_append, List.nil_append, List.append_nil, Nat.reduceAdd, Nat.reduceSub, Nat.reduceMul, Nat.reduceMod, Nat.reduceDiv, Nat.reduceLT, Nat.reduceLeDiff, Nat.reduceEqDiff, ne_eq, not_true_eq_false, not_false_eq_true, reduceIte, true_and, and_true, kx_new, kx_wrr, kx_ret, kx_ld, kg_obj, eq_self, kx_ws, kx_wn, kx_ns, kx_nn, kg_wr_n, kw_n, kw_s, kw_w, kg_lk21, kg_ls21, kx_u0]
  refine kg_call_up (kc11_10 hL (by omega) ?_) (by omega)
  simp (disch := omega) only [↓kb_0t, ↓kb_0f, ↓kb_1t, ↓kb_1f, ↓kb_2t, ↓kb_2f, ↓kb_3t, ↓kb_3f, ↓kb_4t, ↓kb_4f, ↓kb_5t, ↓kb_5f, ↓kg_S1, kg_S2, kg_br_T, kg_br_F, kg_br_N, kg_br_t, kg_br_f, ↓kg_at_n, nI_add, pk_mul, kg_sub_n, kg_rem_n, kg_eq_n, kg_lt_n, kg_le_n, kg_nz, kg_01_0, kg_01_1, kg_w0_1, kg_ret0, kg_ret1, kg_ret2, kg_wr_n, kg_Skd, kg_Smc, kg_Sob, kg_Srf, kg_Sld, kg_pad, List.map_cons, List.map_nil, List.length_cons, List.length_nil, List.replicate, List.cons_append, List.nil_append, List.append_nil, Nat.reduceAdd, Nat.reduceSub, Nat.reduceMul, Nat.reduceMod, Nat.reduceDiv, Nat.reduceLT, Nat.reduceLeDiff, Nat.reduceEqDiff, ne_eq, not_true_eq_false, not_false_eq_true, reduceIte, true_and, and_true, kx_new, kx_wrr, kx_ret, kx_ld, kg_obj, eq_self, kx_ws, kx_wn, kx_ns, kx_nn, kg_wr_n, kw_n, kw_s, kw_w, kg_lk21, kg_ls21, kx_u0]
  refine kg_call_up (kc0_14 hL (by omega) ?_) (by omega)
  simp (disch := omega) only [↓kb_0t, ↓kb_0f, ↓kb_1t, ↓kb_1f, ↓kb_2t, ↓kb_2f, ↓kb_3t, ↓kb_3f, ↓kb_4t, ↓kb_4f, ↓kb_5t, ↓kb_5f, ↓kg_S1, kg_S2, kg_br_T, kg_br_F, kg_br_N, kg_br_t, kg_br_f, ↓kg_at_n, nI_add, pk_mul, kg_sub_n, kg_rem_n, kg_eq_n, kg_lt_n, kg_le_n, kg_nz, kg_01_0, kg_01_1, kg_w0_1, kg_ret0, kg_ret1, kg_ret2, kg_wr_n, kg_Skd, kg_Smc, kg_Sob, kg_Srf, kg_Sld, kg_pad, List.map_cons, List.map_nil, List.length_cons, List.length_nil, List.replicate, List.cons_append, List.nil_append, List.append_nil, Nat.reduceAdd, Nat.reduceSub, Nat.reduceMul, Nat.reduceMod, Nat.reduceDiv, Nat.reduceLT, Nat.reduceLeDiff, Nat.reduceEqDiff, ne_eq, not_true_eq_false, not_false_eq_true, reduceIte, true_and, and_true, kx_new, kx_wrr, kx_ret, kx_ld, kg_obj, eq_self, kx_ws, kx_wn, kx_ns, kx_nn, kg_wr_n, kw_n, kw_s, kw_w, kg_lk21, kg_ls21, kx_u0]
  generalize hw : kx_w _ 1 8 20 = Rw
  generalize hm : kg_wr _ 1 9 (nI 0) = Mw
  have hRw : Rw = kx_b 1 21 R := by
    rw [← hw]
    funext p
    by_cases hp : 1 ≤ p ∧ p < 21
    · rw [kx_bi hp]
      obtain rfl | rfl | rfl | rfl | rfl | rfl | rfl | rfl | rfl | rfl | rfl | rfl | rfl | rfl | rfl | rfl | rfl | rfl | rfl | rfl : p = 1 ∨ p = 2 ∨ p = 3 ∨ p = 4 ∨ p = 5 ∨ p = 6 ∨ p = 7 ∨ p = 8 ∨ p = 9 ∨ p = 10 ∨ p = 11 ∨ p = 12 ∨ p = 13 ∨ p = 14 ∨ p = 15 ∨ p = 16 ∨ p = 17 ∨ p = 18 ∨ p = 19 ∨ p = 20 := by omega
      · funext k
        obtain rfl | rfl | rfl | rfl | rfl | rfl | rfl | rfl | rfl | ⟨n, rfl⟩ : k = 0 ∨ k = 1 ∨ k = 2 ∨ k = 3 ∨ k = 4 ∨ k = 5 ∨ k = 6 ∨ k = 7 ∨ k = 8 ∨ ∃ n, k = n + 9 := by
          by_cases h : k < 9
          · omega
          · exact Or.inr (Or.inr (Or.inr (Or.inr (Or.inr (Or.inr (Or.inr (Or.inr (Or.inr (⟨k - 9, by omega⟩)))))))))
        all_goals first | rfl | (simp (disch := omega) only [kx_ws, kx_wn, kx_ns, kx_nn, kx_bi, kx_bo, if_neg]; rfl)
      · first | (simp (disch := omega) only [kx_wn, kx_ns, kx_nn, kx_bi, kx_bo]; done) | (simp (disch := omega) only [kx_wn, kx_ns, kx_nn, kx_bi, kx_bo]; rfl)
      · first | (simp (disch := omega) only [kx_wn, kx_ns, kx_nn, kx_bi, kx_bo]; done) | (simp (disch := omega) only [kx_wn, kx_ns, kx_nn, kx_bi, kx_bo]; rfl)
      · first | (simp (disch := omega) only [kx_wn, kx_ns, kx_nn, kx_bi, kx_bo]; done) | (simp (disch := omega) only [kx_wn, kx_ns, kx_nn, kx_bi, kx_bo]; rfl)
      · first | (simp (disch := omega) only [kx_wn, kx_ns, kx_nn, kx_bi, kx_bo]; done) | (simp (disch := omega) only [kx_wn, kx_ns, kx_nn, kx_bi, kx_bo]; rfl)
      · first | (simp (disch := omega) only [kx_wn, kx_ns, kx_nn, kx_bi, kx_bo]; done) | (simp (disch := omega) only [kx_wn, kx_ns, kx_nn, kx_bi, kx_bo]; rfl)
      · first | (simp (disch := omega) only [kx_wn, kx_ns, kx_nn, kx_bi, kx_bo]; done) | (simp (disch := omega) only [kx_wn, kx_ns, kx_nn, kx_bi, kx_bo]; rfl)
      · first | (simp (disch := omega) only [kx_wn, kx_ns, kx_nn, kx_bi, kx_bo]; done) | (simp (disch := omega) only [kx_wn, kx_ns, kx_nn, kx_bi, kx_bo]; rfl)
      · first | (simp (disch := omega) only [kx_wn, kx_ns, kx_nn, kx_bi, kx_bo]; done) | (simp (disch := omega) only [kx_wn, kx_ns, kx_nn, kx_bi, kx_bo]; rfl)
      · first | (simp (disch := omega) only [kx_wn, kx_ns, kx_nn, kx_bi, kx_bo]; done) | (simp (disch := omega) only [kx_wn, kx_ns, kx_nn, kx_bi, kx_bo]; rfl)
      · first | (simp (disch := omega) only [kx_wn, kx_ns, kx_nn, kx_bi, kx_bo]; done) | (simp (disch := omega) only [kx_wn, kx_ns, kx_nn, kx_bi, kx_bo]; rfl)
      · first | (simp (disch := omega) only [kx_wn, kx_ns, kx_nn, kx_bi, kx_bo]; done) | (simp (disch := omega) only [kx_wn, kx_ns, kx_nn, kx_bi, kx_bo]; rfl)
      · first | (simp (disch := omega) only [kx_wn, kx_ns, kx_nn, kx_bi, kx_bo]; done) | (simp (disch := omega) only [kx_wn, kx_ns, kx_nn, kx_bi, kx_bo]; rfl)
      · first | (simp (disch := omega) only [kx_wn, kx_ns, kx_nn, kx_bi, kx_bo]; done) | (simp (disch := omega) only [kx_wn, kx_ns, kx_nn, kx_bi, kx_bo]; rfl)
      · first | (simp (disch := omega) only [kx_wn, kx_ns, kx_nn, kx_bi, kx_bo]; done) | (simp (disch := omega) only [kx_wn, kx_ns, kx_nn, kx_bi, kx_bo]; rfl)
      · first | (simp (disch := omega) only [kx_wn, kx_ns, kx_nn, kx_bi, kx_bo]; done) | (simp (disch := omega) only [kx_wn, kx_ns, kx_nn, kx_bi, kx_bo]; rfl)
      · first | (simp (disch := omega) only [kx_wn, kx_ns, kx_nn, kx_bi, kx_bo]; done) | (simp (disch := omega) only [kx_wn, kx_ns, kx_nn, kx_bi, kx_bo]; rfl)
      · first | (simp (disch := omega) only [kx_wn, kx_ns, kx_nn, kx_bi, kx_bo]; done) | (simp (disch := omega) only [kx_wn, kx_ns, kx_nn, kx_bi, kx_bo]; rfl)
      · first | (simp (disch := omega) only [kx_wn, kx_ns, kx_nn, kx_bi, kx_bo]; done) | (simp (disch := omega) only [kx_wn, kx_ns, kx_nn, kx_bi, kx_bo]; rfl)
      · first | (simp (disch := omega) only [kx_wn, kx_ns, kx_nn, kx_bi, kx_bo]; done) | (simp (disch := omega) only [kx_wn, kx_ns, kx_nn, kx_bi, kx_bo]; rfl)
    · rw [kx_bo hp]
      simp (disch := omega) only [kx_wn, kx_nn, kx_bo]
  have hMw : Mw = kx_z 1 21 M := by
    rw [← hm]
    funext p
    by_cases hp : 1 ≤ p ∧ p < 21
    · rw [kx_zi hp]
      obtain rfl | rfl | rfl | rfl | rfl | rfl | rfl | rfl | rfl | rfl | rfl | rfl | rfl | rfl | rfl | rfl | rfl | rfl | rfl | rfl : p = 1 ∨ p = 2 ∨ p = 3 ∨ p = 4 ∨ p = 5 ∨ p = 6 ∨ p = 7 ∨ p = 8 ∨ p = 9 ∨ p = 10 ∨ p = 11 ∨ p = 12 ∨ p = 13 ∨ p = 14 ∨ p = 15 ∨ p = 16 ∨ p = 17 ∨ p = 18 ∨ p = 19 ∨ p = 20 := by omega
      · funext i
        rw [kg_wr_s]
        split
        · rfl
        · simp (disch := omega) only [kw_n, kw_s, kx_zi, kx_zo]
      all_goals (rw [kg_wr_n (by omega)]; simp (disch := omega) only [kw_n, kw_s, kx_zi, kx_zo])
    · rw [kx_zo hp, kg_wr_n (by omega)]
      simp (disch := omega) only [kw_n, kx_zo]
  have f2 : Rw 1 2 = 2 := by rw [hRw, kx_bi (by omega)]; rfl
  have f3 : Rw 1 3 = 3 := by rw [hRw, kx_bi (by omega)]; rfl
  have f5 : Rw 1 5 = 9 := by rw [hRw, kx_bi (by omega)]; rfl
  have em : kg_row Mw 2 (kx_fl (kg_sv 1003) 0) = Mw := kx_zs (by rw [hMw, kx_zi (by omega), kx_fl_z])
  rw [← em]
  refine kc21_1_83 hL f2 (by omega) ?_ 5 0 rfl
  have em2 : kg_row (kg_row Mw 2 (kx_fl (kg_sv 1003) 5)) 3 (kx_fl (fun _ => nI 1) 0) = kg_row Mw 2 (kx_fl (kg_sv 1003) 5) := kx_zs (by rw [kw_n (by omega), hMw, kx_zi (by omega), kx_fl_z])
  rw [← em2]
  refine kc21_1_107 hL f3 (by omega) ?_ 4 0 rfl
  have em3 : kg_row (kg_row (kg_row Mw 2 (kx_fl (kg_sv 1003) 5)) 3 (kx_fl (fun _ => nI 1) 4)) 9 (kx_fl (fun _ => kg_n 1) 0) = kg_row (kg_row Mw 2 (kx_fl (kg_sv 1003) 5)) 3 (kx_fl (fun _ => nI 1) 4) := kx_zs (by rw [kw_n (by omega), kw_n (by omega), hMw, kx_zi (by omega), kx_fl_z])
  rw [← em3]
  refine kc21_1_127 hL f5 (by omega) ?_ 16 0 rfl
  refine kx_fin hK hRw ?_
  rw [hMw]
  funext p
  unfold kx_s
  by_cases p1 : p = 2
  · rw [if_pos p1, p1, kw_n (by omega), kw_n (by omega), kw_s]
  rw [if_neg p1]
  by_cases p2 : p = 3
  · rw [if_pos p2, p2, kw_n (by omega), kw_s]
  rw [if_neg p2]
  by_cases p3 : p = 9
  · rw [if_pos p3, p3, kw_s]
  rw [if_neg p3, kw_n p3, kw_n p2, kw_n p1]

set_option maxRecDepth 100000 in
theorem kc21_22_83 (hL : G.2.2.2.2.2.1 < 2 ^ 31) (hR : R 22 2 = 23) (hd : 1 ≤ d) (hK : kg_P G d 21 2 23 42 K 107 [some (.ref 22), some (.int (nI 0))] [] (42, R) (kg_row M 23 (kx_fl (kg_sv 1003) 5))) : ∀ z i : Nat, i + z = 5 → kg_P G d 21 2 23 42 K 83 [some (.ref 22), some (.int (nI i))] [] (42, R) (kg_row M 23 (kx_fl (kg_sv 1003) i)) := by
  intro z
  induction z with
  | zero =>
    intro i hi
    obtain rfl : i = 5 := by omega
    refine kg_v21 hL (by omega) 30 ?_
    simp (disch := omega) only [↓kb_0t, ↓kb_0f, ↓kb_1t, ↓kb_1f, ↓kb_2t, ↓kb_2f, ↓kb_3t, ↓kb_3f, ↓kb_4t, ↓kb_4f, ↓kb_5t, ↓kb_5f, ↓kg_S1, kg_S2, kg_br_T, kg_br_F, kg_br_N, kg_br_t, kg_br_f, ↓kg_at_n, nI_add, pk_mul, kg_sub_n, kg_rem_n, kg_eq_n, kg_lt_n, kg_le_n, kg_nz, kg_01_0, kg_01_1, kg_w0_1, kg_ret0, kg_ret1, kg_ret2, kg_wr_n, kg_Skd, kg_Smc, kg_Sob, kg_Srf, kg_Sld, kg_pad, List.map_cons, List.map_nil, List.length_cons, List.length_nil, List.replicate, List.cons_append, List.nil_append, List.append_nil, Nat.reduceAdd, Nat.reduceSub, Nat.reduceMul, Nat.reduceMod, Nat.reduceDiv, Nat.reduceLT, Nat.reduceLeDiff, Nat.reduceEqDiff, ne_eq, not_true_eq_false, not_false_eq_true, reduceIte, true_and, and_true, kx_new, kx_wrr, kx_ret, kx_ld, kg_obj, eq_self, kx_ws, kx_wn, kx_ns, kx_nn, kg_wr_n, kw_n, kw_s, kw_w, kg_lk21, kg_ls21]
    exact hK
  | succ z ih =>
    intro i hi
    have ih' := ih (i + 1) (by omega)
    rw [← kx_fl_s] at ih'
    refine kg_v21 hL (by omega) 30 ?_
    simp (disch := omega) only [↓kb_0t, ↓kb_0f, ↓kb_1t, ↓kb_1f, ↓kb_2t, ↓kb_2f, ↓kb_3t, ↓kb_3f, ↓kb_4t, ↓kb_4f, ↓kb_5t, ↓kb_5f, ↓kg_S1, kg_S2, kg_br_T, kg_br_F, kg_br_N, kg_br_t, kg_br_f, ↓kg_at_n, nI_add, pk_mul, kg_sub_n, kg_rem_n, kg_eq_n, kg_lt_n, kg_le_n, kg_nz, kg_01_0, kg_01_1, kg_w0_1, kg_ret0, kg_ret1, kg_ret2, kg_wr_n, kg_Skd, kg_Smc, kg_Sob, kg_Srf, kg_Sld, kg_pad, List.map_cons, List.map_nil, List.length_cons, List.length_nil, List.replicate, List.cons_append, List.nil_append, List.append_nil, Nat.reduceAdd, Nat.reduceSub, Nat.reduceMul, Nat.reduceMod, Nat.reduceDiv, Nat.reduceLT, Nat.reduceLeDiff, Nat.reduceEqDiff, ne_eq, not_true_eq_false, not_false_eq_true, reduceIte, true_and, and_true, kx_new, kx_wrr, kx_ret, kx_ld, kg_obj, eq_self, kx_ws, kx_wn, kx_ns, kx_nn, kg_wr_n, kw_n, kw_s, kw_w, kg_lk21, kg_ls21, hR]
    exact ih'
set_option maxRecDepth 100000 in
theorem kc21_22_107 (hL : G.2.2.2.2.2.1 < 2 ^ 31) (hR : R 22 3 = 24) (hd : 1 ≤ d) (hK : kg_P G d 21 2 23 42 K 127 [some (.ref 22), some (.int (nI 0))] [] (42, R) (kg_row M 24 (kx_fl (fun _ => nI 1) 4))) : ∀ z i : Nat, i + z = 4 → kg_P G d 21 2 23 42 K 107 [some (.ref 22), some (.int (nI i))] [] (42, R) (kg_row M 24 (kx_fl (fun _ => nI 1) i)) := by
  intro z
  induction z with
  | zero =>
    intro i hi
    obtain rfl : i = 4 := by omega
    refine kg_v21 hL (by omega) 30 ?_
    simp (disch := omega) only [↓kb_0t, ↓kb_0f, ↓kb_1t, ↓kb_1f, ↓kb_2t, ↓kb_2f, ↓kb_3t, ↓kb_3f, ↓kb_4t, ↓kb_4f, ↓kb_5t, ↓kb_5f, ↓kg_S1, kg_S2, kg_br_T, kg_br_F, kg_br_N, kg_br_t, kg_br_f, ↓kg_at_n, nI_add, pk_mul, kg_sub_n, kg_rem_n, kg_eq_n, kg_lt_n, kg_le_n, kg_nz, kg_01_0, kg_01_1, kg_w0_1, kg_ret0, kg_ret1, kg_ret2, kg_wr_n, kg_Skd, kg_Smc, kg_Sob, kg_Srf, kg_Sld, kg_pad, List.map_cons, List.map_nil, List.length_cons, List.length_nil, List.replicate, List.cons_append, List.nil_append, List.append_nil, Nat.reduceAdd, Nat.reduceSub, Nat.reduceMul, Nat.reduceMod, Nat.reduceDiv, Nat.reduceLT, Nat.reduceLeDiff, Nat.reduceEqDiff, ne_eq, not_true_eq_false, not_false_eq_true, reduceIte, true_and, and_true, kx_new, kx_wrr, kx_ret, kx_ld, kg_obj, eq_self, kx_ws, kx_wn, kx_ns, kx_nn, kg_wr_n, kw_n, kw_s, kw_w, kg_lk21, kg_ls21]
    exact hK
  | succ z ih =>
    intro i hi
    have ih' := ih (i + 1) (by omega)
    rw [← kx_fl_s] at ih'
    refine kg_v21 hL (by omega) 30 ?_
    simp (disch := omega) only [↓kb_0t, ↓kb_0f, ↓kb_1t, ↓kb_1f, ↓kb_2t, ↓kb_2f, ↓kb_3t, ↓kb_3f, ↓kb_4t, ↓kb_4f, ↓kb_5t, ↓kb_5f, ↓kg_S1, kg_S2, kg_br_T, kg_br_F, kg_br_N, kg_br_t, kg_br_f, ↓kg_at_n, nI_add, pk_mul, kg_sub_n, kg_rem_n, kg_eq_n, kg_lt_n, kg_le_n, kg_nz, kg_01_0, kg_01_1, kg_w0_1, kg_ret0, kg_ret1, kg_ret2, kg_wr_n, kg_Skd, kg_Smc, kg_Sob, kg_Srf, kg_Sld, kg_pad, List.map_cons, List.map_nil, List.length_cons, List.length_nil, List.replicate, List.cons_append, List.nil_append, List.append_nil, Nat.reduceAdd, Nat.reduceSub, Nat.reduceMul, Nat.reduceMod, Nat.reduceDiv, Nat.reduceLT, Nat.reduceLeDiff, Nat.reduceEqDiff, ne_eq, not_true_eq_false, not_false_eq_true, reduceIte, true_and, and_true, kx_new, kx_wrr, kx_ret, kx_ld, kg_obj, eq_self, kx_ws, kx_wn, kx_ns, kx_nn, kg_wr_n, kw_n, kw_s, kw_w, kg_lk21, kg_ls21, hR]
    exact ih'
set_option maxRecDepth 100000 in
theorem kc21_22_127 (hL : G.2.2.2.2.2.1 < 2 ^ 31) (hR : R 22 5 = 30) (hd : 1 ≤ d) (hK : K none (42, R) (kg_row M 30 (kx_fl (fun _ => kg_n 1) 16))) : ∀ z i : Nat, i + z = 16 → kg_P G d 21 2 23 42 K 127 [some (.ref 22), some (.int (nI i))] [] (42, R) (kg_row M 30 (kx_fl (fun _ => kg_n 1) i)) := by
  intro z
  induction z with
  | zero =>
    intro i hi
    obtain rfl : i = 16 := by omega
    refine kg_v21 hL (by omega) 30 ?_
    simp (disch := omega) only [↓kb_0t, ↓kb_0f, ↓kb_1t, ↓kb_1f, ↓kb_2t, ↓kb_2f, ↓kb_3t, ↓kb_3f, ↓kb_4t, ↓kb_4f, ↓kb_5t, ↓kb_5f, ↓kg_S1, kg_S2, kg_br_T, kg_br_F, kg_br_N, kg_br_t, kg_br_f, ↓kg_at_n, nI_add, pk_mul, kg_sub_n, kg_rem_n, kg_eq_n, kg_lt_n, kg_le_n, kg_nz, kg_01_0, kg_01_1, kg_w0_1, kg_ret0, kg_ret1, kg_ret2, kg_wr_n, kg_Skd, kg_Smc, kg_Sob, kg_Srf, kg_Sld, kg_pad, List.map_cons, List.map_nil, List.length_cons, List.length_nil, List.replicate, List.cons_append, List.nil_append, List.append_nil, Nat.reduceAdd, Nat.reduceSub, Nat.reduceMul, Nat.reduceMod, Nat.reduceDiv, Nat.reduceLT, Nat.reduceLeDiff, Nat.reduceEqDiff, ne_eq, not_true_eq_false, not_false_eq_true, reduceIte, true_and, and_true, kx_new, kx_wrr, kx_ret, kx_ld, kg_obj, eq_self, kx_ws, kx_wn, kx_ns, kx_nn, kg_wr_n, kw_n, kw_s, kw_w, kg_lk21, kg_ls21]
    exact hK
  | succ z ih =>
    intro i hi
    have ih' := ih (i + 1) (by omega)
    rw [← kx_fl_s] at ih'
    refine kg_v21 hL (by omega) 30 ?_
    simp (disch := omega) only [↓kb_0t, ↓kb_0f, ↓kb_1t, ↓kb_1f, ↓kb_2t, ↓kb_2f, ↓kb_3t, ↓kb_3f, ↓kb_4t, ↓kb_4f, ↓kb_5t, ↓kb_5f, ↓kg_S1, kg_S2, kg_br_T, kg_br_F, kg_br_N, kg_br_t, kg_br_f, ↓kg_at_n, nI_add, pk_mul, kg_sub_n, kg_rem_n, kg_eq_n, kg_lt_n, kg_le_n, kg_nz, kg_01_0, kg_01_1, kg_w0_1, kg_ret0, kg_ret1, kg_ret2, kg_wr_n, kg_Skd, kg_Smc, kg_Sob, kg_Srf, kg_Sld, kg_pad, List.map_cons, List.map_nil, List.length_cons, List.length_nil, List.replicate, List.cons_append, List.nil_append, List.append_nil, Nat.reduceAdd, Nat.reduceSub, Nat.reduceMul, Nat.reduceMod, Nat.reduceDiv, Nat.reduceLT, Nat.reduceLeDiff, Nat.reduceEqDiff, ne_eq, not_true_eq_false, not_false_eq_true, reduceIte, true_and, and_true, kx_new, kx_wrr, kx_ret, kx_ld, kg_obj, eq_self, kx_ws, kx_wn, kx_ns, kx_nn, kg_wr_n, kw_n, kw_s, kw_w, kg_lk21, kg_ls21, hR]
    exact ih'
set_option maxRecDepth 100000 in
theorem kc21_22 (hL : G.2.2.2.2.2.1 < 2 ^ 31) (hd : 3 ≤ d) (hK : K none (42, kx_b 22 42 R) (kx_s 22 M)) : kg_call G d 42 21 [.ref 22] (23, kx_n R 22 (fun _ => 0)) (kg_row M 22 (fun _ => 0)) K := by
  obtain ⟨d, rfl⟩ : ∃ e, d = e + 1 := ⟨d - 1, by omega⟩
  refine kg_m21 (by simp) (by show 23 ≤ 42; omega) (kg_v21 hL (by omega) 90 ?_)
  simp (disch := omega) only [↓kb_0t, ↓kb_0f, ↓kb_1t, ↓kb_1f, ↓kb_2t, ↓kb_2f, ↓kb_3t, ↓kb_3f, ↓kb_4t, ↓kb_4f, ↓kb_5t, ↓kb_5f, ↓kg_S1, kg_S2, kg_br_T, kg_br_F, kg_br_N, kg_br_t, kg_br_f, ↓kg_at_n, nI_add, pk_mul, kg_sub_n, kg_rem_n, kg_eq_n, kg_lt_n, kg_le_n, kg_nz, kg_01_0, kg_01_1, kg_w0_1, kg_ret0, kg_ret1, kg_ret2, kg_wr_n, kg_Skd, kg_Smc, kg_Sob, kg_Srf, kg_Sld, kg_pad, List.map_cons, List.map_nil, List.length_cons, List.length_nil, List.replicate, List.cons_append, List.nil_append, List.append_nil, Nat.reduceAdd, Nat.reduceSub, Nat.reduceMul, Nat.reduceMod, Nat.reduceDiv, Nat.reduceLT, Nat.reduceLeDiff, Nat.reduceEqDiff, ne_eq, not_true_eq_false, not_false_eq_true, reduceIte, true_and, and_true, kx_new, kx_wrr, kx_ret, kx_ld, kg_obj, eq_self, kx_ws, kx_wn, kx_ns, kx_nn, kg_wr_n, kw_n, kw_s, kw_w, kg_lk21, kg_ls21, kx_u0]
  refine kg_call_up (kc4_25 hL (by omega) ?_) (by omega)
  simp (disch := omega) only [↓kb_0t, ↓kb_0f, ↓kb_1t, ↓kb_1f, ↓kb_2t, ↓kb_2f, ↓kb_3t, ↓kb_3f, ↓kb_4t, ↓kb_4f, ↓kb_5t, ↓kb_5f, ↓kg_S1, kg_S2, kg_br_T, kg_br_F, kg_br_N, kg_br_t, kg_br_f, ↓kg_at_n, nI_add, pk_mul, kg_sub_n, kg_rem_n, kg_eq_n, kg_lt_n, kg_le_n, kg_nz, kg_01_0, kg_01_1, kg_w0_1, kg_ret0, kg_ret1, kg_ret2, kg_wr_n, kg_Skd, kg_Smc, kg_Sob, kg_Srf, kg_Sld, kg_pad, List.map_cons, List.map_nil, List.length_cons, List.length_nil, List.replicate, List.cons_append, List.nil_append, List.append_nil, Nat.reduceAdd, Nat.reduceSub, Nat.reduceMul, Nat.reduceMod, Nat.reduceDiv, Nat.reduceLT, Nat.reduceLeDiff, Nat.reduceEqDiff, ne_eq, not_true_eq_false, not_false_eq_true, reduceIte, true_and, and_true, kx_new, kx_wrr, kx_ret, kx_ld, kg_obj, eq_self, kx_ws, kx_wn, kx_ns, kx_nn, kg_wr_n, kw_n, kw_s, kw_w, kg_lk21, kg_ls21, kx_u0]
  refine kg_call_up (kc11_31 hL (by omega) ?_) (by omega)
  simp (disch := omega) only [↓kb_0t, ↓kb_0f, ↓kb_1t, ↓kb_1f, ↓kb_2t, ↓kb_2f, ↓kb_3t, ↓kb_3f, ↓kb_4t, ↓kb_4f, ↓kb_5t, ↓kb_5f, ↓kg_S1, kg_S2, kg_br_T, kg_br_F, kg_br_N, kg_br_t, kg_br_f, ↓kg_at_n, nI_add, pk_mul, kg_sub_n, kg_rem_n, kg_eq_n, kg_lt_n, kg_le_n, kg_nz, kg_01_0, kg_01_1, kg_w0_1, kg_ret0, kg_ret1, kg_ret2, kg_wr_n, kg_Skd, kg_Smc, kg_Sob, kg_Srf, kg_Sld, kg_pad, List.map_cons, List.map_nil, List.length_cons, List.length_nil, List.replicate, List.cons_append, List.nil_append, List.append_nil, Nat.reduceAdd, Nat.reduceSub, Nat.reduceMul, Nat.reduceMod, Nat.reduceDiv, Nat.reduceLT, Nat.reduceLeDiff, Nat.reduceEqDiff, ne_eq, not_true_eq_false, not_false_eq_true, reduceIte, true_and, and_true, kx_new, kx_wrr, kx_ret, kx_ld, kg_obj, eq_self, kx_ws, kx_wn, kx_ns, kx_nn, kg_wr_n, kw_n, kw_s, kw_w, kg_lk21, kg_ls21, kx_u0]
  refine kg_call_up (kc0_35 hL (by omega) ?_) (by omega)
  simp (disch := omega) only [↓kb_0t, ↓kb_0f, ↓kb_1t, ↓kb_1f, ↓kb_2t, ↓kb_2f, ↓kb_3t, ↓kb_3f, ↓kb_4t, ↓kb_4f, ↓kb_5t, ↓kb_5f, ↓kg_S1, kg_S2, kg_br_T, kg_br_F, kg_br_N, kg_br_t, kg_br_f, ↓kg_at_n, nI_add, pk_mul, kg_sub_n, kg_rem_n, kg_eq_n, kg_lt_n, kg_le_n, kg_nz, kg_01_0, kg_01_1, kg_w0_1, kg_ret0, kg_ret1, kg_ret2, kg_wr_n, kg_Skd, kg_Smc, kg_Sob, kg_Srf, kg_Sld, kg_pad, List.map_cons, List.map_nil, List.length_cons, List.length_nil, List.replicate, List.cons_append, List.nil_append, List.append_nil, Nat.reduceAdd, Nat.reduceSub, Nat.reduceMul, Nat.reduceMod, Nat.reduceDiv, Nat.reduceLT, Nat.reduceLeDiff, Nat.reduceEqDiff, ne_eq, not_true_eq_false, not_false_eq_true, reduceIte, true_and, and_true, kx_new, kx_wrr, kx_ret, kx_ld, kg_obj, eq_self, kx_ws, kx_wn, kx_ns, kx_nn, kg_wr_n, kw_n, kw_s, kw_w, kg_lk21, kg_ls21, kx_u0]
  generalize hw : kx_w _ 22 8 41 = Rw
  generalize hm : kg_wr _ 22 9 (nI 0) = Mw
  have hRw : Rw = kx_b 22 42 R := by
    rw [← hw]
    funext p
    by_cases hp : 22 ≤ p ∧ p < 42
    · rw [kx_bi hp]
      obtain rfl | rfl | rfl | rfl | rfl | rfl | rfl | rfl | rfl | rfl | rfl | rfl | rfl | rfl | rfl | rfl | rfl | rfl | rfl | rfl : p = 22 ∨ p = 23 ∨ p = 24 ∨ p = 25 ∨ p = 26 ∨ p = 27 ∨ p = 28 ∨ p = 29 ∨ p = 30 ∨ p = 31 ∨ p = 32 ∨ p = 33 ∨ p = 34 ∨ p = 35 ∨ p = 36 ∨ p = 37 ∨ p = 38 ∨ p = 39 ∨ p = 40 ∨ p = 41 := by omega
      · funext k
        obtain rfl | rfl | rfl | rfl | rfl | rfl | rfl | rfl | rfl | ⟨n, rfl⟩ : k = 0 ∨ k = 1 ∨ k = 2 ∨ k = 3 ∨ k = 4 ∨ k = 5 ∨ k = 6 ∨ k = 7 ∨ k = 8 ∨ ∃ n, k = n + 9 := by
          by_cases h : k < 9
          · omega
          · exact Or.inr (Or.inr (Or.inr (Or.inr (Or.inr (Or.inr (Or.inr (Or.inr (Or.inr (⟨k - 9, by omega⟩)))))))))
        all_goals first | rfl | (simp (disch := omega) only [kx_ws, kx_wn, kx_ns, kx_nn, kx_bi, kx_bo, if_neg]; rfl)
      · first | (simp (disch := omega) only [kx_wn, kx_ns, kx_nn, kx_bi, kx_bo]; done) | (simp (disch := omega) only [kx_wn, kx_ns, kx_nn, kx_bi, kx_bo]; rfl)
      · first | (simp (disch := omega) only [kx_wn, kx_ns, kx_nn, kx_bi, kx_bo]; done) | (simp (disch := omega) only [kx_wn, kx_ns, kx_nn, kx_bi, kx_bo]; rfl)
      · first | (simp (disch := omega) only [kx_wn, kx_ns, kx_nn, kx_bi, kx_bo]; done) | (simp (disch := omega) only [kx_wn, kx_ns, kx_nn, kx_bi, kx_bo]; rfl)
      · first | (simp (disch := omega) only [kx_wn, kx_ns, kx_nn, kx_bi, kx_bo]; done) | (simp (disch := omega) only [kx_wn, kx_ns, kx_nn, kx_bi, kx_bo]; rfl)
      · first | (simp (disch := omega) only [kx_wn, kx_ns, kx_nn, kx_bi, kx_bo]; done) | (simp (disch := omega) only [kx_wn, kx_ns, kx_nn, kx_bi, kx_bo]; rfl)
      · first | (simp (disch := omega) only [kx_wn, kx_ns, kx_nn, kx_bi, kx_bo]; done) | (simp (disch := omega) only [kx_wn, kx_ns, kx_nn, kx_bi, kx_bo]; rfl)
      · first | (simp (disch := omega) only [kx_wn, kx_ns, kx_nn, kx_bi, kx_bo]; done) | (simp (disch := omega) only [kx_wn, kx_ns, kx_nn, kx_bi, kx_bo]; rfl)
      · first | (simp (disch := omega) only [kx_wn, kx_ns, kx_nn, kx_bi, kx_bo]; done) | (simp (disch := omega) only [kx_wn, kx_ns, kx_nn, kx_bi, kx_bo]; rfl)
      · first | (simp (disch := omega) only [kx_wn, kx_ns, kx_nn, kx_bi, kx_bo]; done) | (simp (disch := omega) only [kx_wn, kx_ns, kx_nn, kx_bi, kx_bo]; rfl)
      · first | (simp (disch := omega) only [kx_wn, kx_ns, kx_nn, kx_bi, kx_bo]; done) | (simp (disch := omega) only [kx_wn, kx_ns, kx_nn, kx_bi, kx_bo]; rfl)
      · first | (simp (disch := omega) only [kx_wn, kx_ns, kx_nn, kx_bi, kx_bo]; done) | (simp (disch := omega) only [kx_wn, kx_ns, kx_nn, kx_bi, kx_bo]; rfl)
      · first | (simp (disch := omega) only [kx_wn, kx_ns, kx_nn, kx_bi, kx_bo]; done) | (simp (disch := omega) only [kx_wn, kx_ns, kx_nn, kx_bi, kx_bo]; rfl)
      · first | (simp (disch := omega) only [kx_wn, kx_ns, kx_nn, kx_bi, kx_bo]; done) | (simp (disch := omega) only [kx_wn, kx_ns, kx_nn, kx_bi, kx_bo]; rfl)
      · first | (simp (disch := omega) only [kx_wn, kx_ns, kx_nn, kx_bi, kx_bo]; done) | (simp (disch := omega) only [kx_wn, kx_ns, kx_nn, kx_bi, kx_bo]; rfl)
      · first | (simp (disch := omega) only [kx_wn, kx_ns, kx_nn, kx_bi, kx_bo]; done) | (simp (disch := omega) only [kx_wn, kx_ns, kx_nn, kx_bi, kx_bo]; rfl)
      · first | (simp (disch := omega) only [kx_wn, kx_ns, kx_nn, kx_bi, kx_bo]; done) | (simp (disch := omega) only [kx_wn, kx_ns, kx_nn, kx_bi, kx_bo]; rfl)
      · first | (simp (disch := omega) only [kx_wn, kx_ns, kx_nn, kx_bi, kx_bo]; done) | (simp (disch := omega) only [kx_wn, kx_ns, kx_nn, kx_bi, kx_bo]; rfl)
      · first | (simp (disch := omega) only [kx_wn, kx_ns, kx_nn, kx_bi, kx_bo]; done) | (simp (disch := omega) only [kx_wn, kx_ns, kx_nn, kx_bi, kx_bo]; rfl)
      · first | (simp (disch := omega) only [kx_wn, kx_ns, kx_nn, kx_bi, kx_bo]; done) | (simp (disch := omega) only [kx_wn, kx_ns, kx_nn, kx_bi, kx_bo]; rfl)
    · rw [kx_bo hp]
      simp (disch := omega) only [kx_wn, kx_nn, kx_bo]
  have hMw : Mw = kx_z 22 42 M := by
    rw [← hm]
    funext p
    by_cases hp : 22 ≤ p ∧ p < 42
    · rw [kx_zi hp]
      obtain rfl | rfl | rfl | rfl | rfl | rfl | rfl | rfl | rfl | rfl | rfl | rfl | rfl | rfl | rfl | rfl | rfl | rfl | rfl | rfl : p = 22 ∨ p = 23 ∨ p = 24 ∨ p = 25 ∨ p = 26 ∨ p = 27 ∨ p = 28 ∨ p = 29 ∨ p = 30 ∨ p = 31 ∨ p = 32 ∨ p = 33 ∨ p = 34 ∨ p = 35 ∨ p = 36 ∨ p = 37 ∨ p = 38 ∨ p = 39 ∨ p = 40 ∨ p = 41 := by omega
      · funext i
        rw [kg_wr_s]
        split
        · rfl
        · simp (disch := omega) only [kw_n, kw_s, kx_zi, kx_zo]
      all_goals (rw [kg_wr_n (by omega)]; simp (disch := omega) only [kw_n, kw_s, kx_zi, kx_zo])
    · rw [kx_zo hp, kg_wr_n (by omega)]
      simp (disch := omega) only [kw_n, kx_zo]
  have f2 : Rw 22 2 = 23 := by rw [hRw, kx_bi (by omega)]; rfl
  have f3 : Rw 22 3 = 24 := by rw [hRw, kx_bi (by omega)]; rfl
  have f5 : Rw 22 5 = 30 := by rw [hRw, kx_bi (by omega)]; rfl
  have em : kg_row Mw 23 (kx_fl (kg_sv 1003) 0) = Mw := kx_zs (by rw [hMw, kx_zi (by omega), kx_fl_z])
  rw [← em]
  refine kc21_22_83 hL f2 (by omega) ?_ 5 0 rfl
  have em2 : kg_row (kg_row Mw 23 (kx_fl (kg_sv 1003) 5)) 24 (kx_fl (fun _ => nI 1) 0) = kg_row Mw 23 (kx_fl (kg_sv 1003) 5) := kx_zs (by rw [kw_n (by omega), hMw, kx_zi (by omega), kx_fl_z])
  rw [← em2]
  refine kc21_22_107 hL f3 (by omega) ?_ 4 0 rfl
  have em3 : kg_row (kg_row (kg_row Mw 23 (kx_fl (kg_sv 1003) 5)) 24 (kx_fl (fun _ => nI 1) 4)) 30 (kx_fl (fun _ => kg_n 1) 0) = kg_row (kg_row Mw 23 (kx_fl (kg_sv 1003) 5)) 24 (kx_fl (fun _ => nI 1) 4) := kx_zs (by rw [kw_n (by omega), kw_n (by omega), hMw, kx_zi (by omega), kx_fl_z])
  rw [← em3]
  refine kc21_22_127 hL f5 (by omega) ?_ 16 0 rfl
  refine kx_fin hK hRw ?_
  rw [hMw]
  funext p
  unfold kx_s
  by_cases p1 : p = 23
  · rw [if_pos p1, p1, kw_n (by omega), kw_n (by omega), kw_s]
  rw [if_neg p1]
  by_cases p2 : p = 24
  · rw [if_pos p2, p2, kw_n (by omega), kw_s]
  rw [if_neg p2]
  by_cases p3 : p = 30
  · rw [if_pos p3, p3, kw_s]
  rw [if_neg p3, kw_n p3, kw_n p2, kw_n p1]

set_option maxRecDepth 100000 in
theorem kc21_42_83 (hL : G.2.2.2.2.2.1 < 2 ^ 31) (hR : R 42 2 = 43) (hd : 1 ≤ d) (hK : kg_P G d 21 2 43 62 K 107 [some (.ref 42), some (.int (nI 0))] [] (62, R) (kg_row M 43 (kx_fl (kg_sv 1003) 5))) : ∀ z i : Nat, i + z = 5 → kg_P G d 21 2 43 62 K 83 [some (.ref 42), some (.int (nI i))] [] (62, R) (kg_row M 43 (kx_fl (kg_sv 1003) i)) := by
  intro z
  induction z with
  | zero =>
    intro i hi
    obtain rfl : i = 5 := by omega
    refine kg_v21 hL (by omega) 30 ?_
    simp (disch := omega) only [↓kb_0t, ↓kb_0f, ↓kb_1t, ↓kb_1f, ↓kb_2t, ↓kb_2f, ↓kb_3t, ↓kb_3f, ↓kb_4t, ↓kb_4f, ↓kb_5t, ↓kb_5f, ↓kg_S1, kg_S2, kg_br_T, kg_br_F, kg_br_N, kg_br_t, kg_br_f, ↓kg_at_n, nI_add, pk_mul, kg_sub_n, kg_rem_n, kg_eq_n, kg_lt_n, kg_le_n, kg_nz, kg_01_0, kg_01_1, kg_w0_1, kg_ret0, kg_ret1, kg_ret2, kg_wr_n, kg_Skd, kg_Smc, kg_Sob, kg_Srf, kg_Sld, kg_pad, List.map_cons, List.map_nil, List.length_cons, List.length_nil, List.replicate, List.cons_append, List.nil_append, List.append_nil, Nat.reduceAdd, Nat.reduceSub, Nat.reduceMul, Nat.reduceMod, Nat.reduceDiv, Nat.reduceLT, Nat.reduceLeDiff, Nat.reduceEqDiff, ne_eq, not_true_eq_false, not_false_eq_true, reduceIte, true_and, and_true, kx_new, kx_wrr, kx_ret, kx_ld, kg_obj, eq_self, kx_ws, kx_wn, kx_ns, kx_nn, kg_wr_n, kw_n, kw_s, kw_w, kg_lk21, kg_ls21]
    exact hK
  | succ z ih =>
    intro i hi
    have ih' := ih (i + 1) (by omega)
    rw [← kx_fl_s] at ih'
    refine kg_v21 hL (by omega) 30 ?_
    simp (disch := omega) only [↓kb_0t, ↓kb_0f, ↓kb_1t, ↓kb_1f, ↓kb_2t, ↓kb_2f, ↓kb_3t, ↓kb_3f, ↓kb_4t, ↓kb_4f, ↓kb_5t, ↓kb_5f, ↓kg_S1, kg_S2, kg_br_T, kg_br_F, kg_br_N, kg_br_t, kg_br_f, ↓kg_at_n, nI_add, pk_mul, kg_sub_n, kg_rem_n, kg_eq_n, kg_lt_n, kg_le_n, kg_nz, kg_01_0, kg_01_1, kg_w0_1, kg_ret0, kg_ret1, kg_ret2, kg_wr_n, kg_Skd, kg_Smc, kg_Sob, kg_Srf, kg_Sld, kg_pad, List.map_cons, List.map_nil, List.length_cons, List.length_nil, List.replicate, List.cons_append, List.nil_append, List.append_nil, Nat.reduceAdd, Nat.reduceSub, Nat.reduceMul, Nat.reduceMod, Nat.reduceDiv, Nat.reduceLT, Nat.reduceLeDiff, Nat.reduceEqDiff, ne_eq, not_true_eq_false, not_false_eq_true, reduceIte, true_and, and_true, kx_new, kx_wrr, kx_ret, kx_ld, kg_obj, eq_self, kx_ws, kx_wn, kx_ns, kx_nn, kg_wr_n, kw_n, kw_s, kw_w, kg_lk21, kg_ls21, hR]
    exact ih'
set_option maxRecDepth 100000 in
theorem kc21_42_107 (hL : G.2.2.2.2.2.1 < 2 ^ 31) (hR : R 42 3 = 44) (hd : 1 ≤ d) (hK : kg_P G d 21 2 43 62 K 127 [some (.ref 42), some (.int (nI 0))] [] (62, R) (kg_row M 44 (kx_fl (fun _ => nI 1) 4))) : ∀ z i : Nat, i + z = 4 → kg_P G d 21 2 43 62 K 107 [some (.ref 42), some (.int (nI i))] [] (62, R) (kg_row M 44 (kx_fl (fun _ => nI 1) i)) := by
  intro z
  induction z with
  | zero =>
    intro i hi
    obtain rfl : i = 4 := by omega
    refine kg_v21 hL (by omega) 30 ?_
    simp (disch := omega) only [↓kb_0t, ↓kb_0f, ↓kb_1t, ↓kb_1f, ↓kb_2t, ↓kb_2f, ↓kb_3t, ↓kb_3f, ↓kb_4t, ↓kb_4f, ↓kb_5t, ↓kb_5f, ↓kg_S1, kg_S2, kg_br_T, kg_br_F, kg_br_N, kg_br_t, kg_br_f, ↓kg_at_n, nI_add, pk_mul, kg_sub_n, kg_rem_n, kg_eq_n, kg_lt_n, kg_le_n, kg_nz, kg_01_0, kg_01_1, kg_w0_1, kg_ret0, kg_ret1, kg_ret2, kg_wr_n, kg_Skd, kg_Smc, kg_Sob, kg_Srf, kg_Sld, kg_pad, List.map_cons, List.map_nil, List.length_cons, List.length_nil, List.replicate, List.cons_append, List.nil_append, List.append_nil, Nat.reduceAdd, Nat.reduceSub, Nat.reduceMul, Nat.reduceMod, Nat.reduceDiv, Nat.reduceLT, Nat.reduceLeDiff, Nat.reduceEqDiff, ne_eq, not_true_eq_false, not_false_eq_true, reduceIte, true_and, and_true, kx_new, kx_wrr, kx_ret, kx_ld, kg_obj, eq_self, kx_ws, kx_wn, kx_ns, kx_nn, kg_wr_n, kw_n, kw_s, kw_w, kg_lk21, kg_ls21]
    exact hK
  | succ z ih =>
    intro i hi
    have ih' := ih (i + 1) (by omega)
    rw [← kx_fl_s] at ih'
    refine kg_v21 hL (by omega) 30 ?_
    simp (disch := omega) only [↓kb_0t, ↓kb_0f, ↓kb_1t, ↓kb_1f, ↓kb_2t, ↓kb_2f, ↓kb_3t, ↓kb_3f, ↓kb_4t, ↓kb_4f, ↓kb_5t, ↓kb_5f, ↓kg_S1, kg_S2, kg_br_T, kg_br_F, kg_br_N, kg_br_t, kg_br_f, ↓kg_at_n, nI_add, pk_mul, kg_sub_n, kg_rem_n, kg_eq_n, kg_lt_n, kg_le_n, kg_nz, kg_01_0, kg_01_1, kg_w0_1, kg_ret0, kg_ret1, kg_ret2, kg_wr_n, kg_Skd, kg_Smc, kg_Sob, kg_Srf, kg_Sld, kg_pad, List.map_cons, List.map_nil, List.length_cons, List.length_nil, List.replicate, List.cons_append, List.nil_append, List.append_nil, Nat.reduceAdd, Nat.reduceSub, Nat.reduceMul, Nat.reduceMod, Nat.reduceDiv, Nat.reduceLT, Nat.reduceLeDiff, Nat.reduceEqDiff, ne_eq, not_true_eq_false, not_false_eq_true, reduceIte, true_and, and_true, kx_new, kx_wrr, kx_ret, kx_ld, kg_obj, eq_self, kx_ws, kx_wn, kx_ns, kx_nn, kg_wr_n, kw_n, kw_s, kw_w, kg_lk21, kg_ls21, hR]
    exact ih'
set_option maxRecDepth 100000 in
theorem kc21_42_127 (hL : G.2.2.2.2.2.1 < 2 ^ 31) (hR : R 42 5 = 50) (hd : 1 ≤ d) (hK : K none (62, R) (kg_row M 50 (kx_fl (fun _ => kg_n 1) 16))) : ∀ z i : Nat, i + z = 16 → kg_P G d 21 2 43 62 K 127 [some (.ref 42), some (.int (nI i))] [] (62, R) (kg_row M 50 (kx_fl (fun _ => kg_n 1) i)) := by
  intro z
  induction z with
  | zero =>
    intro i hi
    obtain rfl : i = 16 := by omega
    refine kg_v21 hL (by omega) 30 ?_
    simp (disch := omega) only [↓kb_0t, ↓kb_0f, ↓kb_1t, ↓kb_1f, ↓kb_2t, ↓kb_2f, ↓kb_3t, ↓kb_3f, ↓kb_4t, ↓kb_4f, ↓kb_5t, ↓kb_5f, ↓kg_S1, kg_S2, kg_br_T, kg_br_F, kg_br_N, kg_br_t, kg_br_f, ↓kg_at_n, nI_add, pk_mul, kg_sub_n, kg_rem_n, kg_eq_n, kg_lt_n, kg_le_n, kg_nz, kg_01_0, kg_01_1, kg_w0_1, kg_ret0, kg_ret1, kg_ret2, kg_wr_n, kg_Skd, kg_Smc, kg_Sob, kg_Srf, kg_Sld, kg_pad, List.map_cons, List.map_nil, List.length_cons, List.length_nil, List.replicate, List.cons_append, List.nil_append, List.append_nil, Nat.reduceAdd, Nat.reduceSub, Nat.reduceMul, Nat.reduceMod, Nat.reduceDiv, Nat.reduceLT, Nat.reduceLeDiff, Nat.reduceEqDiff, ne_eq, not_true_eq_false, not_false_eq_true, reduceIte, true_and, and_true, kx_new, kx_wrr, kx_ret, kx_ld, kg_obj, eq_self, kx_ws, kx_wn, kx_ns, kx_nn, kg_wr_n, kw_n, kw_s, kw_w, kg_lk21, kg_ls21]
    exact hK
  | succ z ih =>
    intro i hi
    have ih' := ih (i + 1) (by omega)
    rw [← kx_fl_s] at ih'
    refine kg_v21 hL (by omega) 30 ?_
    simp (disch := omega) only [↓kb_0t, ↓kb_0f, ↓kb_1t, ↓kb_1f, ↓kb_2t, ↓kb_2f, ↓kb_3t, ↓kb_3f, ↓kb_4t, ↓kb_4f, ↓kb_5t, ↓kb_5f, ↓kg_S1, kg_S2, kg_br_T, kg_br_F, kg_br_N, kg_br_t, kg_br_f, ↓kg_at_n, nI_add, pk_mul, kg_sub_n, kg_rem_n, kg_eq_n, kg_lt_n, kg_le_n, kg_nz, kg_01_0, kg_01_1, kg_w0_1, kg_ret0, kg_ret1, kg_ret2, kg_wr_n, kg_Skd, kg_Smc, kg_Sob, kg_Srf, kg_Sld, kg_pad, List.map_cons, List.map_nil, List.length_cons, List.length_nil, List.replicate, List.cons_append, List.nil_append, List.append_nil, Nat.reduceAdd, Nat.reduceSub, Nat.reduceMul, Nat.reduceMod, Nat.reduceDiv, Nat.reduceLT, Nat.reduceLeDiff, Nat.reduceEqDiff, ne_eq, not_true_eq_false, not_false_eq_true, reduceIte, true_and, and_true, kx_new, kx_wrr, kx_ret, kx_ld, kg_obj, eq_self, kx_ws, kx_wn, kx_ns, kx_nn, kg_wr_n, kw_n, kw_s, kw_w, kg_lk21, kg_ls21, hR]
    exact ih'
set_option maxRecDepth 100000 in
theorem kc21_42 (hL : G.2.2.2.2.2.1 < 2 ^ 31) (hd : 3 ≤ d) (hK : K none (62, kx_b 42 62 R) (kx_s 42 M)) : kg_call G d 62 21 [.ref 42] (43, kx_n R 42 (fun _ => 0)) (kg_row M 42 (fun _ => 0)) K := by
  obtain ⟨d, rfl⟩ : ∃ e, d = e + 1 := ⟨d - 1, by omega⟩
  refine kg_m21 (by simp) (by show 43 ≤ 62; omega) (kg_v21 hL (by omega) 90 ?_)
  simp (disch := omega) only [↓kb_0t, ↓kb_0f, ↓kb_1t, ↓kb_1f, ↓kb_2t, ↓kb_2f, ↓kb_3t, ↓kb_3f, ↓kb_4t, ↓kb_4f, ↓kb_5t, ↓kb_5f, ↓kg_S1, kg_S2, kg_br_T, kg_br_F, kg_br_N, kg_br_t, kg_br_f, ↓kg_at_n, nI_add, pk_mul, kg_sub_n, kg_rem_n, kg_eq_n, kg_lt_n, kg_le_n, kg_nz, kg_01_0, kg_01_1, kg_w0_1, kg_ret0, kg_ret1, kg_ret2, kg_wr_n, kg_Skd, kg_Smc, kg_Sob, kg_Srf, kg_Sld, kg_pad, List.map_cons, List.map_nil, List.length_cons, List.length_nil, List.replicate, List.cons_append, List.nil_append, List.append_nil, Nat.reduceAdd, Nat.reduceSub, Nat.reduceMul, Nat.reduceMod, Nat.reduceDiv, Nat.reduceLT, Nat.reduceLeDiff, Nat.reduceEqDiff, ne_eq, not_true_eq_false, not_false_eq_true, reduceIte, true_and, and_true, kx_new, kx_wrr, kx_ret, kx_ld, kg_obj, eq_self, kx_ws, kx_wn, kx_ns, kx_nn, kg_wr_n, kw_n, kw_s, kw_w, kg_lk21, kg_ls21, kx_u0]
  refine kg_call_up (kc4_45 hL (by omega) ?_) (by omega)
  simp (disch := omega) only [↓kb_0t, ↓kb_0f, ↓kb_1t, ↓kb_1f, ↓kb_2t, ↓kb_2f, ↓kb_3t, ↓kb_3f, ↓kb_4t, ↓kb_4f, ↓kb_5t, ↓kb_5f, ↓kg_S1, kg_S2, kg_br_T, kg_br_F, kg_br_N, kg_br_t, kg_br_f, ↓kg_at_n, nI_add, pk_mul, kg_sub_n, kg_rem_n, kg_eq_n, kg_lt_n, kg_le_n, kg_nz, kg_01_0, kg_01_1, kg_w0_1, kg_ret0, kg_ret1, kg_ret2, kg_wr_n, kg_Skd, kg_Smc, kg_Sob, kg_Srf, kg_Sld, kg_pad, List.map_cons, List.map_nil, List.length_cons, List.length_nil, List.replicate, List.cons_append, List.nil_append, List.append_nil, Nat.reduceAdd, Nat.reduceSub, Nat.reduceMul, Nat.reduceMod, Nat.reduceDiv, Nat.reduceLT, Nat.reduceLeDiff, Nat.reduceEqDiff, ne_eq, not_true_eq_false, not_false_eq_true, reduceIte, true_and, and_true, kx_new, kx_wrr, kx_ret, kx_ld, kg_obj, eq_self, kx_ws, kx_wn, kx_ns, kx_nn, kg_wr_n, kw_n, kw_s, kw_w, kg_lk21, kg_ls21, kx_u0]
  refine kg_call_up (kc11_51 hL (by omega) ?_) (by omega)
  simp (disch := omega) only [↓kb_0t, ↓kb_0f, ↓kb_1t, ↓kb_1f, ↓kb_2t, ↓kb_2f, ↓kb_3t, ↓kb_3f, ↓kb_4t, ↓kb_4f, ↓kb_5t, ↓kb_5f, ↓kg_S1, kg_S2, kg_br_T, kg_br_F, kg_br_N, kg_br_t, kg_br_f, ↓kg_at_n, nI_add, pk_mul, kg_sub_n, kg_rem_n, kg_eq_n, kg_lt_n, kg_le_n, kg_nz, kg_01_0, kg_01_1, kg_w0_1, kg_ret0, kg_ret1, kg_ret2, kg_wr_n, kg_Skd, kg_Smc, kg_Sob, kg_Srf, kg_Sld, kg_pad, List.map_cons, List.map_nil, List.length_cons, List.length_nil, List.replicate, List.cons_append, List.nil_append, List.append_nil, Nat.reduceAdd, Nat.reduceSub, Nat.reduceMul, Nat.reduceMod, Nat.reduceDiv, Nat.reduceLT, Nat.reduceLeDiff, Nat.reduceEqDiff, ne_eq, not_true_eq_false, not_false_eq_true, reduceIte, true_and, and_true, kx_new, kx_wrr, kx_ret, kx_ld, kg_obj, eq_self, kx_ws, kx_wn, kx_ns, kx_nn, kg_wr_n, kw_n, kw_s, kw_w, kg_lk21, kg_ls21, kx_u0]
  refine kg_call_up (kc0_55 hL (by omega) ?_) (by omega)
  simp (disch := omega) only [↓kb_0t, ↓kb_0f, ↓kb_1t, ↓kb_1f, ↓kb_2t, ↓kb_2f, ↓kb_3t, ↓kb_3f, ↓kb_4t, ↓kb_4f, ↓kb_5t, ↓kb_5f, ↓kg_S1, kg_S2, kg_br_T, kg_br_F, kg_br_N, kg_br_t, kg_br_f, ↓kg_at_n, nI_add, pk_mul, kg_sub_n, kg_rem_n, kg_eq_n, kg_lt_n, kg_le_n, kg_nz, kg_01_0, kg_01_1, kg_w0_1, kg_ret0, kg_ret1, kg_ret2, kg_wr_n, kg_Skd, kg_Smc, kg_Sob, kg_Srf, kg_Sld, kg_pad, List.map_cons, List.map_nil, List.length_cons, List.length_nil, List.replicate, List.cons_append, List.nil_append, List.append_nil, Nat.reduceAdd, Nat.reduceSub, Nat.reduceMul, Nat.reduceMod, Nat.reduceDiv, Nat.reduceLT, Nat.reduceLeDiff, Nat.reduceEqDiff, ne_eq, not_true_eq_false, not_false_eq_true, reduceIte, true_and, and_true, kx_new, kx_wrr, kx_ret, kx_ld, kg_obj, eq_self, kx_ws, kx_wn, kx_ns, kx_nn, kg_wr_n, kw_n, kw_s, kw_w, kg_lk21, kg_ls21, kx_u0]
  generalize hw : kx_w _ 42 8 61 = Rw
  generalize hm : kg_wr _ 42 9 (nI 0) = Mw
  have hRw : Rw = kx_b 42 62 R := by
    rw [← hw]
    funext p
    by_cases hp : 42 ≤ p ∧ p < 62
    · rw [kx_bi hp]
      obtain rfl | rfl | rfl | rfl | rfl | rfl | rfl | rfl | rfl | rfl | rfl | rfl | rfl | rfl | rfl | rfl | rfl | rfl | rfl | rfl : p = 42 ∨ p = 43 ∨ p = 44 ∨ p = 45 ∨ p = 46 ∨ p = 47 ∨ p = 48 ∨ p = 49 ∨ p = 50 ∨ p = 51 ∨ p = 52 ∨ p = 53 ∨ p = 54 ∨ p = 55 ∨ p = 56 ∨ p = 57 ∨ p = 58 ∨ p = 59 ∨ p = 60 ∨ p = 61 := by omega
      · funext k
        obtain rfl | rfl | rfl | rfl | rfl | rfl | rfl | rfl | rfl | ⟨n, rfl⟩ : k = 0 ∨ k = 1 ∨ k = 2 ∨ k = 3 ∨ k = 4 ∨ k = 5 ∨ k = 6 ∨ k = 7 ∨ k = 8 ∨ ∃ n, k = n + 9 := by
          by_cases h : k < 9
          · omega
          · exact Or.inr (Or.inr (Or.inr (Or.inr (Or.inr (Or.inr (Or.inr (Or.inr (Or.inr (⟨k - 9, by omega⟩)))))))))
        all_goals first | rfl | (simp (disch := omega) only [kx_ws, kx_wn, kx_ns, kx_nn, kx_bi, kx_bo, if_neg]; rfl)
      · first | (simp (disch := omega) only [kx_wn, kx_ns, kx_nn, kx_bi, kx_bo]; done) | (simp (disch := omega) only [kx_wn, kx_ns, kx_nn, kx_bi, kx_bo]; rfl)
      · first | (simp (disch := omega) only [kx_wn, kx_ns, kx_nn, kx_bi, kx_bo]; done) | (simp (disch := omega) only [kx_wn, kx_ns, kx_nn, kx_bi, kx_bo]; rfl)
      · first | (simp (disch := omega) only [kx_wn, kx_ns, kx_nn, kx_bi, kx_bo]; done) | (simp (disch := omega) only [kx_wn, kx_ns, kx_nn, kx_bi, kx_bo]; rfl)
      · first | (simp (disch := omega) only [kx_wn, kx_ns, kx_nn, kx_bi, kx_bo]; done) | (simp (disch := omega) only [kx_wn, kx_ns, kx_nn, kx_bi, kx_bo]; rfl)
      · first | (simp (disch := omega) only [kx_wn, kx_ns, kx_nn, kx_bi, kx_bo]; done) | (simp (disch := omega) only [kx_wn, kx_ns, kx_nn, kx_bi, kx_bo]; rfl)
      · first | (simp (disch := omega) only [kx_wn, kx_ns, kx_nn, kx_bi, kx_bo]; done) | (simp (disch := omega) only [kx_wn, kx_ns, kx_nn, kx_bi, kx_bo]; rfl)
      · first | (simp (disch := omega) only [kx_wn, kx_ns, kx_nn, kx_bi, kx_bo]; done) | (simp (disch := omega) only [kx_wn, kx_ns, kx_nn, kx_bi, kx_bo]; rfl)
      · first | (simp (disch := omega) only [kx_wn, kx_ns, kx_nn, kx_bi, kx_bo]; done) | (simp (disch := omega) only [kx_wn, kx_ns, kx_nn, kx_bi, kx_bo]; rfl)
      · first | (simp (disch := omega) only [kx_wn, kx_ns, kx_nn, kx_bi, kx_bo]; done) | (simp (disch := omega) only [kx_wn, kx_ns, kx_nn, kx_bi, kx_bo]; rfl)
      · first | (simp (disch := omega) only [kx_wn, kx_ns, kx_nn, kx_bi, kx_bo]; done) | (simp (disch := omega) only [kx_wn, kx_ns, kx_nn, kx_bi, kx_bo]; rfl)
      · first | (simp (disch := omega) only [kx_wn, kx_ns, kx_nn, kx_bi, kx_bo]; done) | (simp (disch := omega) only [kx_wn, kx_ns, kx_nn, kx_bi, kx_bo]; rfl)
      · first | (simp (disch := omega) only [kx_wn, kx_ns, kx_nn, kx_bi, kx_bo]; done) | (simp (disch := omega) only [kx_wn, kx_ns, kx_nn, kx_bi, kx_bo]; rfl)
      · first | (simp (disch := omega) only [kx_wn, kx_ns, kx_nn, kx_bi, kx_bo]; done) | (simp (disch := omega) only [kx_wn, kx_ns, kx_nn, kx_bi, kx_bo]; rfl)
      · first | (simp (disch := omega) only [kx_wn, kx_ns, kx_nn, kx_bi, kx_bo]; done) | (simp (disch := omega) only [kx_wn, kx_ns, kx_nn, kx_bi, kx_bo]; rfl)
      · first | (simp (disch := omega) only [kx_wn, kx_ns, kx_nn, kx_bi, kx_bo]; done) | (simp (disch := omega) only [kx_wn, kx_ns, kx_nn, kx_bi, kx_bo]; rfl)
      · first | (simp (disch := omega) only [kx_wn, kx_ns, kx_nn, kx_bi, kx_bo]; done) | (simp (disch := omega) only [kx_wn, kx_ns, kx_nn, kx_bi, kx_bo]; rfl)
      · first | (simp (disch := omega) only [kx_wn, kx_ns, kx_nn, kx_bi, kx_bo]; done) | (simp (disch := omega) only [kx_wn, kx_ns, kx_nn, kx_bi, kx_bo]; rfl)
      · first | (simp (disch := omega) only [kx_wn, kx_ns, kx_nn, kx_bi, kx_bo]; done) | (simp (disch := omega) only [kx_wn, kx_ns, kx_nn, kx_bi, kx_bo]; rfl)
      · first | (simp (disch := omega) only [kx_wn, kx_ns, kx_nn, kx_bi, kx_bo]; done) | (simp (disch := omega) only [kx_wn, kx_ns, kx_nn, kx_bi, kx_bo]; rfl)
    · rw [kx_bo hp]
      simp (disch := omega) only [kx_wn, kx_nn, kx_bo]
  have hMw : Mw = kx_z 42 62 M := by
    rw [← hm]
    funext p
    by_cases hp : 42 ≤ p ∧ p < 62
    · rw [kx_zi hp]
      obtain rfl | rfl | rfl | rfl | rfl | rfl | rfl | rfl | rfl | rfl | rfl | rfl | rfl | rfl | rfl | rfl | rfl | rfl | rfl | rfl : p = 42 ∨ p = 43 ∨ p = 44 ∨ p = 45 ∨ p = 46 ∨ p = 47 ∨ p = 48 ∨ p = 49 ∨ p = 50 ∨ p = 51 ∨ p = 52 ∨ p = 53 ∨ p = 54 ∨ p = 55 ∨ p = 56 ∨ p = 57 ∨ p = 58 ∨ p = 59 ∨ p = 60 ∨ p = 61 := by omega
      · funext i
        rw [kg_wr_s]
        split
        · rfl
        · simp (disch := omega) only [kw_n, kw_s, kx_zi, kx_zo]
      all_goals (rw [kg_wr_n (by omega)]; simp (disch := omega) only [kw_n, kw_s, kx_zi, kx_zo])
    · rw [kx_zo hp, kg_wr_n (by omega)]
      simp (disch := omega) only [kw_n, kx_zo]
  have f2 : Rw 42 2 = 43 := by rw [hRw, kx_bi (by omega)]; rfl
  have f3 : Rw 42 3 = 44 := by rw [hRw, kx_bi (by omega)]; rfl
  have f5 : Rw 42 5 = 50 := by rw [hRw, kx_bi (by omega)]; rfl
  have em : kg_row Mw 43 (kx_fl (kg_sv 1003) 0) = Mw := kx_zs (by rw [hMw, kx_zi (by omega), kx_fl_z])
  rw [← em]
  refine kc21_42_83 hL f2 (by omega) ?_ 5 0 rfl
  have em2 : kg_row (kg_row Mw 43 (kx_fl (kg_sv 1003) 5)) 44 (kx_fl (fun _ => nI 1) 0) = kg_row Mw 43 (kx_fl (kg_sv 1003) 5) := kx_zs (by rw [kw_n (by omega), hMw, kx_zi (by omega), kx_fl_z])
  rw [← em2]
  refine kc21_42_107 hL f3 (by omega) ?_ 4 0 rfl
  have em3 : kg_row (kg_row (kg_row Mw 43 (kx_fl (kg_sv 1003) 5)) 44 (kx_fl (fun _ => nI 1) 4)) 50 (kx_fl (fun _ => kg_n 1) 0) = kg_row (kg_row Mw 43 (kx_fl (kg_sv 1003) 5)) 44 (kx_fl (fun _ => nI 1) 4) := kx_zs (by rw [kw_n (by omega), kw_n (by omega), hMw, kx_zi (by omega), kx_fl_z])
  rw [← em3]
  refine kc21_42_127 hL f5 (by omega) ?_ 16 0 rfl
  refine kx_fin hK hRw ?_
  rw [hMw]
  funext p
  unfold kx_s
  by_cases p1 : p = 43
  · rw [if_pos p1, p1, kw_n (by omega), kw_n (by omega), kw_s]
  rw [if_neg p1]
  by_cases p2 : p = 44
  · rw [if_pos p2, p2, kw_n (by omega), kw_s]
  rw [if_neg p2]
  by_cases p3 : p = 50
  · rw [if_pos p3, p3, kw_s]
  rw [if_neg p3, kw_n p3, kw_n p2, kw_n p1]

set_option maxRecDepth 100000 in
theorem kc21_62_83 (hL : G.2.2.2.2.2.1 < 2 ^ 31) (hR : R 62 2 = 63) (hd : 1 ≤ d) (hK : kg_P G d 21 2 63 82 K 107 [some (.ref 62), some (.int (nI 0))] [] (82, R) (kg_row M 63 (kx_fl (kg_sv 1003) 5))) : ∀ z i : Nat, i + z = 5 → kg_P G d 21 2 63 82 K 83 [some (.ref 62), some (.int (nI i))] [] (82, R) (kg_row M 63 (kx_fl (kg_sv 1003) i)) := by
  intro z
  induction z with
  | zero =>
    intro i hi
    obtain rfl : i = 5 := by omega
    refine kg_v21 hL (by omega) 30 ?_
    simp (disch := omega) only [↓kb_0t, ↓kb_0f, ↓kb_1t, ↓kb_1f, ↓kb_2t, ↓kb_2f, ↓kb_3t, ↓kb_3f, ↓kb_4t, ↓kb_4f, ↓kb_5t, ↓kb_5f, ↓kg_S1, kg_S2, kg_br_T, kg_br_F, kg_br_N, kg_br_t, kg_br_f, ↓kg_at_n, nI_add, pk_mul, kg_sub_n, kg_rem_n, kg_eq_n, kg_lt_n, kg_le_n, kg_nz, kg_01_0, kg_01_1, kg_w0_1, kg_ret0, kg_ret1, kg_ret2, kg_wr_n, kg_Skd, kg_Smc, kg_Sob, kg_Srf, kg_Sld, kg_pad, List.map_cons, List.map_nil, List.length_cons, List.length_nil, List.replicate, List.cons_append, List.nil_append, List.append_nil, Nat.reduceAdd, Nat.reduceSub, Nat.reduceMul, Nat.reduceMod, Nat.reduceDiv, Nat.reduceLT, Nat.reduceLeDiff, Nat.reduceEqDiff, ne_eq, not_true_eq_false, not_false_eq_true, reduceIte, true_and, and_true, kx_new, kx_wrr, kx_ret, kx_ld, kg_obj, eq_self, kx_ws, kx_wn, kx_ns, kx_nn, kg_wr_n, kw_n, kw_s, kw_w, kg_lk21, kg_ls21]
    exact hK
  | succ z ih =>
    intro i hi
    have ih' := ih (i + 1) (by omega)
    rw [← kx_fl_s] at ih'
    refine kg_v21 hL (by omega) 30 ?_
    simp (disch := omega) only [↓kb_0t, ↓kb_0f, ↓kb_1t, ↓kb_1f, ↓kb_2t, ↓kb_2f, ↓kb_3t, ↓kb_3f, ↓kb_4t, ↓kb_4f, ↓kb_5t, ↓kb_5f, ↓kg_S1, kg_S2, kg_br_T, kg_br_F, kg_br_N, kg_br_t, kg_br_f, ↓kg_at_n, nI_add, pk_mul, kg_sub_n, kg_rem_n, kg_eq_n, kg_lt_n, kg_le_n, kg_nz, kg_01_0, kg_01_1, kg_w0_1, kg_ret0, kg_ret1, kg_ret2, kg_wr_n, kg_Skd, kg_Smc, kg_Sob, kg_Srf, kg_Sld, kg_pad, List.map_cons, List.map_nil, List.length_cons, List.length_nil, List.replicate, List.cons_append, List.nil_append, List.append_nil, Nat.reduceAdd, Nat.reduceSub, Nat.reduceMul, Nat.reduceMod, Nat.reduceDiv, Nat.reduceLT, Nat.reduceLeDiff, Nat.reduceEqDiff, ne_eq, not_true_eq_false, not_false_eq_true, reduceIte, true_and, and_true, kx_new, kx_wrr, kx_ret, kx_ld, kg_obj, eq_self, kx_ws, kx_wn, kx_ns, kx_nn, kg_wr_n, kw_n, kw_s, kw_w, kg_lk21, kg_ls21, hR]
    exact ih'
set_option maxRecDepth 100000 in
theorem kc21_62_107 (hL : G.2.2.2.2.2.1 < 2 ^ 31) (hR : R 62 3 = 64) (hd : 1 ≤ d) (hK : kg_P G d 21 2 63 82 K 127 [some (.ref 62), some (.int (nI 0))] [] (82, R) (kg_row M 64 (kx_fl (fun _ => nI 1) 4))) : ∀ z i : Nat, i + z = 4 → kg_P G d 21 2 63 82 K 107 [some (.ref 62), some (.int (nI i))] [] (82, R) (kg_row M 64 (kx_fl (fun _ => nI 1) i)) := by
  intro z
  induction z with
  | zero =>
    intro i hi
    obtain rfl : i = 4 := by omega
    refine kg_v21 hL (by omega) 30 ?_
    simp (disch := omega) only [↓kb_0t, ↓kb_0f, ↓kb_1t, ↓kb_1f, ↓kb_2t, ↓kb_2f, ↓kb_3t, ↓kb_3f, ↓kb_4t, ↓kb_4f, ↓kb_5t, ↓kb_5f, ↓kg_S1, kg_S2, kg_br_T, kg_br_F, kg_br_N, kg_br_t, kg_br_f, ↓kg_at_n, nI_add, pk_mul, kg_sub_n, kg_rem_n, kg_eq_n, kg_lt_n, kg_le_n, kg_nz, kg_01_0, kg_01_1, kg_w0_1, kg_ret0, kg_ret1, kg_ret2, kg_wr_n, kg_Skd, kg_Smc, kg_Sob, kg_Srf, kg_Sld, kg_pad, List.map_cons, List.map_nil, List.length_cons, List.length_nil, List.replicate, List.cons_append, List.nil_append, List.append_nil, Nat.reduceAdd, Nat.reduceSub, Nat.reduceMul, Nat.reduceMod, Nat.reduceDiv, Nat.reduceLT, Nat.reduceLeDiff, Nat.reduceEqDiff, ne_eq, not_true_eq_false, not_false_eq_true, reduceIte, true_and, and_true, kx_new, kx_wrr, kx_ret, kx_ld, kg_obj, eq_self, kx_ws, kx_wn, kx_ns, kx_nn, kg_wr_n, kw_n, kw_s, kw_w, kg_lk21, kg_ls21]
    exact hK
  | succ z ih =>
    intro i hi
    have ih' := ih (i + 1) (by omega)
    rw [← kx_fl_s] at ih'
    refine kg_v21 hL (by omega) 30 ?_
    simp (disch := omega) only [↓kb_0t, ↓kb_0f, ↓kb_1t, ↓kb_1f, ↓kb_2t, ↓kb_2f, ↓kb_3t, ↓kb_3f, ↓kb_4t, ↓kb_4f, ↓kb_5t, ↓kb_5f, ↓kg_S1, kg_S2, kg_br_T, kg_br_F, kg_br_N, kg_br_t, kg_br_f, ↓kg_at_n, nI_add, pk_mul, kg_sub_n, kg_rem_n, kg_eq_n, kg_lt_n, kg_le_n, kg_nz, kg_01_0, kg_01_1, kg_w0_1, kg_ret0, kg_ret1, kg_ret2, kg_wr_n, kg_Skd, kg_Smc, kg_Sob, kg_Srf, kg_Sld, kg_pad, List.map_cons, List.map_nil, List.length_cons, List.length_nil, List.replicate, List.cons_append, List.nil_append, List.append_nil, Nat.reduceAdd, Nat.reduceSub, Nat.reduceMul, Nat.reduceMod, Nat.reduceDiv, Nat.reduceLT, Nat.reduceLeDiff, Nat.reduceEqDiff, ne_eq, not_true_eq_false, not_false_eq_true, reduceIte, true_and, and_true, kx_new, kx_wrr, kx_ret, kx_ld, kg_obj, eq_self, kx_ws, kx_wn, kx_ns, kx_nn, kg_wr_n, kw_n, kw_s, kw_w, kg_lk21, kg_ls21, hR]
    exact ih'
set_option maxRecDepth 100000 in
theorem kc21_62_127 (hL : G.2.2.2.2.2.1 < 2 ^ 31) (hR : R 62 5 = 70) (hd : 1 ≤ d) (hK : K none (82, R) (kg_row M 70 (kx_fl (fun _ => kg_n 1) 16))) : ∀ z i : Nat, i + z = 16 → kg_P G d 21 2 63 82 K 127 [some (.ref 62), some (.int (nI i))] [] (82, R) (kg_row M 70 (kx_fl (fun _ => kg_n 1) i)) := by
  intro z
  induction z with
  | zero =>
    intro i hi
    obtain rfl : i = 16 := by omega
    refine kg_v21 hL (by omega) 30 ?_
    simp (disch := omega) only [↓kb_0t, ↓kb_0f, ↓kb_1t, ↓kb_1f, ↓kb_2t, ↓kb_2f, ↓kb_3t, ↓kb_3f, ↓kb_4t, ↓kb_4f, ↓kb_5t, ↓kb_5f, ↓kg_S1, kg_S2, kg_br_T, kg_br_F, kg_br_N, kg_br_t, kg_br_f, ↓kg_at_n, nI_add, pk_mul, kg_sub_n, kg_rem_n, kg_eq_n, kg_lt_n, kg_le_n, kg_nz, kg_01_0, kg_01_1, kg_w0_1, kg_ret0, kg_ret1, kg_ret2, kg_wr_n, kg_Skd, kg_Smc, kg_Sob, kg_Srf, kg_Sld, kg_pad, List.map_cons, List.map_nil, List.length_cons, List.length_nil, List.replicate, List.cons_append, List.nil_append, List.append_nil, Nat.reduceAdd, Nat.reduceSub, Nat.reduceMul, Nat.reduceMod, Nat.reduceDiv, Nat.reduceLT, Nat.reduceLeDiff, Nat.reduceEqDiff, ne_eq, not_true_eq_false, not_false_eq_true, reduceIte, true_and, and_true, kx_new, kx_wrr, kx_ret, kx_ld, kg_obj, eq_self, kx_ws, kx_wn, kx_ns, kx_nn, kg_wr_n, kw_n, kw_s, kw_w, kg_lk21, kg_ls21]
    exact hK
  | succ z ih =>
    intro i hi
    have ih' := ih (i + 1) (by omega)
    rw [← kx_fl_s] at ih'
    refine kg_v21 hL (by omega) 30 ?_
    simp (disch := omega) only [↓kb_0t, ↓kb_0f, ↓kb_1t, ↓kb_1f, ↓kb_2t, ↓kb_2f, ↓kb_3t, ↓kb_3f, ↓kb_4t, ↓kb_4f, ↓kb_5t, ↓kb_5f, ↓kg_S1, kg_S2, kg_br_T, kg_br_F, kg_br_N, kg_br_t, kg_br_f, ↓kg_at_n, nI_add, pk_mul, kg_sub_n, kg_rem_n, kg_eq_n, kg_lt_n, kg_le_n, kg_nz, kg_01_0, kg_01_1, kg_w0_1, kg_ret0, kg_ret1, kg_ret2, kg_wr_n, kg_Skd, kg_Smc, kg_Sob, kg_Srf, kg_Sld, kg_pad, List.map_cons, List.map_nil, List.length_cons, List.length_nil, List.replicate, List.cons_append, List.nil_append, List.append_nil, Nat.reduceAdd, Nat.reduceSub, Nat.reduceMul, Nat.reduceMod, Nat.reduceDiv, Nat.reduceLT, Nat.reduceLeDiff, Nat.reduceEqDiff, ne_eq, not_true_eq_false, not_false_eq_true, reduceIte, true_and, and_true, kx_new, kx_wrr, kx_ret, kx_ld, kg_obj, eq_self, kx_ws, kx_wn, kx_ns, kx_nn, kg_wr_n, kw_n, kw_s, kw_w, kg_lk21, kg_ls21, hR]
    exact ih'
set_option maxRecDepth 100000 in
theorem kc21_62 (hL : G.2.2.2.2.2.1 < 2 ^ 31) (hd : 3 ≤ d) (hK : K none (82, kx_b 62 82 R) (kx_s 62 M)) : kg_call G d 82 21 [.ref 62] (63, kx_n R 62 (fun _ => 0)) (kg_row M 62 (fun _ => 0)) K := by
  obtain ⟨d, rfl⟩ : ∃ e, d = e + 1 := ⟨d - 1, by omega⟩
  refine kg_m21 (by simp) (by show 63 ≤ 82; omega) (kg_v21 hL (by omega) 90 ?_)
  simp (disch := omega) only [↓kb_0t, ↓kb_0f, ↓kb_1t, ↓kb_1f, ↓kb_2t, ↓kb_2f, ↓kb_3t, ↓kb_3f, ↓kb_4t, ↓kb_4f, ↓kb_5t, ↓kb_5f, ↓kg_S1, kg_S2, kg_br_T, kg_br_F, kg_br_N, kg_br_t, kg_br_f, ↓kg_at_n, nI_add, pk_mul, kg_sub_n, kg_rem_n, kg_eq_n, kg_lt_n, kg_le_n, kg_nz, kg_01_0, kg_01_1, kg_w0_1, kg_ret0, kg_ret1, kg_ret2, kg_wr_n, kg_Skd, kg_Smc, kg_Sob, kg_Srf, kg_Sld, kg_pad, List.map_cons, List.map_nil, List.length_cons, List.length_nil, List.replicate, List.cons_append, List.nil_append, List.append_nil, Nat.reduceAdd, Nat.reduceSub, Nat.reduceMul, Nat.reduceMod, Nat.reduceDiv, Nat.reduceLT, Nat.reduceLeDiff, Nat.reduceEqDiff, ne_eq, not_true_eq_false, not_false_eq_true, reduceIte, true_and, and_true, kx_new, kx_wrr, kx_ret, kx_ld, kg_obj, eq_self, kx_ws, kx_wn, kx_ns, kx_nn, kg_wr_n, kw_n, kw_s, kw_w, kg_lk21, kg_ls21, kx_u0]
  refine kg_call_up (kc4_65 hL (by omega) ?_) (by omega)
  simp (disch := omega) only [↓kb_0t, ↓kb_0f, ↓kb_1t, ↓kb_1f, ↓kb_2t, ↓kb_2f, ↓kb_3t, ↓kb_3f, ↓kb_4t, ↓kb_4f, ↓kb_5t, ↓kb_5f, ↓kg_S1, kg_S2, kg_br_T, kg_br_F, kg_br_N, kg_br_t, kg_br_f, ↓kg_at_n, nI_add, pk_mul, kg_sub_n, kg_rem_n, kg_eq_n, kg_lt_n, kg_le_n, kg_nz, kg_01_0, kg_01_1, kg_w0_1, kg_ret0, kg_ret1, kg_ret2, kg_wr_n, kg_Skd, kg_Smc, kg_Sob, kg_Srf, kg_Sld, kg_pad, List.map_cons, List.map_nil, List.length_cons, List.length_nil, List.replicate, List.cons_append, List.nil_append, List.append_nil, Nat.reduceAdd, Nat.reduceSub, Nat.reduceMul, Nat.reduceMod, Nat.reduceDiv, Nat.reduceLT, Nat.reduceLeDiff, Nat.reduceEqDiff, ne_eq, not_true_eq_false, not_false_eq_true, reduceIte, true_and, and_true, kx_new, kx_wrr, kx_ret, kx_ld, kg_obj, eq_self, kx_ws, kx_wn, kx_ns, kx_nn, kg_wr_n, kw_n, kw_s, kw_w, kg_lk21, kg_ls21, kx_u0]
  refine kg_call_up (kc11_71 hL (by omega) ?_) (by omega)
  simp (disch := omega) only [↓kb_0t, ↓kb_0f, ↓kb_1t, ↓kb_1f, ↓kb_2t, ↓kb_2f, ↓kb_3t, ↓kb_3f, ↓kb_4t, ↓kb_4f, ↓kb_5t, ↓kb_5f, ↓kg_S1, kg_S2, kg_br_T, kg_br_F, kg_br_N, kg_br_t, kg_br_f, ↓kg_at_n, nI_add, pk_mul, kg_sub_n, kg_rem_n, kg_eq_n, kg_lt_n, kg_le_n, kg_nz, kg_01_0, kg_01_1, kg_w0_1, kg_ret0, kg_ret1, kg_ret2, kg_wr_n, kg_Skd, kg_Smc, kg_Sob, kg_Srf, kg_Sld, kg_pad, List.map_cons, List.map_nil, List.length_cons, List.length_nil, List.replicate, List.cons_append, List.nil_append, List.append_nil, Nat.reduceAdd, Nat.reduceSub, Nat.reduceMul, Nat.reduceMod, Nat.reduceDiv, Nat.reduceLT, Nat.reduceLeDiff, Nat.reduceEqDiff, ne_eq, not_true_eq_false, not_false_eq_true, reduceIte, true_and, and_true, kx_new, kx_wrr, kx_ret, kx_ld, kg_obj, eq_self, kx_ws, kx_wn, kx_ns, kx_nn, kg_wr_n, kw_n, kw_s, kw_w, kg_lk21, kg_ls21, kx_u0]
  refine kg_call_up (kc0_75 hL (by omega) ?_) (by omega)
  simp (disch := omega) only [↓kb_0t, ↓kb_0f, ↓kb_1t, ↓kb_1f, ↓kb_2t, ↓kb_2f, ↓kb_3t, ↓kb_3f, ↓kb_4t, ↓kb_4f, ↓kb_5t, ↓kb_5f, ↓kg_S1, kg_S2, kg_br_T, kg_br_F, kg_br_N, kg_br_t, kg_br_f, ↓kg_at_n, nI_add, pk_mul, kg_sub_n, kg_rem_n, kg_eq_n, kg_lt_n, kg_le_n, kg_nz, kg_01_0, kg_01_1, kg_w0_1, kg_ret0, kg_ret1, kg_ret2, kg_wr_n, kg_Skd, kg_Smc, kg_Sob, kg_Srf, kg_Sld, kg_pad, List.map_cons, List.map_nil, List.length_cons, List.length_nil, List.replicate, List.cons_append, List.nil_append, List.append_nil, Nat.reduceAdd, Nat.reduceSub, Nat.reduceMul, Nat.reduceMod, Nat.reduceDiv, Nat.reduceLT, Nat.reduceLeDiff, Nat.reduceEqDiff, ne_eq, not_true_eq_false, not_false_eq_true, reduceIte, true_and, and_true, kx_new, kx_wrr, kx_ret, kx_ld, kg_obj, eq_self, kx_ws, kx_wn, kx_ns, kx_nn, kg_wr_n, kw_n, kw_s, kw_w, kg_lk21, kg_ls21, kx_u0]
  generalize hw : kx_w _ 62 8 81 = Rw
  generalize hm : kg_wr _ 62 9 (nI 0) = Mw
  have hRw : Rw = kx_b 62 82 R := by
    rw [← hw]
    funext p
    by_cases hp : 62 ≤ p ∧ p < 82
    · rw [kx_bi hp]
      obtain rfl | rfl | rfl | rfl | rfl | rfl | rfl | rfl | rfl | rfl | rfl | rfl | rfl | rfl | rfl | rfl | rfl | rfl | rfl | rfl : p = 62 ∨ p = 63 ∨ p = 64 ∨ p = 65 ∨ p = 66 ∨ p = 67 ∨ p = 68 ∨ p = 69 ∨ p = 70 ∨ p = 71 ∨ p = 72 ∨ p = 73 ∨ p = 74 ∨ p = 75 ∨ p = 76 ∨ p = 77 ∨ p = 78 ∨ p = 79 ∨ p = 80 ∨ p = 81 := by omega
      · funext k
        obtain rfl | rfl | rfl | rfl | rfl | rfl | rfl | rfl | rfl | ⟨n, rfl⟩ : k = 0 ∨ k = 1 ∨ k = 2 ∨ k = 3 ∨ k = 4 ∨ k = 5 ∨ k = 6 ∨ k = 7 ∨ k = 8 ∨ ∃ n, k = n + 9 := by
          by_cases h : k < 9
          · omega
          · exact Or.inr (Or.inr (Or.inr (Or.inr (Or.inr (Or.inr (Or.inr (Or.inr (Or.inr (⟨k - 9, by omega⟩)))))))))
        all_goals first | rfl | (simp (disch := omega) only [kx_ws, kx_wn, kx_ns, kx_nn, kx_bi, kx_bo, if_neg]; rfl)
      · first | (simp (disch := omega) only [kx_wn, kx_ns, kx_nn, kx_bi, kx_bo]; done) | (simp (disch := omega) only [kx_wn, kx_ns, kx_nn, kx_bi, kx_bo]; rfl)
      · first | (simp (disch := omega) only [kx_wn, kx_ns, kx_nn, kx_bi, kx_bo]; done) | (simp (disch := omega) only [kx_wn, kx_ns, kx_nn, kx_bi, kx_bo]; rfl)
      · first | (simp (disch := omega) only [kx_wn, kx_ns, kx_nn, kx_bi, kx_bo]; done) | (simp (disch := omega) only [kx_wn, kx_ns, kx_nn, kx_bi, kx_bo]; rfl)
      · first | (simp (disch := omega) only [kx_wn, kx_ns, kx_nn, kx_bi, kx_bo]; done) | (simp (disch := omega) only [kx_wn, kx_ns, kx_nn, kx_bi, kx_bo]; rfl)
      · first | (simp (disch := omega) only [kx_wn, kx_ns, kx_nn, kx_bi, kx_bo]; done) | (simp (disch := omega) only [kx_wn, kx_ns, kx_nn, kx_bi, kx_bo]; rfl)
      · first | (simp (disch := omega) only [kx_wn, kx_ns, kx_nn, kx_bi, kx_bo]; done) | (simp (disch := omega) only [kx_wn, kx_ns, kx_nn, kx_bi, kx_bo]; rfl)
      · first | (simp (disch := omega) only [kx_wn, kx_ns, kx_nn, kx_bi, kx_bo]; done) | (simp (disch := omega) only [kx_wn, kx_ns, kx_nn, kx_bi, kx_bo]; rfl)
      · first | (simp (disch := omega) only [kx_wn, kx_ns, kx_nn, kx_bi, kx_bo]; done) | (simp (disch := omega) only [kx_wn, kx_ns, kx_nn, kx_bi, kx_bo]; rfl)
      · first | (simp (disch := omega) only [kx_wn, kx_ns, kx_nn, kx_bi, kx_bo]; done) | (simp (disch := omega) only [kx_wn, kx_ns, kx_nn, kx_bi, kx_bo]; rfl)
      · first | (simp (disch := omega) only [kx_wn, kx_ns, kx_nn, kx_bi, kx_bo]; done) | (simp (disch := omega) only [kx_wn, kx_ns, kx_nn, kx_bi, kx_bo]; rfl)
      · first | (simp (disch := omega) only [kx_wn, kx_ns, kx_nn, kx_bi, kx_bo]; done) | (simp (disch := omega) only [kx_wn, kx_ns, kx_nn, kx_bi, kx_bo]; rfl)
      · first | (simp (disch := omega) only [kx_wn, kx_ns, kx_nn, kx_bi, kx_bo]; done) | (simp (disch := omega) only [kx_wn, kx_ns, kx_nn, kx_bi, kx_bo]; rfl)
      · first | (simp (disch := omega) only [kx_wn, kx_ns, kx_nn, kx_bi, kx_bo]; done) | (simp (disch := omega) only [kx_wn, kx_ns, kx_nn, kx_bi, kx_bo]; rfl)
      · first | (simp (disch := omega) only [kx_wn, kx_ns, kx_nn, kx_bi, kx_bo]; done) | (simp (disch := omega) only [kx_wn, kx_ns, kx_nn, kx_bi, kx_bo]; rfl)
      · first | (simp (disch := omega) only [kx_wn, kx_ns, kx_nn, kx_bi, kx_bo]; done) | (simp (disch := omega) only [kx_wn, kx_ns, kx_nn, kx_bi, kx_bo]; rfl)
      · first | (simp (disch := omega) only [kx_wn, kx_ns, kx_nn, kx_bi, kx_bo]; done) | (simp (disch := omega) only [kx_wn, kx_ns, kx_nn, kx_bi, kx_bo]; rfl)
      · first | (simp (disch := omega) only [kx_wn, kx_ns, kx_nn, kx_bi, kx_bo]; done) | (simp (disch := omega) only [kx_wn, kx_ns, kx_nn, kx_bi, kx_bo]; rfl)
      · first | (simp (disch := omega) only [kx_wn, kx_ns, kx_nn, kx_bi, kx_bo]; done) | (simp (disch := omega) only [kx_wn, kx_ns, kx_nn, kx_bi, kx_bo]; rfl)
      · first | (simp (disch := omega) only [kx_wn, kx_ns, kx_nn, kx_bi, kx_bo]; done) | (simp (disch := omega) only [kx_wn, kx_ns, kx_nn, kx_bi, kx_bo]; rfl)
    · rw [kx_bo hp]
      simp (disch := omega) only [kx_wn, kx_nn, kx_bo]
  have hMw : Mw = kx_z 62 82 M := by
    rw [← hm]
    funext p
    by_cases hp : 62 ≤ p ∧ p < 82
    · rw [kx_zi hp]
      obtain rfl | rfl | rfl | rfl | rfl | rfl | rfl | rfl | rfl | rfl | rfl | rfl | rfl | rfl | rfl | rfl | rfl | rfl | rfl | rfl : p = 62 ∨ p = 63 ∨ p = 64 ∨ p = 65 ∨ p = 66 ∨ p = 67 ∨ p = 68 ∨ p = 69 ∨ p = 70 ∨ p = 71 ∨ p = 72 ∨ p = 73 ∨ p = 74 ∨ p = 75 ∨ p = 76 ∨ p = 77 ∨ p = 78 ∨ p = 79 ∨ p = 80 ∨ p = 81 := by omega
      · funext i
        rw [kg_wr_s]
        split
        · rfl
        · simp (disch := omega) only [kw_n, kw_s, kx_zi, kx_zo]
      all_goals (rw [kg_wr_n (by omega)]; simp (disch := omega) only [kw_n, kw_s, kx_zi, kx_zo])
    · rw [kx_zo hp, kg_wr_n (by omega)]
      simp (disch := omega) only [kw_n, kx_zo]
  have f2 : Rw 62 2 = 63 := by rw [hRw, kx_bi (by omega)]; rfl
  have f3 : Rw 62 3 = 64 := by rw [hRw, kx_bi (by omega)]; rfl
  have f5 : Rw 62 5 = 70 := by rw [hRw, kx_bi (by omega)]; rfl
  have em : kg_row Mw 63 (kx_fl (kg_sv 1003) 0) = Mw := kx_zs (by rw [hMw, kx_zi (by omega), kx_fl_z])
  rw [← em]
  refine kc21_62_83 hL f2 (by omega) ?_ 5 0 rfl
  have em2 : kg_row (kg_row Mw 63 (kx_fl (kg_sv 1003) 5)) 64 (kx_fl (fun _ => nI 1) 0) = kg_row Mw 63 (kx_fl (kg_sv 1003) 5) := kx_zs (by rw [kw_n (by omega), hMw, kx_zi (by omega), kx_fl_z])
  rw [← em2]
  refine kc21_62_107 hL f3 (by omega) ?_ 4 0 rfl
  have em3 : kg_row (kg_row (kg_row Mw 63 (kx_fl (kg_sv 1003) 5)) 64 (kx_fl (fun _ => nI 1) 4)) 70 (kx_fl (fun _ => kg_n 1) 0) = kg_row (kg_row Mw 63 (kx_fl (kg_sv 1003) 5)) 64 (kx_fl (fun _ => nI 1) 4) := kx_zs (by rw [kw_n (by omega), kw_n (by omega), hMw, kx_zi (by omega), kx_fl_z])
  rw [← em3]
  refine kc21_62_127 hL f5 (by omega) ?_ 16 0 rfl
  refine kx_fin hK hRw ?_
  rw [hMw]
  funext p
  unfold kx_s
  by_cases p1 : p = 63
  · rw [if_pos p1, p1, kw_n (by omega), kw_n (by omega), kw_s]
  rw [if_neg p1]
  by_cases p2 : p = 64
  · rw [if_pos p2, p2, kw_n (by omega), kw_s]
  rw [if_neg p2]
  by_cases p3 : p = 70
  · rw [if_pos p3, p3, kw_s]
  rw [if_neg p3, kw_n p3, kw_n p2, kw_n p1]

set_option maxRecDepth 100000 in
theorem kc21_82_83 (hL : G.2.2.2.2.2.1 < 2 ^ 31) (hR : R 82 2 = 83) (hd : 1 ≤ d) (hK : kg_P G d 21 2 83 102 K 107 [some (.ref 82), some (.int (nI 0))] [] (102, R) (kg_row M 83 (kx_fl (kg_sv 1003) 5))) : ∀ z i : Nat, i + z = 5 → kg_P G d 21 2 83 102 K 83 [some (.ref 82), some (.int (nI i))] [] (102, R) (kg_row M 83 (kx_fl (kg_sv 1003) i)) := by
  intro z
  induction z with
  | zero =>
    intro i hi
    obtain rfl : i = 5 := by omega
    refine kg_v21 hL (by omega) 30 ?_
    simp (disch := omega) only [↓kb_0t, ↓kb_0f, ↓kb_1t, ↓kb_1f, ↓kb_2t, ↓kb_2f, ↓kb_3t, ↓kb_3f, ↓kb_4t, ↓kb_4f, ↓kb_5t, ↓kb_5f, ↓kg_S1, kg_S2, kg_br_T, kg_br_F, kg_br_N, kg_br_t, kg_br_f, ↓kg_at_n, nI_add, pk_mul, kg_sub_n, kg_rem_n, kg_eq_n, kg_lt_n, kg_le_n, kg_nz, kg_01_0, kg_01_1, kg_w0_1, kg_ret0, kg_ret1, kg_ret2, kg_wr_n, kg_Skd, kg_Smc, kg_Sob, kg_Srf, kg_Sld, kg_pad, List.map_cons, List.map_nil, List.length_cons, List.length_nil, List.replicate, List.cons_append, List.nil_append, List.append_nil, Nat.reduceAdd, Nat.reduceSub, Nat.reduceMul, Nat.reduceMod, Nat.reduceDiv, Nat.reduceLT, Nat.reduceLeDiff, Nat.reduceEqDiff, ne_eq, not_true_eq_false, not_false_eq_true, reduceIte, true_and, and_true, kx_new, kx_wrr, kx_ret, kx_ld, kg_obj, eq_self, kx_ws, kx_wn, kx_ns, kx_nn, kg_wr_n, kw_n, kw_s, kw_w, kg_lk21, kg_ls21]
    exact hK
  | succ z ih =>
    intro i hi
    have ih' := ih (i + 1) (by omega)
    rw [← kx_fl_s] at ih'
    refine kg_v21 hL (by omega) 30 ?_
    simp (disch := omega) only [↓kb_0t, ↓kb_0f, ↓kb_1t, ↓kb_1f, ↓kb_2t, ↓kb_2f, ↓kb_3t, ↓kb_3f, ↓kb_4t, ↓kb_4f, ↓kb_5t, ↓kb_5f, ↓kg_S1, kg_S2, kg_br_T, kg_br_F, kg_br_N, kg_br_t, kg_br_f, ↓kg_at_n, nI_add, pk_mul, kg_sub_n, kg_rem_n, kg_eq_n, kg_lt_n, kg_le_n, kg_nz, kg_01_0, kg_01_1, kg_w0_1, kg_ret0, kg_ret1, kg_ret2, kg_wr_n, kg_Skd, kg_Smc, kg_Sob, kg_Srf, kg_Sld, kg_pad, List.map_cons, List.map_nil, List.length_cons, List.length_nil, List.replicate, List.cons_append, List.nil_append, List.append_nil, Nat.reduceAdd, Nat.reduceSub, Nat.reduceMul, Nat.reduceMod, Nat.reduceDiv, Nat.reduceLT, Nat.reduceLeDiff, Nat.reduceEqDiff, ne_eq, not_true_eq_false, not_false_eq_true, reduceIte, true_and, and_true, kx_new, kx_wrr, kx_ret, kx_ld, kg_obj, eq_self, kx_ws, kx_wn, kx_ns, kx_nn, kg_wr_n, kw_n, kw_s, kw_w, kg_lk21, kg_ls21, hR]
    exact ih'
set_option maxRecDepth 100000 in
theorem kc21_82_107 (hL : G.2.2.2.2.2.1 < 2 ^ 31) (hR : R 82 3 = 84) (hd : 1 ≤ d) (hK : kg_P G d 21 2 83 102 K 127 [some (.ref 82), some (.int (nI 0))] [] (102, R) (kg_row M 84 (kx_fl (fun _ => nI 1) 4))) : ∀ z i : Nat, i + z = 4 → kg_P G d 21 2 83 102 K 107 [some (.ref 82), some (.int (nI i))] [] (102, R) (kg_row M 84 (kx_fl (fun _ => nI 1) i)) := by
  intro z
  induction z with
  | zero =>
    intro i hi
    obtain rfl : i = 4 := by omega
    refine kg_v21 hL (by omega) 30 ?_
    simp (disch := omega) only [↓kb_0t, ↓kb_0f, ↓kb_1t, ↓kb_1f, ↓kb_2t, ↓kb_2f, ↓kb_3t, ↓kb_3f, ↓kb_4t, ↓kb_4f, ↓kb_5t, ↓kb_5f, ↓kg_S1, kg_S2, kg_br_T, kg_br_F, kg_br_N, kg_br_t, kg_br_f, ↓kg_at_n, nI_add, pk_mul, kg_sub_n, kg_rem_n, kg_eq_n, kg_lt_n, kg_le_n, kg_nz, kg_01_0, kg_01_1, kg_w0_1, kg_ret0, kg_ret1, kg_ret2, kg_wr_n, kg_Skd, kg_Smc, kg_Sob, kg_Srf, kg_Sld, kg_pad, List.map_cons, List.map_nil, List.length_cons, List.length_nil, List.replicate, List.cons_append, List.nil_append, List.append_nil, Nat.reduceAdd, Nat.reduceSub, Nat.reduceMul, Nat.reduceMod, Nat.reduceDiv, Nat.reduceLT, Nat.reduceLeDiff, Nat.reduceEqDiff, ne_eq, not_true_eq_false, not_false_eq_true, reduceIte, true_and, and_true, kx_new, kx_wrr, kx_ret, kx_ld, kg_obj, eq_self, kx_ws, kx_wn, kx_ns, kx_nn, kg_wr_n, kw_n, kw_s, kw_w, kg_lk21, kg_ls21]
    exact hK
  | succ z ih =>
    intro i hi
    have ih' := ih (i + 1) (by omega)
    rw [← kx_fl_s] at ih'
    refine kg_v21 hL (by omega) 30 ?_
    simp (disch := omega) only [↓kb_0t, ↓kb_0f, ↓kb_1t, ↓kb_1f, ↓kb_2t, ↓kb_2f, ↓kb_3t, ↓kb_3f, ↓kb_4t, ↓kb_4f, ↓kb_5t, ↓kb_5f, ↓kg_S1, kg_S2, kg_br_T, kg_br_F, kg_br_N, kg_br_t, kg_br_f, ↓kg_at_n, nI_add, pk_mul, kg_sub_n, kg_rem_n, kg_eq_n, kg_lt_n, kg_le_n, kg_nz, kg_01_0, kg_01_1, kg_w0_1, kg_ret0, kg_ret1, kg_ret2, kg_wr_n, kg_Skd, kg_Smc, kg_Sob, kg_Srf, kg_Sld, kg_pad, List.map_cons, List.map_nil, List.length_cons, List.length_nil, List.replicate, List.cons_append, List.nil_append, List.append_nil, Nat.reduceAdd, Nat.reduceSub, Nat.reduceMul, Nat.reduceMod, Nat.reduceDiv, Nat.reduceLT, Nat.reduceLeDiff, Nat.reduceEqDiff, ne_eq, not_true_eq_false, not_false_eq_true, reduceIte, true_and, and_true, kx_new, kx_wrr, kx_ret, kx_ld, kg_obj, eq_self, kx_ws, kx_wn, kx_ns, kx_nn, kg_wr_n, kw_n, kw_s, kw_w, kg_lk21, kg_ls21, hR]
    exact ih'
set_option maxRecDepth 100000 in
theorem kc21_82_127 (hL : G.2.2.2.2.2.1 < 2 ^ 31) (hR : R 82 5 = 90) (hd : 1 ≤ d) (hK : K none (102, R) (kg_row M 90 (kx_fl (fun _ => kg_n 1) 16))) : ∀ z i : Nat, i + z = 16 → kg_P G d 21 2 83 102 K 127 [some (.ref 82), some (.int (nI i))] [] (102, R) (kg_row M 90 (kx_fl (fun _ => kg_n 1) i)) := by
  intro z
  induction z with
  | zero =>
    intro i hi
    obtain rfl : i = 16 := by omega
    refine kg_v21 hL (by omega) 30 ?_
    simp (disch := omega) only [↓kb_0t, ↓kb_0f, ↓kb_1t, ↓kb_1f, ↓kb_2t, ↓kb_2f, ↓kb_3t, ↓kb_3f, ↓kb_4t, ↓kb_4f, ↓kb_5t, ↓kb_5f, ↓kg_S1, kg_S2, kg_br_T, kg_br_F, kg_br_N, kg_br_t, kg_br_f, ↓kg_at_n, nI_add, pk_mul, kg_sub_n, kg_rem_n, kg_eq_n, kg_lt_n, kg_le_n, kg_nz, kg_01_0, kg_01_1, kg_w0_1, kg_ret0, kg_ret1, kg_ret2, kg_wr_n, kg_Skd, kg_Smc, kg_Sob, kg_Srf, kg_Sld, kg_pad, List.map_cons, List.map_nil, List.length_cons, List.length_nil, List.replicate, List.cons_append, List.nil_append, List.append_nil, Nat.reduceAdd, Nat.reduceSub, Nat.reduceMul, Nat.reduceMod, Nat.reduceDiv, Nat.reduceLT, Nat.reduceLeDiff, Nat.reduceEqDiff, ne_eq, not_true_eq_false, not_false_eq_true, reduceIte, true_and, and_true, kx_new, kx_wrr, kx_ret, kx_ld, kg_obj, eq_self, kx_ws, kx_wn, kx_ns, kx_nn, kg_wr_n, kw_n, kw_s, kw_w, kg_lk21, kg_ls21]
    exact hK
  | succ z ih =>
    intro i hi
    have ih' := ih (i + 1) (by omega)
    rw [← kx_fl_s] at ih'
    refine kg_v21 hL (by omega) 30 ?_
    simp (disch := omega) only [↓kb_0t, ↓kb_0f, ↓kb_1t, ↓kb_1f, ↓kb_2t, ↓kb_2f, ↓kb_3t, ↓kb_3f, ↓kb_4t, ↓kb_4f, ↓kb_5t, ↓kb_5f, ↓kg_S1, kg_S2, kg_br_T, kg_br_F, kg_br_N, kg_br_t, kg_br_f, ↓kg_at_n, nI_add, pk_mul, kg_sub_n, kg_rem_n, kg_eq_n, kg_lt_n, kg_le_n, kg_nz, kg_01_0, kg_01_1, kg_w0_1, kg_ret0, kg_ret1, kg_ret2, kg_wr_n, kg_Skd, kg_Smc, kg_Sob, kg_Srf, kg_Sld, kg_pad, List.map_cons, List.map_nil, List.length_cons, List.length_nil, List.replicate, List.cons_append, List.nil_append, List.append_nil, Nat.reduceAdd, Nat.reduceSub, Nat.reduceMul, Nat.reduceMod, Nat.reduceDiv, Nat.reduceLT, Nat.reduceLeDiff, Nat.reduceEqDiff, ne_eq, not_true_eq_false, not_false_eq_true, reduceIte, true_and, and_true, kx_new, kx_wrr, kx_ret, kx_ld, kg_obj, eq_self, kx_ws, kx_wn, kx_ns, kx_nn, kg_wr_n, kw_n, kw_s, kw_w, kg_lk21, kg_ls21, hR]
    exact ih'
set_option maxRecDepth 100000 in
theorem kc21_82 (hL : G.2.2.2.2.2.1 < 2 ^ 31) (hd : 3 ≤ d) (hK : K none (102, kx_b 82 102 R) (kx_s 82 M)) : kg_call G d 102 21 [.ref 82] (83, kx_n R 82 (fun _ => 0)) (kg_row M 82 (fun _ => 0)) K := by
  obtain ⟨d, rfl⟩ : ∃ e, d = e + 1 := ⟨d - 1, by omega⟩
  refine kg_m21 (by simp) (by show 83 ≤ 102; omega) (kg_v21 hL (by omega) 90 ?_)
  simp (disch := omega) only [↓kb_0t, ↓kb_0f, ↓kb_1t, ↓kb_1f, ↓kb_2t, ↓kb_2f, ↓kb_3t, ↓kb_3f, ↓kb_4t, ↓kb_4f, ↓kb_5t, ↓kb_5f, ↓kg_S1, kg_S2, kg_br_T, kg_br_F, kg_br_N, kg_br_t, kg_br_f, ↓kg_at_n, nI_add, pk_mul, kg_sub_n, kg_rem_n, kg_eq_n, kg_lt_n, kg_le_n, kg_nz, kg_01_0, kg_01_1, kg_w0_1, kg_ret0, kg_ret1, kg_ret2, kg_wr_n, kg_Skd, kg_Smc, kg_Sob, kg_Srf, kg_Sld, kg_pad, List.map_cons, List.map_nil, List.length_cons, List.length_nil, List.replicate, List.cons_append, List.nil_append, List.append_nil, Nat.reduceAdd, Nat.reduceSub, Nat.reduceMul, Nat.reduceMod, Nat.reduceDiv, Nat.reduceLT, Nat.reduceLeDiff, Nat.reduceEqDiff, ne_eq, not_true_eq_false, not_false_eq_true, reduceIte, true_and, and_true, kx_new, kx_wrr, kx_ret, kx_ld, kg_obj, eq_self, kx_ws, kx_wn, kx_ns, kx_nn, kg_wr_n, kw_n, kw_s, kw_w, kg_lk21, kg_ls21, kx_u0]
  refine kg_call_up (kc4_85 hL (by omega) ?_) (by omega)
  simp (disch := omega) only [↓kb_0t, ↓kb_0f, ↓kb_1t, ↓kb_1f, ↓kb_2t, ↓kb_2f, ↓kb_3t, ↓kb_3f, ↓kb_4t, ↓kb_4f, ↓kb_5t, ↓kb_5f, ↓kg_S1, kg_S2, kg_br_T, kg_br_F, kg_br_N, kg_br_t, kg_br_f, ↓kg_at_n, nI_add, pk_mul, kg_sub_n, kg_rem_n, kg_eq_n, kg_lt_n, kg_le_n, kg_nz, kg_01_0, kg_01_1, kg_w0_1, kg_ret0, kg_ret1, kg_ret2, kg_wr_n, kg_Skd, kg_Smc, kg_Sob, kg_Srf, kg_Sld, kg_pad, List.map_cons, List.map_nil, List.length_cons, List.length_nil, List.replicate, List.cons_append, List.nil_append, List.append_nil, Nat.reduceAdd, Nat.reduceSub, Nat.reduceMul, Nat.reduceMod, Nat.reduceDiv, Nat.reduceLT, Nat.reduceLeDiff, Nat.reduceEqDiff, ne_eq, not_true_eq_false, not_false_eq_true, reduceIte, true_and, and_true, kx_new, kx_wrr, kx_ret, kx_ld, kg_obj, eq_self, kx_ws, kx_wn, kx_ns, kx_nn, kg_wr_n, kw_n, kw_s, kw_w, kg_lk21, kg_ls21, kx_u0]
  refine kg_call_up (kc11_91 hL (by omega) ?_) (by omega)
  simp (disch := omega) only [↓kb_0t, ↓kb_0f, ↓kb_1t, ↓kb_1f, ↓kb_2t, ↓kb_2f, ↓kb_3t, ↓kb_3f, ↓kb_4t, ↓kb_4f, ↓kb_5t, ↓kb_5f, ↓kg_S1, kg_S2, kg_br_T, kg_br_F, kg_br_N, kg_br_t, kg_br_f, ↓kg_at_n, nI_add, pk_mul, kg_sub_n, kg_rem_n, kg_eq_n, kg_lt_n, kg_le_n, kg_nz, kg_01_0, kg_01_1, kg_w0_1, kg_ret0, kg_ret1, kg_ret2, kg_wr_n, kg_Skd, kg_Smc, kg_Sob, kg_Srf, kg_Sld, kg_pad, List.map_cons, List.map_nil, List.length_cons, List.length_nil, List.replicate, List.cons_append, List.nil_append, List.append_nil, Nat.reduceAdd, Nat.reduceSub, Nat.reduceMul, Nat.reduceMod, Nat.reduceDiv, Nat.reduceLT, Nat.reduceLeDiff, Nat.reduceEqDiff, ne_eq, not_true_eq_false, not_false_eq_true, reduceIte, true_and, and_true, kx_new, kx_wrr, kx_ret, kx_ld, kg_obj, eq_self, kx_ws, kx_wn, kx_ns, kx_nn, kg_wr_n, kw_n, kw_s, kw_w, kg_lk21, kg_ls21, kx_u0]
  refine kg_call_up (kc0_95 hL (by omega) ?_) (by omega)
  simp (disch := omega) only [↓kb_0t, ↓kb_0f, ↓kb_1t, ↓kb_1f, ↓kb_2t, ↓kb_2f, ↓kb_3t, ↓kb_3f, ↓kb_4t, ↓kb_4f, ↓kb_5t, ↓kb_5f, ↓kg_S1, kg_S2, kg_br_T, kg_br_F, kg_br_N, kg_br_t, kg_br_f, ↓kg_at_n, nI_add, pk_mul, kg_sub_n, kg_rem_n, kg_eq_n, kg_lt_n, kg_le_n, kg_nz, kg_01_0, kg_01_1, kg_w0_1, kg_ret0, kg_ret1, kg_ret2, kg_wr_n, kg_Skd, kg_Smc, kg_Sob, kg_Srf, kg_Sld, kg_pad, List.map_cons, List.map_nil, List.length_cons, List.length_nil, List.replicate, List.cons_append, List.nil_append, List.append_nil, Nat.reduceAdd, Nat.reduceSub, Nat.reduceMul, Nat.reduceMod, Nat.reduceDiv, Nat.reduceLT, Nat.reduceLeDiff, Nat.reduceEqDiff, ne_eq, not_true_eq_false, not_false_eq_true, reduceIte, true_and, and_true, kx_new, kx_wrr, kx_ret, kx_ld, kg_obj, eq_self, kx_ws, kx_wn, kx_ns, kx_nn, kg_wr_n, kw_n, kw_s, kw_w, kg_lk21, kg_ls21, kx_u0]
  generalize hw : kx_w _ 82 8 101 = Rw
  generalize hm : kg_wr _ 82 9 (nI 0) = Mw
  have hRw : Rw = kx_b 82 102 R := by
    rw [← hw]
    funext p
    by_cases hp : 82 ≤ p ∧ p < 102
    · rw [kx_bi hp]
      obtain rfl | rfl | rfl | rfl | rfl | rfl | rfl | rfl | rfl | rfl | rfl | rfl | rfl | rfl | rfl | rfl | rfl | rfl | rfl | rfl : p = 82 ∨ p = 83 ∨ p = 84 ∨ p = 85 ∨ p = 86 ∨ p = 87 ∨ p = 88 ∨ p = 89 ∨ p = 90 ∨ p = 91 ∨ p = 92 ∨ p = 93 ∨ p = 94 ∨ p = 95 ∨ p = 96 ∨ p = 97 ∨ p = 98 ∨ p = 99 ∨ p = 100 ∨ p = 101 := by omega
      · funext k
        obtain rfl | rfl | rfl | rfl | rfl | rfl | rfl | rfl | rfl | ⟨n, rfl⟩ : k = 0 ∨ k = 1 ∨ k = 2 ∨ k = 3 ∨ k = 4 ∨ k = 5 ∨ k = 6 ∨ k = 7 ∨ k = 8 ∨ ∃ n, k = n + 9 := by
          by_cases h : k < 9
          · omega
          · exact Or.inr (Or.inr (Or.inr (Or.inr (Or.inr (Or.inr (Or.inr (Or.inr (Or.inr (⟨k - 9, by omega⟩)))))))))
        all_goals first | rfl | (simp (disch := omega) only [kx_ws, kx_wn, kx_ns, kx_nn, kx_bi, kx_bo, if_neg]; rfl)
      · first | (simp (disch := omega) only [kx_wn, kx_ns, kx_nn, kx_bi, kx_bo]; done) | (simp (disch := omega) only [kx_wn, kx_ns, kx_nn, kx_bi, kx_bo]; rfl)
      · first | (simp (disch := omega) only [kx_wn, kx_ns, kx_nn, kx_bi, kx_bo]; done) | (simp (disch := omega) only [kx_wn, kx_ns, kx_nn, kx_bi, kx_bo]; rfl)
      · first | (simp (disch := omega) only [kx_wn, kx_ns, kx_nn, kx_bi, kx_bo]; done) | (simp (disch := omega) only [kx_wn, kx_ns, kx_nn, kx_bi, kx_bo]; rfl)
      · first | (simp (disch := omega) only [kx_wn, kx_ns, kx_nn, kx_bi, kx_bo]; done) | (simp (disch := omega) only [kx_wn, kx_ns, kx_nn, kx_bi, kx_bo]; rfl)
      · first | (simp (disch := omega) only [kx_wn, kx_ns, kx_nn, kx_bi, kx_bo]; done) | (simp (disch := omega) only [kx_wn, kx_ns, kx_nn, kx_bi, kx_bo]; rfl)
      · first | (simp (disch := omega) only [kx_wn, kx_ns, kx_nn, kx_bi, kx_bo]; done) | (simp (disch := omega) only [kx_wn, kx_ns, kx_nn, kx_bi, kx_bo]; rfl)
      · first | (simp (disch := omega) only [kx_wn, kx_ns, kx_nn, kx_bi, kx_bo]; done) | (simp (disch := omega) only [kx_wn, kx_ns, kx_nn, kx_bi, kx_bo]; rfl)
      · first | (simp (disch := omega) only [kx_wn, kx_ns, kx_nn, kx_bi, kx_bo]; done) | (simp (disch := omega) only [kx_wn, kx_ns, kx_nn, kx_bi, kx_bo]; rfl)
      · first | (simp (disch := omega) only [kx_wn, kx_ns, kx_nn, kx_bi, kx_bo]; done) | (simp (disch := omega) only [kx_wn, kx_ns, kx_nn, kx_bi, kx_bo]; rfl)
      · first | (simp (disch := omega) only [kx_wn, kx_ns, kx_nn, kx_bi, kx_bo]; done) | (simp (disch := omega) only [kx_wn, kx_ns, kx_nn, kx_bi, kx_bo]; rfl)
      · first | (simp (disch := omega) only [kx_wn, kx_ns, kx_nn, kx_bi, kx_bo]; done) | (simp (disch := omega) only [kx_wn, kx_ns, kx_nn, kx_bi, kx_bo]; rfl)
      · first | (simp (disch := omega) only [kx_wn, kx_ns, kx_nn, kx_bi, kx_bo]; done) | (simp (disch := omega) only [kx_wn, kx_ns, kx_nn, kx_bi, kx_bo]; rfl)
      · first | (simp (disch := omega) only [kx_wn, kx_ns, kx_nn, kx_bi, kx_bo]; done) | (simp (disch := omega) only [kx_wn, kx_ns, kx_nn, kx_bi, kx_bo]; rfl)
      · first | (simp (disch := omega) only [kx_wn, kx_ns, kx_nn, kx_bi, kx_bo]; done) | (simp (disch := omega) only [kx_wn, kx_ns, kx_nn, kx_bi, kx_bo]; rfl)
      · first | (simp (disch := omega) only [kx_wn, kx_ns, kx_nn, kx_bi, kx_bo]; done) | (simp (disch := omega) only [kx_wn, kx_ns, kx_nn, kx_bi, kx_bo]; rfl)
      · first | (simp (disch := omega) only [kx_wn, kx_ns, kx_nn, kx_bi, kx_bo]; done) | (simp (disch := omega) only [kx_wn, kx_ns, kx_nn, kx_bi, kx_bo]; rfl)
      · first | (simp (disch := omega) only [kx_wn, kx_ns, kx_nn, kx_bi, kx_bo]; done) | (simp (disch := omega) only [kx_wn, kx_ns, kx_nn, kx_bi, kx_bo]; rfl)
      · first | (simp (disch := omega) only [kx_wn, kx_ns, kx_nn, kx_bi, kx_bo]; done) | (simp (disch := omega) only [kx_wn, kx_ns, kx_nn, kx_bi, kx_bo]; rfl)
      · first | (simp (disch := omega) only [kx_wn, kx_ns, kx_nn, kx_bi, kx_bo]; done) | (simp (disch := omega) only [kx_wn, kx_ns, kx_nn, kx_bi, kx_bo]; rfl)
    · rw [kx_bo hp]
      simp (disch := omega) only [kx_wn, kx_nn, kx_bo]
  have hMw : Mw = kx_z 82 102 M := by
    rw [← hm]
    funext p
    by_cases hp : 82 ≤ p ∧ p < 102
    · rw [kx_zi hp]
      obtain rfl | rfl | rfl | rfl | rfl | rfl | rfl | rfl | rfl | rfl | rfl | rfl | rfl | rfl | rfl | rfl | rfl | rfl | rfl | rfl : p = 82 ∨ p = 83 ∨ p = 84 ∨ p = 85 ∨ p = 86 ∨ p = 87 ∨ p = 88 ∨ p = 89 ∨ p = 90 ∨ p = 91 ∨ p = 92 ∨ p = 93 ∨ p = 94 ∨ p = 95 ∨ p = 96 ∨ p = 97 ∨ p = 98 ∨ p = 99 ∨ p = 100 ∨ p = 101 := by omega
      · funext i
        rw [kg_wr_s]
        split
        · rfl
        · simp (disch := omega) only [kw_n, kw_s, kx_zi, kx_zo]
      all_goals (rw [kg_wr_n (by omega)]; simp (disch := omega) only [kw_n, kw_s, kx_zi, kx_zo])
    · rw [kx_zo hp, kg_wr_n (by omega)]
      simp (disch := omega) only [kw_n, kx_zo]
  have f2 : Rw 82 2 = 83 := by rw [hRw, kx_bi (by omega)]; rfl
  have f3 : Rw 82 3 = 84 := by rw [hRw, kx_bi (by omega)]; rfl
  have f5 : Rw 82 5 = 90 := by rw [hRw, kx_bi (by omega)]; rfl
  have em : kg_row Mw 83 (kx_fl (kg_sv 1003) 0) = Mw := kx_zs (by rw [hMw, kx_zi (by omega), kx_fl_z])
  rw [← em]
  refine kc21_82_83 hL f2 (by omega) ?_ 5 0 rfl
  have em2 : kg_row (kg_row Mw 83 (kx_fl (kg_sv 1003) 5)) 84 (kx_fl (fun _ => nI 1) 0) = kg_row Mw 83 (kx_fl (kg_sv 1003) 5) := kx_zs (by rw [kw_n (by omega), hMw, kx_zi (by omega), kx_fl_z])
  rw [← em2]
  refine kc21_82_107 hL f3 (by omega) ?_ 4 0 rfl
  have em3 : kg_row (kg_row (kg_row Mw 83 (kx_fl (kg_sv 1003) 5)) 84 (kx_fl (fun _ => nI 1) 4)) 90 (kx_fl (fun _ => kg_n 1) 0) = kg_row (kg_row Mw 83 (kx_fl (kg_sv 1003) 5)) 84 (kx_fl (fun _ => nI 1) 4) := kx_zs (by rw [kw_n (by omega), kw_n (by omega), hMw, kx_zi (by omega), kx_fl_z])
  rw [← em3]
  refine kc21_82_127 hL f5 (by omega) ?_ 16 0 rfl
  refine kx_fin hK hRw ?_
  rw [hMw]
  funext p
  unfold kx_s
  by_cases p1 : p = 83
  · rw [if_pos p1, p1, kw_n (by omega), kw_n (by omega), kw_s]
  rw [if_neg p1]
  by_cases p2 : p = 84
  · rw [if_pos p2, p2, kw_n (by omega), kw_s]
  rw [if_neg p2]
  by_cases p3 : p = 90
  · rw [if_pos p3, p3, kw_s]
  rw [if_neg p3, kw_n p3, kw_n p2, kw_n p1]

set_option maxRecDepth 100000 in
theorem kc21_102_83 (hL : G.2.2.2.2.2.1 < 2 ^ 31) (hR : R 102 2 = 103) (hd : 1 ≤ d) (hK : kg_P G d 21 2 103 122 K 107 [some (.ref 102), some (.int (nI 0))] [] (122, R) (kg_row M 103 (kx_fl (kg_sv 1003) 5))) : ∀ z i : Nat, i + z = 5 → kg_P G d 21 2 103 122 K 83 [some (.ref 102), some (.int (nI i))] [] (122, R) (kg_row M 103 (kx_fl (kg_sv 1003) i)) := by
  intro z
  induction z with
  | zero =>
    intro i hi
    obtain rfl : i = 5 := by omega
    refine kg_v21 hL (by omega) 30 ?_
    simp (disch := omega) only [↓kb_0t, ↓kb_0f, ↓kb_1t, ↓kb_1f, ↓kb_2t, ↓kb_2f, ↓kb_3t, ↓kb_3f, ↓kb_4t, ↓kb_4f, ↓kb_5t, ↓kb_5f, ↓kg_S1, kg_S2, kg_br_T, kg_br_F, kg_br_N, kg_br_t, kg_br_f, ↓kg_at_n, nI_add, pk_mul, kg_sub_n, kg_rem_n, kg_eq_n, kg_lt_n, kg_le_n, kg_nz, kg_01_0, kg_01_1, kg_w0_1, kg_ret0, kg_ret1, kg_ret2, kg_wr_n, kg_Skd, kg_Smc, kg_Sob, kg_Srf, kg_Sld, kg_pad, List.map_cons, List.map_nil, List.length_cons, List.length_nil, List.replicate, List.cons_append, List.nil_append, List.append_nil, Nat.reduceAdd, Nat.reduceSub, Nat.reduceMul, Nat.reduceMod, Nat.reduceDiv, Nat.reduceLT, Nat.reduceLeDiff, Nat.reduceEqDiff, ne_eq, not_true_eq_false, not_false_eq_true, reduceIte, true_and, and_true, kx_new, kx_wrr, kx_ret, kx_ld, kg_obj, eq_self, kx_ws, kx_wn, kx_ns, kx_nn, kg_wr_n, kw_n, kw_s, kw_w, kg_lk21, kg_ls21]
    exact hK
  | succ z ih =>
    intro i hi
    have ih' := ih (i + 1) (by omega)
    rw [← kx_fl_s] at ih'
    refine kg_v21 hL (by omega) 30 ?_
    simp (disch := omega) only [↓kb_0t, ↓kb_0f, ↓kb_1t, ↓kb_1f, ↓kb_2t, ↓kb_2f, ↓kb_3t, ↓kb_3f, ↓kb_4t, ↓kb_4f, ↓kb_5t, ↓kb_5f, ↓kg_S1, kg_S2, kg_br_T, kg_br_F, kg_br_N, kg_br_t, kg_br_f, ↓kg_at_n, nI_add, pk_mul, kg_sub_n, kg_rem_n, kg_eq_n, kg_lt_n, kg_le_n, kg_nz, kg_01_0, kg_01_1, kg_w0_1, kg_ret0, kg_ret1, kg_ret2, kg_wr_n, kg_Skd, kg_Smc, kg_Sob, kg_Srf, kg_Sld, kg_pad, List.map_cons, List.map_nil, List.length_cons, List.length_nil, List.replicate, List.cons_append, List.nil_append, List.append_nil, Nat.reduceAdd, Nat.reduceSub, Nat.reduceMul, Nat.reduceMod, Nat.reduceDiv, Nat.reduceLT, Nat.reduceLeDiff, Nat.reduceEqDiff, ne_eq, not_true_eq_false, not_false_eq_true, reduceIte, true_and, and_true, kx_new, kx_wrr, kx_ret, kx_ld, kg_obj, eq_self, kx_ws, kx_wn, kx_ns, kx_nn, kg_wr_n, kw_n, kw_s, kw_w, kg_lk21, kg_ls21, hR]
    exact ih'
set_option maxRecDepth 100000 in
theorem kc21_102_107 (hL : G.2.2.2.2.2.1 < 2 ^ 31) (hR : R 102 3 = 104) (hd : 1 ≤ d) (hK : kg_P G d 21 2 103 122 K 127 [some (.ref 102), some (.int (nI 0))] [] (122, R) (kg_row M 104 (kx_fl (fun _ => nI 1) 4))) : ∀ z i : Nat, i + z = 4 → kg_P G d 21 2 103 122 K 107 [some (.ref 102), some (.int (nI i))] [] (122, R) (kg_row M 104 (kx_fl (fun _ => nI 1) i)) := by
  intro z
  induction z with
  | zero =>
    intro i hi
    obtain rfl : i = 4 := by omega
    refine kg_v21 hL (by omega) 30 ?_
    simp (disch := omega) only [↓kb_0t, ↓kb_0f, ↓kb_1t, ↓kb_1f, ↓kb_2t, ↓kb_2f, ↓kb_3t, ↓kb_3f, ↓kb_4t, ↓kb_4f, ↓kb_5t, ↓kb_5f, ↓kg_S1, kg_S2, kg_br_T, kg_br_F, kg_br_N, kg_br_t, kg_br_f, ↓kg_at_n, nI_add, pk_mul, kg_sub_n, kg_rem_n, kg_eq_n, kg_lt_n, kg_le_n, kg_nz, kg_01_0, kg_01_1, kg_w0_1, kg_ret0, kg_ret1, kg_ret2, kg_wr_n, kg_Skd, kg_Smc, kg_Sob, kg_Srf, kg_Sld, kg_pad, List.map_cons, List.map_nil, List.length_cons, List.length_nil, List.replicate, List.cons_append, List.nil_append, List.append_nil, Nat.reduceAdd, Nat.reduceSub, Nat.reduceMul, Nat.reduceMod, Nat.reduceDiv, Nat.reduceLT, Nat.reduceLeDiff, Nat.reduceEqDiff, ne_eq, not_true_eq_false, not_false_eq_true, reduceIte, true_and, and_true, kx_new, kx_wrr, kx_ret, kx_ld, kg_obj, eq_self, kx_ws, kx_wn, kx_ns, kx_nn, kg_wr_n, kw_n, kw_s, kw_w, kg_lk21, kg_ls21]
    exact hK
  | succ z ih =>
    intro i hi
    have ih' := ih (i + 1) (by omega)
    rw [← kx_fl_s] at ih'
    refine kg_v21 hL (by omega) 30 ?_
    simp (disch := omega) only [↓kb_0t, ↓kb_0f, ↓kb_1t, ↓kb_1f, ↓kb_2t, ↓kb_2f, ↓kb_3t, ↓kb_3f, ↓kb_4t, ↓kb_4f, ↓kb_5t, ↓kb_5f, ↓kg_S1, kg_S2, kg_br_T, kg_br_F, kg_br_N, kg_br_t, kg_br_f, ↓kg_at_n, nI_add, pk_mul, kg_sub_n, kg_rem_n, kg_eq_n, kg_lt_n, kg_le_n, kg_nz, kg_01_0, kg_01_1, kg_w0_1, kg_ret0, kg_ret1, kg_ret2, kg_wr_n, kg_Skd, kg_Smc, kg_Sob, kg_Srf, kg_Sld, kg_pad, List.map_cons, List.map_nil, List.length_cons, List.length_nil, List.replicate, List.cons_append, List.nil_append, List.append_nil, Nat.reduceAdd, Nat.reduceSub, Nat.reduceMul, Nat.reduceMod, Nat.reduceDiv, Nat.reduceLT, Nat.reduceLeDiff, Nat.reduceEqDiff, ne_eq, not_true_eq_false, not_false_eq_true, reduceIte, true_and, and_true, kx_new, kx_wrr, kx_ret, kx_ld, kg_obj, eq_self, kx_ws, kx_wn, kx_ns, kx_nn, kg_wr_n, kw_n, kw_s, kw_w, kg_lk21, kg_ls21, hR]
    exact ih'
set_option maxRecDepth 100000 in
theorem kc21_102_127 (hL : G.2.2.2.2.2.1 < 2 ^ 31) (hR : R 102 5 = 110) (hd : 1 ≤ d) (hK : K none (122, R) (kg_row M 110 (kx_fl (fun _ => kg_n 1) 16))) : ∀ z i : Nat, i + z = 16 → kg_P G d 21 2 103 122 K 127 [some (.ref 102), some (.int (nI i))] [] (122, R) (kg_row M 110 (kx_fl (fun _ => kg_n 1) i)) := by
  intro z
  induction z with
  | zero =>
    intro i hi
    obtain rfl : i = 16 := by omega
    refine kg_v21 hL (by omega) 30 ?_
    simp (disch := omega) only [↓kb_0t, ↓kb_0f, ↓kb_1t, ↓kb_1f, ↓kb_2t, ↓kb_2f, ↓kb_3t, ↓kb_3f, ↓kb_4t, ↓kb_4f, ↓kb_5t, ↓kb_5f, ↓kg_S1, kg_S2, kg_br_T, kg_br_F, kg_br_N, kg_br_t, kg_br_f, ↓kg_at_n, nI_add, pk_mul, kg_sub_n, kg_rem_n, kg_eq_n, kg_lt_n, kg_le_n, kg_nz, kg_01_0, kg_01_1, kg_w0_1, kg_ret0, kg_ret1, kg_ret2, kg_wr_n, kg_Skd, kg_Smc, kg_Sob, kg_Srf, kg_Sld, kg_pad, List.map_cons, List.map_nil, List.length_cons, List.length_nil, List.replicate, List.cons_append, List.nil_append, List.append_nil, Nat.reduceAdd, Nat.reduceSub, Nat.reduceMul, Nat.reduceMod, Nat.reduceDiv, Nat.reduceLT, Nat.reduceLeDiff, Nat.reduceEqDiff, ne_eq, not_true_eq_false, not_false_eq_true, reduceIte, true_and, and_true, kx_new, kx_wrr, kx_ret, kx_ld, kg_obj, eq_self, kx_ws, kx_wn, kx_ns, kx_nn, kg_wr_n, kw_n, kw_s, kw_w, kg_lk21, kg_ls21]
    exact hK
  | succ z ih =>
    intro i hi
    have ih' := ih (i + 1) (by omega)
    rw [← kx_fl_s] at ih'
    refine kg_v21 hL (by omega) 30 ?_
    simp (disch := omega) only [↓kb_0t, ↓kb_0f, ↓kb_1t, ↓kb_1f, ↓kb_2t, ↓kb_2f, ↓kb_3t, ↓kb_3f, ↓kb_4t, ↓kb_4f, ↓kb_5t, ↓kb_5f, ↓kg_S1, kg_S2, kg_br_T, kg_br_F, kg_br_N, kg_br_t, kg_br_f, ↓kg_at_n, nI_add, pk_mul, kg_sub_n, kg_rem_n, kg_eq_n, kg_lt_n, kg_le_n, kg_nz, kg_01_0, kg_01_1, kg_w0_1, kg_ret0, kg_ret1, kg_ret2, kg_wr_n, kg_Skd, kg_Smc, kg_Sob, kg_Srf, kg_Sld, kg_pad, List.map_cons, List.map_nil, List.length_cons, List.length_nil, List.replicate, List.cons_append, List.nil_append, List.append_nil, Nat.reduceAdd, Nat.reduceSub, Nat.reduceMul, Nat.reduceMod, Nat.reduceDiv, Nat.reduceLT, Nat.reduceLeDiff, Nat.reduceEqDiff, ne_eq, not_true_eq_false, not_false_eq_true, reduceIte, true_and, and_true, kx_new, kx_wrr, kx_ret, kx_ld, kg_obj, eq_self, kx_ws, kx_wn, kx_ns, kx_nn, kg_wr_n, kw_n, kw_s, kw_w, kg_lk21, kg_ls21, hR]
    exact ih'
set_option maxRecDepth 100000 in
theorem kc21_102 (hL : G.2.2.2.2.2.1 < 2 ^ 31) (hd : 3 ≤ d) (hK : K none (122, kx_b 102 122 R) (kx_s 102 M)) : kg_call G d 122 21 [.ref 102] (103, kx_n R 102 (fun _ => 0)) (kg_row M 102 (fun _ => 0)) K := by
  obtain ⟨d, rfl⟩ : ∃ e, d = e + 1 := ⟨d - 1, by omega⟩
  refine kg_m21 (by simp) (by show 103 ≤ 122; omega) (kg_v21 hL (by omega) 90 ?_)
  simp (disch := omega) only [↓kb_0t, ↓kb_0f, ↓kb_1t, ↓kb_1f, ↓kb_2t, ↓kb_2f, ↓kb_3t, ↓kb_3f, ↓kb_4t, ↓kb_4f, ↓kb_5t, ↓kb_5f, ↓kg_S1, kg_S2, kg_br_T, kg_br_F, kg_br_N, kg_br_t, kg_br_f, ↓kg_at_n, nI_add, pk_mul, kg_sub_n, kg_rem_n, kg_eq_n, kg_lt_n, kg_le_n, kg_nz, kg_01_0, kg_01_1, kg_w0_1, kg_ret0, kg_ret1, kg_ret2, kg_wr_n, kg_Skd, kg_Smc, kg_Sob, kg_Srf, kg_Sld, kg_pad, List.map_cons, List.map_nil, List.length_cons, List.length_nil, List.replicate, List.cons_append, List.nil_append, List.append_nil, Nat.reduceAdd, Nat.reduceSub, Nat.reduceMul, Nat.reduceMod, Nat.reduceDiv, Nat.reduceLT, Nat.reduceLeDiff, Nat.reduceEqDiff, ne_eq, not_true_eq_false, not_false_eq_true, reduceIte, true_and, and_true, kx_new, kx_wrr, kx_ret, kx_ld, kg_obj, eq_self, kx_ws, kx_wn, kx_ns, kx_nn, kg_wr_n, kw_n, kw_s, kw_w, kg_lk21, kg_ls21, kx_u0]
  refine kg_call_up (kc4_105 hL (by omega) ?_) (by omega)
  simp (disch := omega) only [↓kb_0t, ↓kb_0f, ↓kb_1t, ↓kb_1f, ↓kb_2t, ↓kb_2f, ↓kb_3t, ↓kb_3f, ↓kb_4t, ↓kb_4f, ↓kb_5t, ↓kb_5f, ↓kg_S1, kg_S2, kg_br_T, kg_br_F, kg_br_N, kg_br_t, kg_br_f, ↓kg_at_n, nI_add, pk_mul, kg_sub_n, kg_rem_n, kg_eq_n, kg_lt_n, kg_le_n, kg_nz, kg_01_0, kg_01_1, kg_w0_1, kg_ret0, kg_ret1, kg_ret2, kg_wr_n, kg_Skd, kg_Smc, kg_Sob, kg_Srf, kg_Sld, kg_pad, List.map_cons, List.map_nil, List.length_cons, List.length_nil, List.replicate, List.cons_append, List.nil_append, List.append_nil, Nat.reduceAdd, Nat.reduceSub, Nat.reduceMul, Nat.reduceMod, Nat.reduceDiv, Nat.reduceLT, Nat.reduceLeDiff, Nat.reduceEqDiff, ne_eq, not_true_eq_false, not_false_eq_true, reduceIte, true_and, and_true, kx_new, kx_wrr, kx_ret, kx_ld, kg_obj, eq_self, kx_ws, kx_wn, kx_ns, kx_nn, kg_wr_n, kw_n, kw_s, kw_w, kg_lk21, kg_ls21, kx_u0]
  refine kg_call_up (kc11_111 hL (by omega) ?_) (by omega)
  simp (disch := omega) only [↓kb_0t, ↓kb_0f, ↓kb_1t, ↓kb_1f, ↓kb_2t, ↓kb_2f, ↓kb_3t, ↓kb_3f, ↓kb_4t, ↓kb_4f, ↓kb_5t, ↓kb_5f, ↓kg_S1, kg_S2, kg_br_T, kg_br_F, kg_br_N, kg_br_t, kg_br_f, ↓kg_at_n, nI_add, pk_mul, kg_sub_n, kg_rem_n, kg_eq_n, kg_lt_n, kg_le_n, kg_nz, kg_01_0, kg_01_1, kg_w0_1, kg_ret0, kg_ret1, kg_ret2, kg_wr_n, kg_Skd, kg_Smc, kg_Sob, kg_Srf, kg_Sld, kg_pad, List.map_cons, List.map_nil, List.length_cons, List.length_nil, List.replicate, List.cons_append, List.nil_append, List.append_nil, Nat.reduceAdd, Nat.reduceSub, Nat.reduceMul, Nat.reduceMod, Nat.reduceDiv, Nat.reduceLT, Nat.reduceLeDiff, Nat.reduceEqDiff, ne_eq, not_true_eq_false, not_false_eq_true, reduceIte, true_and, and_true, kx_new, kx_wrr, kx_ret, kx_ld, kg_obj, eq_self, kx_ws, kx_wn, kx_ns, kx_nn, kg_wr_n, kw_n, kw_s, kw_w, kg_lk21, kg_ls21, kx_u0]
  refine kg_call_up (kc0_115 hL (by omega) ?_) (by omega)
  simp (disch := omega) only [↓kb_0t, ↓kb_0f, ↓kb_1t, ↓kb_1f, ↓kb_2t, ↓kb_2f, ↓kb_3t, ↓kb_3f, ↓kb_4t, ↓kb_4f, ↓kb_5t, ↓kb_5f, ↓kg_S1, kg_S2, kg_br_T, kg_br_F, kg_br_N, kg_br_t, kg_br_f, ↓kg_at_n, nI_add, pk_mul, kg_sub_n, kg_rem_n, kg_eq_n, kg_lt_n, kg_le_n, kg_nz, kg_01_0, kg_01_1, kg_w0_1, kg_ret0, kg_ret1, kg_ret2, kg_wr_n, kg_Skd, kg_Smc, kg_Sob, kg_Srf, kg_Sld, kg_pad, List.map_cons, List.map_nil, List.length_cons, List.length_nil, List.replicate, List.cons_append, List.nil_append, List.append_nil, Nat.reduceAdd, Nat.reduceSub, Nat.reduceMul, Nat.reduceMod, Nat.reduceDiv, Nat.reduceLT, Nat.reduceLeDiff, Nat.reduceEqDiff, ne_eq, not_true_eq_false, not_false_eq_true, reduceIte, true_and, and_true, kx_new, kx_wrr, kx_ret, kx_ld, kg_obj, eq_self, kx_ws, kx_wn, kx_ns, kx_nn, kg_wr_n, kw_n, kw_s, kw_w, kg_lk21, kg_ls21, kx_u0]
  generalize hw : kx_w _ 102 8 121 = Rw
  generalize hm : kg_wr _ 102 9 (nI 0) = Mw
  have hRw : Rw = kx_b 102 122 R := by
    rw [← hw]
    funext p
    by_cases hp : 102 ≤ p ∧ p < 122
    · rw [kx_bi hp]
      obtain rfl | rfl | rfl | rfl | rfl | rfl | rfl | rfl | rfl | rfl | rfl | rfl | rfl | rfl | rfl | rfl | rfl | rfl | rfl | rfl : p = 102 ∨ p = 103 ∨ p = 104 ∨ p = 105 ∨ p = 106 ∨ p = 107 ∨ p = 108 ∨ p = 109 ∨ p = 110 ∨ p = 111 ∨ p = 112 ∨ p = 113 ∨ p = 114 ∨ p = 115 ∨ p = 116 ∨ p = 117 ∨ p = 118 ∨ p = 119 ∨ p = 120 ∨ p = 121 := by omega
      · funext k
        obtain rfl | rfl | rfl | rfl | rfl | rfl | rfl | rfl | rfl | ⟨n, rfl⟩ : k = 0 ∨ k = 1 ∨ k = 2 ∨ k = 3 ∨ k = 4 ∨ k = 5 ∨ k = 6 ∨ k = 7 ∨ k = 8 ∨ ∃ n, k = n + 9 := by
          by_cases h : k < 9
          · omega
          · exact Or.inr (Or.inr (Or.inr (Or.inr (Or.inr (Or.inr (Or.inr (Or.inr (Or.inr (⟨k - 9, by omega⟩)))))))))
        all_goals first | rfl | (simp (disch := omega) only [kx_ws, kx_wn, kx_ns, kx_nn, kx_bi, kx_bo, if_neg]; rfl)
      · first | (simp (disch := omega) only [kx_wn, kx_ns, kx_nn, kx_bi, kx_bo]; done) | (simp (disch := omega) only [kx_wn, kx_ns, kx_nn, kx_bi, kx_bo]; rfl)
      · first | (simp (disch := omega) only [kx_wn, kx_ns, kx_nn, kx_bi, kx_bo]; done) | (simp (disch := omega) only [kx_wn, kx_ns, kx_nn, kx_bi, kx_bo]; rfl)
      · first | (simp (disch := omega) only [kx_wn, kx_ns, kx_nn, kx_bi, kx_bo]; done) | (simp (disch := omega) only [kx_wn, kx_ns, kx_nn, kx_bi, kx_bo]; rfl)
      · first | (simp (disch := omega) only [kx_wn, kx_ns, kx_nn, kx_bi, kx_bo]; done) | (simp (disch := omega) only [kx_wn, kx_ns, kx_nn, kx_bi, kx_bo]; rfl)
      · first | (simp (disch := omega) only [kx_wn, kx_ns, kx_nn, kx_bi, kx_bo]; done) | (simp (disch := omega) only [kx_wn, kx_ns, kx_nn, kx_bi, kx_bo]; rfl)
      · first | (simp (disch := omega) only [kx_wn, kx_ns, kx_nn, kx_bi, kx_bo]; done) | (simp (disch := omega) only [kx_wn, kx_ns, kx_nn, kx_bi, kx_bo]; rfl)
      · first | (simp (disch := omega) only [kx_wn, kx_ns, kx_nn, kx_bi, kx_bo]; done) | (simp (disch := omega) only [kx_wn, kx_ns, kx_nn, kx_bi, kx_bo]; rfl)
      · first | (simp (disch := omega) only [kx_wn, kx_ns, kx_nn, kx_bi, kx_bo]; done) | (simp (disch := omega) only [kx_wn, kx_ns, kx_nn, kx_bi, kx_bo]; rfl)
      · first | (simp (disch := omega) only [kx_wn, kx_ns, kx_nn, kx_bi, kx_bo]; done) | (simp (disch := omega) only [kx_wn, kx_ns, kx_nn, kx_bi, kx_bo]; rfl)
      · first | (simp (disch := omega) only [kx_wn, kx_ns, kx_nn, kx_bi, kx_bo]; done) | (simp (disch := omega) only [kx_wn, kx_ns, kx_nn, kx_bi, kx_bo]; rfl)
      · first | (simp (disch := omega) only [kx_wn, kx_ns, kx_nn, kx_bi, kx_bo]; done) | (simp (disch := omega) only [kx_wn, kx_ns, kx_nn, kx_bi, kx_bo]; rfl)
      · first | (simp (disch := omega) only [kx_wn, kx_ns, kx_nn, kx_bi, kx_bo]; done) | (simp (disch := omega) only [kx_wn, kx_ns, kx_nn, kx_bi, kx_bo]; rfl)
      · first | (simp (disch := omega) only [kx_wn, kx_ns, kx_nn, kx_bi, kx_bo]; done) | (simp (disch := omega) only [kx_wn, kx_ns, kx_nn, kx_bi, kx_bo]; rfl)
      · first | (simp (disch := omega) only [kx_wn, kx_ns, kx_nn, kx_bi, kx_bo]; done) | (simp (disch := omega) only [kx_wn, kx_ns, kx_nn, kx_bi, kx_bo]; rfl)
      · first | (simp (disch := omega) only [kx_wn, kx_ns, kx_nn, kx_bi, kx_bo]; done) | (simp (disch := omega) only [kx_wn, kx_ns, kx_nn, kx_bi, kx_bo]; rfl)
      · first | (simp (disch := omega) only [kx_wn, kx_ns, kx_nn, kx_bi, kx_bo]; done) | (simp (disch := omega) only [kx_wn, kx_ns, kx_nn, kx_bi, kx_bo]; rfl)
      · first | (simp (disch := omega) only [kx_wn, kx_ns, kx_nn, kx_bi, kx_bo]; done) | (simp (disch := omega) only [kx_wn, kx_ns, kx_nn, kx_bi, kx_bo]; rfl)
      · first | (simp (disch := omega) only [kx_wn, kx_ns, kx_nn, kx_bi, kx_bo]; done) | (simp (disch := omega) only [kx_wn, kx_ns, kx_nn, kx_bi, kx_bo]; rfl)
      · first | (simp (disch := omega) only [kx_wn, kx_ns, kx_nn, kx_bi, kx_bo]; done) | (simp (disch := omega) only [kx_wn, kx_ns, kx_nn, kx_bi, kx_bo]; rfl)
    · rw [kx_bo hp]
      simp (disch := omega) only [kx_wn, kx_nn, kx_bo]
  have hMw : Mw = kx_z 102 122 M := by
    rw [← hm]
    funext p
    by_cases hp : 102 ≤ p ∧ p < 122
    · rw [kx_zi hp]
      obtain rfl | rfl | rfl | rfl | rfl | rfl | rfl | rfl | rfl | rfl | rfl | rfl | rfl | rfl | rfl | rfl | rfl | rfl | rfl | rfl : p = 102 ∨ p = 103 ∨ p = 104 ∨ p = 105 ∨ p = 106 ∨ p = 107 ∨ p = 108 ∨ p = 109 ∨ p = 110 ∨ p = 111 ∨ p = 112 ∨ p = 113 ∨ p = 114 ∨ p = 115 ∨ p = 116 ∨ p = 117 ∨ p = 118 ∨ p = 119 ∨ p = 120 ∨ p = 121 := by omega
      · funext i
        rw [kg_wr_s]
        split
        · rfl
        · simp (disch := omega) only [kw_n, kw_s, kx_zi, kx_zo]
      all_goals (rw [kg_wr_n (by omega)]; simp (disch := omega) only [kw_n, kw_s, kx_zi, kx_zo])
    · rw [kx_zo hp, kg_wr_n (by omega)]
      simp (disch := omega) only [kw_n, kx_zo]
  have f2 : Rw 102 2 = 103 := by rw [hRw, kx_bi (by omega)]; rfl
  have f3 : Rw 102 3 = 104 := by rw [hRw, kx_bi (by omega)]; rfl
  have f5 : Rw 102 5 = 110 := by rw [hRw, kx_bi (by omega)]; rfl
  have em : kg_row Mw 103 (kx_fl (kg_sv 1003) 0) = Mw := kx_zs (by rw [hMw, kx_zi (by omega), kx_fl_z])
  rw [← em]
  refine kc21_102_83 hL f2 (by omega) ?_ 5 0 rfl
  have em2 : kg_row (kg_row Mw 103 (kx_fl (kg_sv 1003) 5)) 104 (kx_fl (fun _ => nI 1) 0) = kg_row Mw 103 (kx_fl (kg_sv 1003) 5) := kx_zs (by rw [kw_n (by omega), hMw, kx_zi (by omega), kx_fl_z])
  rw [← em2]
  refine kc21_102_107 hL f3 (by omega) ?_ 4 0 rfl
  have em3 : kg_row (kg_row (kg_row Mw 103 (kx_fl (kg_sv 1003) 5)) 104 (kx_fl (fun _ => nI 1) 4)) 110 (kx_fl (fun _ => kg_n 1) 0) = kg_row (kg_row Mw 103 (kx_fl (kg_sv 1003) 5)) 104 (kx_fl (fun _ => nI 1) 4) := kx_zs (by rw [kw_n (by omega), kw_n (by omega), hMw, kx_zi (by omega), kx_fl_z])
  rw [← em3]
  refine kc21_102_127 hL f5 (by omega) ?_ 16 0 rfl
  refine kx_fin hK hRw ?_
  rw [hMw]
  funext p
  unfold kx_s
  by_cases p1 : p = 103
  · rw [if_pos p1, p1, kw_n (by omega), kw_n (by omega), kw_s]
  rw [if_neg p1]
  by_cases p2 : p = 104
  · rw [if_pos p2, p2, kw_n (by omega), kw_s]
  rw [if_neg p2]
  by_cases p3 : p = 110
  · rw [if_pos p3, p3, kw_s]
  rw [if_neg p3, kw_n p3, kw_n p2, kw_n p1]

end
