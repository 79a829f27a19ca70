/-! THE CONSTRUCTORS of the two objects of the law, and the state that they leave -/
def kx_h0 : Nat → Nat := fun k => if k < 4 then 22 + 20 * k else 0
theorem kx_Rh {h h' : Nat → Nat} {p : Nat} (hp : p ≠ 21) : kg_R h p = kg_R h' p := by
  unfold kg_R
  simp only [if_neg hp]
theorem kx_so {b p : Nat} {M : kg_M} (h : ¬ (b ≤ p ∧ p < b + 20)) : kx_s b M p = M p := by
  unfold kx_s
  rw [if_neg (by omega), if_neg (by omega), if_neg (by omega), kx_zo h]
theorem kx_si {b p : Nat} {M M' : kg_M} (h : b ≤ p ∧ p < b + 20) : kx_s b M p = kx_s b M' p := by
  unfold kx_s
  rw [kx_zi h, kx_zi h]
def kx_rg (r : Nat → Int32) (lo : Nat) (v : Int32) (i : Nat) : Nat → Int32 := fun j => if lo ≤ j ∧ j < lo + i then v else r j
theorem kx_rg_s (r : Nat → Int32) (lo : Nat) (v : Int32) (i : Nat) : upd (kx_rg r lo v i) (lo + i) v = kx_rg r lo v (i + 1) := by
  funext j
  unfold upd kx_rg
  by_cases e : j = lo + i
  · rw [if_pos e, if_pos (by omega)]
  · rw [if_neg e]
    by_cases e2 : lo ≤ j ∧ j < lo + i
    · rw [if_pos e2, if_pos (by omega)]
    · rw [if_neg e2, if_neg (by omega)]
theorem kx_rg_z (r : Nat → Int32) (lo : Nat) (v : Int32) : kx_rg r lo v 0 = r := by
  funext j
  exact if_neg (by omega)
def kx_r1 : Nat → Int32 := upd (upd (upd (upd (fun _ => 0) 2 (nI 2)) 3 (nI 2)) 4 (nI 50)) 6 (nI 1)
/-- the first row -/
def kx_r0 : Nat → Int32 := kx_rg (kx_rg kx_r1 7 (nI 1) 4) 11 (kg_n 5) 16
section
variable {G : kg_G} {d : Nat} {R : Nat → Nat → Nat} {M : kg_M} {K : kg_Qt}

set_option maxRecDepth 100000 in
theorem kc56 (hL : G.2.2.2.2.2.1 < 2 ^ 31) (hd : 4 ≤ d) (hK : ∀ (R' : Nat → Nat → Nat) (M' : kg_M), (∀ p, p < 124 → R' p = kg_R kx_h0 p) → (∀ p, 124 ≤ p → R' p = R p ∧ M' p = M p) → (∀ p, 1 ≤ p → p < 21 → M' p = kx_s 1 M p) → M' 0 2 = nI 0 → M' 0 4 = nI 0 → M' 122 1 = nI 0 → K none (124, R') M') : kg_call G d 124 56 [.ref 0] (1, kx_n R 0 (fun _ => 0)) (kg_row M 0 (fun _ => 0)) K := by
  obtain ⟨d, rfl⟩ : ∃ e, d = e + 1 := ⟨d - 1, by omega⟩
  refine kg_m56 (by simp) (by show 1 ≤ 124; omega) (kg_v56 hL (by omega) 40 ?_)
  simp (disch := omega) only [↓kb_0t, ↓kb_0f, ↓kb_1t, ↓kb_1f, ↓kb_2t, ↓kb_2f, ↓kb_3t, ↓kb_3f, ↓kb_4t, ↓kb_4f, ↓kb_5t, ↓kb_5f, ↓kg_S1, kg_S2, kg_br_T, kg_br_F, kg_br_N, kg_br_t, kg_br_f, ↓kg_at_n, nI_add, pk_mul, kg_sub_n, kg_rem_n, kg_eq_n, kg_lt_n, kg_le_n, kg_nz, kg_01_0, kg_01_1, kg_w0_1, kg_ret0, kg_ret1, kg_ret2, kg_wr_n, kg_Skd, kg_Smc, kg_Sob, kg_Srf, kg_Sld, kg_pad, List.map_cons, List.map_nil, List.length_cons, List.length_nil, List.replicate, List.cons_append, List.nil_append, List.append_nil, Nat.reduceAdd, Nat.reduceSub, Nat.reduceMul, Nat.reduceMod, Nat.reduceDiv, Nat.reduceLT, Nat.reduceLeDiff, Nat.reduceEqDiff, ne_eq, not_true_eq_false, not_false_eq_true, reduceIte, true_and, and_true, kx_new, kx_wrr, kx_ret, kx_ld, kg_obj, eq_self, kx_ws, kx_wn, kx_ns, kx_nn, kg_wr_n, kw_n, kw_s, kw_w, kg_lk56, kg_ls56, kx_bo]
  refine kg_call_up (kc21_1 hL (by omega) ?_) (by omega)
  simp (disch := omega) only [↓kb_0t, ↓kb_0f, ↓kb_1t, ↓kb_1f, ↓kb_2t, ↓kb_2f, ↓kb_3t, ↓kb_3f, ↓kb_4t, ↓kb_4f, ↓kb_5t, ↓kb_5f, ↓kg_S1, kg_S2, kg_br_T, kg_br_F, kg_br_N, kg_br_t, kg_br_f, ↓kg_at_n, nI_add, pk_mul, kg_sub_n, kg_rem_n, kg_eq_n, kg_lt_n, kg_le_n, kg_nz, kg_01_0, kg_01_1, kg_w0_1, kg_ret0, kg_ret1, kg_ret2, kg_wr_n, kg_Skd, kg_Smc, kg_Sob, kg_Srf, kg_Sld, kg_pad, List.map_cons, List.map_nil, List.length_cons, List.length_nil, List.replicate, List.cons_append, List.nil_append, List.append_nil, Nat.reduceAdd, Nat.reduceSub, Nat.reduceMul, Nat.reduceMod, Nat.reduceDiv, Nat.reduceLT, Nat.reduceLeDiff, Nat.reduceEqDiff, ne_eq, not_true_eq_false, not_false_eq_true, reduceIte, true_and, and_true, kx_new, kx_wrr, kx_ret, kx_ld, kg_obj, eq_self, kx_ws, kx_wn, kx_ns, kx_nn, kg_wr_n, kw_n, kw_s, kw_w, kg_lk56, kg_ls56, kx_bo]
  refine kg_v56 hL (by omega) 30 ?_
  simp (disch := omega) only [↓kb_0t, ↓kb_0f, ↓kb_1t, ↓kb_1f, ↓kb_2t, ↓kb_2f, ↓kb_3t, ↓kb_3f, ↓kb_4t, ↓kb_4f, ↓kb_5t, ↓kb_5f, ↓kg_S1, kg_S2, kg_br_T, kg_br_F, kg_br_N, kg_br_t, kg_br_f, ↓kg_at_n, nI_add, pk_mul, kg_sub_n, kg_rem_n, kg_eq_n, kg_lt_n, kg_le_n, kg_nz, kg_01_0, kg_01_1, kg_w0_1, kg_ret0, kg_ret1, kg_ret2, kg_wr_n, kg_Skd, kg_Smc, kg_Sob, kg_Srf, kg_Sld, kg_pad, List.map_cons, List.map_nil, List.length_cons, List.length_nil, List.replicate, List.cons_append, List.nil_append, List.append_nil, Nat.reduceAdd, Nat.reduceSub, Nat.reduceMul, Nat.reduceMod, Nat.reduceDiv, Nat.reduceLT, Nat.reduceLeDiff, Nat.reduceEqDiff, ne_eq, not_true_eq_false, not_false_eq_true, reduceIte, true_and, and_true, kx_new, kx_wrr, kx_ret, kx_ld, kg_obj, eq_self, kx_ws, kx_wn, kx_ns, kx_nn, kg_wr_n, kw_n, kw_s, kw_w, kg_lk56, kg_ls56, kx_bo]
  refine kg_call_up (kc21_22 hL (by omega) ?_) (by omega)
  simp (disch := omega) only [↓kb_0t, ↓kb_0f, ↓kb_1t, ↓kb_1f, ↓kb_2t, ↓kb_2f, ↓kb_3t, ↓kb_3f, ↓kb_4t, ↓kb_4f, ↓kb_5t, ↓kb_5f, ↓kg_S1, kg_S2, kg_br_T, kg_br_F, kg_br_N, kg_br_t, kg_br_f, ↓kg_at_n, nI_add, pk_mul, kg_sub_n, kg_rem_n, kg_eq_n, kg_lt_n, kg_le_n, kg_nz, kg_01_0, kg_01_1, kg_w0_1, kg_ret0, kg_ret1, kg_ret2, kg_wr_n, kg_Skd, kg_Smc, kg_Sob, kg_Srf, kg_Sld, kg_pad, List.map_cons, List.map_nil, List.length_cons, List.length_nil, List.replicate, List.cons_append, List.nil_append, List.append_nil, Nat.reduceAdd, Nat.reduceSub, Nat.reduceMul, Nat.reduceMod, Nat.reduceDiv, Nat.reduceLT, Nat.reduceLeDiff, Nat.reduceEqDiff, ne_eq, not_true_eq_false, not_false_eq_true, reduceIte, true_and, and_true, kx_new, kx_wrr, kx_ret, kx_ld, kg_obj, eq_self, kx_ws, kx_wn, kx_ns, kx_nn, kg_wr_n, kw_n, kw_s, kw_w, kg_lk56, kg_ls56, kx_bo]
  refine kg_v56 hL (by omega) 30 ?_
  simp (disch := omega) only [↓kb_0t, ↓kb_0f, ↓kb_1t, ↓kb_1f, ↓kb_2t, ↓kb_2f, ↓kb_3t, ↓kb_3f, ↓kb_4t, ↓kb_4f, ↓kb_5t, ↓kb_5f, ↓kg_S1, kg_S2, kg_br_T, kg_br_F, kg_br_N, kg_br_t, kg_br_f, ↓kg_at_n, nI_add, pk_mul, kg_sub_n, kg_rem_n, kg_eq_n, kg_lt_n, kg_le_n, kg_nz, kg_01_0, kg_01_1, kg_w0_1, kg_ret0, kg_ret1, kg_ret2, kg_wr_n, kg_Skd, kg_Smc, kg_Sob, kg_Srf, kg_Sld, kg_pad, List.map_cons, List.map_nil, List.length_cons, List.length_nil, List.replicate, List.cons_append, List.nil_append, List.append_nil, Nat.reduceAdd, Nat.reduceSub, Nat.reduceMul, Nat.reduceMod, Nat.reduceDiv, Nat.reduceLT, Nat.reduceLeDiff, Nat.reduceEqDiff, ne_eq, not_true_eq_false, not_false_eq_true, reduceIte, true_and, and_true, kx_new, kx_wrr, kx_ret, kx_ld, kg_obj, eq_self, kx_ws, kx_wn, kx_ns, kx_nn, kg_wr_n, kw_n, kw_s, kw_w, kg_lk56, kg_ls56, kx_bo]
  refine kg_call_up (kc21_42 hL (by omega) ?_) (by omega)
  simp (disch := omega) only [↓kb_0t, ↓kb_0f, ↓kb_1t, ↓kb_1f, ↓kb_2t, ↓kb_2f, ↓kb_3t, ↓kb_3f, ↓kb_4t, ↓kb_4f, ↓kb_5t, ↓kb_5f, ↓kg_S1, kg_S2, kg_br_T, kg_br_F, kg_br_N, kg_br_t, kg_br_f, ↓kg_at_n, nI_add, pk_mul, kg_sub_n, kg_rem_n, kg_eq_n, kg_lt_n, kg_le_n, kg_nz, kg_01_0, kg_01_1, kg_w0_1, kg_ret0, kg_ret1, kg_ret2, kg_wr_n, kg_Skd, kg_Smc, kg_Sob, kg_Srf, kg_Sld, kg_pad, List.map_cons, List.map_nil, List.length_cons, List.length_nil, List.replicate, List.cons_append, List.nil_append, List.append_nil, Nat.reduceAdd, Nat.reduceSub, Nat.reduceMul, Nat.reduceMod, Nat.reduceDiv, Nat.reduceLT, Nat.reduceLeDiff, Nat.reduceEqDiff, ne_eq, not_true_eq_false, not_false_eq_true, reduceIte, true_and, and_true, kx_new, kx_wrr, kx_ret, kx_ld, kg_obj, eq_self, kx_ws, kx_wn, kx_ns, kx_nn, kg_wr_n, kw_n, kw_s, kw_w, kg_lk56, kg_ls56, kx_bo]
  refine kg_v56 hL (by omega) 30 ?_
  simp (disch := omega) only [↓kb_0t, ↓kb_0f, ↓kb_1t, ↓kb_1f, ↓kb_2t, ↓kb_2f, ↓kb_3t, ↓kb_3f, ↓kb_4t, ↓kb_4f, ↓kb_5t, ↓kb_5f, ↓kg_S1, kg_S2, kg_br_T, kg_br_F, kg_br_N, kg_br_t, kg_br_f, ↓kg_at_n, nI_add, pk_mul, kg_sub_n, kg_rem_n, kg_eq_n, kg_lt_n, kg_le_n, kg_nz, kg_01_0, kg_01_1, kg_w0_1, kg_ret0, kg_ret1, kg_ret2, kg_wr_n, kg_Skd, kg_Smc, kg_Sob, kg_Srf, kg_Sld, kg_pad, List.map_cons, List.map_nil, List.length_cons, List.length_nil, List.replicate, List.cons_append, List.nil_append, List.append_nil, Nat.reduceAdd, Nat.reduceSub, Nat.reduceMul, Nat.reduceMod, Nat.reduceDiv, Nat.reduceLT, Nat.reduceLeDiff, Nat.reduceEqDiff, ne_eq, not_true_eq_false, not_false_eq_true, reduceIte, true_and, and_true, kx_new, kx_wrr, kx_ret, kx_ld, kg_obj, eq_self, kx_ws, kx_wn, kx_ns, kx_nn, kg_wr_n, kw_n, kw_s, kw_w, kg_lk56, kg_ls56, kx_bo]
  refine kg_call_up (kc21_62 hL (by omega) ?_) (by omega)
  simp (disch := omega) only [↓kb_0t, ↓kb_0f, ↓kb_1t, ↓kb_1f, ↓kb_2t, ↓kb_2f, ↓kb_3t, ↓kb_3f, ↓kb_4t, ↓kb_4f, ↓kb_5t, ↓kb_5f, ↓kg_S1, kg_S2, kg_br_T, kg_br_F, kg_br_N, kg_br_t, kg_br_f, ↓kg_at_n, nI_add, pk_mul, kg_sub_n, kg_rem_n, kg_eq_n, kg_lt_n, kg_le_n, kg_nz, kg_01_0, kg_01_1, kg_w0_1, kg_ret0, kg_ret1, kg_ret2, kg_wr_n, kg_Skd, kg_Smc, kg_Sob, kg_Srf, kg_Sld, kg_pad, List.map_cons, List.map_nil, List.length_cons, List.length_nil, List.replicate, List.cons_append, List.nil_append, List.append_nil, Nat.reduceAdd, Nat.reduceSub, Nat.reduceMul, Nat.reduceMod, Nat.reduceDiv, Nat.reduceLT, Nat.reduceLeDiff, Nat.reduceEqDiff, ne_eq, not_true_eq_false, not_false_eq_true, reduceIte, true_and, and_true, kx_new, kx_wrr, kx_ret, kx_ld, kg_obj, eq_self, kx_ws, kx_wn, kx_ns, kx_nn, kg_wr_n, kw_n, kw_s, kw_w, kg_lk56, kg_ls56, kx_bo]
  refine kg_v56 hL (by omega) 30 ?_
  simp (disch := omega) only [↓kb_0t, ↓kb_0f, ↓kb_1t, ↓kb_1f, ↓kb_2t, ↓kb_2f, ↓kb_3t, ↓kb_3f, ↓kb_4t, ↓kb_4f, ↓kb_5t, ↓kb_5f, ↓kg_S1, kg_S2, kg_br_T, kg_br_F, kg_br_N, kg_br_t, kg_br_f, ↓kg_at_n, nI_add, pk_mul, kg_sub_n, kg_rem_n, kg_eq_n, kg_lt_n, kg_le_n, kg_nz, kg_01_0, kg_01_1, kg_w0_1, kg_ret0, kg_ret1, kg_ret2, kg_wr_n, kg_Skd, kg_Smc, kg_Sob, kg_Srf, kg_Sld, kg_pad, List.map_cons, List.map_nil, List.length_cons, List.length_nil, List.replicate, List.cons_append, List.nil_append, List.append_nil, Nat.reduceAdd, Nat.reduceSub, Nat.reduceMul, Nat.reduceMod, Nat.reduceDiv, Nat.reduceLT, Nat.reduceLeDiff, Nat.reduceEqDiff, ne_eq, not_true_eq_false, not_false_eq_true, reduceIte, true_and, and_true, kx_new, kx_wrr, kx_ret, kx_ld, kg_obj, eq_self, kx_ws, kx_wn, kx_ns, kx_nn, kg_wr_n, kw_n, kw_s, kw_w, kg_lk56, kg_ls56, kx_bo]
  refine kg_call_up (kc21_82 hL (by omega) ?_) (by omega)
  simp (disch := omega) only [↓kb_0t, ↓kb_0f, ↓kb_1t, ↓kb_1f, ↓kb_2t, ↓kb_2f, ↓kb_3t, ↓kb_3f, ↓kb_4t, ↓kb_4f, ↓kb_5t, ↓kb_5f, ↓kg_S1, kg_S2, kg_br_T, kg_br_F, kg_br_N, kg_br_t, kg_br_f, ↓kg_at_n, nI_add, pk_mul, kg_sub_n, kg_rem_n, kg_eq_n, kg_lt_n, kg_le_n, kg_nz, kg_01_0, kg_01_1, kg_w0_1, kg_ret0, kg_ret1, kg_ret2, kg_wr_n, kg_Skd, kg_Smc, kg_Sob, kg_Srf, kg_Sld, kg_pad, List.map_cons, List.map_nil, List.length_cons, List.length_nil, List.replicate, List.cons_append, List.nil_append, List.append_nil, Nat.reduceAdd, Nat.reduceSub, Nat.reduceMul, Nat.reduceMod, Nat.reduceDiv, Nat.reduceLT, Nat.reduceLeDiff, Nat.reduceEqDiff, ne_eq, not_true_eq_false, not_false_eq_true, reduceIte, true_and, and_true, kx_new, kx_wrr, kx_ret, kx_ld, kg_obj, eq_self, kx_ws, kx_wn, kx_ns, kx_nn, kg_wr_n, kw_n, kw_s, kw_w, kg_lk56, kg_ls56, kx_bo]
  refine kg_v56 hL (by omega) 60 ?_
  simp (disch := omega) only [↓kb_0t, ↓kb_0f, ↓kb_1t, ↓kb_1f, ↓kb_2t, ↓kb_2f, ↓kb_3t, ↓kb_3f, ↓kb_4t, ↓kb_4f, ↓kb_5t, ↓kb_5f, ↓kg_S1, kg_S2, kg_br_T, kg_br_F, kg_br_N, kg_br_t, kg_br_f, ↓kg_at_n, nI_add, pk_mul, kg_sub_n, kg_rem_n, kg_eq_n, kg_lt_n, kg_le_n, kg_nz, kg_01_0, kg_01_1, kg_w0_1, kg_ret0, kg_ret1, kg_ret2, kg_wr_n, kg_Skd, kg_Smc, kg_Sob, kg_Srf, kg_Sld, kg_pad, List.map_cons, List.map_nil, List.length_cons, List.length_nil, List.replicate, List.cons_append, List.nil_append, List.append_nil, Nat.reduceAdd, Nat.reduceSub, Nat.reduceMul, Nat.reduceMod, Nat.reduceDiv, Nat.reduceLT, Nat.reduceLeDiff, Nat.reduceEqDiff, ne_eq, not_true_eq_false, not_false_eq_true, reduceIte, true_and, and_true, kx_new, kx_wrr, kx_ret, kx_ld, kg_obj, eq_self, kx_ws, kx_wn, kx_ns, kx_nn, kg_wr_n, kw_n, kw_s, kw_w, kg_lk56, kg_ls56, kx_bo]
  refine kg_call_up (kc21_102 hL (by omega) ?_) (by omega)
  simp (disch := omega) only [↓kb_0t, ↓kb_0f, ↓kb_1t, ↓kb_1f, ↓kb_2t, ↓kb_2f, ↓kb_3t, ↓kb_3f, ↓kb_4t, ↓kb_4f, ↓kb_5t, ↓kb_5f, ↓kg_S1, kg_S2, kg_br_T, kg_br_F, kg_br_N, kg_br_t, kg_br_f, ↓kg_at_n, nI_add, pk_mul, kg_sub_n, kg_rem_n, kg_eq_n, kg_lt_n, kg_le_n, kg_nz, kg_01_0, kg_01_1, kg_w0_1, kg_ret0, kg_ret1, kg_ret2, kg_wr_n, kg_Skd, kg_Smc, kg_Sob, kg_Srf, kg_Sld, kg_pad, List.map_cons, List.map_nil, List.length_cons, List.length_nil, List.replicate, List.cons_append, List.nil_append, List.append_nil, Nat.reduceAdd, Nat.reduceSub, Nat.reduceMul, Nat.reduceMod, Nat.reduceDiv, Nat.reduceLT, Nat.reduceLeDiff, Nat.reduceEqDiff, ne_eq, not_true_eq_false, not_false_eq_true, reduceIte, true_and, and_true, kx_new, kx_wrr, kx_ret, kx_ld, kg_obj, eq_self, kx_ws, kx_wn, kx_ns, kx_nn, kg_wr_n, kw_n, kw_s, kw_w, kg_lk56, kg_ls56, kx_bo]
  refine kg_call_up (kc14_122 hL (by omega) ?_) (by omega)
  simp (disch := omega) only [↓kb_0t, ↓kb_0f, ↓kb_1t, ↓kb_1f, ↓kb_2t, ↓kb_2f, ↓kb_3t, ↓kb_3f, ↓kb_4t, ↓kb_4f, ↓kb_5t, ↓kb_5f, ↓kg_S1, kg_S2, kg_br_T, kg_br_F, kg_br_N, kg_br_t, kg_br_f, ↓kg_at_n, nI_add, pk_mul, kg_sub_n, kg_rem_n, kg_eq_n, kg_lt_n, kg_le_n, kg_nz, kg_01_0, kg_01_1, kg_w0_1, kg_ret0, kg_ret1, kg_ret2, kg_wr_n, kg_Skd, kg_Smc, kg_Sob, kg_Srf, kg_Sld, kg_pad, List.map_cons, List.map_nil, List.length_cons, List.length_nil, List.replicate, List.cons_append, List.nil_append, List.append_nil, Nat.reduceAdd, Nat.reduceSub, Nat.reduceMul, Nat.reduceMod, Nat.reduceDiv, Nat.reduceLT, Nat.reduceLeDiff, Nat.reduceEqDiff, ne_eq, not_true_eq_false, not_false_eq_true, reduceIte, true_and, and_true, kx_new, kx_wrr, kx_ret, kx_ld, kg_obj, eq_self, kx_ws, kx_wn, kx_ns, kx_nn, kg_wr_n, kw_n, kw_s, kw_w, kg_lk56, kg_ls56, kx_bo]
  refine hK _ _ (fun p hp => ?_) (fun p hp => ⟨?_, ?_⟩) (fun p h1 h2 => ?_) ?_ ?_ ?_
  · by_cases q0 : p = 0
    · subst q0
      funext k
      obtain rfl | rfl | rfl | rfl | rfl | rfl | ⟨n, rfl⟩ : k = 0 ∨ k = 1 ∨ k = 2 ∨ k = 3 ∨ k = 4 ∨ k = 5 ∨ ∃ n, k = n + 6 := by
        by_cases h : k < 6
        · omega
        · exact Or.inr (Or.inr (Or.inr (Or.inr (Or.inr (Or.inr ⟨k - 6, by omega⟩)))))
      all_goals first | rfl | (simp (disch := omega) only [kx_ws, kx_wn, kx_ns, kx_nn, kx_bi, kx_bo, if_neg]; rfl)
    by_cases q21 : p = 21
    · subst q21
      funext k
      show _ = kx_h0 k
      unfold kx_h0
      obtain rfl | rfl | rfl | rfl | h4 : k = 0 ∨ k = 1 ∨ k = 2 ∨ k = 3 ∨ 4 ≤ k := by omega
      all_goals (simp (disch := omega) only [kx_ws, kx_wn, kx_ns, kx_nn, kx_bi, kx_bo, if_neg, if_pos, reduceIte])
    · rw [kx_Rh (h' := fun _ => 0) q21]
      obtain h | h | h | h | h | h | h : (1 ≤ p ∧ p < 21) ∨ (22 ≤ p ∧ p < 42) ∨ (42 ≤ p ∧ p < 62) ∨ (62 ≤ p ∧ p < 82) ∨ (82 ≤ p ∧ p < 102) ∨ (102 ≤ p ∧ p < 122) ∨ (122 ≤ p ∧ p < 124) := by omega
      all_goals (simp (disch := omega) only [kx_wn, kx_nn, kx_bi, kx_bo])
  · simp (disch := omega) only [kx_wn, kx_nn, kx_bo]
  · simp (disch := omega) only [kg_wr_n, kw_n, kx_so, kx_zo]
  · simp (disch := omega) only [kg_wr_n, kw_n, kx_so, kx_zo]
    exact kx_si (by omega)
  · simp (disch := omega) only [kg_wr_n, kw_n, kx_so, kx_zo, kw_ws, kw_wn]
  · simp (disch := omega) only [kg_wr_n, kw_n, kx_so, kx_zo, kw_ws, kw_wn]
  · simp (disch := omega) only [kg_wr_n, kw_n, kx_so, kx_zi]
    rfl
end
