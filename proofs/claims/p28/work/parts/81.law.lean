/-! THE LAW: its walk -/
def kl_ret : kg_Qt := fun v _ _ => v = some (.int (nI 1))
/-- the law's states: its words, and its end -/
def kl_H (G : kg_G) (X : kg_Xt) : Prop := kg_B G X (kg_cn 6) code 12 9 false 0 125 ∧ (∀ pc ls w M, decode code pc = .ok (.ireturn, 1) → kg_V G X 12 0 125 pc ls [.int (nI 1)] w M)
theorem kl_go {G : kg_G} {X : kg_Xt} {cd : kg_Cd} {sp : List Nat} {f pc : Nat} {ls : List (Option Value)} {st : List Value} {w : kg_W} {M : kg_M} (hH : kl_H G X) (hL : G.2.2.2.2.2.1 < 2 ^ 31) (hok : kg_okc 6 false 12 code cd = true) (h : kg_go G 125 (kg_call G 9 125) kl_ret cd sp (kg_V G X 12 0 125) f pc ls st w M) : kg_V G X 12 0 125 pc ls st w M := by
  refine kg_go_sound hH.1 (by omega) hL ?_ ?_ hok h
  · intro pc ls x w M hd hr
    have hr2 : (some (Value.int x)) = some (Value.int (nI 1)) := hr
    have e : x = nI 1 := Value.int.inj (Option.some.inj hr2)
    rw [e]
    exact hH.2 pc ls w M hd
  · intro pc ls w M hd hr
    have hr2 : (none : Option Value) = some (Value.int (nI 1)) := hr
    cases hr2
section
variable {G : kg_G} {X : kg_Xt} {c e n : Nat} {h : Nat → Nat} {M : kg_M} {A : kf_A} {v : Int32} {x4 x5 x6 x7 x8 x9 x10 x11 : Option Value}
set_option maxRecDepth 100000 in
theorem kl_i (hH : kl_H G X) (hL : G.2.2.2.2.2.1 < 2 ^ 31) (hS : kj_S c h M A) (hc : c < 1048576) {k b : Nat} (hn4 : n < 4) (hk : k < 4) (hb : b = 0 ∨ (b = 1 ∧ A.1 3 = nI 4 ∧ kf_up4 A.1 = 4 ∧ 0 < kf_ct (fun n => decide (kf_s A.1 n k = kf_s A.1 4 k)) 4))
    (hn : ∀ (A' : kf_A) (h' : Nat → Nat) (M' : kg_M), kj_S c h' M' A' → kg_V G X 12 0 125 15 [some (.ref 1000), some (.ref 0), some (.ref 124), some (.int (nI (e + 1))), x4, some (.int (nI n)), x6, x7, x8, x9, some (.int (nI k)), some (.int (nI b))] [] (kg_w0 h') M') :
    kg_V G X 12 0 125 243 [some (.ref 1000), some (.ref 0), some (.ref 124), some (.int (nI e)), x4, some (.int (nI n)), x6, x7, x8, x9, some (.int (nI k)), some (.int (nI b))] [] (kg_w0 h) M := by
  obtain ⟨hC, hJ, hT⟩ := hS
  refine kl_go (cd := kl_cI) (sp := []) (f := 60) hH hL kl_okI ?_
  rcases hb with rfl | ⟨rfl, h3, hu, ht⟩
  · simp (disch := omega) only [↓kb_0t, ↓kb_0f, ↓kb_1t, ↓kb_1f, ↓kb_2t, ↓kb_2f, ↓kb_3t, ↓kb_3f, ↓kb_4t, ↓kb_4f, ↓kb_5t, ↓kb_5f, ↓kg_S1, kg_S2, kg_br_T, kg_br_F, kg_br_N, kg_br_t, kg_br_f, ↓kg_at_n, nI_add, pk_mul, kg_sub_n, kg_rem_n, kg_eq_n, kg_lt_n, kg_le_n, kg_nz, kg_01_0, kg_01_1, kg_w0_1, kg_ret0, kg_ret1, kg_ret2, kg_wr_n, kg_wr_s, kg_Skd, kg_Smc, kg_Sob, kg_Srf, kg_Sld, kg_pad, List.map_cons, List.map_nil, List.length_cons, List.length_nil, List.replicate, List.cons_append, List.nil_append, List.append_nil, Nat.reduceAdd, Nat.reduceSub, Nat.reduceMul, Nat.reduceMod, Nat.reduceDiv, Nat.reduceLT, Nat.reduceLeDiff, Nat.reduceEqDiff, ne_eq, not_true_eq_false, not_false_eq_true, reduceIte, true_and, and_true, kl_ld, kl_kI, kl_sI]
    exact hn A h M ⟨hC, hJ, hT⟩
  · simp (disch := omega) only [↓kb_0t, ↓kb_0f, ↓kb_1t, ↓kb_1f, ↓kb_2t, ↓kb_2f, ↓kb_3t, ↓kb_3f, ↓kb_4t, ↓kb_4f, ↓kb_5t, ↓kb_5f, ↓kg_S1, kg_S2, kg_br_T, kg_br_F, kg_br_N, kg_br_t, kg_br_f, ↓kg_at_n, nI_add, pk_mul, kg_sub_n, kg_rem_n, kg_eq_n, kg_lt_n, kg_le_n, kg_nz, kg_01_0, kg_01_1, kg_w0_1, kg_ret0, kg_ret1, kg_ret2, kg_wr_n, kg_wr_s, kg_Skd, kg_Smc, kg_Sob, kg_Srf, kg_Sld, kg_pad, List.map_cons, List.map_nil, List.length_cons, List.length_nil, List.replicate, List.cons_append, List.nil_append, List.append_nil, Nat.reduceAdd, Nat.reduceSub, Nat.reduceMul, Nat.reduceMod, Nat.reduceDiv, Nat.reduceLT, Nat.reduceLeDiff, Nat.reduceEqDiff, ne_eq, not_true_eq_false, not_false_eq_true, reduceIte, true_and, and_true, kl_ld, kl_kI, kl_sI]
    refine kc66 hL hC hc (by omega) ?_
    intro o A' h' M1 e1 e2 e3
    have q := kj_rd hJ e1
    have eo := kj_rda hJ hn4 (by omega) h3 hu ht e1
    have hS1 : kj_S c h' M1 A' := ⟨e2, q.1, fun i hi => by rw [e3 124 (by omega), hT i hi, kj_Qs q hi]⟩
    have ew : kf_w A'.1 4 k = kf_w A.1 4 k := q.2.2 (187 + 3 * k) (by omega) (by omega)
    have ev : kf_v A'.1 4 k = kf_v A.1 4 k := q.2.2 (187 + 3 * k + 1) (by omega) (by omega)
    simp (disch := omega) only [↓kb_0t, ↓kb_0f, ↓kb_1t, ↓kb_1f, ↓kb_2t, ↓kb_2f, ↓kb_3t, ↓kb_3f, ↓kb_4t, ↓kb_4f, ↓kb_5t, ↓kb_5f, ↓kg_S1, kg_S2, kg_br_T, kg_br_F, kg_br_N, kg_br_t, kg_br_f, ↓kg_at_n, nI_add, pk_mul, kg_sub_n, kg_rem_n, kg_eq_n, kg_lt_n, kg_le_n, kg_nz, kg_01_0, kg_01_1, kg_w0_1, kg_ret0, kg_ret1, kg_ret2, kg_wr_n, kg_wr_s, kg_Skd, kg_Smc, kg_Sob, kg_Srf, kg_Sld, kg_pad, List.map_cons, List.map_nil, List.length_cons, List.length_nil, List.replicate, List.cons_append, List.nil_append, List.append_nil, Nat.reduceAdd, Nat.reduceSub, Nat.reduceMul, Nat.reduceMod, Nat.reduceDiv, Nat.reduceLT, Nat.reduceLeDiff, Nat.reduceEqDiff, ne_eq, not_true_eq_false, not_false_eq_true, reduceIte, true_and, and_true, kl_ld, kl_kI, kl_sI]
    refine kc79 hL e2 (by omega) ?_
    rw [kj_t0 (by omega), ew]
    by_cases g : kf_w A.1 4 k = nI 1
    · rw [if_pos g] at eo
      rw [g, eo]
      simp (disch := omega) only [↓kb_0t, ↓kb_0f, ↓kb_1t, ↓kb_1f, ↓kb_2t, ↓kb_2f, ↓kb_3t, ↓kb_3f, ↓kb_4t, ↓kb_4f, ↓kb_5t, ↓kb_5f, ↓kg_S1, kg_S2, kg_br_T, kg_br_F, kg_br_N, kg_br_t, kg_br_f, ↓kg_at_n, nI_add, pk_mul, kg_sub_n, kg_rem_n, kg_eq_n, kg_lt_n, kg_le_n, kg_nz, kg_01_0, kg_01_1, kg_w0_1, kg_ret0, kg_ret1, kg_ret2, kg_wr_n, kg_wr_s, kg_Skd, kg_Smc, kg_Sob, kg_Srf, kg_Sld, kg_pad, List.map_cons, List.map_nil, List.length_cons, List.length_nil, List.replicate, List.cons_append, List.nil_append, List.append_nil, Nat.reduceAdd, Nat.reduceSub, Nat.reduceMul, Nat.reduceMod, Nat.reduceDiv, Nat.reduceLT, Nat.reduceLeDiff, Nat.reduceEqDiff, ne_eq, not_true_eq_false, not_false_eq_true, reduceIte, true_and, and_true, kl_ld, kl_kI, kl_sI, eq_self]
      refine kc79 hL e2 (by omega) ?_
      rw [kj_t1 (by omega), ew, ev, if_pos g]
      simp (disch := omega) only [↓kb_0t, ↓kb_0f, ↓kb_1t, ↓kb_1f, ↓kb_2t, ↓kb_2f, ↓kb_3t, ↓kb_3f, ↓kb_4t, ↓kb_4f, ↓kb_5t, ↓kb_5f, ↓kg_S1, kg_S2, kg_br_T, kg_br_F, kg_br_N, kg_br_t, kg_br_f, ↓kg_at_n, nI_add, pk_mul, kg_sub_n, kg_rem_n, kg_eq_n, kg_lt_n, kg_le_n, kg_nz, kg_01_0, kg_01_1, kg_w0_1, kg_ret0, kg_ret1, kg_ret2, kg_wr_n, kg_wr_s, kg_Skd, kg_Smc, kg_Sob, kg_Srf, kg_Sld, kg_pad, List.map_cons, List.map_nil, List.length_cons, List.length_nil, List.replicate, List.cons_append, List.nil_append, List.append_nil, Nat.reduceAdd, Nat.reduceSub, Nat.reduceMul, Nat.reduceMod, Nat.reduceDiv, Nat.reduceLT, Nat.reduceLeDiff, Nat.reduceEqDiff, ne_eq, not_true_eq_false, not_false_eq_true, reduceIte, true_and, and_true, kl_ld, kl_kI, kl_sI, eq_self]
      exact hn A' h' M1 hS1
    · rw [if_neg g] at eo
      rw [eo]
      have g2 : (kf_w A.1 4 k = nI 1) = False := eq_false g
      simp (disch := omega) only [↓kb_0t, ↓kb_0f, ↓kb_1t, ↓kb_1f, ↓kb_2t, ↓kb_2f, ↓kb_3t, ↓kb_3f, ↓kb_4t, ↓kb_4f, ↓kb_5t, ↓kb_5f, ↓kg_S1, kg_S2, kg_br_T, kg_br_F, kg_br_N, kg_br_t, kg_br_f, ↓kg_at_n, nI_add, pk_mul, kg_sub_n, kg_rem_n, kg_eq_n, kg_lt_n, kg_le_n, kg_nz, kg_01_0, kg_01_1, kg_w0_1, kg_ret0, kg_ret1, kg_ret2, kg_wr_n, kg_wr_s, kg_Skd, kg_Smc, kg_Sob, kg_Srf, kg_Sld, kg_pad, List.map_cons, List.map_nil, List.length_cons, List.length_nil, List.replicate, List.cons_append, List.nil_append, List.append_nil, Nat.reduceAdd, Nat.reduceSub, Nat.reduceMul, Nat.reduceMod, Nat.reduceDiv, Nat.reduceLT, Nat.reduceLeDiff, Nat.reduceEqDiff, ne_eq, not_true_eq_false, not_false_eq_true, reduceIte, true_and, and_true, kl_ld, kl_kI, kl_sI, g2, eq_self]
      exact hn A' h' M1 hS1
set_option maxRecDepth 100000 in
theorem kl_f (hH : kl_H G X) (hL : G.2.2.2.2.2.1 < 2 ^ 31) (hS : kj_S c h M A) (hc : c < 1048576) (hn4 : n < 4)
    (hn : ∀ (A' : kf_A) (h' : Nat → Nat) (M' : kg_M) (x10 x11 : Option Value), kj_S c h' M' A' → kg_V G X 12 0 125 15 [some (.ref 1000), some (.ref 0), some (.ref 124), some (.int (nI (e + 1))), some (.int v), some (.int (nI n)), x6, x7, x8, x9, x10, x11] [] (kg_w0 h') M') :
    kg_V G X 12 0 125 198 [some (.ref 1000), some (.ref 0), some (.ref 124), some (.int (nI e)), some (.int v), some (.int (nI n)), x6, x7, x8, x9, x10, x11] [] (kg_w0 h) M := by
  obtain ⟨k, hk, ek⟩ := kj_mk (v >>> (nI 13 &&& 31)) 3 (by omega)
  have hC := hS.1
  have lu : kf_up4 A.1 ≤ 4 := kf_ct_le _ 4
  have lt := kf_ct_le (fun n => decide (kf_s A.1 n k = kf_s A.1 4 k)) 4
  have fin : ∀ b : Nat, (b = 0 ∨ (b = 1 ∧ A.1 3 = nI 4 ∧ kf_up4 A.1 = 4 ∧ 0 < kf_ct (fun n => decide (kf_s A.1 n k = kf_s A.1 4 k)) 4)) → kg_V G X 12 0 125 243 [some (.ref 1000), some (.ref 0), some (.ref 124), some (.int (nI e)), some (.int v), some (.int (nI n)), x6, x7, x8, x9, some (.int (nI k)), some (.int (nI b))] [] (kg_w0 h) M :=
    fun b hb => kl_i hH hL hS hc hn4 (by omega) hb (fun A' h' M' q => hn A' h' M' _ _ q)
  refine kl_go (cd := kl_cF) (sp := []) (f := 60) hH hL kl_okF ?_
  simp (disch := omega) only [↓kb_0t, ↓kb_0f, ↓kb_1t, ↓kb_1f, ↓kb_2t, ↓kb_2f, ↓kb_3t, ↓kb_3f, ↓kb_4t, ↓kb_4f, ↓kb_5t, ↓kb_5f, ↓kg_S1, kg_S2, kg_br_T, kg_br_F, kg_br_N, kg_br_t, kg_br_f, ↓kg_at_n, nI_add, pk_mul, kg_sub_n, kg_rem_n, kg_eq_n, kg_lt_n, kg_le_n, kg_nz, kg_01_0, kg_01_1, kg_w0_1, kg_ret0, kg_ret1, kg_ret2, kg_wr_n, kg_wr_s, kg_Skd, kg_Smc, kg_Sob, kg_Srf, kg_Sld, kg_pad, List.map_cons, List.map_nil, List.length_cons, List.length_nil, List.replicate, List.cons_append, List.nil_append, List.append_nil, Nat.reduceAdd, Nat.reduceSub, Nat.reduceMul, Nat.reduceMod, Nat.reduceDiv, Nat.reduceLT, Nat.reduceLeDiff, Nat.reduceEqDiff, ne_eq, not_true_eq_false, not_false_eq_true, reduceIte, true_and, and_true, kl_ld, kl_kF, kl_sF, ek]
  refine kc87 hL hC (by omega) ?_
  rw [kj_s1]
  by_cases h3 : A.1 3 = nI 4
  · rw [h3]
    simp (disch := omega) only [↓kb_0t, ↓kb_0f, ↓kb_1t, ↓kb_1f, ↓kb_2t, ↓kb_2f, ↓kb_3t, ↓kb_3f, ↓kb_4t, ↓kb_4f, ↓kb_5t, ↓kb_5f, ↓kg_S1, kg_S2, kg_br_T, kg_br_F, kg_br_N, kg_br_t, kg_br_f, ↓kg_at_n, nI_add, pk_mul, kg_sub_n, kg_rem_n, kg_eq_n, kg_lt_n, kg_le_n, kg_nz, kg_01_0, kg_01_1, kg_w0_1, kg_ret0, kg_ret1, kg_ret2, kg_wr_n, kg_wr_s, kg_Skd, kg_Smc, kg_Sob, kg_Srf, kg_Sld, kg_pad, List.map_cons, List.map_nil, List.length_cons, List.length_nil, List.replicate, List.cons_append, List.nil_append, List.append_nil, Nat.reduceAdd, Nat.reduceSub, Nat.reduceMul, Nat.reduceMod, Nat.reduceDiv, Nat.reduceLT, Nat.reduceLeDiff, Nat.reduceEqDiff, ne_eq, not_true_eq_false, not_false_eq_true, reduceIte, true_and, and_true, kl_ld, kl_kF, kl_sF, eq_self]
    refine kc86 hL hC (by omega) ?_
    rw [kj_c9]
    by_cases hu : kf_up4 A.1 = 4
    · rw [hu]
      simp (disch := omega) only [↓kb_0t, ↓kb_0f, ↓kb_1t, ↓kb_1f, ↓kb_2t, ↓kb_2f, ↓kb_3t, ↓kb_3f, ↓kb_4t, ↓kb_4f, ↓kb_5t, ↓kb_5f, ↓kg_S1, kg_S2, kg_br_T, kg_br_F, kg_br_N, kg_br_t, kg_br_f, ↓kg_at_n, nI_add, pk_mul, kg_sub_n, kg_rem_n, kg_eq_n, kg_lt_n, kg_le_n, kg_nz, kg_01_0, kg_01_1, kg_w0_1, kg_ret0, kg_ret1, kg_ret2, kg_wr_n, kg_wr_s, kg_Skd, kg_Smc, kg_Sob, kg_Srf, kg_Sld, kg_pad, List.map_cons, List.map_nil, List.length_cons, List.length_nil, List.replicate, List.cons_append, List.nil_append, List.append_nil, Nat.reduceAdd, Nat.reduceSub, Nat.reduceMul, Nat.reduceMod, Nat.reduceDiv, Nat.reduceLT, Nat.reduceLeDiff, Nat.reduceEqDiff, ne_eq, not_true_eq_false, not_false_eq_true, reduceIte, true_and, and_true, kl_ld, kl_kF, kl_sF, eq_self]
      refine kc79 hL hC (by omega) ?_
      rw [kj_t2 (by omega)]
      by_cases ht : 0 < kf_ct (fun n => decide (kf_s A.1 n k = kf_s A.1 4 k)) 4
      · have f1 := fin 1 (Or.inr ⟨rfl, h3, hu, ht⟩)
        generalize kf_ct (fun n => decide (kf_s A.1 n k = kf_s A.1 4 k)) 4 = y at lt ht ⊢
        simp (disch := omega) only [↓kb_0t, ↓kb_0f, ↓kb_1t, ↓kb_1f, ↓kb_2t, ↓kb_2f, ↓kb_3t, ↓kb_3f, ↓kb_4t, ↓kb_4f, ↓kb_5t, ↓kb_5f, ↓kg_S1, kg_S2, kg_br_T, kg_br_F, kg_br_N, kg_br_t, kg_br_f, ↓kg_at_n, nI_add, pk_mul, kg_sub_n, kg_rem_n, kg_eq_n, kg_lt_n, kg_le_n, kg_nz, kg_01_0, kg_01_1, kg_w0_1, kg_ret0, kg_ret1, kg_ret2, kg_wr_n, kg_wr_s, kg_Skd, kg_Smc, kg_Sob, kg_Srf, kg_Sld, kg_pad, List.map_cons, List.map_nil, List.length_cons, List.length_nil, List.replicate, List.cons_append, List.nil_append, List.append_nil, Nat.reduceAdd, Nat.reduceSub, Nat.reduceMul, Nat.reduceMod, Nat.reduceDiv, Nat.reduceLT, Nat.reduceLeDiff, Nat.reduceEqDiff, ne_eq, not_true_eq_false, not_false_eq_true, reduceIte, true_and, and_true, kl_ld, kl_kF, kl_sF]
        exact f1
      · have f0 := fin 0 (Or.inl rfl)
        generalize kf_ct (fun n => decide (kf_s A.1 n k = kf_s A.1 4 k)) 4 = y at lt ht ⊢
        simp (disch := omega) only [↓kb_0t, ↓kb_0f, ↓kb_1t, ↓kb_1f, ↓kb_2t, ↓kb_2f, ↓kb_3t, ↓kb_3f, ↓kb_4t, ↓kb_4f, ↓kb_5t, ↓kb_5f, ↓kg_S1, kg_S2, kg_br_T, kg_br_F, kg_br_N, kg_br_t, kg_br_f, ↓kg_at_n, nI_add, pk_mul, kg_sub_n, kg_rem_n, kg_eq_n, kg_lt_n, kg_le_n, kg_nz, kg_01_0, kg_01_1, kg_w0_1, kg_ret0, kg_ret1, kg_ret2, kg_wr_n, kg_wr_s, kg_Skd, kg_Smc, kg_Sob, kg_Srf, kg_Sld, kg_pad, List.map_cons, List.map_nil, List.length_cons, List.length_nil, List.replicate, List.cons_append, List.nil_append, List.append_nil, Nat.reduceAdd, Nat.reduceSub, Nat.reduceMul, Nat.reduceMod, Nat.reduceDiv, Nat.reduceLT, Nat.reduceLeDiff, Nat.reduceEqDiff, ne_eq, not_true_eq_false, not_false_eq_true, reduceIte, true_and, and_true, kl_ld, kl_kF, kl_sF]
        exact f0
    · have f0 := fin 0 (Or.inl rfl)
      generalize kf_up4 A.1 = y at lu hu ⊢
      simp (disch := omega) only [↓kb_0t, ↓kb_0f, ↓kb_1t, ↓kb_1f, ↓kb_2t, ↓kb_2f, ↓kb_3t, ↓kb_3f, ↓kb_4t, ↓kb_4f, ↓kb_5t, ↓kb_5f, ↓kg_S1, kg_S2, kg_br_T, kg_br_F, kg_br_N, kg_br_t, kg_br_f, ↓kg_at_n, nI_add, pk_mul, kg_sub_n, kg_rem_n, kg_eq_n, kg_lt_n, kg_le_n, kg_nz, kg_01_0, kg_01_1, kg_w0_1, kg_ret0, kg_ret1, kg_ret2, kg_wr_n, kg_wr_s, kg_Skd, kg_Smc, kg_Sob, kg_Srf, kg_Sld, kg_pad, List.map_cons, List.map_nil, List.length_cons, List.length_nil, List.replicate, List.cons_append, List.nil_append, List.append_nil, Nat.reduceAdd, Nat.reduceSub, Nat.reduceMul, Nat.reduceMod, Nat.reduceDiv, Nat.reduceLT, Nat.reduceLeDiff, Nat.reduceEqDiff, ne_eq, not_true_eq_false, not_false_eq_true, reduceIte, true_and, and_true, kl_ld, kl_kF, kl_sF]
      exact f0
  · have f0 := fin 0 (Or.inl rfl)
    have e3 : (A.1 3 = nI 4) = False := eq_false h3
    simp (disch := omega) only [↓kb_0t, ↓kb_0f, ↓kb_1t, ↓kb_1f, ↓kb_2t, ↓kb_2f, ↓kb_3t, ↓kb_3f, ↓kb_4t, ↓kb_4f, ↓kb_5t, ↓kb_5f, ↓kg_S1, kg_S2, kg_br_T, kg_br_F, kg_br_N, kg_br_t, kg_br_f, ↓kg_at_n, nI_add, pk_mul, kg_sub_n, kg_rem_n, kg_eq_n, kg_lt_n, kg_le_n, kg_nz, kg_01_0, kg_01_1, kg_w0_1, kg_ret0, kg_ret1, kg_ret2, kg_wr_n, kg_wr_s, kg_Skd, kg_Smc, kg_Sob, kg_Srf, kg_Sld, kg_pad, List.map_cons, List.map_nil, List.length_cons, List.length_nil, List.replicate, List.cons_append, List.nil_append, List.append_nil, Nat.reduceAdd, Nat.reduceSub, Nat.reduceMul, Nat.reduceMod, Nat.reduceDiv, Nat.reduceLT, Nat.reduceLeDiff, Nat.reduceEqDiff, ne_eq, not_true_eq_false, not_false_eq_true, reduceIte, true_and, and_true, kl_ld, kl_kF, kl_sF, e3]
    exact f0
set_option maxRecDepth 100000 in
theorem kl_e (hH : kl_H G X) (hL : G.2.2.2.2.2.1 < 2 ^ 31) (hS : kj_S c h M A) (hc : c < 1048576) (hn4 : n < 4) (he : e < 56)
    (hn : ∀ (A' : kf_A) (h' : Nat → Nat) (M' : kg_M) (x10 x11 : Option Value), kj_S c h' M' A' → kg_V G X 12 0 125 15 [some (.ref 1000), some (.ref 0), some (.ref 124), some (.int (nI (e + 1))), some (.int v), some (.int (nI n)), x6, x7, x8, x9, x10, x11] [] (kg_w0 h') M') :
    kg_V G X 12 0 125 154 [some (.ref 1000), some (.ref 0), some (.ref 124), some (.int (nI e)), some (.int v), some (.int (nI n)), x6, x7, x8, x9, x10, x11] [] (kg_w0 h) M := by
  have fin : ∀ (A' : kf_A) (h' : Nat → Nat) (M' : kg_M), kj_S c h' M' A' → kg_V G X 12 0 125 198 [some (.ref 1000), some (.ref 0), some (.ref 124), some (.int (nI e)), some (.int v), some (.int (nI n)), x6, x7, x8, x9, x10, x11] [] (kg_w0 h') M' :=
    fun A' h' M' q => kl_f hH hL q hc hn4 hn
  obtain ⟨a, ha, ea⟩ := kj_mk (v >>> (nI 9 &&& 31)) 3 (by omega)
  refine kl_go (cd := kl_cE) (sp := []) (f := 60) hH hL kl_okE ?_
  by_cases q : e % 3 = 2
  · simp (disch := omega) only [↓kb_0t, ↓kb_0f, ↓kb_1t, ↓kb_1f, ↓kb_2t, ↓kb_2f, ↓kb_3t, ↓kb_3f, ↓kb_4t, ↓kb_4f, ↓kb_5t, ↓kb_5f, ↓kg_S1, kg_S2, kg_br_T, kg_br_F, kg_br_N, kg_br_t, kg_br_f, ↓kg_at_n, nI_add, pk_mul, kg_sub_n, kg_rem_n, kg_eq_n, kg_lt_n, kg_le_n, kg_nz, kg_01_0, kg_01_1, kg_w0_1, kg_ret0, kg_ret1, kg_ret2, kg_wr_n, kg_wr_s, kg_Skd, kg_Smc, kg_Sob, kg_Srf, kg_Sld, kg_pad, List.map_cons, List.map_nil, List.length_cons, List.length_nil, List.replicate, List.cons_append, List.nil_append, List.append_nil, Nat.reduceAdd, Nat.reduceSub, Nat.reduceMul, Nat.reduceMod, Nat.reduceDiv, Nat.reduceLT, Nat.reduceLeDiff, Nat.reduceEqDiff, ne_eq, not_true_eq_false, not_false_eq_true, reduceIte, true_and, and_true, kl_ld, kl_kE, kl_sE, ea]
    refine kc89 hL (by omega) (by omega) (by omega) (fun y hy => ?_)
    simp (disch := omega) only [↓kb_0t, ↓kb_0f, ↓kb_1t, ↓kb_1f, ↓kb_2t, ↓kb_2f, ↓kb_3t, ↓kb_3f, ↓kb_4t, ↓kb_4f, ↓kb_5t, ↓kb_5f, ↓kg_S1, kg_S2, kg_br_T, kg_br_F, kg_br_N, kg_br_t, kg_br_f, ↓kg_at_n, nI_add, pk_mul, kg_sub_n, kg_rem_n, kg_eq_n, kg_lt_n, kg_le_n, kg_nz, kg_01_0, kg_01_1, kg_w0_1, kg_ret0, kg_ret1, kg_ret2, kg_wr_n, kg_wr_s, kg_Skd, kg_Smc, kg_Sob, kg_Srf, kg_Sld, kg_pad, List.map_cons, List.map_nil, List.length_cons, List.length_nil, List.replicate, List.cons_append, List.nil_append, List.append_nil, Nat.reduceAdd, Nat.reduceSub, Nat.reduceMul, Nat.reduceMod, Nat.reduceDiv, Nat.reduceLT, Nat.reduceLeDiff, Nat.reduceEqDiff, ne_eq, not_true_eq_false, not_false_eq_true, reduceIte, true_and, and_true, kl_ld, kl_kE, kl_sE]
    refine kc93 hL hS.1 hS.2.1 hS.2.2 hc (by omega) (Nat.mod_lt _ (by omega)) (by omega) (by omega) ?_
    intro A' h' M' q1 q2 q3
    simp (disch := omega) only [↓kb_0t, ↓kb_0f, ↓kb_1t, ↓kb_1f, ↓kb_2t, ↓kb_2f, ↓kb_3t, ↓kb_3f, ↓kb_4t, ↓kb_4f, ↓kb_5t, ↓kb_5f, ↓kg_S1, kg_S2, kg_br_T, kg_br_F, kg_br_N, kg_br_t, kg_br_f, ↓kg_at_n, nI_add, pk_mul, kg_sub_n, kg_rem_n, kg_eq_n, kg_lt_n, kg_le_n, kg_nz, kg_01_0, kg_01_1, kg_w0_1, kg_ret0, kg_ret1, kg_ret2, kg_wr_n, kg_wr_s, kg_Skd, kg_Smc, kg_Sob, kg_Srf, kg_Sld, kg_pad, List.map_cons, List.map_nil, List.length_cons, List.length_nil, List.replicate, List.cons_append, List.nil_append, List.append_nil, Nat.reduceAdd, Nat.reduceSub, Nat.reduceMul, Nat.reduceMod, Nat.reduceDiv, Nat.reduceLT, Nat.reduceLeDiff, Nat.reduceEqDiff, ne_eq, not_true_eq_false, not_false_eq_true, reduceIte, true_and, and_true, kl_ld, kl_kE, kl_sE]
    exact fin A' h' M' ⟨q1, q2, q3⟩
  · simp (disch := omega) only [↓kb_0t, ↓kb_0f, ↓kb_1t, ↓kb_1f, ↓kb_2t, ↓kb_2f, ↓kb_3t, ↓kb_3f, ↓kb_4t, ↓kb_4f, ↓kb_5t, ↓kb_5f, ↓kg_S1, kg_S2, kg_br_T, kg_br_F, kg_br_N, kg_br_t, kg_br_f, ↓kg_at_n, nI_add, pk_mul, kg_sub_n, kg_rem_n, kg_eq_n, kg_lt_n, kg_le_n, kg_nz, kg_01_0, kg_01_1, kg_w0_1, kg_ret0, kg_ret1, kg_ret2, kg_wr_n, kg_wr_s, kg_Skd, kg_Smc, kg_Sob, kg_Srf, kg_Sld, kg_pad, List.map_cons, List.map_nil, List.length_cons, List.length_nil, List.replicate, List.cons_append, List.nil_append, List.append_nil, Nat.reduceAdd, Nat.reduceSub, Nat.reduceMul, Nat.reduceMod, Nat.reduceDiv, Nat.reduceLT, Nat.reduceLeDiff, Nat.reduceEqDiff, ne_eq, not_true_eq_false, not_false_eq_true, reduceIte, true_and, and_true, kl_ld, kl_kE, kl_sE]
    exact fin A h M hS
set_option maxRecDepth 100000 in
theorem kl_d (hH : kl_H G X) (hL : G.2.2.2.2.2.1 < 2 ^ 31) (hS : kj_S c h M A) (hc : c < 1048576) (hn4 : n < 4) (he : e < 56)
    (hn : ∀ (A' : kf_A) (h' : Nat → Nat) (M' : kg_M) (x10 x11 : Option Value), kj_S c h' M' A' → kg_V G X 12 0 125 15 [some (.ref 1000), some (.ref 0), some (.ref 124), some (.int (nI (e + 1))), some (.int v), some (.int (nI n)), x6, x7, x8, x9, x10, x11] [] (kg_w0 h') M') :
    kg_V G X 12 0 125 130 [some (.ref 1000), some (.ref 0), some (.ref 124), some (.int (nI e)), some (.int v), some (.int (nI n)), x6, x7, x8, x9, x10, x11] [] (kg_w0 h) M := by
  refine kl_go (cd := kl_cD) (sp := []) (f := 60) hH hL kl_okD ?_
  simp (disch := omega) only [↓kb_0t, ↓kb_0f, ↓kb_1t, ↓kb_1f, ↓kb_2t, ↓kb_2f, ↓kb_3t, ↓kb_3f, ↓kb_4t, ↓kb_4f, ↓kb_5t, ↓kb_5f, ↓kg_S1, kg_S2, kg_br_T, kg_br_F, kg_br_N, kg_br_t, kg_br_f, ↓kg_at_n, nI_add, pk_mul, kg_sub_n, kg_rem_n, kg_eq_n, kg_lt_n, kg_le_n, kg_nz, kg_01_0, kg_01_1, kg_w0_1, kg_ret0, kg_ret1, kg_ret2, kg_wr_n, kg_wr_s, kg_Skd, kg_Smc, kg_Sob, kg_Srf, kg_Sld, kg_pad, List.map_cons, List.map_nil, List.length_cons, List.length_nil, List.replicate, List.cons_append, List.nil_append, List.append_nil, Nat.reduceAdd, Nat.reduceSub, Nat.reduceMul, Nat.reduceMod, Nat.reduceDiv, Nat.reduceLT, Nat.reduceLeDiff, Nat.reduceEqDiff, ne_eq, not_true_eq_false, not_false_eq_true, reduceIte, true_and, and_true, kl_ld, kl_kD, kl_sD]
  refine kc92 hL hS.1 hS.2.1 hS.2.2 hc (by omega) ?_
  simp (disch := omega) only [↓kb_0t, ↓kb_0f, ↓kb_1t, ↓kb_1f, ↓kb_2t, ↓kb_2f, ↓kb_3t, ↓kb_3f, ↓kb_4t, ↓kb_4f, ↓kb_5t, ↓kb_5f, ↓kg_S1, kg_S2, kg_br_T, kg_br_F, kg_br_N, kg_br_t, kg_br_f, ↓kg_at_n, nI_add, pk_mul, kg_sub_n, kg_rem_n, kg_eq_n, kg_lt_n, kg_le_n, kg_nz, kg_01_0, kg_01_1, kg_w0_1, kg_ret0, kg_ret1, kg_ret2, kg_wr_n, kg_wr_s, kg_Skd, kg_Smc, kg_Sob, kg_Srf, kg_Sld, kg_pad, List.map_cons, List.map_nil, List.length_cons, List.length_nil, List.replicate, List.cons_append, List.nil_append, List.append_nil, Nat.reduceAdd, Nat.reduceSub, Nat.reduceMul, Nat.reduceMod, Nat.reduceDiv, Nat.reduceLT, Nat.reduceLeDiff, Nat.reduceEqDiff, ne_eq, not_true_eq_false, not_false_eq_true, reduceIte, true_and, and_true, kl_ld, kl_kD, kl_sD]
  refine kc94 hL hS.1 hS.2.1 hc (by omega) ?_
  simp (disch := omega) only [↓kb_0t, ↓kb_0f, ↓kb_1t, ↓kb_1f, ↓kb_2t, ↓kb_2f, ↓kb_3t, ↓kb_3f, ↓kb_4t, ↓kb_4f, ↓kb_5t, ↓kb_5f, ↓kg_S1, kg_S2, kg_br_T, kg_br_F, kg_br_N, kg_br_t, kg_br_f, ↓kg_at_n, nI_add, pk_mul, kg_sub_n, kg_rem_n, kg_eq_n, kg_lt_n, kg_le_n, kg_nz, kg_01_0, kg_01_1, kg_w0_1, kg_ret0, kg_ret1, kg_ret2, kg_wr_n, kg_wr_s, kg_Skd, kg_Smc, kg_Sob, kg_Srf, kg_Sld, kg_pad, List.map_cons, List.map_nil, List.length_cons, List.length_nil, List.replicate, List.cons_append, List.nil_append, List.append_nil, Nat.reduceAdd, Nat.reduceSub, Nat.reduceMul, Nat.reduceMod, Nat.reduceDiv, Nat.reduceLT, Nat.reduceLeDiff, Nat.reduceEqDiff, ne_eq, not_true_eq_false, not_false_eq_true, reduceIte, true_and, and_true, kl_ld, kl_kD, kl_sD]
  refine kc95 hL hS.1 (by omega) ?_
  simp (disch := omega) only [↓kb_0t, ↓kb_0f, ↓kb_1t, ↓kb_1f, ↓kb_2t, ↓kb_2f, ↓kb_3t, ↓kb_3f, ↓kb_4t, ↓kb_4f, ↓kb_5t, ↓kb_5f, ↓kg_S1, kg_S2, kg_br_T, kg_br_F, kg_br_N, kg_br_t, kg_br_f, ↓kg_at_n, nI_add, pk_mul, kg_sub_n, kg_rem_n, kg_eq_n, kg_lt_n, kg_le_n, kg_nz, kg_01_0, kg_01_1, kg_w0_1, kg_ret0, kg_ret1, kg_ret2, kg_wr_n, kg_wr_s, kg_Skd, kg_Smc, kg_Sob, kg_Srf, kg_Sld, kg_pad, List.map_cons, List.map_nil, List.length_cons, List.length_nil, List.replicate, List.cons_append, List.nil_append, List.append_nil, Nat.reduceAdd, Nat.reduceSub, Nat.reduceMul, Nat.reduceMod, Nat.reduceDiv, Nat.reduceLT, Nat.reduceLeDiff, Nat.reduceEqDiff, ne_eq, not_true_eq_false, not_false_eq_true, reduceIte, true_and, and_true, kl_ld, kl_kD, kl_sD]
  exact kl_e hH hL hS hc hn4 he hn
set_option maxRecDepth 100000 in
theorem kl_c (hH : kl_H G X) (hL : G.2.2.2.2.2.1 < 2 ^ 31) {tc gr up : Nat} {o : Int32} (hS : kj_S c h M A) (hc : c < 1048576) (hn4 : n < 4) (he : e < 56) (hup : up = 0 ∨ up = 1) (htg : tc ≤ gr) (hg : gr ≤ 8)
    (hz : v &&& nI 15 = nI 6 → up = 1 → o = (if tc = 0 then kg_n 5 else nI tc) ∧ kf_ct (fun k => decide (kf_w A.1 n k = nI 2)) 8 = gr - tc)
    (hn : ∀ (A' : kf_A) (h' : Nat → Nat) (M' : kg_M) (x4 x5 x6 x7 x8 x9 x10 x11 : Option Value), kj_S c h' M' A' → kg_V G X 12 0 125 15 [some (.ref 1000), some (.ref 0), some (.ref 124), some (.int (nI (e + 1))), x4, x5, x6, x7, x8, x9, x10, x11] [] (kg_w0 h') M') :
    kg_V G X 12 0 125 81 [some (.ref 1000), some (.ref 0), some (.ref 124), some (.int (nI e)), some (.int v), some (.int (nI n)), some (.int (nI tc)), some (.int (nI gr)), some (.int (nI up)), some (.int o), x10, x11] [] (kg_w0 h) M := by
  have fin := kl_d (x6 := some (.int (nI tc))) (x7 := some (.int (nI gr))) (x8 := some (.int (nI up))) (x9 := some (.int o)) (x10 := x10) (x11 := x11) (v := v) (n := n) hH hL hS hc hn4 he (fun A' h' M' x10 x11 q => hn A' h' M' _ _ _ _ _ _ x10 x11 q)
  obtain ⟨z, hz15, ez⟩ := kj_mk v 15 (by omega)
  refine kl_go (cd := kl_cC) (sp := []) (f := 60) hH hL kl_okC ?_
  by_cases q : z = 6
  · rw [q] at ez
    have hz := hz ez
    rcases hup with rfl | rfl
    · simp (disch := omega) only [↓kb_0t, ↓kb_0f, ↓kb_1t, ↓kb_1f, ↓kb_2t, ↓kb_2f, ↓kb_3t, ↓kb_3f, ↓kb_4t, ↓kb_4f, ↓kb_5t, ↓kb_5f, ↓kg_S1, kg_S2, kg_br_T, kg_br_F, kg_br_N, kg_br_t, kg_br_f, ↓kg_at_n, nI_add, pk_mul, kg_sub_n, kg_rem_n, kg_eq_n, kg_lt_n, kg_le_n, kg_nz, kg_01_0, kg_01_1, kg_w0_1, kg_ret0, kg_ret1, kg_ret2, kg_wr_n, kg_wr_s, kg_Skd, kg_Smc, kg_Sob, kg_Srf, kg_Sld, kg_pad, List.map_cons, List.map_nil, List.length_cons, List.length_nil, List.replicate, List.cons_append, List.nil_append, List.append_nil, Nat.reduceAdd, Nat.reduceSub, Nat.reduceMul, Nat.reduceMod, Nat.reduceDiv, Nat.reduceLT, Nat.reduceLeDiff, Nat.reduceEqDiff, ne_eq, not_true_eq_false, not_false_eq_true, reduceIte, true_and, and_true, kl_ld, kl_kC, kl_sC, ez]
      exact fin
    · obtain ⟨h1, h2⟩ := hz rfl
      by_cases t : tc = 0
      · rw [if_pos t] at h1
        subst h1; subst t
        simp (disch := omega) only [↓kb_0t, ↓kb_0f, ↓kb_1t, ↓kb_1f, ↓kb_2t, ↓kb_2f, ↓kb_3t, ↓kb_3f, ↓kb_4t, ↓kb_4f, ↓kb_5t, ↓kb_5f, ↓kg_S1, kg_S2, kg_br_T, kg_br_F, kg_br_N, kg_br_t, kg_br_f, ↓kg_at_n, nI_add, pk_mul, kg_sub_n, kg_rem_n, kg_eq_n, kg_lt_n, kg_le_n, kg_nz, kg_01_0, kg_01_1, kg_w0_1, kg_ret0, kg_ret1, kg_ret2, kg_wr_n, kg_wr_s, kg_Skd, kg_Smc, kg_Sob, kg_Srf, kg_Sld, kg_pad, List.map_cons, List.map_nil, List.length_cons, List.length_nil, List.replicate, List.cons_append, List.nil_append, List.append_nil, Nat.reduceAdd, Nat.reduceSub, Nat.reduceMul, Nat.reduceMod, Nat.reduceDiv, Nat.reduceLT, Nat.reduceLeDiff, Nat.reduceEqDiff, ne_eq, not_true_eq_false, not_false_eq_true, reduceIte, true_and, and_true, kl_ld, kl_kC, kl_sC, ez, eq_self]
        refine kc80 hL hS.1 (by omega) ?_
        rw [kj_n2 hn4, h2]
        simp (disch := omega) only [↓kb_0t, ↓kb_0f, ↓kb_1t, ↓kb_1f, ↓kb_2t, ↓kb_2f, ↓kb_3t, ↓kb_3f, ↓kb_4t, ↓kb_4f, ↓kb_5t, ↓kb_5f, ↓kg_S1, kg_S2, kg_br_T, kg_br_F, kg_br_N, kg_br_t, kg_br_f, ↓kg_at_n, nI_add, pk_mul, kg_sub_n, kg_rem_n, kg_eq_n, kg_lt_n, kg_le_n, kg_nz, kg_01_0, kg_01_1, kg_w0_1, kg_ret0, kg_ret1, kg_ret2, kg_wr_n, kg_wr_s, kg_Skd, kg_Smc, kg_Sob, kg_Srf, kg_Sld, kg_pad, List.map_cons, List.map_nil, List.length_cons, List.length_nil, List.replicate, List.cons_append, List.nil_append, List.append_nil, Nat.reduceAdd, Nat.reduceSub, Nat.reduceMul, Nat.reduceMod, Nat.reduceDiv, Nat.reduceLT, Nat.reduceLeDiff, Nat.reduceEqDiff, ne_eq, not_true_eq_false, not_false_eq_true, reduceIte, true_and, and_true, kl_ld, kl_kC, kl_sC, eq_self]
        exact fin
      · rw [if_neg t] at h1
        subst h1
        simp (disch := omega) only [↓kb_0t, ↓kb_0f, ↓kb_1t, ↓kb_1f, ↓kb_2t, ↓kb_2f, ↓kb_3t, ↓kb_3f, ↓kb_4t, ↓kb_4f, ↓kb_5t, ↓kb_5f, ↓kg_S1, kg_S2, kg_br_T, kg_br_F, kg_br_N, kg_br_t, kg_br_f, ↓kg_at_n, nI_add, pk_mul, kg_sub_n, kg_rem_n, kg_eq_n, kg_lt_n, kg_le_n, kg_nz, kg_01_0, kg_01_1, kg_w0_1, kg_ret0, kg_ret1, kg_ret2, kg_wr_n, kg_wr_s, kg_Skd, kg_Smc, kg_Sob, kg_Srf, kg_Sld, kg_pad, List.map_cons, List.map_nil, List.length_cons, List.length_nil, List.replicate, List.cons_append, List.nil_append, List.append_nil, Nat.reduceAdd, Nat.reduceSub, Nat.reduceMul, Nat.reduceMod, Nat.reduceDiv, Nat.reduceLT, Nat.reduceLeDiff, Nat.reduceEqDiff, ne_eq, not_true_eq_false, not_false_eq_true, reduceIte, true_and, and_true, kl_ld, kl_kC, kl_sC, ez, eq_self]
        refine kc80 hL hS.1 (by omega) ?_
        rw [kj_n2 hn4, h2]
        simp (disch := omega) only [↓kb_0t, ↓kb_0f, ↓kb_1t, ↓kb_1f, ↓kb_2t, ↓kb_2f, ↓kb_3t, ↓kb_3f, ↓kb_4t, ↓kb_4f, ↓kb_5t, ↓kb_5f, ↓kg_S1, kg_S2, kg_br_T, kg_br_F, kg_br_N, kg_br_t, kg_br_f, ↓kg_at_n, nI_add, pk_mul, kg_sub_n, kg_rem_n, kg_eq_n, kg_lt_n, kg_le_n, kg_nz, kg_01_0, kg_01_1, kg_w0_1, kg_ret0, kg_ret1, kg_ret2, kg_wr_n, kg_wr_s, kg_Skd, kg_Smc, kg_Sob, kg_Srf, kg_Sld, kg_pad, List.map_cons, List.map_nil, List.length_cons, List.length_nil, List.replicate, List.cons_append, List.nil_append, List.append_nil, Nat.reduceAdd, Nat.reduceSub, Nat.reduceMul, Nat.reduceMod, Nat.reduceDiv, Nat.reduceLT, Nat.reduceLeDiff, Nat.reduceEqDiff, ne_eq, not_true_eq_false, not_false_eq_true, reduceIte, true_and, and_true, kl_ld, kl_kC, kl_sC, eq_self]
        exact fin
  · simp (disch := omega) only [↓kb_0t, ↓kb_0f, ↓kb_1t, ↓kb_1f, ↓kb_2t, ↓kb_2f, ↓kb_3t, ↓kb_3f, ↓kb_4t, ↓kb_4f, ↓kb_5t, ↓kb_5f, ↓kg_S1, kg_S2, kg_br_T, kg_br_F, kg_br_N, kg_br_t, kg_br_f, ↓kg_at_n, nI_add, pk_mul, kg_sub_n, kg_rem_n, kg_eq_n, kg_lt_n, kg_le_n, kg_nz, kg_01_0, kg_01_1, kg_w0_1, kg_ret0, kg_ret1, kg_ret2, kg_wr_n, kg_wr_s, kg_Skd, kg_Smc, kg_Sob, kg_Srf, kg_Sld, kg_pad, List.map_cons, List.map_nil, List.length_cons, List.length_nil, List.replicate, List.cons_append, List.nil_append, List.append_nil, Nat.reduceAdd, Nat.reduceSub, Nat.reduceMul, Nat.reduceMod, Nat.reduceDiv, Nat.reduceLT, Nat.reduceLeDiff, Nat.reduceEqDiff, ne_eq, not_true_eq_false, not_false_eq_true, reduceIte, true_and, and_true, kl_ld, kl_kC, kl_sC, ez]
    exact fin
set_option maxRecDepth 100000 in
theorem kl_loop (hH : kl_H G X) (hL : G.2.2.2.2.2.1 < 2 ^ 31) : ∀ (z e c : Nat) (h : Nat → Nat) (M : kg_M) (A : kf_A) (x4 x5 x6 x7 x8 x9 x10 x11 : Option Value), e + z = 56 → c ≤ e → kj_S c h M A → kg_V G X 12 0 125 15 [some (.ref 1000), some (.ref 0), some (.ref 124), some (.int (nI e)), x4, x5, x6, x7, x8, x9, x10, x11] [] (kg_w0 h) M := by
  intro z
  induction z with
  | zero =>
    intro e c h M A x4 x5 x6 x7 x8 x9 x10 x11 hz hce hS
    obtain rfl : e = 56 := by omega
    refine kl_go (cd := kl_cB) (sp := []) (f := 60) hH hL kl_okB ?_
    simp (disch := omega) only [↓kb_0t, ↓kb_0f, ↓kb_1t, ↓kb_1f, ↓kb_2t, ↓kb_2f, ↓kb_3t, ↓kb_3f, ↓kb_4t, ↓kb_4f, ↓kb_5t, ↓kb_5f, ↓kg_S1, kg_S2, kg_br_T, kg_br_F, kg_br_N, kg_br_t, kg_br_f, ↓kg_at_n, nI_add, pk_mul, kg_sub_n, kg_rem_n, kg_eq_n, kg_lt_n, kg_le_n, kg_nz, kg_01_0, kg_01_1, kg_w0_1, kg_ret0, kg_ret1, kg_ret2, kg_wr_n, kg_wr_s, kg_Skd, kg_Smc, kg_Sob, kg_Srf, kg_Sld, kg_pad, List.map_cons, List.map_nil, List.length_cons, List.length_nil, List.replicate, List.cons_append, List.nil_append, List.append_nil, Nat.reduceAdd, Nat.reduceSub, Nat.reduceMul, Nat.reduceMod, Nat.reduceDiv, Nat.reduceLT, Nat.reduceLeDiff, Nat.reduceEqDiff, ne_eq, not_true_eq_false, not_false_eq_true, reduceIte, true_and, and_true, kl_ld, kl_kB, kl_sB]
    exact rfl
  | succ z ih =>
    intro e c h M A x4 x5 x6 x7 x8 x9 x10 x11 hz hce hS
    have hC := hS.1
    refine kl_go (cd := kl_cB) (sp := []) (f := 60) hH hL kl_okB ?_
    simp (disch := omega) only [↓kb_0t, ↓kb_0f, ↓kb_1t, ↓kb_1f, ↓kb_2t, ↓kb_2f, ↓kb_3t, ↓kb_3f, ↓kb_4t, ↓kb_4f, ↓kb_5t, ↓kb_5f, ↓kg_S1, kg_S2, kg_br_T, kg_br_F, kg_br_N, kg_br_t, kg_br_f, ↓kg_at_n, nI_add, pk_mul, kg_sub_n, kg_rem_n, kg_eq_n, kg_lt_n, kg_le_n, kg_nz, kg_01_0, kg_01_1, kg_w0_1, kg_ret0, kg_ret1, kg_ret2, kg_wr_n, kg_wr_s, kg_Skd, kg_Smc, kg_Sob, kg_Srf, kg_Sld, kg_pad, List.map_cons, List.map_nil, List.length_cons, List.length_nil, List.replicate, List.cons_append, List.nil_append, List.append_nil, Nat.reduceAdd, Nat.reduceSub, Nat.reduceMul, Nat.reduceMod, Nat.reduceDiv, Nat.reduceLT, Nat.reduceLeDiff, Nat.reduceEqDiff, ne_eq, not_true_eq_false, not_false_eq_true, reduceIte, true_and, and_true, kl_ld, kl_kB, kl_sB]
    refine kc88 hL (by omega) (by omega) (fun v => ?_)
    obtain ⟨n, hn4, en⟩ := kj_mk (v >>> (nI 4 &&& 31)) 3 (by omega)
    have m1 : kf_ct (fun k => kf_cl A.1 n k) 8 ≤ kf_ct (fun k => decide (kf_w A.1 n k = nI 2)) 8 := kj_ct_m (fun i hi q => by unfold kf_cl kf_rp kf_gr at q; simp only [Bool.and_eq_true] at q; exact q.1.1)
    have m2 := kf_ct_le (fun k => decide (kf_w A.1 n k = nI 2)) 8
    simp (disch := omega) only [↓kb_0t, ↓kb_0f, ↓kb_1t, ↓kb_1f, ↓kb_2t, ↓kb_2f, ↓kb_3t, ↓kb_3f, ↓kb_4t, ↓kb_4f, ↓kb_5t, ↓kb_5f, ↓kg_S1, kg_S2, kg_br_T, kg_br_F, kg_br_N, kg_br_t, kg_br_f, ↓kg_at_n, nI_add, pk_mul, kg_sub_n, kg_rem_n, kg_eq_n, kg_lt_n, kg_le_n, kg_nz, kg_01_0, kg_01_1, kg_w0_1, kg_ret0, kg_ret1, kg_ret2, kg_wr_n, kg_wr_s, kg_Skd, kg_Smc, kg_Sob, kg_Srf, kg_Sld, kg_pad, List.map_cons, List.map_nil, List.length_cons, List.length_nil, List.replicate, List.cons_append, List.nil_append, List.append_nil, Nat.reduceAdd, Nat.reduceSub, Nat.reduceMul, Nat.reduceMod, Nat.reduceDiv, Nat.reduceLT, Nat.reduceLeDiff, Nat.reduceEqDiff, ne_eq, not_true_eq_false, not_false_eq_true, reduceIte, true_and, and_true, kl_ld, kl_kB, kl_sB, en]
    refine kc80 hL hC (by omega) ?_
    rw [kj_n4 (by omega)]
    simp (disch := omega) only [↓kb_0t, ↓kb_0f, ↓kb_1t, ↓kb_1f, ↓kb_2t, ↓kb_2f, ↓kb_3t, ↓kb_3f, ↓kb_4t, ↓kb_4f, ↓kb_5t, ↓kb_5f, ↓kg_S1, kg_S2, kg_br_T, kg_br_F, kg_br_N, kg_br_t, kg_br_f, ↓kg_at_n, nI_add, pk_mul, kg_sub_n, kg_rem_n, kg_eq_n, kg_lt_n, kg_le_n, kg_nz, kg_01_0, kg_01_1, kg_w0_1, kg_ret0, kg_ret1, kg_ret2, kg_wr_n, kg_wr_s, kg_Skd, kg_Smc, kg_Sob, kg_Srf, kg_Sld, kg_pad, List.map_cons, List.map_nil, List.length_cons, List.length_nil, List.replicate, List.cons_append, List.nil_append, List.append_nil, Nat.reduceAdd, Nat.reduceSub, Nat.reduceMul, Nat.reduceMod, Nat.reduceDiv, Nat.reduceLT, Nat.reduceLeDiff, Nat.reduceEqDiff, ne_eq, not_true_eq_false, not_false_eq_true, reduceIte, true_and, and_true, kl_ld, kl_kB, kl_sB]
    refine kc80 hL hC (by omega) ?_
    rw [kj_n2 (by omega)]
    simp (disch := omega) only [↓kb_0t, ↓kb_0f, ↓kb_1t, ↓kb_1f, ↓kb_2t, ↓kb_2f, ↓kb_3t, ↓kb_3f, ↓kb_4t, ↓kb_4f, ↓kb_5t, ↓kb_5f, ↓kg_S1, kg_S2, kg_br_T, kg_br_F, kg_br_N, kg_br_t, kg_br_f, ↓kg_at_n, nI_add, pk_mul, kg_sub_n, kg_rem_n, kg_eq_n, kg_lt_n, kg_le_n, kg_nz, kg_01_0, kg_01_1, kg_w0_1, kg_ret0, kg_ret1, kg_ret2, kg_wr_n, kg_wr_s, kg_Skd, kg_Smc, kg_Sob, kg_Srf, kg_Sld, kg_pad, List.map_cons, List.map_nil, List.length_cons, List.length_nil, List.replicate, List.cons_append, List.nil_append, List.append_nil, Nat.reduceAdd, Nat.reduceSub, Nat.reduceMul, Nat.reduceMod, Nat.reduceDiv, Nat.reduceLT, Nat.reduceLeDiff, Nat.reduceEqDiff, ne_eq, not_true_eq_false, not_false_eq_true, reduceIte, true_and, and_true, kl_ld, kl_kB, kl_sB]
    refine kc80 hL hC (by omega) ?_
    rw [kj_n0 (by omega)]
    have step : ∀ up : Nat, (up = 0 ∨ up = 1) → (up = 1 → A.1 (7 + n) = nI 1) → ∀ (o : Int32) (A' : kf_A) (h' : Nat → Nat) (M' : kg_M), kf_C (c + 1) h' M' A' → kj_J A'.1 → (∀ k, k < 8 → M' 124 k = kf_s A'.1 4 k) → (v &&& nI 15 = nI 6 → ∀ n, n < 4 → v >>> (nI 4 &&& 31) &&& nI 3 = nI n → kf_clr A (nI n) = (o, A')) →
        kg_V G X 12 0 125 81 [some (.ref 1000), some (.ref 0), some (.ref 124), some (.int (nI e)), some (.int v), some (.int (nI n)), some (.int (nI (kf_ct (fun k => kf_cl A.1 n k) 8))), some (.int (nI (kf_ct (fun k => decide (kf_w A.1 n k = nI 2)) 8))), some (.int (nI up)), some (.int o), x10, x11] [] (kg_w0 h') M' := by
      intro up hup hu o A' h' M' q1 q2 q3 q4
      exact kl_c hH hL ⟨q1, q2, q3⟩ (by omega) (by omega) (by omega) hup m1 m2 (fun e6 e7 => kj_clr1 (by omega) (hu e7) (q4 e6 n (by omega) en)) (fun A' h' M' x4 x5 x6 x7 x8 x9 x10 x11 q => ih (e + 1) (c + 1) h' M' A' x4 x5 x6 x7 x8 x9 x10 x11 (by omega) (by omega) q)
    rcases (kj_I hC).2.2.2.2.2.2.2.1 n (by omega) with q | q
    · rw [q]
      simp (disch := omega) only [↓kb_0t, ↓kb_0f, ↓kb_1t, ↓kb_1f, ↓kb_2t, ↓kb_2f, ↓kb_3t, ↓kb_3f, ↓kb_4t, ↓kb_4f, ↓kb_5t, ↓kb_5f, ↓kg_S1, kg_S2, kg_br_T, kg_br_F, kg_br_N, kg_br_t, kg_br_f, ↓kg_at_n, nI_add, pk_mul, kg_sub_n, kg_rem_n, kg_eq_n, kg_lt_n, kg_le_n, kg_nz, kg_01_0, kg_01_1, kg_w0_1, kg_ret0, kg_ret1, kg_ret2, kg_wr_n, kg_wr_s, kg_Skd, kg_Smc, kg_Sob, kg_Srf, kg_Sld, kg_pad, List.map_cons, List.map_nil, List.length_cons, List.length_nil, List.replicate, List.cons_append, List.nil_append, List.append_nil, Nat.reduceAdd, Nat.reduceSub, Nat.reduceMul, Nat.reduceMod, Nat.reduceDiv, Nat.reduceLT, Nat.reduceLeDiff, Nat.reduceEqDiff, ne_eq, not_true_eq_false, not_false_eq_true, reduceIte, true_and, and_true, kl_ld, kl_kB, kl_sB, en]
      refine kc91 hL hC hS.2.1 hS.2.2 (by omega) (by omega) ?_
      intro o A' h' M' q1 q2 q3 q4
      simp (disch := omega) only [↓kb_0t, ↓kb_0f, ↓kb_1t, ↓kb_1f, ↓kb_2t, ↓kb_2f, ↓kb_3t, ↓kb_3f, ↓kb_4t, ↓kb_4f, ↓kb_5t, ↓kb_5f, ↓kg_S1, kg_S2, kg_br_T, kg_br_F, kg_br_N, kg_br_t, kg_br_f, ↓kg_at_n, nI_add, pk_mul, kg_sub_n, kg_rem_n, kg_eq_n, kg_lt_n, kg_le_n, kg_nz, kg_01_0, kg_01_1, kg_w0_1, kg_ret0, kg_ret1, kg_ret2, kg_wr_n, kg_wr_s, kg_Skd, kg_Smc, kg_Sob, kg_Srf, kg_Sld, kg_pad, List.map_cons, List.map_nil, List.length_cons, List.length_nil, List.replicate, List.cons_append, List.nil_append, List.append_nil, Nat.reduceAdd, Nat.reduceSub, Nat.reduceMul, Nat.reduceMod, Nat.reduceDiv, Nat.reduceLT, Nat.reduceLeDiff, Nat.reduceEqDiff, ne_eq, not_true_eq_false, not_false_eq_true, reduceIte, true_and, and_true, kl_ld, kl_kB, kl_sB]
      exact step 0 (Or.inl rfl) (fun z => absurd z (by omega)) o A' h' M' q1 q2 q3 q4
    · rw [q]
      simp (disch := omega) only [↓kb_0t, ↓kb_0f, ↓kb_1t, ↓kb_1f, ↓kb_2t, ↓kb_2f, ↓kb_3t, ↓kb_3f, ↓kb_4t, ↓kb_4f, ↓kb_5t, ↓kb_5f, ↓kg_S1, kg_S2, kg_br_T, kg_br_F, kg_br_N, kg_br_t, kg_br_f, ↓kg_at_n, nI_add, pk_mul, kg_sub_n, kg_rem_n, kg_eq_n, kg_lt_n, kg_le_n, kg_nz, kg_01_0, kg_01_1, kg_w0_1, kg_ret0, kg_ret1, kg_ret2, kg_wr_n, kg_wr_s, kg_Skd, kg_Smc, kg_Sob, kg_Srf, kg_Sld, kg_pad, List.map_cons, List.map_nil, List.length_cons, List.length_nil, List.replicate, List.cons_append, List.nil_append, List.append_nil, Nat.reduceAdd, Nat.reduceSub, Nat.reduceMul, Nat.reduceMod, Nat.reduceDiv, Nat.reduceLT, Nat.reduceLeDiff, Nat.reduceEqDiff, ne_eq, not_true_eq_false, not_false_eq_true, reduceIte, true_and, and_true, kl_ld, kl_kB, kl_sB, en, eq_self]
      refine kc91 hL hC hS.2.1 hS.2.2 (by omega) (by omega) ?_
      intro o A' h' M' q1 q2 q3 q4
      simp (disch := omega) only [↓kb_0t, ↓kb_0f, ↓kb_1t, ↓kb_1f, ↓kb_2t, ↓kb_2f, ↓kb_3t, ↓kb_3f, ↓kb_4t, ↓kb_4f, ↓kb_5t, ↓kb_5f, ↓kg_S1, kg_S2, kg_br_T, kg_br_F, kg_br_N, kg_br_t, kg_br_f, ↓kg_at_n, nI_add, pk_mul, kg_sub_n, kg_rem_n, kg_eq_n, kg_lt_n, kg_le_n, kg_nz, kg_01_0, kg_01_1, kg_w0_1, kg_ret0, kg_ret1, kg_ret2, kg_wr_n, kg_wr_s, kg_Skd, kg_Smc, kg_Sob, kg_Srf, kg_Sld, kg_pad, List.map_cons, List.map_nil, List.length_cons, List.length_nil, List.replicate, List.cons_append, List.nil_append, List.append_nil, Nat.reduceAdd, Nat.reduceSub, Nat.reduceMul, Nat.reduceMod, Nat.reduceDiv, Nat.reduceLT, Nat.reduceLeDiff, Nat.reduceEqDiff, ne_eq, not_true_eq_false, not_false_eq_true, reduceIte, true_and, and_true, kl_ld, kl_kB, kl_sB]
      exact step 1 (Or.inr rfl) (fun _ => q) o A' h' M' q1 q2 q3 q4
set_option maxRecDepth 100000 in
theorem kl_start (hH : kl_H G X) (hL : G.2.2.2.2.2.1 < 2 ^ 31) : kg_V G X 12 0 125 0 [some (.ref 1000), none, none, none, none, none, none, none, none, none, none, none] [] (0, fun _ _ => 0) (fun _ _ => 0) := by
  refine kl_go (cd := kl_cH) (sp := []) (f := 40) hH hL kl_okH ?_
  simp (disch := omega) only [↓kb_0t, ↓kb_0f, ↓kb_1t, ↓kb_1f, ↓kb_2t, ↓kb_2f, ↓kb_3t, ↓kb_3f, ↓kb_4t, ↓kb_4f, ↓kb_5t, ↓kb_5f, ↓kg_S1, kg_S2, kg_br_T, kg_br_F, kg_br_N, kg_br_t, kg_br_f, ↓kg_at_n, nI_add, pk_mul, kg_sub_n, kg_rem_n, kg_eq_n, kg_lt_n, kg_le_n, kg_nz, kg_01_0, kg_01_1, kg_w0_1, kg_ret0, kg_ret1, kg_ret2, kg_wr_n, kg_wr_s, kg_Skd, kg_Smc, kg_Sob, kg_Srf, kg_Sld, kg_pad, List.map_cons, List.map_nil, List.length_cons, List.length_nil, List.replicate, List.cons_append, List.nil_append, List.append_nil, Nat.reduceAdd, Nat.reduceSub, Nat.reduceMul, Nat.reduceMod, Nat.reduceDiv, Nat.reduceLT, Nat.reduceLeDiff, Nat.reduceEqDiff, ne_eq, not_true_eq_false, not_false_eq_true, reduceIte, true_and, and_true, kl_ld, kl_kH, kl_sH, kx_new, kg_obj, eq_self]
  refine kg_call_up (kc56 hL (by omega) ?_) (by omega)
  intro R1 M1 a1 a2 a3 a4 a5 a6
  simp (disch := omega) only [↓kb_0t, ↓kb_0f, ↓kb_1t, ↓kb_1f, ↓kb_2t, ↓kb_2f, ↓kb_3t, ↓kb_3f, ↓kb_4t, ↓kb_4f, ↓kb_5t, ↓kb_5f, ↓kg_S1, kg_S2, kg_br_T, kg_br_F, kg_br_N, kg_br_t, kg_br_f, ↓kg_at_n, nI_add, pk_mul, kg_sub_n, kg_rem_n, kg_eq_n, kg_lt_n, kg_le_n, kg_nz, kg_01_0, kg_01_1, kg_w0_1, kg_ret0, kg_ret1, kg_ret2, kg_wr_n, kg_wr_s, kg_Skd, kg_Smc, kg_Sob, kg_Srf, kg_Sld, kg_pad, List.map_cons, List.map_nil, List.length_cons, List.length_nil, List.replicate, List.cons_append, List.nil_append, List.append_nil, Nat.reduceAdd, Nat.reduceSub, Nat.reduceMul, Nat.reduceMod, Nat.reduceDiv, Nat.reduceLT, Nat.reduceLeDiff, Nat.reduceEqDiff, ne_eq, not_true_eq_false, not_false_eq_true, reduceIte, true_and, and_true, kl_ld, kl_kH, kl_sH, kx_new, kg_obj, eq_self]
  rw [kx_ww a1 (fun p hp => (a2 p (by omega)).1)]
  exact kl_loop hH hL 56 0 0 kx_h0 _ kx_A0 _ _ _ _ _ _ _ _ rfl (Nat.le_refl _) (kj_S0 a3 a4 a5 a6)
end
