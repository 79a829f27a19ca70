/-! the model's text: go and readPlan -/
section
variable {G : kg_G} {d c : Nat} {h : Nat → Nat} {A : kf_A} {M M0 : kg_M} {K : kg_Qt} {r r0 : Nat → Int32} {x : Nat → Nat} {L : Nat}

theorem kf_da_4 {a : Nat} (h0 : (kf_da x r0 a).2.2.1 = 0) (h1 : kf_dig (x a) = true) (h2 : x (a + 1) = 45) (h3 : kf_dig (x (a + 2)) = true) (h4 : x (a + 3) = 64) : kf_da x r0 (a + 4) = (x a - 48, x (a + 2) - 48, 0, (kf_da x r0 a).2.2.2) := by
  have e1 := kf_da_d (r := r0) h1
  have e2 : kf_da x r0 (a + 2) = ((kf_da x r0 (a + 1)).2.2.1, (kf_da x r0 (a + 1)).2.1, 0, (kf_da x r0 (a + 1)).2.2.2) := by
    rw [show a + 2 = (a + 1) + 1 by omega, kf_da, if_neg (by rw [h2]; decide), if_pos h2]
  have e3 : kf_da x r0 (a + 3) = ((kf_da x r0 (a + 2)).1, (kf_da x r0 (a + 2)).2.1, (kf_da x r0 (a + 2)).2.2.1 * 10 + (x (a + 2) - 48), (kf_da x r0 (a + 2)).2.2.2) := kf_da_d (r := r0) (i := a + 2) h3
  have e4 : kf_da x r0 (a + 4) = ((kf_da x r0 (a + 3)).1, (kf_da x r0 (a + 3)).2.2.1, 0, (kf_da x r0 (a + 3)).2.2.2) := by
    rw [show a + 4 = (a + 3) + 1 by omega, kf_da, if_neg (by rw [h4]; decide), if_neg (by omega), if_pos h4]
  rw [e4, e3, e2, e1]
  simp only [h0]
  rw [Nat.zero_mul, Nat.zero_add, Nat.zero_add]
theorem kf_cm_s {i : Nat} (h : x i ≠ 44) : kf_cm x (i + 1) = kf_cm x i := kf_ct_f (by simpa using h)
theorem kf_da_2 (h0 : r0 211 = nI 0) : ∀ i : Nat, ∀ z, kf_au x i = some z → (kf_da x r0 i).2.2.2 211 = nI (kf_cm x i)
  | 0, _, _ => h0
  | i + 1, z, hz => by
    obtain ⟨p, nd, h1, h2, h3⟩ := kf_au_p hz
    have ih := kf_da_2 h0 i _ h1
    rw [kf_da]
    by_cases q0 : kf_dig (x i) = true
    · have := kf_dig_t q0
      rw [if_pos q0, kf_cm_s (by omega)]; exact ih
    rw [if_neg q0]
    by_cases q1 : x i = 45
    · rw [if_pos q1, kf_cm_s (by omega)]; exact ih
    rw [if_neg q1]
    by_cases q2 : x i = 64
    · rw [if_pos q2, kf_cm_s (by omega)]; exact ih
    rw [if_neg q2]
    have := kf_sg_x h2 q0 q1 q2
    have ec : kf_cm x (i + 1) = kf_cm x i + 1 := kf_ct_t (by simp; exact this.2)
    rw [ec]
    show kf_pla (kf_da x r0 i).2.2.2 (nI (kf_da x r0 i).1) (nI (kf_da x r0 i).2.1) (nI (kf_da x r0 i).2.2.1) 211 = nI (kf_cm x i + 1)
    exact kf_pla_2 ih
theorem kf_T_m {a : Nat} (h : kf_T M M0 r a 0) : kg_row M 125 r = M := by rw [← h.2.2.1]; exact kw_i _ _
theorem kf_T_r {a : Nat} {r' : Nat → Int32} (h : kf_T M M0 r a 0) : kf_T (kg_row M 125 r') M0 r' a 0 := by
  obtain ⟨h1, h2, h3, h4, h5⟩ := h
  refine ⟨fun p p1 p2 => (kw_n p2).trans (h1 p p1 p2), fun i i1 i2 => ?_, kw_s _ _ _, ?_, ?_⟩
  · rw [kw_n (by omega)]; exact h2 i i1 i2
  · rw [kw_n (by omega)]; exact h4
  · rw [kw_n (by omega)]; exact h5

theorem kf_nds_i {c : Nat} (h1 : 48 ≤ c) (h2 : c < 52) : kf_nds c = true := by
  unfold kf_nds
  rw [decide_eq_true h1, decide_eq_true h2]; rfl
set_option maxHeartbeats 8000000 in
set_option maxRecDepth 100000 in
theorem kc116_l (hL : G.2.2.2.2.2.1 < 2 ^ 31) {b : Nat} (hX : kf_X M0 x L) (hx2 : ∀ i, i < L → x i < 65536) (hb : b = 0 ∨ (b = 1 ∧ kf_ff x L = none ∧ kf_cm x L + 1 ≤ 10 ∧ r0 211 = nI 0)) (hd : 6 ≤ d)
    (hKg : ∀ (M' : kg_M) (p nd : Nat), kf_au x L = some (p, nd) → 4 < p → kf_T M' M0 (if b = 1 then kf_pla (kf_da x r0 L).2.2.2 (nI (kf_da x r0 L).1) (nI (kf_da x r0 L).2.1) (nI (kf_da x r0 L).2.2.1) else r) L 0 → K (some (.int (nI (kf_cm x L + 1)))) (kg_w0 h) M')
    (hKb : ∀ (M' : kg_M) (f : Nat) (v : Int32), b = 0 → kf_ff x L = some f → kf_T M' M0 r f 1 → K (some (.int v)) (kg_w0 h) M') : ∀ (z a nd : Nat) (M : kg_M) (x4 x5 x6 x7 x8 x9 : Option Value), L - a < z → a ≤ L → kf_au x a = some (0, nd) → kf_T M M0 (if b = 1 then (kf_da x r0 a).2.2.2 else r) a 0 → kg_P G d 116 10 129 129 K 14 [some (.ref 124), some (.int (nI b)), some (.int (nI (kf_cm x a))), some (.int (nI 1)), x4, x5, x6, x7, x8, x9] [] (kg_w0 h) M := by
  intro z
  induction z with
  | zero =>
    intro a nd M x4 x5 x6 x7 x8 x9 hz
    omega
  | succ z ih =>
    intro a nd M x4 x5 x6 x7 x8 x9 hz hal hau hT
    have e0 : kf_sg 0 (x a) (kf_nd 0 (x a) nd) = if kf_nds (x a) = true then some 1 else none := by unfold kf_sg; rfl
    have iv0 := kf_iv_0 (kf_iv_a (r := r0) hx2 a 0 nd hal hau)
    refine kg_v116 hL (by omega) 110 ?_
    simp (disch := omega) only [↓kb_0t, ↓kb_0f, ↓kb_1t, ↓kb_1f, ↓kb_2t, ↓kb_2f, ↓kb_3t, ↓kb_3f, ↓kb_4t, ↓kb_4f, ↓kb_5t, ↓kb_5f, ↓kg_S1, kg_S2, kg_br_T, kg_br_F, kg_br_N, kg_br_t, kg_br_f, ↓kg_at_n, nI_add, pk_mul, kg_sub_n, kg_rem_n, kg_eq_n, kg_lt_n, kg_le_n, kg_nz, kg_01_0, kg_01_1, kg_w0_1, kg_ret0, kg_ret1, kg_ret2, kg_wr_n, kg_Skd, kg_Smc, kg_Sob, kg_Srf, kg_Sld, kg_pad, List.map_cons, List.map_nil, List.length_cons, List.length_nil, List.replicate, List.cons_append, List.nil_append, List.append_nil, Nat.reduceAdd, Nat.reduceSub, Nat.reduceMul, Nat.reduceMod, Nat.reduceDiv, Nat.reduceLT, Nat.reduceLeDiff, Nat.reduceEqDiff, ne_eq, not_true_eq_false, not_false_eq_true, reduceIte, true_and, and_true, kw_n, kw_s, kw_w, kw_o, kw_ws, kw_wn, ku_s, ku_n, kg_lk116, kg_ls116]
    by_cases g1 : a < L ∧ kf_nds (x a) = true
    rotate_left
    · have hff' : kf_ff x L = some a := by
        by_cases q : a < L
        · exact kf_ff_s hau (kf_au_f hau (by rw [e0, if_neg (fun q2 => g1 ⟨q, q2⟩)])) q
        · obtain rfl : a = L := by omega
          exact kf_ff_e hau (by omega)
      have hff : kf_ff x L = some (a) := hff'
      have hb0 : b = 0 := by
        rcases hb with q | ⟨_, q, _⟩
        · exact q
        · rw [hff] at q; cases q
      subst hb0
      refine kc117e hL hX hT (by omega) (Or.inr ⟨rfl, fun q => by
        by_cases q1 : 48 ≤ x a
        · by_cases q2 : x a < 52
          · exact absurd ⟨q, kf_nds_i q1 q2⟩ g1
          · omega
        · omega⟩) (by omega) (by omega) (by omega) (by omega) ?_
      intro N0 v0 hN0
      simp (disch := omega) only [↓kb_0t, ↓kb_0f, ↓kb_1t, ↓kb_1f, ↓kb_2t, ↓kb_2f, ↓kb_3t, ↓kb_3f, ↓kb_4t, ↓kb_4f, ↓kb_5t, ↓kb_5f, ↓kg_S1, kg_S2, kg_br_T, kg_br_F, kg_br_N, kg_br_t, kg_br_f, ↓kg_at_n, nI_add, pk_mul, kg_sub_n, kg_rem_n, kg_eq_n, kg_lt_n, kg_le_n, kg_nz, kg_01_0, kg_01_1, kg_w0_1, kg_ret0, kg_ret1, kg_ret2, kg_wr_n, kg_Skd, kg_Smc, kg_Sob, kg_Srf, kg_Sld, kg_pad, List.map_cons, List.map_nil, List.length_cons, List.length_nil, List.replicate, List.cons_append, List.nil_append, List.append_nil, Nat.reduceAdd, Nat.reduceSub, Nat.reduceMul, Nat.reduceMod, Nat.reduceDiv, Nat.reduceLT, Nat.reduceLeDiff, Nat.reduceEqDiff, ne_eq, not_true_eq_false, not_false_eq_true, reduceIte, true_and, and_true, kw_n, kw_s, kw_w, kw_o, kw_ws, kw_wn, ku_s, ku_n, kg_lk116, kg_ls116]
      refine kc117e hL hX hN0 (by omega) (Or.inl rfl) (by omega) (by omega) (by omega) (by omega) ?_
      intro N1 v1 hN1
      have w8 := hN1.2.2.2.2
      simp (disch := omega) only [↓kb_0t, ↓kb_0f, ↓kb_1t, ↓kb_1f, ↓kb_2t, ↓kb_2f, ↓kb_3t, ↓kb_3f, ↓kb_4t, ↓kb_4f, ↓kb_5t, ↓kb_5f, ↓kg_S1, kg_S2, kg_br_T, kg_br_F, kg_br_N, kg_br_t, kg_br_f, ↓kg_at_n, nI_add, pk_mul, kg_sub_n, kg_rem_n, kg_eq_n, kg_lt_n, kg_le_n, kg_nz, kg_01_0, kg_01_1, kg_w0_1, kg_ret0, kg_ret1, kg_ret2, kg_wr_n, kg_Skd, kg_Smc, kg_Sob, kg_Srf, kg_Sld, kg_pad, List.map_cons, List.map_nil, List.length_cons, List.length_nil, List.replicate, List.cons_append, List.nil_append, List.append_nil, Nat.reduceAdd, Nat.reduceSub, Nat.reduceMul, Nat.reduceMod, Nat.reduceDiv, Nat.reduceLT, Nat.reduceLeDiff, Nat.reduceEqDiff, ne_eq, not_true_eq_false, not_false_eq_true, reduceIte, true_and, and_true, kw_n, kw_s, kw_w, kw_o, kw_ws, kw_wn, ku_s, ku_n, kg_lk116, kg_ls116, w8]
      have hTc := kf_T_8 (w' := 1) hN1
      refine kc117e hL hX hTc (by omega) (Or.inl rfl) (by omega) (by omega) (by omega) (by omega) ?_
      intro N2 v2 hN2
      simp (disch := omega) only [↓kb_0t, ↓kb_0f, ↓kb_1t, ↓kb_1f, ↓kb_2t, ↓kb_2f, ↓kb_3t, ↓kb_3f, ↓kb_4t, ↓kb_4f, ↓kb_5t, ↓kb_5f, ↓kg_S1, kg_S2, kg_br_T, kg_br_F, kg_br_N, kg_br_t, kg_br_f, ↓kg_at_n, nI_add, pk_mul, kg_sub_n, kg_rem_n, kg_eq_n, kg_lt_n, kg_le_n, kg_nz, kg_01_0, kg_01_1, kg_w0_1, kg_ret0, kg_ret1, kg_ret2, kg_wr_n, kg_Skd, kg_Smc, kg_Sob, kg_Srf, kg_Sld, kg_pad, List.map_cons, List.map_nil, List.length_cons, List.length_nil, List.replicate, List.cons_append, List.nil_append, List.append_nil, Nat.reduceAdd, Nat.reduceSub, Nat.reduceMul, Nat.reduceMod, Nat.reduceDiv, Nat.reduceLT, Nat.reduceLeDiff, Nat.reduceEqDiff, ne_eq, not_true_eq_false, not_false_eq_true, reduceIte, true_and, and_true, kw_n, kw_s, kw_w, kw_o, kw_ws, kw_wn, ku_s, ku_n, kg_lk116, kg_ls116]
      refine kc117e hL hX hN2 (by omega) (Or.inl rfl) (by omega) (by omega) (by omega) (by omega) ?_
      intro N3 v3 hN3
      simp (disch := omega) only [↓kb_0t, ↓kb_0f, ↓kb_1t, ↓kb_1f, ↓kb_2t, ↓kb_2f, ↓kb_3t, ↓kb_3f, ↓kb_4t, ↓kb_4f, ↓kb_5t, ↓kb_5f, ↓kg_S1, kg_S2, kg_br_T, kg_br_F, kg_br_N, kg_br_t, kg_br_f, ↓kg_at_n, nI_add, pk_mul, kg_sub_n, kg_rem_n, kg_eq_n, kg_lt_n, kg_le_n, kg_nz, kg_01_0, kg_01_1, kg_w0_1, kg_ret0, kg_ret1, kg_ret2, kg_wr_n, kg_Skd, kg_Smc, kg_Sob, kg_Srf, kg_Sld, kg_pad, List.map_cons, List.map_nil, List.length_cons, List.length_nil, List.replicate, List.cons_append, List.nil_append, List.append_nil, Nat.reduceAdd, Nat.reduceSub, Nat.reduceMul, Nat.reduceMod, Nat.reduceDiv, Nat.reduceLT, Nat.reduceLeDiff, Nat.reduceEqDiff, ne_eq, not_true_eq_false, not_false_eq_true, reduceIte, true_and, and_true, kw_n, kw_s, kw_w, kw_o, kw_ws, kw_wn, ku_s, ku_n, kg_lk116, kg_ls116]
      refine kc118e hL hX hN3 (by omega) (Or.inl rfl) (by omega) ?_
      intro N4 v4 hN4
      have z8 := hN4.2.2.2.2
      simp (disch := omega) only [↓kb_0t, ↓kb_0f, ↓kb_1t, ↓kb_1f, ↓kb_2t, ↓kb_2f, ↓kb_3t, ↓kb_3f, ↓kb_4t, ↓kb_4f, ↓kb_5t, ↓kb_5f, ↓kg_S1, kg_S2, kg_br_T, kg_br_F, kg_br_N, kg_br_t, kg_br_f, ↓kg_at_n, nI_add, pk_mul, kg_sub_n, kg_rem_n, kg_eq_n, kg_lt_n, kg_le_n, kg_nz, kg_01_0, kg_01_1, kg_w0_1, kg_ret0, kg_ret1, kg_ret2, kg_wr_n, kg_Skd, kg_Smc, kg_Sob, kg_Srf, kg_Sld, kg_pad, List.map_cons, List.map_nil, List.length_cons, List.length_nil, List.replicate, List.cons_append, List.nil_append, List.append_nil, Nat.reduceAdd, Nat.reduceSub, Nat.reduceMul, Nat.reduceMod, Nat.reduceDiv, Nat.reduceLT, Nat.reduceLeDiff, Nat.reduceEqDiff, ne_eq, not_true_eq_false, not_false_eq_true, reduceIte, true_and, and_true, kw_n, kw_s, kw_w, kw_o, kw_ws, kw_wn, ku_s, ku_n, kg_lk116, kg_ls116, z8]
      refine kg_v116 hL (by omega) 20 ?_
      simp (disch := omega) only [↓kb_0t, ↓kb_0f, ↓kb_1t, ↓kb_1f, ↓kb_2t, ↓kb_2f, ↓kb_3t, ↓kb_3f, ↓kb_4t, ↓kb_4f, ↓kb_5t, ↓kb_5f, ↓kg_S1, kg_S2, kg_br_T, kg_br_F, kg_br_N, kg_br_t, kg_br_f, ↓kg_at_n, nI_add, pk_mul, kg_sub_n, kg_rem_n, kg_eq_n, kg_lt_n, kg_le_n, kg_nz, kg_01_0, kg_01_1, kg_w0_1, kg_ret0, kg_ret1, kg_ret2, kg_wr_n, kg_Skd, kg_Smc, kg_Sob, kg_Srf, kg_Sld, kg_pad, List.map_cons, List.map_nil, List.length_cons, List.length_nil, List.replicate, List.cons_append, List.nil_append, List.append_nil, Nat.reduceAdd, Nat.reduceSub, Nat.reduceMul, Nat.reduceMod, Nat.reduceDiv, Nat.reduceLT, Nat.reduceLeDiff, Nat.reduceEqDiff, ne_eq, not_true_eq_false, not_false_eq_true, reduceIte, true_and, and_true, kw_n, kw_s, kw_w, kw_o, kw_ws, kw_wn, ku_s, ku_n, kg_lk116, kg_ls116]
      exact hKb _ _ _ rfl hff hN4
    have n1 := kf_nds_t g1.2
    rw [if_pos g1.2] at e0
    have hau1 := kf_au_s hau e0
    have hnd : kf_nd 0 (x a) nd = x a := rfl
    rw [hnd] at hau1
    refine kc117g hL hX hT g1.1 n1.1 (by omega) (by omega) (by omega) ?_
    intro M1 hT1
    simp (disch := omega) only [↓kb_0t, ↓kb_0f, ↓kb_1t, ↓kb_1f, ↓kb_2t, ↓kb_2f, ↓kb_3t, ↓kb_3f, ↓kb_4t, ↓kb_4f, ↓kb_5t, ↓kb_5f, ↓kg_S1, kg_S2, kg_br_T, kg_br_F, kg_br_N, kg_br_t, kg_br_f, ↓kg_at_n, nI_add, pk_mul, kg_sub_n, kg_rem_n, kg_eq_n, kg_lt_n, kg_le_n, kg_nz, kg_01_0, kg_01_1, kg_w0_1, kg_ret0, kg_ret1, kg_ret2, kg_wr_n, kg_Skd, kg_Smc, kg_Sob, kg_Srf, kg_Sld, kg_pad, List.map_cons, List.map_nil, List.length_cons, List.length_nil, List.replicate, List.cons_append, List.nil_append, List.append_nil, Nat.reduceAdd, Nat.reduceSub, Nat.reduceMul, Nat.reduceMod, Nat.reduceDiv, Nat.reduceLT, Nat.reduceLeDiff, Nat.reduceEqDiff, ne_eq, not_true_eq_false, not_false_eq_true, reduceIte, true_and, and_true, kw_n, kw_s, kw_w, kw_o, kw_ws, kw_wn, ku_s, ku_n, kg_lk116, kg_ls116]
    have e1 : kf_sg 1 (x (a + 1)) (kf_nd 1 (x (a + 1)) (x a)) = if x (a + 1) = 45 then some 2 else none := by unfold kf_sg; rfl
    by_cases g2 : a + 1 < L ∧ x (a + 1) = 45
    rotate_left
    · have hff' : kf_ff x L = some (a + 1) := by
        by_cases q : a + 1 < L
        · exact kf_ff_s hau1 (kf_au_f hau1 (by rw [e1, if_neg (fun q2 => g2 ⟨q, q2⟩)])) q
        · have q3 : a + 1 = L := by omega
          rw [q3] at hau1 ⊢
          exact kf_ff_e hau1 (by omega)
      have hff : kf_ff x L = some (a + 1) := hff'
      have hb0 : b = 0 := by
        rcases hb with q | ⟨_, q, _⟩
        · exact q
        · rw [hff] at q; cases q
      subst hb0
      refine kc117e hL hX hT1 (by omega) (Or.inr ⟨rfl, fun q => by
        by_cases q1 : x (a + 1) = 45
        · exact absurd ⟨q, q1⟩ g2
        · omega⟩) (by omega) (by omega) (by omega) (by omega) ?_
      intro N0 v0 hN0
      have w8 := hN0.2.2.2.2
      simp (disch := omega) only [↓kb_0t, ↓kb_0f, ↓kb_1t, ↓kb_1f, ↓kb_2t, ↓kb_2f, ↓kb_3t, ↓kb_3f, ↓kb_4t, ↓kb_4f, ↓kb_5t, ↓kb_5f, ↓kg_S1, kg_S2, kg_br_T, kg_br_F, kg_br_N, kg_br_t, kg_br_f, ↓kg_at_n, nI_add, pk_mul, kg_sub_n, kg_rem_n, kg_eq_n, kg_lt_n, kg_le_n, kg_nz, kg_01_0, kg_01_1, kg_w0_1, kg_ret0, kg_ret1, kg_ret2, kg_wr_n, kg_Skd, kg_Smc, kg_Sob, kg_Srf, kg_Sld, kg_pad, List.map_cons, List.map_nil, List.length_cons, List.length_nil, List.replicate, List.cons_append, List.nil_append, List.append_nil, Nat.reduceAdd, Nat.reduceSub, Nat.reduceMul, Nat.reduceMod, Nat.reduceDiv, Nat.reduceLT, Nat.reduceLeDiff, Nat.reduceEqDiff, ne_eq, not_true_eq_false, not_false_eq_true, reduceIte, true_and, and_true, kw_n, kw_s, kw_w, kw_o, kw_ws, kw_wn, ku_s, ku_n, kg_lk116, kg_ls116, w8]
      have hTc := kf_T_8 (w' := 1) hN0
      refine kc117e hL hX hTc (by omega) (Or.inl rfl) (by omega) (by omega) (by omega) (by omega) ?_
      intro N1 v1 hN1
      simp (disch := omega) only [↓kb_0t, ↓kb_0f, ↓kb_1t, ↓kb_1f, ↓kb_2t, ↓kb_2f, ↓kb_3t, ↓kb_3f, ↓kb_4t, ↓kb_4f, ↓kb_5t, ↓kb_5f, ↓kg_S1, kg_S2, kg_br_T, kg_br_F, kg_br_N, kg_br_t, kg_br_f, ↓kg_at_n, nI_add, pk_mul, kg_sub_n, kg_rem_n, kg_eq_n, kg_lt_n, kg_le_n, kg_nz, kg_01_0, kg_01_1, kg_w0_1, kg_ret0, kg_ret1, kg_ret2, kg_wr_n, kg_Skd, kg_Smc, kg_Sob, kg_Srf, kg_Sld, kg_pad, List.map_cons, List.map_nil, List.length_cons, List.length_nil, List.replicate, List.cons_append, List.nil_append, List.append_nil, Nat.reduceAdd, Nat.reduceSub, Nat.reduceMul, Nat.reduceMod, Nat.reduceDiv, Nat.reduceLT, Nat.reduceLeDiff, Nat.reduceEqDiff, ne_eq, not_true_eq_false, not_false_eq_true, reduceIte, true_and, and_true, kw_n, kw_s, kw_w, kw_o, kw_ws, kw_wn, ku_s, ku_n, kg_lk116, kg_ls116]
      refine kc117e hL hX hN1 (by omega) (Or.inl rfl) (by omega) (by omega) (by omega) (by omega) ?_
      intro N2 v2 hN2
      simp (disch := omega) only [↓kb_0t, ↓kb_0f, ↓kb_1t, ↓kb_1f, ↓kb_2t, ↓kb_2f, ↓kb_3t, ↓kb_3f, ↓kb_4t, ↓kb_4f, ↓kb_5t, ↓kb_5f, ↓kg_S1, kg_S2, kg_br_T, kg_br_F, kg_br_N, kg_br_t, kg_br_f, ↓kg_at_n, nI_add, pk_mul, kg_sub_n, kg_rem_n, kg_eq_n, kg_lt_n, kg_le_n, kg_nz, kg_01_0, kg_01_1, kg_w0_1, kg_ret0, kg_ret1, kg_ret2, kg_wr_n, kg_Skd, kg_Smc, kg_Sob, kg_Srf, kg_Sld, kg_pad, List.map_cons, List.map_nil, List.length_cons, List.length_nil, List.replicate, List.cons_append, List.nil_append, List.append_nil, Nat.reduceAdd, Nat.reduceSub, Nat.reduceMul, Nat.reduceMod, Nat.reduceDiv, Nat.reduceLT, Nat.reduceLeDiff, Nat.reduceEqDiff, ne_eq, not_true_eq_false, not_false_eq_true, reduceIte, true_and, and_true, kw_n, kw_s, kw_w, kw_o, kw_ws, kw_wn, ku_s, ku_n, kg_lk116, kg_ls116]
      refine kc118e hL hX hN2 (by omega) (Or.inl rfl) (by omega) ?_
      intro N3 v3 hN3
      have z8 := hN3.2.2.2.2
      simp (disch := omega) only [↓kb_0t, ↓kb_0f, ↓kb_1t, ↓kb_1f, ↓kb_2t, ↓kb_2f, ↓kb_3t, ↓kb_3f, ↓kb_4t, ↓kb_4f, ↓kb_5t, ↓kb_5f, ↓kg_S1, kg_S2, kg_br_T, kg_br_F, kg_br_N, kg_br_t, kg_br_f, ↓kg_at_n, nI_add, pk_mul, kg_sub_n, kg_rem_n, kg_eq_n, kg_lt_n, kg_le_n, kg_nz, kg_01_0, kg_01_1, kg_w0_1, kg_ret0, kg_ret1, kg_ret2, kg_wr_n, kg_Skd, kg_Smc, kg_Sob, kg_Srf, kg_Sld, kg_pad, List.map_cons, List.map_nil, List.length_cons, List.length_nil, List.replicate, List.cons_append, List.nil_append, List.append_nil, Nat.reduceAdd, Nat.reduceSub, Nat.reduceMul, Nat.reduceMod, Nat.reduceDiv, Nat.reduceLT, Nat.reduceLeDiff, Nat.reduceEqDiff, ne_eq, not_true_eq_false, not_false_eq_true, reduceIte, true_and, and_true, kw_n, kw_s, kw_w, kw_o, kw_ws, kw_wn, ku_s, ku_n, kg_lk116, kg_ls116, z8]
      refine kg_v116 hL (by omega) 20 ?_
      simp (disch := omega) only [↓kb_0t, ↓kb_0f, ↓kb_1t, ↓kb_1f, ↓kb_2t, ↓kb_2f, ↓kb_3t, ↓kb_3f, ↓kb_4t, ↓kb_4f, ↓kb_5t, ↓kb_5f, ↓kg_S1, kg_S2, kg_br_T, kg_br_F, kg_br_N, kg_br_t, kg_br_f, ↓kg_at_n, nI_add, pk_mul, kg_sub_n, kg_rem_n, kg_eq_n, kg_lt_n, kg_le_n, kg_nz, kg_01_0, kg_01_1, kg_w0_1, kg_ret0, kg_ret1, kg_ret2, kg_wr_n, kg_Skd, kg_Smc, kg_Sob, kg_Srf, kg_Sld, kg_pad, List.map_cons, List.map_nil, List.length_cons, List.length_nil, List.replicate, List.cons_append, List.nil_append, List.append_nil, Nat.reduceAdd, Nat.reduceSub, Nat.reduceMul, Nat.reduceMod, Nat.reduceDiv, Nat.reduceLT, Nat.reduceLeDiff, Nat.reduceEqDiff, ne_eq, not_true_eq_false, not_false_eq_true, reduceIte, true_and, and_true, kw_n, kw_s, kw_w, kw_o, kw_ws, kw_wn, ku_s, ku_n, kg_lk116, kg_ls116]
      exact hKb _ _ _ rfl hff hN3
    rw [if_pos g2.2] at e1
    have hau2 := kf_au_s hau1 e1
    rw [kf_nd_p (by omega)] at hau2
    refine kc117g hL hX hT1 g2.1 (by omega) (by omega) (by omega) (by omega) ?_
    intro M2 hT2
    have hT2 : kf_T M2 M0 (if b = 1 then (kf_da x r0 a).2.2.2 else r) (a + 2) 0 := hT2
    have m7 := hT2.2.2.2.1
    have m8 := hT2.2.2.2.2
    have m6 : M2 124 6 = nI L := (hT2.2.1 6 (by omega) (by omega)).trans hX.1
    have hl := hX.2.1
    have e2 : kf_sg 2 (x (a + 2)) (kf_nd 2 (x (a + 2)) (x a)) = if kf_nds (x (a + 2)) = true ∧ x (a + 2) ≠ x a then some 3 else none := by unfold kf_sg; rfl
    by_cases gl : a + 2 < L
    rotate_left
    · have hff' : kf_ff x L = some (a + 2) := by
        have q3 : a + 2 = L := by omega
        have hau2' : kf_au x (a + 2) = some (2, x a) := hau2
        rw [q3] at hau2' ⊢
        exact kf_ff_e hau2' (by omega)
      simp (disch := omega) only [↓kb_0t, ↓kb_0f, ↓kb_1t, ↓kb_1f, ↓kb_2t, ↓kb_2f, ↓kb_3t, ↓kb_3f, ↓kb_4t, ↓kb_4f, ↓kb_5t, ↓kb_5f, ↓kg_S1, kg_S2, kg_br_T, kg_br_F, kg_br_N, kg_br_t, kg_br_f, ↓kg_at_n, nI_add, pk_mul, kg_sub_n, kg_rem_n, kg_eq_n, kg_lt_n, kg_le_n, kg_nz, kg_01_0, kg_01_1, kg_w0_1, kg_ret0, kg_ret1, kg_ret2, kg_wr_n, kg_Skd, kg_Smc, kg_Sob, kg_Srf, kg_Sld, kg_pad, List.map_cons, List.map_nil, List.length_cons, List.length_nil, List.replicate, List.cons_append, List.nil_append, List.append_nil, Nat.reduceAdd, Nat.reduceSub, Nat.reduceMul, Nat.reduceMod, Nat.reduceDiv, Nat.reduceLT, Nat.reduceLeDiff, Nat.reduceEqDiff, ne_eq, not_true_eq_false, not_false_eq_true, reduceIte, true_and, and_true, kw_n, kw_s, kw_w, kw_o, kw_ws, kw_wn, ku_s, ku_n, kg_lk116, kg_ls116, m7, m8, m6]
      have hT2' := kf_T_8 (w' := 0) hT2
      have hff : kf_ff x L = some (a + 2) := hff'
      have hb0 : b = 0 := by
        rcases hb with q | ⟨_, q, _⟩
        · exact q
        · rw [hff] at q; cases q
      subst hb0
      refine kc117e hL hX hT2' (by omega) (Or.inr ⟨rfl, fun q => absurd q (by omega)⟩) (by omega) (by omega) (by omega) (by omega) ?_
      intro N0 v0 hN0
      simp (disch := omega) only [↓kb_0t, ↓kb_0f, ↓kb_1t, ↓kb_1f, ↓kb_2t, ↓kb_2f, ↓kb_3t, ↓kb_3f, ↓kb_4t, ↓kb_4f, ↓kb_5t, ↓kb_5f, ↓kg_S1, kg_S2, kg_br_T, kg_br_F, kg_br_N, kg_br_t, kg_br_f, ↓kg_at_n, nI_add, pk_mul, kg_sub_n, kg_rem_n, kg_eq_n, kg_lt_n, kg_le_n, kg_nz, kg_01_0, kg_01_1, kg_w0_1, kg_ret0, kg_ret1, kg_ret2, kg_wr_n, kg_Skd, kg_Smc, kg_Sob, kg_Srf, kg_Sld, kg_pad, List.map_cons, List.map_nil, List.length_cons, List.length_nil, List.replicate, List.cons_append, List.nil_append, List.append_nil, Nat.reduceAdd, Nat.reduceSub, Nat.reduceMul, Nat.reduceMod, Nat.reduceDiv, Nat.reduceLT, Nat.reduceLeDiff, Nat.reduceEqDiff, ne_eq, not_true_eq_false, not_false_eq_true, reduceIte, true_and, and_true, kw_n, kw_s, kw_w, kw_o, kw_ws, kw_wn, ku_s, ku_n, kg_lk116, kg_ls116]
      refine kc117e hL hX hN0 (by omega) (Or.inl rfl) (by omega) (by omega) (by omega) (by omega) ?_
      intro N1 v1 hN1
      simp (disch := omega) only [↓kb_0t, ↓kb_0f, ↓kb_1t, ↓kb_1f, ↓kb_2t, ↓kb_2f, ↓kb_3t, ↓kb_3f, ↓kb_4t, ↓kb_4f, ↓kb_5t, ↓kb_5f, ↓kg_S1, kg_S2, kg_br_T, kg_br_F, kg_br_N, kg_br_t, kg_br_f, ↓kg_at_n, nI_add, pk_mul, kg_sub_n, kg_rem_n, kg_eq_n, kg_lt_n, kg_le_n, kg_nz, kg_01_0, kg_01_1, kg_w0_1, kg_ret0, kg_ret1, kg_ret2, kg_wr_n, kg_Skd, kg_Smc, kg_Sob, kg_Srf, kg_Sld, kg_pad, List.map_cons, List.map_nil, List.length_cons, List.length_nil, List.replicate, List.cons_append, List.nil_append, List.append_nil, Nat.reduceAdd, Nat.reduceSub, Nat.reduceMul, Nat.reduceMod, Nat.reduceDiv, Nat.reduceLT, Nat.reduceLeDiff, Nat.reduceEqDiff, ne_eq, not_true_eq_false, not_false_eq_true, reduceIte, true_and, and_true, kw_n, kw_s, kw_w, kw_o, kw_ws, kw_wn, ku_s, ku_n, kg_lk116, kg_ls116]
      refine kc118e hL hX hN1 (by omega) (Or.inl rfl) (by omega) ?_
      intro N2 v2 hN2
      have z8 := hN2.2.2.2.2
      simp (disch := omega) only [↓kb_0t, ↓kb_0f, ↓kb_1t, ↓kb_1f, ↓kb_2t, ↓kb_2f, ↓kb_3t, ↓kb_3f, ↓kb_4t, ↓kb_4f, ↓kb_5t, ↓kb_5f, ↓kg_S1, kg_S2, kg_br_T, kg_br_F, kg_br_N, kg_br_t, kg_br_f, ↓kg_at_n, nI_add, pk_mul, kg_sub_n, kg_rem_n, kg_eq_n, kg_lt_n, kg_le_n, kg_nz, kg_01_0, kg_01_1, kg_w0_1, kg_ret0, kg_ret1, kg_ret2, kg_wr_n, kg_Skd, kg_Smc, kg_Sob, kg_Srf, kg_Sld, kg_pad, List.map_cons, List.map_nil, List.length_cons, List.length_nil, List.replicate, List.cons_append, List.nil_append, List.append_nil, Nat.reduceAdd, Nat.reduceSub, Nat.reduceMul, Nat.reduceMod, Nat.reduceDiv, Nat.reduceLT, Nat.reduceLeDiff, Nat.reduceEqDiff, ne_eq, not_true_eq_false, not_false_eq_true, reduceIte, true_and, and_true, kw_n, kw_s, kw_w, kw_o, kw_ws, kw_wn, ku_s, ku_n, kg_lk116, kg_ls116, z8]
      refine kg_v116 hL (by omega) 20 ?_
      simp (disch := omega) only [↓kb_0t, ↓kb_0f, ↓kb_1t, ↓kb_1f, ↓kb_2t, ↓kb_2f, ↓kb_3t, ↓kb_3f, ↓kb_4t, ↓kb_4f, ↓kb_5t, ↓kb_5f, ↓kg_S1, kg_S2, kg_br_T, kg_br_F, kg_br_N, kg_br_t, kg_br_f, ↓kg_at_n, nI_add, pk_mul, kg_sub_n, kg_rem_n, kg_eq_n, kg_lt_n, kg_le_n, kg_nz, kg_01_0, kg_01_1, kg_w0_1, kg_ret0, kg_ret1, kg_ret2, kg_wr_n, kg_Skd, kg_Smc, kg_Sob, kg_Srf, kg_Sld, kg_pad, List.map_cons, List.map_nil, List.length_cons, List.length_nil, List.replicate, List.cons_append, List.nil_append, List.append_nil, Nat.reduceAdd, Nat.reduceSub, Nat.reduceMul, Nat.reduceMod, Nat.reduceDiv, Nat.reduceLT, Nat.reduceLeDiff, Nat.reduceEqDiff, ne_eq, not_true_eq_false, not_false_eq_true, reduceIte, true_and, and_true, kw_n, kw_s, kw_w, kw_o, kw_ws, kw_wn, ku_s, ku_n, kg_lk116, kg_ls116]
      exact hKb _ _ _ rfl hff hN2
    have mx : M2 128 (a + 2) = nI (x (a + 2)) := by rw [hT2.1 128 (by omega) (by omega)]; exact (hX.2.2 _ gl).1
    have hx2' := hx2 _ gl
    have esub : 48 + (x a - 48) = x a := by omega
    have hau2' : kf_au x (a + 2) = some (2, x a) := hau2
    by_cases gq : x (a + 2) = x a
    · have hff' : kf_ff x L = some (a + 2) := kf_ff_s hau2' (kf_au_f hau2' (by rw [e2, if_neg (fun q => q.2 gq)])) gl
      simp (disch := omega) only [↓kb_0t, ↓kb_0f, ↓kb_1t, ↓kb_1f, ↓kb_2t, ↓kb_2f, ↓kb_3t, ↓kb_3f, ↓kb_4t, ↓kb_4f, ↓kb_5t, ↓kb_5f, ↓kg_S1, kg_S2, kg_br_T, kg_br_F, kg_br_N, kg_br_t, kg_br_f, ↓kg_at_n, nI_add, pk_mul, kg_sub_n, kg_rem_n, kg_eq_n, kg_lt_n, kg_le_n, kg_nz, kg_01_0, kg_01_1, kg_w0_1, kg_ret0, kg_ret1, kg_ret2, kg_wr_n, kg_Skd, kg_Smc, kg_Sob, kg_Srf, kg_Sld, kg_pad, List.map_cons, List.map_nil, List.length_cons, List.length_nil, List.replicate, List.cons_append, List.nil_append, List.append_nil, Nat.reduceAdd, Nat.reduceSub, Nat.reduceMul, Nat.reduceMod, Nat.reduceDiv, Nat.reduceLT, Nat.reduceLeDiff, Nat.reduceEqDiff, ne_eq, not_true_eq_false, not_false_eq_true, reduceIte, true_and, and_true, kw_n, kw_s, kw_w, kw_o, kw_ws, kw_wn, ku_s, ku_n, kg_lk116, kg_ls116, m7, m8, m6, mx, esub]
      have hT2' := kf_T_8 (w' := 1) hT2
      have hff : kf_ff x L = some (a + 2) := hff'
      have hb0 : b = 0 := by
        rcases hb with q | ⟨_, q, _⟩
        · exact q
        · rw [hff] at q; cases q
      subst hb0
      refine kc117e hL hX hT2' (by omega) (Or.inl rfl) (by omega) (by omega) (by omega) (by omega) ?_
      intro N0 v0 hN0
      simp (disch := omega) only [↓kb_0t, ↓kb_0f, ↓kb_1t, ↓kb_1f, ↓kb_2t, ↓kb_2f, ↓kb_3t, ↓kb_3f, ↓kb_4t, ↓kb_4f, ↓kb_5t, ↓kb_5f, ↓kg_S1, kg_S2, kg_br_T, kg_br_F, kg_br_N, kg_br_t, kg_br_f, ↓kg_at_n, nI_add, pk_mul, kg_sub_n, kg_rem_n, kg_eq_n, kg_lt_n, kg_le_n, kg_nz, kg_01_0, kg_01_1, kg_w0_1, kg_ret0, kg_ret1, kg_ret2, kg_wr_n, kg_Skd, kg_Smc, kg_Sob, kg_Srf, kg_Sld, kg_pad, List.map_cons, List.map_nil, List.length_cons, List.length_nil, List.replicate, List.cons_append, List.nil_append, List.append_nil, Nat.reduceAdd, Nat.reduceSub, Nat.reduceMul, Nat.reduceMod, Nat.reduceDiv, Nat.reduceLT, Nat.reduceLeDiff, Nat.reduceEqDiff, ne_eq, not_true_eq_false, not_false_eq_true, reduceIte, true_and, and_true, kw_n, kw_s, kw_w, kw_o, kw_ws, kw_wn, ku_s, ku_n, kg_lk116, kg_ls116]
      refine kc117e hL hX hN0 (by omega) (Or.inl rfl) (by omega) (by omega) (by omega) (by omega) ?_
      intro N1 v1 hN1
      simp (disch := omega) only [↓kb_0t, ↓kb_0f, ↓kb_1t, ↓kb_1f, ↓kb_2t, ↓kb_2f, ↓kb_3t, ↓kb_3f, ↓kb_4t, ↓kb_4f, ↓kb_5t, ↓kb_5f, ↓kg_S1, kg_S2, kg_br_T, kg_br_F, kg_br_N, kg_br_t, kg_br_f, ↓kg_at_n, nI_add, pk_mul, kg_sub_n, kg_rem_n, kg_eq_n, kg_lt_n, kg_le_n, kg_nz, kg_01_0, kg_01_1, kg_w0_1, kg_ret0, kg_ret1, kg_ret2, kg_wr_n, kg_Skd, kg_Smc, kg_Sob, kg_Srf, kg_Sld, kg_pad, List.map_cons, List.map_nil, List.length_cons, List.length_nil, List.replicate, List.cons_append, List.nil_append, List.append_nil, Nat.reduceAdd, Nat.reduceSub, Nat.reduceMul, Nat.reduceMod, Nat.reduceDiv, Nat.reduceLT, Nat.reduceLeDiff, Nat.reduceEqDiff, ne_eq, not_true_eq_false, not_false_eq_true, reduceIte, true_and, and_true, kw_n, kw_s, kw_w, kw_o, kw_ws, kw_wn, ku_s, ku_n, kg_lk116, kg_ls116]
      refine kc118e hL hX hN1 (by omega) (Or.inl rfl) (by omega) ?_
      intro N2 v2 hN2
      have z8 := hN2.2.2.2.2
      simp (disch := omega) only [↓kb_0t, ↓kb_0f, ↓kb_1t, ↓kb_1f, ↓kb_2t, ↓kb_2f, ↓kb_3t, ↓kb_3f, ↓kb_4t, ↓kb_4f, ↓kb_5t, ↓kb_5f, ↓kg_S1, kg_S2, kg_br_T, kg_br_F, kg_br_N, kg_br_t, kg_br_f, ↓kg_at_n, nI_add, pk_mul, kg_sub_n, kg_rem_n, kg_eq_n, kg_lt_n, kg_le_n, kg_nz, kg_01_0, kg_01_1, kg_w0_1, kg_ret0, kg_ret1, kg_ret2, kg_wr_n, kg_Skd, kg_Smc, kg_Sob, kg_Srf, kg_Sld, kg_pad, List.map_cons, List.map_nil, List.length_cons, List.length_nil, List.replicate, List.cons_append, List.nil_append, List.append_nil, Nat.reduceAdd, Nat.reduceSub, Nat.reduceMul, Nat.reduceMod, Nat.reduceDiv, Nat.reduceLT, Nat.reduceLeDiff, Nat.reduceEqDiff, ne_eq, not_true_eq_false, not_false_eq_true, reduceIte, true_and, and_true, kw_n, kw_s, kw_w, kw_o, kw_ws, kw_wn, ku_s, ku_n, kg_lk116, kg_ls116, z8]
      refine kg_v116 hL (by omega) 20 ?_
      simp (disch := omega) only [↓kb_0t, ↓kb_0f, ↓kb_1t, ↓kb_1f, ↓kb_2t, ↓kb_2f, ↓kb_3t, ↓kb_3f, ↓kb_4t, ↓kb_4f, ↓kb_5t, ↓kb_5f, ↓kg_S1, kg_S2, kg_br_T, kg_br_F, kg_br_N, kg_br_t, kg_br_f, ↓kg_at_n, nI_add, pk_mul, kg_sub_n, kg_rem_n, kg_eq_n, kg_lt_n, kg_le_n, kg_nz, kg_01_0, kg_01_1, kg_w0_1, kg_ret0, kg_ret1, kg_ret2, kg_wr_n, kg_Skd, kg_Smc, kg_Sob, kg_Srf, kg_Sld, kg_pad, List.map_cons, List.map_nil, List.length_cons, List.length_nil, List.replicate, List.cons_append, List.nil_append, List.append_nil, Nat.reduceAdd, Nat.reduceSub, Nat.reduceMul, Nat.reduceMod, Nat.reduceDiv, Nat.reduceLT, Nat.reduceLeDiff, Nat.reduceEqDiff, ne_eq, not_true_eq_false, not_false_eq_true, reduceIte, true_and, and_true, kw_n, kw_s, kw_w, kw_o, kw_ws, kw_wn, ku_s, ku_n, kg_lk116, kg_ls116]
      exact hKb _ _ _ rfl hff hN2
    have hT2' := kf_T_8 (w' := 0) hT2
    simp (disch := omega) only [↓kb_0t, ↓kb_0f, ↓kb_1t, ↓kb_1f, ↓kb_2t, ↓kb_2f, ↓kb_3t, ↓kb_3f, ↓kb_4t, ↓kb_4f, ↓kb_5t, ↓kb_5f, ↓kg_S1, kg_S2, kg_br_T, kg_br_F, kg_br_N, kg_br_t, kg_br_f, ↓kg_at_n, nI_add, pk_mul, kg_sub_n, kg_rem_n, kg_eq_n, kg_lt_n, kg_le_n, kg_nz, kg_01_0, kg_01_1, kg_w0_1, kg_ret0, kg_ret1, kg_ret2, kg_wr_n, kg_Skd, kg_Smc, kg_Sob, kg_Srf, kg_Sld, kg_pad, List.map_cons, List.map_nil, List.length_cons, List.length_nil, List.replicate, List.cons_append, List.nil_append, List.append_nil, Nat.reduceAdd, Nat.reduceSub, Nat.reduceMul, Nat.reduceMod, Nat.reduceDiv, Nat.reduceLT, Nat.reduceLeDiff, Nat.reduceEqDiff, ne_eq, not_true_eq_false, not_false_eq_true, reduceIte, true_and, and_true, kw_n, kw_s, kw_w, kw_o, kw_ws, kw_wn, ku_s, ku_n, kg_lk116, kg_ls116, m7, m8, m6, mx, esub]
    by_cases g3 : kf_nds (x (a + 2)) = true
    rotate_left
    · have hff' : kf_ff x L = some (a + 2) := kf_ff_s hau2' (kf_au_f hau2' (by rw [e2, if_neg (fun q => g3 q.1)])) gl
      have hff : kf_ff x L = some (a + 2) := hff'
      have hb0 : b = 0 := by
        rcases hb with q | ⟨_, q, _⟩
        · exact q
        · rw [hff] at q; cases q
      subst hb0
      refine kc117e hL hX hT2' (by omega) (Or.inr ⟨rfl, fun q => by
        by_cases q1 : 48 ≤ x (a + 2)
        · by_cases q2 : x (a + 2) < 52
          · exact absurd (kf_nds_i q1 q2) g3
          · omega
        · omega⟩) (by omega) (by omega) (by omega) (by omega) ?_
      intro N0 v0 hN0
      simp (disch := omega) only [↓kb_0t, ↓kb_0f, ↓kb_1t, ↓kb_1f, ↓kb_2t, ↓kb_2f, ↓kb_3t, ↓kb_3f, ↓kb_4t, ↓kb_4f, ↓kb_5t, ↓kb_5f, ↓kg_S1, kg_S2, kg_br_T, kg_br_F, kg_br_N, kg_br_t, kg_br_f, ↓kg_at_n, nI_add, pk_mul, kg_sub_n, kg_rem_n, kg_eq_n, kg_lt_n, kg_le_n, kg_nz, kg_01_0, kg_01_1, kg_w0_1, kg_ret0, kg_ret1, kg_ret2, kg_wr_n, kg_Skd, kg_Smc, kg_Sob, kg_Srf, kg_Sld, kg_pad, List.map_cons, List.map_nil, List.length_cons, List.length_nil, List.replicate, List.cons_append, List.nil_append, List.append_nil, Nat.reduceAdd, Nat.reduceSub, Nat.reduceMul, Nat.reduceMod, Nat.reduceDiv, Nat.reduceLT, Nat.reduceLeDiff, Nat.reduceEqDiff, ne_eq, not_true_eq_false, not_false_eq_true, reduceIte, true_and, and_true, kw_n, kw_s, kw_w, kw_o, kw_ws, kw_wn, ku_s, ku_n, kg_lk116, kg_ls116]
      refine kc117e hL hX hN0 (by omega) (Or.inl rfl) (by omega) (by omega) (by omega) (by omega) ?_
      intro N1 v1 hN1
      simp (disch := omega) only [↓kb_0t, ↓kb_0f, ↓kb_1t, ↓kb_1f, ↓kb_2t, ↓kb_2f, ↓kb_3t, ↓kb_3f, ↓kb_4t, ↓kb_4f, ↓kb_5t, ↓kb_5f, ↓kg_S1, kg_S2, kg_br_T, kg_br_F, kg_br_N, kg_br_t, kg_br_f, ↓kg_at_n, nI_add, pk_mul, kg_sub_n, kg_rem_n, kg_eq_n, kg_lt_n, kg_le_n, kg_nz, kg_01_0, kg_01_1, kg_w0_1, kg_ret0, kg_ret1, kg_ret2, kg_wr_n, kg_Skd, kg_Smc, kg_Sob, kg_Srf, kg_Sld, kg_pad, List.map_cons, List.map_nil, List.length_cons, List.length_nil, List.replicate, List.cons_append, List.nil_append, List.append_nil, Nat.reduceAdd, Nat.reduceSub, Nat.reduceMul, Nat.reduceMod, Nat.reduceDiv, Nat.reduceLT, Nat.reduceLeDiff, Nat.reduceEqDiff, ne_eq, not_true_eq_false, not_false_eq_true, reduceIte, true_and, and_true, kw_n, kw_s, kw_w, kw_o, kw_ws, kw_wn, ku_s, ku_n, kg_lk116, kg_ls116]
      refine kc118e hL hX hN1 (by omega) (Or.inl rfl) (by omega) ?_
      intro N2 v2 hN2
      have z8 := hN2.2.2.2.2
      simp (disch := omega) only [↓kb_0t, ↓kb_0f, ↓kb_1t, ↓kb_1f, ↓kb_2t, ↓kb_2f, ↓kb_3t, ↓kb_3f, ↓kb_4t, ↓kb_4f, ↓kb_5t, ↓kb_5f, ↓kg_S1, kg_S2, kg_br_T, kg_br_F, kg_br_N, kg_br_t, kg_br_f, ↓kg_at_n, nI_add, pk_mul, kg_sub_n, kg_rem_n, kg_eq_n, kg_lt_n, kg_le_n, kg_nz, kg_01_0, kg_01_1, kg_w0_1, kg_ret0, kg_ret1, kg_ret2, kg_wr_n, kg_Skd, kg_Smc, kg_Sob, kg_Srf, kg_Sld, kg_pad, List.map_cons, List.map_nil, List.length_cons, List.length_nil, List.replicate, List.cons_append, List.nil_append, List.append_nil, Nat.reduceAdd, Nat.reduceSub, Nat.reduceMul, Nat.reduceMod, Nat.reduceDiv, Nat.reduceLT, Nat.reduceLeDiff, Nat.reduceEqDiff, ne_eq, not_true_eq_false, not_false_eq_true, reduceIte, true_and, and_true, kw_n, kw_s, kw_w, kw_o, kw_ws, kw_wn, ku_s, ku_n, kg_lk116, kg_ls116, z8]
      refine kg_v116 hL (by omega) 20 ?_
      simp (disch := omega) only [↓kb_0t, ↓kb_0f, ↓kb_1t, ↓kb_1f, ↓kb_2t, ↓kb_2f, ↓kb_3t, ↓kb_3f, ↓kb_4t, ↓kb_4f, ↓kb_5t, ↓kb_5f, ↓kg_S1, kg_S2, kg_br_T, kg_br_F, kg_br_N, kg_br_t, kg_br_f, ↓kg_at_n, nI_add, pk_mul, kg_sub_n, kg_rem_n, kg_eq_n, kg_lt_n, kg_le_n, kg_nz, kg_01_0, kg_01_1, kg_w0_1, kg_ret0, kg_ret1, kg_ret2, kg_wr_n, kg_Skd, kg_Smc, kg_Sob, kg_Srf, kg_Sld, kg_pad, List.map_cons, List.map_nil, List.length_cons, List.length_nil, List.replicate, List.cons_append, List.nil_append, List.append_nil, Nat.reduceAdd, Nat.reduceSub, Nat.reduceMul, Nat.reduceMod, Nat.reduceDiv, Nat.reduceLT, Nat.reduceLeDiff, Nat.reduceEqDiff, ne_eq, not_true_eq_false, not_false_eq_true, reduceIte, true_and, and_true, kw_n, kw_s, kw_w, kw_o, kw_ws, kw_wn, ku_s, ku_n, kg_lk116, kg_ls116]
      exact hKb _ _ _ rfl hff hN2
    have n3 := kf_nds_t g3
    rw [if_pos ⟨g3, gq⟩] at e2
    have hau3 := kf_au_s hau2' e2
    rw [kf_nd_p (by omega)] at hau3
    refine kc117g hL hX hT2' gl n3.1 (by omega) (by omega) (by omega) ?_
    intro M3 hT3
    have hT3 : kf_T M3 M0 (if b = 1 then (kf_da x r0 a).2.2.2 else r) (a + 3) 0 := hT3
    simp (disch := omega) only [↓kb_0t, ↓kb_0f, ↓kb_1t, ↓kb_1f, ↓kb_2t, ↓kb_2f, ↓kb_3t, ↓kb_3f, ↓kb_4t, ↓kb_4f, ↓kb_5t, ↓kb_5f, ↓kg_S1, kg_S2, kg_br_T, kg_br_F, kg_br_N, kg_br_t, kg_br_f, ↓kg_at_n, nI_add, pk_mul, kg_sub_n, kg_rem_n, kg_eq_n, kg_lt_n, kg_le_n, kg_nz, kg_01_0, kg_01_1, kg_w0_1, kg_ret0, kg_ret1, kg_ret2, kg_wr_n, kg_Skd, kg_Smc, kg_Sob, kg_Srf, kg_Sld, kg_pad, List.map_cons, List.map_nil, List.length_cons, List.length_nil, List.replicate, List.cons_append, List.nil_append, List.append_nil, Nat.reduceAdd, Nat.reduceSub, Nat.reduceMul, Nat.reduceMod, Nat.reduceDiv, Nat.reduceLT, Nat.reduceLeDiff, Nat.reduceEqDiff, ne_eq, not_true_eq_false, not_false_eq_true, reduceIte, true_and, and_true, kw_n, kw_s, kw_w, kw_o, kw_ws, kw_wn, ku_s, ku_n, kg_lk116, kg_ls116]
    have e3 : kf_sg 3 (x (a + 3)) (kf_nd 3 (x (a + 3)) (x a)) = if x (a + 3) = 64 then some 4 else none := by unfold kf_sg; rfl
    have hau3' : kf_au x (a + 3) = some (3, x a) := hau3
    by_cases g4 : a + 3 < L ∧ x (a + 3) = 64
    rotate_left
    · have hff' : kf_ff x L = some (a + 3) := by
        by_cases q : a + 3 < L
        · exact kf_ff_s hau3' (kf_au_f hau3' (by rw [e3, if_neg (fun q2 => g4 ⟨q, q2⟩)])) q
        · have q3 : a + 3 = L := by omega
          rw [q3] at hau3' ⊢
          exact kf_ff_e hau3' (by omega)
      have hff : kf_ff x L = some (a + 3) := hff'
      have hb0 : b = 0 := by
        rcases hb with q | ⟨_, q, _⟩
        · exact q
        · rw [hff] at q; cases q
      subst hb0
      refine kc117e hL hX hT3 (by omega) (Or.inr ⟨rfl, fun q => by
        by_cases q1 : x (a + 3) = 64
        · exact absurd ⟨q, q1⟩ g4
        · omega⟩) (by omega) (by omega) (by omega) (by omega) ?_
      intro N0 v0 hN0
      simp (disch := omega) only [↓kb_0t, ↓kb_0f, ↓kb_1t, ↓kb_1f, ↓kb_2t, ↓kb_2f, ↓kb_3t, ↓kb_3f, ↓kb_4t, ↓kb_4f, ↓kb_5t, ↓kb_5f, ↓kg_S1, kg_S2, kg_br_T, kg_br_F, kg_br_N, kg_br_t, kg_br_f, ↓kg_at_n, nI_add, pk_mul, kg_sub_n, kg_rem_n, kg_eq_n, kg_lt_n, kg_le_n, kg_nz, kg_01_0, kg_01_1, kg_w0_1, kg_ret0, kg_ret1, kg_ret2, kg_wr_n, kg_Skd, kg_Smc, kg_Sob, kg_Srf, kg_Sld, kg_pad, List.map_cons, List.map_nil, List.length_cons, List.length_nil, List.replicate, List.cons_append, List.nil_append, List.append_nil, Nat.reduceAdd, Nat.reduceSub, Nat.reduceMul, Nat.reduceMod, Nat.reduceDiv, Nat.reduceLT, Nat.reduceLeDiff, Nat.reduceEqDiff, ne_eq, not_true_eq_false, not_false_eq_true, reduceIte, true_and, and_true, kw_n, kw_s, kw_w, kw_o, kw_ws, kw_wn, ku_s, ku_n, kg_lk116, kg_ls116]
      refine kc118e hL hX hN0 (by omega) (Or.inl rfl) (by omega) ?_
      intro N1 v1 hN1
      have z8 := hN1.2.2.2.2
      simp (disch := omega) only [↓kb_0t, ↓kb_0f, ↓kb_1t, ↓kb_1f, ↓kb_2t, ↓kb_2f, ↓kb_3t, ↓kb_3f, ↓kb_4t, ↓kb_4f, ↓kb_5t, ↓kb_5f, ↓kg_S1, kg_S2, kg_br_T, kg_br_F, kg_br_N, kg_br_t, kg_br_f, ↓kg_at_n, nI_add, pk_mul, kg_sub_n, kg_rem_n, kg_eq_n, kg_lt_n, kg_le_n, kg_nz, kg_01_0, kg_01_1, kg_w0_1, kg_ret0, kg_ret1, kg_ret2, kg_wr_n, kg_Skd, kg_Smc, kg_Sob, kg_Srf, kg_Sld, kg_pad, List.map_cons, List.map_nil, List.length_cons, List.length_nil, List.replicate, List.cons_append, List.nil_append, List.append_nil, Nat.reduceAdd, Nat.reduceSub, Nat.reduceMul, Nat.reduceMod, Nat.reduceDiv, Nat.reduceLT, Nat.reduceLeDiff, Nat.reduceEqDiff, ne_eq, not_true_eq_false, not_false_eq_true, reduceIte, true_and, and_true, kw_n, kw_s, kw_w, kw_o, kw_ws, kw_wn, ku_s, ku_n, kg_lk116, kg_ls116, z8]
      refine kg_v116 hL (by omega) 20 ?_
      simp (disch := omega) only [↓kb_0t, ↓kb_0f, ↓kb_1t, ↓kb_1f, ↓kb_2t, ↓kb_2f, ↓kb_3t, ↓kb_3f, ↓kb_4t, ↓kb_4f, ↓kb_5t, ↓kb_5f, ↓kg_S1, kg_S2, kg_br_T, kg_br_F, kg_br_N, kg_br_t, kg_br_f, ↓kg_at_n, nI_add, pk_mul, kg_sub_n, kg_rem_n, kg_eq_n, kg_lt_n, kg_le_n, kg_nz, kg_01_0, kg_01_1, kg_w0_1, kg_ret0, kg_ret1, kg_ret2, kg_wr_n, kg_Skd, kg_Smc, kg_Sob, kg_Srf, kg_Sld, kg_pad, List.map_cons, List.map_nil, List.length_cons, List.length_nil, List.replicate, List.cons_append, List.nil_append, List.append_nil, Nat.reduceAdd, Nat.reduceSub, Nat.reduceMul, Nat.reduceMod, Nat.reduceDiv, Nat.reduceLT, Nat.reduceLeDiff, Nat.reduceEqDiff, ne_eq, not_true_eq_false, not_false_eq_true, reduceIte, true_and, and_true, kw_n, kw_s, kw_w, kw_o, kw_ws, kw_wn, ku_s, ku_n, kg_lk116, kg_ls116]
      exact hKb _ _ _ rfl hff hN1
    rw [if_pos g4.2] at e3
    have hau4 := kf_au_s hau3' e3
    rw [kf_nd_p (by omega)] at hau4
    have hau4' : kf_au x (a + 4) = some (4, x a) := hau4
    refine kc117g hL hX hT3 g4.1 (by omega) (by omega) (by omega) (by omega) ?_
    intro M4 hT4
    have hT4 : kf_T M4 M0 (if b = 1 then (kf_da x r0 a).2.2.2 else r) (a + 4) 0 := hT4
    simp (disch := omega) only [↓kb_0t, ↓kb_0f, ↓kb_1t, ↓kb_1f, ↓kb_2t, ↓kb_2f, ↓kb_3t, ↓kb_3f, ↓kb_4t, ↓kb_4f, ↓kb_5t, ↓kb_5f, ↓kg_S1, kg_S2, kg_br_T, kg_br_F, kg_br_N, kg_br_t, kg_br_f, ↓kg_at_n, nI_add, pk_mul, kg_sub_n, kg_rem_n, kg_eq_n, kg_lt_n, kg_le_n, kg_nz, kg_01_0, kg_01_1, kg_w0_1, kg_ret0, kg_ret1, kg_ret2, kg_wr_n, kg_Skd, kg_Smc, kg_Sob, kg_Srf, kg_Sld, kg_pad, List.map_cons, List.map_nil, List.length_cons, List.length_nil, List.replicate, List.cons_append, List.nil_append, List.append_nil, Nat.reduceAdd, Nat.reduceSub, Nat.reduceMul, Nat.reduceMod, Nat.reduceDiv, Nat.reduceLT, Nat.reduceLeDiff, Nat.reduceEqDiff, ne_eq, not_true_eq_false, not_false_eq_true, reduceIte, true_and, and_true, kw_n, kw_s, kw_w, kw_o, kw_ws, kw_wn, ku_s, ku_n, kg_lk116, kg_ls116]
    by_cases g5 : a + 4 < L ∧ kf_dig (x (a + 4)) = true
    rotate_left
    · have hff' : kf_ff x L = some (a + 4) := by
        by_cases q : a + 4 < L
        · refine kf_ff_s hau4' (kf_au_f hau4' ?_) q
          have nd4 : ¬ kf_dig (x (a + 4)) = true := fun q2 => g5 ⟨q, q2⟩
          unfold kf_sg
          simp only [reduceIte, Nat.reduceEqDiff]
          rw [if_neg (fun q3 => nd4 (by rw [q3]; rfl)), if_neg nd4]
        · have q3 : a + 4 = L := by omega
          rw [q3] at hau4' ⊢
          exact kf_ff_e hau4' (by omega)
      have hff : kf_ff x L = some (a + 4) := hff'
      have hb0 : b = 0 := by
        rcases hb with q | ⟨_, q, _⟩
        · exact q
        · rw [hff] at q; cases q
      subst hb0
      refine kc118e hL hX hT4 (by omega) (Or.inr ⟨rfl, fun q => by
        by_cases q1 : 48 ≤ x (a + 4)
        · by_cases q2 : x (a + 4) ≤ 57
          · exact absurd ⟨q, kf_dig_i q1 q2⟩ g5
          · omega
        · omega⟩) (by omega) ?_
      intro N0 v0 hN0
      have z8 := hN0.2.2.2.2
      simp (disch := omega) only [↓kb_0t, ↓kb_0f, ↓kb_1t, ↓kb_1f, ↓kb_2t, ↓kb_2f, ↓kb_3t, ↓kb_3f, ↓kb_4t, ↓kb_4f, ↓kb_5t, ↓kb_5f, ↓kg_S1, kg_S2, kg_br_T, kg_br_F, kg_br_N, kg_br_t, kg_br_f, ↓kg_at_n, nI_add, pk_mul, kg_sub_n, kg_rem_n, kg_eq_n, kg_lt_n, kg_le_n, kg_nz, kg_01_0, kg_01_1, kg_w0_1, kg_ret0, kg_ret1, kg_ret2, kg_wr_n, kg_Skd, kg_Smc, kg_Sob, kg_Srf, kg_Sld, kg_pad, List.map_cons, List.map_nil, List.length_cons, List.length_nil, List.replicate, List.cons_append, List.nil_append, List.append_nil, Nat.reduceAdd, Nat.reduceSub, Nat.reduceMul, Nat.reduceMod, Nat.reduceDiv, Nat.reduceLT, Nat.reduceLeDiff, Nat.reduceEqDiff, ne_eq, not_true_eq_false, not_false_eq_true, reduceIte, true_and, and_true, kw_n, kw_s, kw_w, kw_o, kw_ws, kw_wn, ku_s, ku_n, kg_lk116, kg_ls116, z8]
      refine kg_v116 hL (by omega) 20 ?_
      simp (disch := omega) only [↓kb_0t, ↓kb_0f, ↓kb_1t, ↓kb_1f, ↓kb_2t, ↓kb_2f, ↓kb_3t, ↓kb_3f, ↓kb_4t, ↓kb_4f, ↓kb_5t, ↓kb_5f, ↓kg_S1, kg_S2, kg_br_T, kg_br_F, kg_br_N, kg_br_t, kg_br_f, ↓kg_at_n, nI_add, pk_mul, kg_sub_n, kg_rem_n, kg_eq_n, kg_lt_n, kg_le_n, kg_nz, kg_01_0, kg_01_1, kg_w0_1, kg_ret0, kg_ret1, kg_ret2, kg_wr_n, kg_Skd, kg_Smc, kg_Sob, kg_Srf, kg_Sld, kg_pad, List.map_cons, List.map_nil, List.length_cons, List.length_nil, List.replicate, List.cons_append, List.nil_append, List.append_nil, Nat.reduceAdd, Nat.reduceSub, Nat.reduceMul, Nat.reduceMod, Nat.reduceDiv, Nat.reduceLT, Nat.reduceLeDiff, Nat.reduceEqDiff, ne_eq, not_true_eq_false, not_false_eq_true, reduceIte, true_and, and_true, kw_n, kw_s, kw_w, kw_o, kw_ws, kw_wn, ku_s, ku_n, kg_lk116, kg_ls116]
      exact hKb _ _ _ rfl hff hN0
    have h4x := kf_da_4 (x := x) (r0 := r0) iv0 (kf_dig_i n1.1 (by omega)) g2.2 (kf_dig_i n3.1 (by omega)) g4.2
    have c4 : kf_cm x (a + 4) = kf_cm x a := by
      rw [show a + 4 = (a + 3) + 1 by omega, kf_cm_s (by omega), show a + 3 = (a + 2) + 1 by omega, kf_cm_s (by omega), show a + 2 = (a + 1) + 1 by omega, kf_cm_s (by omega), kf_cm_s (by omega)]
    refine kc118g (r0 := r0) hL hX hx2 (by omega) hT4 g5.1 hau4' g5.2 ?_
    intro M5 j p hT5 hjL hauj hp4 hstop d1 d2 d3 dc hja
    rw [h4x] at d1 d2 d3
    rw [c4] at dc
    have d1 : (kf_da x r0 j).1 = x a - 48 := d1
    have d2 : (kf_da x r0 j).2.1 = x (a + 2) - 48 := d2
    have d3 : (kf_da x r0 j).2.2.2 = (kf_da x r0 a).2.2.2 := d3
    have hbj := (kf_au_b hx2 j p (x a) hjL hauj).1
    have hcj := kf_cm_m (x := x) j (L - j)
    rw [show j + (L - j) = L by omega] at hcj
    rcases hb with hb0 | ⟨hb1, hbf, hb10, hb2⟩
    · subst hb0
      have hT6 : kf_T M5 M0 r j 0 := hT5
      simp (disch := omega) only [↓kb_0t, ↓kb_0f, ↓kb_1t, ↓kb_1f, ↓kb_2t, ↓kb_2f, ↓kb_3t, ↓kb_3f, ↓kb_4t, ↓kb_4f, ↓kb_5t, ↓kb_5f, ↓kg_S1, kg_S2, kg_br_T, kg_br_F, kg_br_N, kg_br_t, kg_br_f, ↓kg_at_n, nI_add, pk_mul, kg_sub_n, kg_rem_n, kg_eq_n, kg_lt_n, kg_le_n, kg_nz, kg_01_0, kg_01_1, kg_w0_1, kg_ret0, kg_ret1, kg_ret2, kg_wr_n, kg_Skd, kg_Smc, kg_Sob, kg_Srf, kg_Sld, kg_pad, List.map_cons, List.map_nil, List.length_cons, List.length_nil, List.replicate, List.cons_append, List.nil_append, List.append_nil, Nat.reduceAdd, Nat.reduceSub, Nat.reduceMul, Nat.reduceMod, Nat.reduceDiv, Nat.reduceLT, Nat.reduceLeDiff, Nat.reduceEqDiff, ne_eq, not_true_eq_false, not_false_eq_true, reduceIte, true_and, and_true, kw_n, kw_s, kw_w, kw_o, kw_ws, kw_wn, ku_s, ku_n, kg_lk116, kg_ls116]
      have m7 := hT6.2.2.2.1
      have m8 := hT6.2.2.2.2
      have m6 : M5 124 6 = nI L := (hT6.2.1 6 (by omega) (by omega)).trans hX.1
      by_cases qj : j < L
      · simp (disch := omega) only [↓kb_0t, ↓kb_0f, ↓kb_1t, ↓kb_1f, ↓kb_2t, ↓kb_2f, ↓kb_3t, ↓kb_3f, ↓kb_4t, ↓kb_4f, ↓kb_5t, ↓kb_5f, ↓kg_S1, kg_S2, kg_br_T, kg_br_F, kg_br_N, kg_br_t, kg_br_f, ↓kg_at_n, nI_add, pk_mul, kg_sub_n, kg_rem_n, kg_eq_n, kg_lt_n, kg_le_n, kg_nz, kg_01_0, kg_01_1, kg_w0_1, kg_ret0, kg_ret1, kg_ret2, kg_wr_n, kg_Skd, kg_Smc, kg_Sob, kg_Srf, kg_Sld, kg_pad, List.map_cons, List.map_nil, List.length_cons, List.length_nil, List.replicate, List.cons_append, List.nil_append, List.append_nil, Nat.reduceAdd, Nat.reduceSub, Nat.reduceMul, Nat.reduceMod, Nat.reduceDiv, Nat.reduceLT, Nat.reduceLeDiff, Nat.reduceEqDiff, ne_eq, not_true_eq_false, not_false_eq_true, reduceIte, true_and, and_true, kw_n, kw_s, kw_w, kw_o, kw_ws, kw_wn, ku_s, ku_n, kg_lk116, kg_ls116, m7, m8, m6]
        by_cases qc : x j = 44
        · have hs : kf_sg p (x j) (kf_nd p (x j) (x a)) = some 0 := by
            unfold kf_sg
            rw [if_neg (by omega), if_neg (by omega), if_neg (by omega), if_neg (by omega), if_neg (by omega), if_pos qc]
          have hauj1 := kf_au_s hauj hs
          rw [kf_nd_p (by omega)] at hauj1
          have ecm : kf_cm x (j + 1) = kf_cm x a + 1 := by rw [← dc]; exact kf_ct_t (by simpa using qc)
          have edj : kf_da x r0 (j + 1) = ((kf_da x r0 j).1, (kf_da x r0 j).2.1, 0, kf_pla (kf_da x r0 j).2.2.2 (nI (kf_da x r0 j).1) (nI (kf_da x r0 j).2.1) (nI (kf_da x r0 j).2.2.1)) := by
            rw [kf_da, if_neg (by rw [qc]; decide), if_neg (by omega), if_neg (by omega)]
          refine kc117g hL hX hT6 qj (by omega) (by omega) (by omega) (by omega) ?_
          intro M7 hT7
          have t8 := hT7.2.2.2.2
          simp (disch := omega) only [↓kb_0t, ↓kb_0f, ↓kb_1t, ↓kb_1f, ↓kb_2t, ↓kb_2f, ↓kb_3t, ↓kb_3f, ↓kb_4t, ↓kb_4f, ↓kb_5t, ↓kb_5f, ↓kg_S1, kg_S2, kg_br_T, kg_br_F, kg_br_N, kg_br_t, kg_br_f, ↓kg_at_n, nI_add, pk_mul, kg_sub_n, kg_rem_n, kg_eq_n, kg_lt_n, kg_le_n, kg_nz, kg_01_0, kg_01_1, kg_w0_1, kg_ret0, kg_ret1, kg_ret2, kg_wr_n, kg_Skd, kg_Smc, kg_Sob, kg_Srf, kg_Sld, kg_pad, List.map_cons, List.map_nil, List.length_cons, List.length_nil, List.replicate, List.cons_append, List.nil_append, List.append_nil, Nat.reduceAdd, Nat.reduceSub, Nat.reduceMul, Nat.reduceMod, Nat.reduceDiv, Nat.reduceLT, Nat.reduceLeDiff, Nat.reduceEqDiff, ne_eq, not_true_eq_false, not_false_eq_true, reduceIte, true_and, and_true, kw_n, kw_s, kw_w, kw_o, kw_ws, kw_wn, ku_s, ku_n, kg_lk116, kg_ls116, t8]
          have := fun x4 x5 x6 x7 x8 x9 => ih (j + 1) (x a) M7 x4 x5 x6 x7 x8 x9 (by omega) (by omega) hauj1 (by rw [edj]; exact hT7)
          rw [ecm] at this
          exact this _ _ _ _ _ _
        · have hff : kf_ff x L = some j := by
            refine kf_ff_s hauj (kf_au_f hauj ?_) qj
            unfold kf_sg
            rw [if_neg (by omega), if_neg (by omega), if_neg (by omega), if_neg (by omega), if_neg (by omega), if_neg qc, if_neg (hstop qj)]
          refine kc117e hL hX hT6 hjL (Or.inr ⟨rfl, fun _ => by omega⟩) (by omega) (by omega) (by omega) (by omega) ?_
          intro N0 v0 hN0
          have z8 := hN0.2.2.2.2
          simp (disch := omega) only [↓kb_0t, ↓kb_0f, ↓kb_1t, ↓kb_1f, ↓kb_2t, ↓kb_2f, ↓kb_3t, ↓kb_3f, ↓kb_4t, ↓kb_4f, ↓kb_5t, ↓kb_5f, ↓kg_S1, kg_S2, kg_br_T, kg_br_F, kg_br_N, kg_br_t, kg_br_f, ↓kg_at_n, nI_add, pk_mul, kg_sub_n, kg_rem_n, kg_eq_n, kg_lt_n, kg_le_n, kg_nz, kg_01_0, kg_01_1, kg_w0_1, kg_ret0, kg_ret1, kg_ret2, kg_wr_n, kg_Skd, kg_Smc, kg_Sob, kg_Srf, kg_Sld, kg_pad, List.map_cons, List.map_nil, List.length_cons, List.length_nil, List.replicate, List.cons_append, List.nil_append, List.append_nil, Nat.reduceAdd, Nat.reduceSub, Nat.reduceMul, Nat.reduceMod, Nat.reduceDiv, Nat.reduceLT, Nat.reduceLeDiff, Nat.reduceEqDiff, ne_eq, not_true_eq_false, not_false_eq_true, reduceIte, true_and, and_true, kw_n, kw_s, kw_w, kw_o, kw_ws, kw_wn, ku_s, ku_n, kg_lk116, kg_ls116, z8]
          refine kg_v116 hL (by omega) 20 ?_
          simp (disch := omega) only [↓kb_0t, ↓kb_0f, ↓kb_1t, ↓kb_1f, ↓kb_2t, ↓kb_2f, ↓kb_3t, ↓kb_3f, ↓kb_4t, ↓kb_4f, ↓kb_5t, ↓kb_5f, ↓kg_S1, kg_S2, kg_br_T, kg_br_F, kg_br_N, kg_br_t, kg_br_f, ↓kg_at_n, nI_add, pk_mul, kg_sub_n, kg_rem_n, kg_eq_n, kg_lt_n, kg_le_n, kg_nz, kg_01_0, kg_01_1, kg_w0_1, kg_ret0, kg_ret1, kg_ret2, kg_wr_n, kg_Skd, kg_Smc, kg_Sob, kg_Srf, kg_Sld, kg_pad, List.map_cons, List.map_nil, List.length_cons, List.length_nil, List.replicate, List.cons_append, List.nil_append, List.append_nil, Nat.reduceAdd, Nat.reduceSub, Nat.reduceMul, Nat.reduceMod, Nat.reduceDiv, Nat.reduceLT, Nat.reduceLeDiff, Nat.reduceEqDiff, ne_eq, not_true_eq_false, not_false_eq_true, reduceIte, true_and, and_true, kw_n, kw_s, kw_w, kw_o, kw_ws, kw_wn, ku_s, ku_n, kg_lk116, kg_ls116]
          exact hKb _ _ _ rfl hff hN0
      · obtain rfl : j = L := by omega
        simp (disch := omega) only [↓kb_0t, ↓kb_0f, ↓kb_1t, ↓kb_1f, ↓kb_2t, ↓kb_2f, ↓kb_3t, ↓kb_3f, ↓kb_4t, ↓kb_4f, ↓kb_5t, ↓kb_5f, ↓kg_S1, kg_S2, kg_br_T, kg_br_F, kg_br_N, kg_br_t, kg_br_f, ↓kg_at_n, nI_add, pk_mul, kg_sub_n, kg_rem_n, kg_eq_n, kg_lt_n, kg_le_n, kg_nz, kg_01_0, kg_01_1, kg_w0_1, kg_ret0, kg_ret1, kg_ret2, kg_wr_n, kg_Skd, kg_Smc, kg_Sob, kg_Srf, kg_Sld, kg_pad, List.map_cons, List.map_nil, List.length_cons, List.length_nil, List.replicate, List.cons_append, List.nil_append, List.append_nil, Nat.reduceAdd, Nat.reduceSub, Nat.reduceMul, Nat.reduceMod, Nat.reduceDiv, Nat.reduceLT, Nat.reduceLeDiff, Nat.reduceEqDiff, ne_eq, not_true_eq_false, not_false_eq_true, reduceIte, true_and, and_true, kw_n, kw_s, kw_w, kw_o, kw_ws, kw_wn, ku_s, ku_n, kg_lk116, kg_ls116, m7, m8, m6]
        refine kg_v116 hL (by omega) 20 ?_
        simp (disch := omega) only [↓kb_0t, ↓kb_0f, ↓kb_1t, ↓kb_1f, ↓kb_2t, ↓kb_2f, ↓kb_3t, ↓kb_3f, ↓kb_4t, ↓kb_4f, ↓kb_5t, ↓kb_5f, ↓kg_S1, kg_S2, kg_br_T, kg_br_F, kg_br_N, kg_br_t, kg_br_f, ↓kg_at_n, nI_add, pk_mul, kg_sub_n, kg_rem_n, kg_eq_n, kg_lt_n, kg_le_n, kg_nz, kg_01_0, kg_01_1, kg_w0_1, kg_ret0, kg_ret1, kg_ret2, kg_wr_n, kg_Skd, kg_Smc, kg_Sob, kg_Srf, kg_Sld, kg_pad, List.map_cons, List.map_nil, List.length_cons, List.length_nil, List.replicate, List.cons_append, List.nil_append, List.append_nil, Nat.reduceAdd, Nat.reduceSub, Nat.reduceMul, Nat.reduceMod, Nat.reduceDiv, Nat.reduceLT, Nat.reduceLeDiff, Nat.reduceEqDiff, ne_eq, not_true_eq_false, not_false_eq_true, reduceIte, true_and, and_true, kw_n, kw_s, kw_w, kw_o, kw_ws, kw_wn, ku_s, ku_n, kg_lk116, kg_ls116]
        have := hKg M5 p (x a) hauj hp4 hT6
        rw [dc] at this
        exact this
    · subst hb1
      have e211 : (kf_da x r0 j).2.2.2 211 = nI (kf_cm x a) := by rw [← dc]; exact kf_da_2 hb2 j _ hauj
      have hT5' : kf_T M5 M0 (kf_da x r0 j).2.2.2 j 0 := by rw [d3]; exact hT5
      have emm := kf_T_m hT5'
      have hT6 := kf_T_r (r' := kf_pla (kf_da x r0 j).2.2.2 (nI (kf_da x r0 j).1) (nI (kf_da x r0 j).2.1) (nI (kf_da x r0 j).2.2.1)) hT5'
      simp (disch := omega) only [↓kb_0t, ↓kb_0f, ↓kb_1t, ↓kb_1f, ↓kb_2t, ↓kb_2f, ↓kb_3t, ↓kb_3f, ↓kb_4t, ↓kb_4f, ↓kb_5t, ↓kb_5f, ↓kg_S1, kg_S2, kg_br_T, kg_br_F, kg_br_N, kg_br_t, kg_br_f, ↓kg_at_n, nI_add, pk_mul, kg_sub_n, kg_rem_n, kg_eq_n, kg_lt_n, kg_le_n, kg_nz, kg_01_0, kg_01_1, kg_w0_1, kg_ret0, kg_ret1, kg_ret2, kg_wr_n, kg_Skd, kg_Smc, kg_Sob, kg_Srf, kg_Sld, kg_pad, List.map_cons, List.map_nil, List.length_cons, List.length_nil, List.replicate, List.cons_append, List.nil_append, List.append_nil, Nat.reduceAdd, Nat.reduceSub, Nat.reduceMul, Nat.reduceMod, Nat.reduceDiv, Nat.reduceLT, Nat.reduceLeDiff, Nat.reduceEqDiff, ne_eq, not_true_eq_false, not_false_eq_true, reduceIte, true_and, and_true, kw_n, kw_s, kw_w, kw_o, kw_ws, kw_wn, ku_s, ku_n, kg_lk116, kg_ls116]
      rw [← emm]
      refine kc114 hL e211 (by omega) (by omega) ?_
      rw [← d1, ← d2]
      generalize hM6 : kg_row M5 125 (kf_pla (kf_da x r0 j).2.2.2 (nI (kf_da x r0 j).1) (nI (kf_da x r0 j).2.1) (nI (kf_da x r0 j).2.2.1)) = M6 at hT6
      simp (disch := omega) only [↓kb_0t, ↓kb_0f, ↓kb_1t, ↓kb_1f, ↓kb_2t, ↓kb_2f, ↓kb_3t, ↓kb_3f, ↓kb_4t, ↓kb_4f, ↓kb_5t, ↓kb_5f, ↓kg_S1, kg_S2, kg_br_T, kg_br_F, kg_br_N, kg_br_t, kg_br_f, ↓kg_at_n, nI_add, pk_mul, kg_sub_n, kg_rem_n, kg_eq_n, kg_lt_n, kg_le_n, kg_nz, kg_01_0, kg_01_1, kg_w0_1, kg_ret0, kg_ret1, kg_ret2, kg_wr_n, kg_Skd, kg_Smc, kg_Sob, kg_Srf, kg_Sld, kg_pad, List.map_cons, List.map_nil, List.length_cons, List.length_nil, List.replicate, List.cons_append, List.nil_append, List.append_nil, Nat.reduceAdd, Nat.reduceSub, Nat.reduceMul, Nat.reduceMod, Nat.reduceDiv, Nat.reduceLT, Nat.reduceLeDiff, Nat.reduceEqDiff, ne_eq, not_true_eq_false, not_false_eq_true, reduceIte, true_and, and_true, kw_n, kw_s, kw_w, kw_o, kw_ws, kw_wn, ku_s, ku_n, kg_lk116, kg_ls116]
      have m7 := hT6.2.2.2.1
      have m8 := hT6.2.2.2.2
      have m6 : M6 124 6 = nI L := (hT6.2.1 6 (by omega) (by omega)).trans hX.1
      by_cases qj : j < L
      · simp (disch := omega) only [↓kb_0t, ↓kb_0f, ↓kb_1t, ↓kb_1f, ↓kb_2t, ↓kb_2f, ↓kb_3t, ↓kb_3f, ↓kb_4t, ↓kb_4f, ↓kb_5t, ↓kb_5f, ↓kg_S1, kg_S2, kg_br_T, kg_br_F, kg_br_N, kg_br_t, kg_br_f, ↓kg_at_n, nI_add, pk_mul, kg_sub_n, kg_rem_n, kg_eq_n, kg_lt_n, kg_le_n, kg_nz, kg_01_0, kg_01_1, kg_w0_1, kg_ret0, kg_ret1, kg_ret2, kg_wr_n, kg_Skd, kg_Smc, kg_Sob, kg_Srf, kg_Sld, kg_pad, List.map_cons, List.map_nil, List.length_cons, List.length_nil, List.replicate, List.cons_append, List.nil_append, List.append_nil, Nat.reduceAdd, Nat.reduceSub, Nat.reduceMul, Nat.reduceMod, Nat.reduceDiv, Nat.reduceLT, Nat.reduceLeDiff, Nat.reduceEqDiff, ne_eq, not_true_eq_false, not_false_eq_true, reduceIte, true_and, and_true, kw_n, kw_s, kw_w, kw_o, kw_ws, kw_wn, ku_s, ku_n, kg_lk116, kg_ls116, m7, m8, m6]
        by_cases qc : x j = 44
        · have hs : kf_sg p (x j) (kf_nd p (x j) (x a)) = some 0 := by
            unfold kf_sg
            rw [if_neg (by omega), if_neg (by omega), if_neg (by omega), if_neg (by omega), if_neg (by omega), if_pos qc]
          have hauj1 := kf_au_s hauj hs
          rw [kf_nd_p (by omega)] at hauj1
          have ecm : kf_cm x (j + 1) = kf_cm x a + 1 := by rw [← dc]; exact kf_ct_t (by simpa using qc)
          have edj : kf_da x r0 (j + 1) = ((kf_da x r0 j).1, (kf_da x r0 j).2.1, 0, kf_pla (kf_da x r0 j).2.2.2 (nI (kf_da x r0 j).1) (nI (kf_da x r0 j).2.1) (nI (kf_da x r0 j).2.2.1)) := by
            rw [kf_da, if_neg (by rw [qc]; decide), if_neg (by omega), if_neg (by omega)]
          refine kc117g hL hX hT6 qj (by omega) (by omega) (by omega) (by omega) ?_
          intro M7 hT7
          have t8 := hT7.2.2.2.2
          simp (disch := omega) only [↓kb_0t, ↓kb_0f, ↓kb_1t, ↓kb_1f, ↓kb_2t, ↓kb_2f, ↓kb_3t, ↓kb_3f, ↓kb_4t, ↓kb_4f, ↓kb_5t, ↓kb_5f, ↓kg_S1, kg_S2, kg_br_T, kg_br_F, kg_br_N, kg_br_t, kg_br_f, ↓kg_at_n, nI_add, pk_mul, kg_sub_n, kg_rem_n, kg_eq_n, kg_lt_n, kg_le_n, kg_nz, kg_01_0, kg_01_1, kg_w0_1, kg_ret0, kg_ret1, kg_ret2, kg_wr_n, kg_Skd, kg_Smc, kg_Sob, kg_Srf, kg_Sld, kg_pad, List.map_cons, List.map_nil, List.length_cons, List.length_nil, List.replicate, List.cons_append, List.nil_append, List.append_nil, Nat.reduceAdd, Nat.reduceSub, Nat.reduceMul, Nat.reduceMod, Nat.reduceDiv, Nat.reduceLT, Nat.reduceLeDiff, Nat.reduceEqDiff, ne_eq, not_true_eq_false, not_false_eq_true, reduceIte, true_and, and_true, kw_n, kw_s, kw_w, kw_o, kw_ws, kw_wn, ku_s, ku_n, kg_lk116, kg_ls116, t8]
          have := fun x4 x5 x6 x7 x8 x9 => ih (j + 1) (x a) M7 x4 x5 x6 x7 x8 x9 (by omega) (by omega) hauj1 (by rw [edj]; exact hT7)
          rw [ecm] at this
          exact this _ _ _ _ _ _
        · have hff : kf_ff x L = some j := by
            refine kf_ff_s hauj (kf_au_f hauj ?_) qj
            unfold kf_sg
            rw [if_neg (by omega), if_neg (by omega), if_neg (by omega), if_neg (by omega), if_neg (by omega), if_neg qc, if_neg (hstop qj)]
          rw [hbf] at hff
          cases hff
      · obtain rfl : j = L := by omega
        simp (disch := omega) only [↓kb_0t, ↓kb_0f, ↓kb_1t, ↓kb_1f, ↓kb_2t, ↓kb_2f, ↓kb_3t, ↓kb_3f, ↓kb_4t, ↓kb_4f, ↓kb_5t, ↓kb_5f, ↓kg_S1, kg_S2, kg_br_T, kg_br_F, kg_br_N, kg_br_t, kg_br_f, ↓kg_at_n, nI_add, pk_mul, kg_sub_n, kg_rem_n, kg_eq_n, kg_lt_n, kg_le_n, kg_nz, kg_01_0, kg_01_1, kg_w0_1, kg_ret0, kg_ret1, kg_ret2, kg_wr_n, kg_Skd, kg_Smc, kg_Sob, kg_Srf, kg_Sld, kg_pad, List.map_cons, List.map_nil, List.length_cons, List.length_nil, List.replicate, List.cons_append, List.nil_append, List.append_nil, Nat.reduceAdd, Nat.reduceSub, Nat.reduceMul, Nat.reduceMod, Nat.reduceDiv, Nat.reduceLT, Nat.reduceLeDiff, Nat.reduceEqDiff, ne_eq, not_true_eq_false, not_false_eq_true, reduceIte, true_and, and_true, kw_n, kw_s, kw_w, kw_o, kw_ws, kw_wn, ku_s, ku_n, kg_lk116, kg_ls116, m7, m8, m6]
        refine kg_v116 hL (by omega) 20 ?_
        simp (disch := omega) only [↓kb_0t, ↓kb_0f, ↓kb_1t, ↓kb_1f, ↓kb_2t, ↓kb_2f, ↓kb_3t, ↓kb_3f, ↓kb_4t, ↓kb_4f, ↓kb_5t, ↓kb_5f, ↓kg_S1, kg_S2, kg_br_T, kg_br_F, kg_br_N, kg_br_t, kg_br_f, ↓kg_at_n, nI_add, pk_mul, kg_sub_n, kg_rem_n, kg_eq_n, kg_lt_n, kg_le_n, kg_nz, kg_01_0, kg_01_1, kg_w0_1, kg_ret0, kg_ret1, kg_ret2, kg_wr_n, kg_Skd, kg_Smc, kg_Sob, kg_Srf, kg_Sld, kg_pad, List.map_cons, List.map_nil, List.length_cons, List.length_nil, List.replicate, List.cons_append, List.nil_append, List.append_nil, Nat.reduceAdd, Nat.reduceSub, Nat.reduceMul, Nat.reduceMod, Nat.reduceDiv, Nat.reduceLT, Nat.reduceLeDiff, Nat.reduceEqDiff, ne_eq, not_true_eq_false, not_false_eq_true, reduceIte, true_and, and_true, kw_n, kw_s, kw_w, kw_o, kw_ws, kw_wn, ku_s, ku_n, kg_lk116, kg_ls116]
        have := hKg M6 p (x a) hauj hp4 hT6
        rw [dc] at this
        exact this

theorem kf_T_0 (M : kg_M) : kf_T (kg_wr (kg_wr M 124 7 (nI 0)) 124 8 (nI 0)) M (M 125) 0 0 := by
  refine ⟨fun p p1 p2 => by rw [kg_wr_n p1, kg_wr_n p1], fun i i1 i2 => ?_, by rw [kg_wr_n (by omega), kg_wr_n (by omega)], ?_, ?_⟩
  · rw [kg_wr_s, if_neg i2, kg_wr_s, if_neg i1]
  · rw [kg_wr_s, if_neg (by omega), kg_wr_s, if_pos rfl]
  · rw [kg_wr_s, if_pos rfl]
set_option maxRecDepth 100000 in
theorem kc116 (hL : G.2.2.2.2.2.1 < 2 ^ 31) {b : Nat} (hX : kf_X M x L) (hx2 : ∀ i, i < L → x i < 65536) (hb : b = 0 ∨ (b = 1 ∧ kf_ff x L = none ∧ kf_cm x L + 1 ≤ 10 ∧ M 125 211 = nI 0)) (hd : 7 ≤ d)
    (hKg : ∀ (M' : kg_M) (p nd : Nat), kf_au x L = some (p, nd) → 4 < p → kf_T M' M (if b = 1 then kf_pla (kf_da x (M 125) L).2.2.2 (nI (kf_da x (M 125) L).1) (nI (kf_da x (M 125) L).2.1) (nI (kf_da x (M 125) L).2.2.1) else M 125) L 0 → K (some (.int (nI (kf_cm x L + 1)))) (kg_w0 h) M')
    (hKb : ∀ (M' : kg_M) (f : Nat) (v : Int32), b = 0 → kf_ff x L = some f → kf_T M' M (M 125) f 1 → K (some (.int v)) (kg_w0 h) M') : kg_call G d 129 116 [.ref 124, .int (nI b)] (kg_w0 h) M K := by
  have hT := kf_T_0 M
  obtain ⟨d, rfl⟩ : ∃ e, d = e + 1 := ⟨d - 1, by omega⟩
  refine kg_m116 (by simp) (Nat.le_refl _) (kg_v116 hL (by omega) 20 ?_)
  simp (disch := omega) only [↓kb_0t, ↓kb_0f, ↓kb_1t, ↓kb_1f, ↓kb_2t, ↓kb_2f, ↓kb_3t, ↓kb_3f, ↓kb_4t, ↓kb_4f, ↓kb_5t, ↓kb_5f, ↓kg_S1, kg_S2, kg_br_T, kg_br_F, kg_br_N, kg_br_t, kg_br_f, ↓kg_at_n, nI_add, pk_mul, kg_sub_n, kg_rem_n, kg_eq_n, kg_lt_n, kg_le_n, kg_nz, kg_01_0, kg_01_1, kg_w0_1, kg_ret0, kg_ret1, kg_ret2, kg_wr_n, kg_Skd, kg_Smc, kg_Sob, kg_Srf, kg_Sld, kg_pad, List.map_cons, List.map_nil, List.length_cons, List.length_nil, List.replicate, List.cons_append, List.nil_append, List.append_nil, Nat.reduceAdd, Nat.reduceSub, Nat.reduceMul, Nat.reduceMod, Nat.reduceDiv, Nat.reduceLT, Nat.reduceLeDiff, Nat.reduceEqDiff, ne_eq, not_true_eq_false, not_false_eq_true, reduceIte, true_and, and_true, kw_n, kw_s, kw_w, kw_o, kw_ws, kw_wn, ku_s, ku_n, kg_lk116, kg_ls116]
  refine kc116_l (M0 := M) (r := M 125) (r0 := M 125) hL hX hx2 hb (by omega) hKg hKb (L + 1) 0 32 _ _ _ _ _ _ _ (by omega) (by omega) rfl ?_
  have : (if b = 1 then (kf_da x (M 125) 0).2.2.2 else M 125) = M 125 := by
    rw [kf_da]
    split <;> rfl
  rw [this]
  exact hT
theorem kf_D_T {M1 : kg_M} {a w : Nat} (hD : kf_D M A) (hT : kf_T M1 M r a w) : kf_D M1 (kf_sr A r) := by
  obtain ⟨-, ⟨a2, a3, a4⟩, ⟨a5, a6⟩, a7, a8, a9⟩ := hD
  obtain ⟨h1, h2, h3, -, -⟩ := hT
  refine ⟨fun i hi => by rw [h3]; rfl, ⟨a2, ?_, fun j hj i hi => ?_⟩, ⟨?_, fun e i hi => ?_⟩, a7, ?_, fun i hi => ?_⟩
  · rw [h2 2 (by omega) (by omega)]; exact a3
  · rw [h1 126 (by omega) (by omega)]; exact a4 j hj i hi
  · rw [h2 4 (by omega) (by omega)]; exact a5
  · rw [h1 127 (by omega) (by omega)]; exact a6 e i hi
  · rw [h2 6 (by omega) (by omega)]; exact a8
  · rw [h1 128 (by omega) (by omega)]; exact a9 i hi
theorem kf_X_D (hD : kf_D M A) : kf_X M (kf_m2 A.2.2.2.2.2.2) A.2.2.2.2.2.1 := by
  refine ⟨hD.2.2.2.2.1, hD.2.2.2.1, fun i hi => ?_⟩
  obtain ⟨e, z, hz, ez⟩ := hD.2.2.2.2.2 i hi
  rw [e]
  exact kf_m2_u hz ez
set_option maxRecDepth 100000 in
theorem kc115 (hL : G.2.2.2.2.2.1 < 2 ^ 31) (hD : kf_D M A) (hr : M 125 = A.1) (hd : 8 ≤ d) (hK : ∀ (o : Int32) (A' : kf_A) (M' : kg_M), kf_rpa A = (o, A') → kf_D M' A' → (∀ p, p < 124 → M' p = M p) → K (some (.int o)) (kg_w0 h) M') : kg_call G d 129 115 [.ref 124] (kg_w0 h) M K := by
  obtain ⟨d, rfl⟩ : ∃ e, d = e + 1 := ⟨d - 1, by omega⟩
  refine kg_m115 (by simp) (Nat.le_refl _) (kg_v115 hL (by omega) 60 ?_)
  have hX := kf_X_D hD
  have hx2 : ∀ i, i < A.2.2.2.2.2.1 → kf_m2 A.2.2.2.2.2.2 i < 65536 := fun i hi => (hX.2.2 i hi).2
  unfold kf_rpa at hK
  have n01 : ¬ (0 : Nat) = 1 := by decide
  simp (disch := omega) only [↓kb_0t, ↓kb_0f, ↓kb_1t, ↓kb_1f, ↓kb_2t, ↓kb_2f, ↓kb_3t, ↓kb_3f, ↓kb_4t, ↓kb_4f, ↓kb_5t, ↓kb_5f, ↓kg_S1, kg_S2, kg_br_T, kg_br_F, kg_br_N, kg_br_t, kg_br_f, ↓kg_at_n, nI_add, pk_mul, kg_sub_n, kg_rem_n, kg_eq_n, kg_lt_n, kg_le_n, kg_nz, kg_01_0, kg_01_1, kg_w0_1, kg_ret0, kg_ret1, kg_ret2, kg_wr_n, kg_wr_s, kg_Skd, kg_Smc, kg_Sob, kg_Srf, kg_Sld, kg_pad, List.map_cons, List.map_nil, List.length_cons, List.length_nil, List.replicate, List.cons_append, List.nil_append, List.append_nil, Nat.reduceAdd, Nat.reduceSub, Nat.reduceMul, Nat.reduceMod, Nat.reduceDiv, Nat.reduceLT, Nat.reduceLeDiff, Nat.reduceEqDiff, ne_eq, not_true_eq_false, not_false_eq_true, reduceIte, true_and, and_true, kg_lk115, kg_ls115]
  refine kc116 hL hX hx2 (Or.inl rfl) (by omega) ?_ ?_
  · intro M1 p nd hau hp hT
    rw [if_neg n01, hr] at hT
    have ef := kf_ff_n hau hp
    simp only [ef] at hK
    have z8 := hT.2.2.2.2
    have hD1 : kf_D M1 A := kf_D_T hD hT
    have hcl := kf_ct_le (fun i => decide (kf_m2 A.2.2.2.2.2.2 i = 44)) A.2.2.2.2.2.1
    change kf_cm (kf_m2 A.2.2.2.2.2.2) A.2.2.2.2.2.1 ≤ _ at hcl
    have hl := hX.2.1
    have hfr : ∀ p, p < 124 → M1 p = M p := fun p hp => hT.1 p (by omega) (by omega)
    by_cases q : 10 < kf_cm (kf_m2 A.2.2.2.2.2.2) A.2.2.2.2.2.1 + 1
    · rw [if_pos q] at hK
      simp (disch := omega) only [↓kb_0t, ↓kb_0f, ↓kb_1t, ↓kb_1f, ↓kb_2t, ↓kb_2f, ↓kb_3t, ↓kb_3f, ↓kb_4t, ↓kb_4f, ↓kb_5t, ↓kb_5f, ↓kg_S1, kg_S2, kg_br_T, kg_br_F, kg_br_N, kg_br_t, kg_br_f, ↓kg_at_n, nI_add, pk_mul, kg_sub_n, kg_rem_n, kg_eq_n, kg_lt_n, kg_le_n, kg_nz, kg_01_0, kg_01_1, kg_w0_1, kg_ret0, kg_ret1, kg_ret2, kg_wr_n, kg_wr_s, kg_Skd, kg_Smc, kg_Sob, kg_Srf, kg_Sld, kg_pad, List.map_cons, List.map_nil, List.length_cons, List.length_nil, List.replicate, List.cons_append, List.nil_append, List.append_nil, Nat.reduceAdd, Nat.reduceSub, Nat.reduceMul, Nat.reduceMod, Nat.reduceDiv, Nat.reduceLT, Nat.reduceLeDiff, Nat.reduceEqDiff, ne_eq, not_true_eq_false, not_false_eq_true, reduceIte, true_and, and_true, kg_lk115, kg_ls115, z8]
      exact hK _ _ _ rfl hD1 hfr
    · rw [if_neg q] at hK
      simp (disch := omega) only [↓kb_0t, ↓kb_0f, ↓kb_1t, ↓kb_1f, ↓kb_2t, ↓kb_2f, ↓kb_3t, ↓kb_3f, ↓kb_4t, ↓kb_4f, ↓kb_5t, ↓kb_5f, ↓kg_S1, kg_S2, kg_br_T, kg_br_F, kg_br_N, kg_br_t, kg_br_f, ↓kg_at_n, nI_add, pk_mul, kg_sub_n, kg_rem_n, kg_eq_n, kg_lt_n, kg_le_n, kg_nz, kg_01_0, kg_01_1, kg_w0_1, kg_ret0, kg_ret1, kg_ret2, kg_wr_n, kg_wr_s, kg_Skd, kg_Smc, kg_Sob, kg_Srf, kg_Sld, kg_pad, List.map_cons, List.map_nil, List.length_cons, List.length_nil, List.replicate, List.cons_append, List.nil_append, List.append_nil, Nat.reduceAdd, Nat.reduceSub, Nat.reduceMul, Nat.reduceMod, Nat.reduceDiv, Nat.reduceLT, Nat.reduceLeDiff, Nat.reduceEqDiff, ne_eq, not_true_eq_false, not_false_eq_true, reduceIte, true_and, and_true, kg_lk115, kg_ls115, z8]
      refine kc91r hL hD1 hT.2.2.1 (by omega) ?_
      intro M2 a1 a2 a3
      simp (disch := omega) only [↓kb_0t, ↓kb_0f, ↓kb_1t, ↓kb_1f, ↓kb_2t, ↓kb_2f, ↓kb_3t, ↓kb_3f, ↓kb_4t, ↓kb_4f, ↓kb_5t, ↓kb_5f, ↓kg_S1, kg_S2, kg_br_T, kg_br_F, kg_br_N, kg_br_t, kg_br_f, ↓kg_at_n, nI_add, pk_mul, kg_sub_n, kg_rem_n, kg_eq_n, kg_lt_n, kg_le_n, kg_nz, kg_01_0, kg_01_1, kg_w0_1, kg_ret0, kg_ret1, kg_ret2, kg_wr_n, kg_Skd, kg_Smc, kg_Sob, kg_Srf, kg_Sld, kg_pad, List.map_cons, List.map_nil, List.length_cons, List.length_nil, List.replicate, List.cons_append, List.nil_append, List.append_nil, Nat.reduceAdd, Nat.reduceSub, Nat.reduceMul, Nat.reduceMod, Nat.reduceDiv, Nat.reduceLT, Nat.reduceLeDiff, Nat.reduceEqDiff, ne_eq, not_true_eq_false, not_false_eq_true, reduceIte, true_and, and_true, kw_n, kw_s, kw_w, kw_o, kw_ws, kw_wn, ku_s, ku_n, kg_lk115, kg_ls115]
      have hD2 := a2 (upd A.1 211 (nI 0))
      have e125 : kg_row M2 125 (upd A.1 211 (nI 0)) 125 = upd A.1 211 (nI 0) := kw_s _ _ _
      have hX2 : kf_X (kg_row M2 125 (upd A.1 211 (nI 0))) (kf_m2 A.2.2.2.2.2.2) A.2.2.2.2.2.1 := kf_X_D (A := kf_sr (kf_rec A) (upd A.1 211 (nI 0))) hD2
      refine kc116 (x := kf_m2 A.2.2.2.2.2.2) (L := A.2.2.2.2.2.1) hL hX2 hx2 (Or.inr ⟨rfl, ef, by omega, by rw [e125]; exact ku_s _ _ _⟩) (by omega) ?_ ?_
      · intro M3 p3 nd3 hau3 hp3 hT3
        rw [if_pos rfl, e125] at hT3
        simp (disch := omega) only [↓kb_0t, ↓kb_0f, ↓kb_1t, ↓kb_1f, ↓kb_2t, ↓kb_2f, ↓kb_3t, ↓kb_3f, ↓kb_4t, ↓kb_4f, ↓kb_5t, ↓kb_5f, ↓kg_S1, kg_S2, kg_br_T, kg_br_F, kg_br_N, kg_br_t, kg_br_f, ↓kg_at_n, nI_add, pk_mul, kg_sub_n, kg_rem_n, kg_eq_n, kg_lt_n, kg_le_n, kg_nz, kg_01_0, kg_01_1, kg_w0_1, kg_ret0, kg_ret1, kg_ret2, kg_wr_n, kg_wr_s, kg_Skd, kg_Smc, kg_Sob, kg_Srf, kg_Sld, kg_pad, List.map_cons, List.map_nil, List.length_cons, List.length_nil, List.replicate, List.cons_append, List.nil_append, List.append_nil, Nat.reduceAdd, Nat.reduceSub, Nat.reduceMul, Nat.reduceMod, Nat.reduceDiv, Nat.reduceLT, Nat.reduceLeDiff, Nat.reduceEqDiff, ne_eq, not_true_eq_false, not_false_eq_true, reduceIte, true_and, and_true, kg_lk115, kg_ls115]
        have hD3 : kf_D M3 (kf_sr (kf_rec A) (kf_rpr (kf_m2 A.2.2.2.2.2.2) A.2.2.2.2.2.1 A.1)) := kf_D_T (A := kf_sr (kf_rec A) (upd A.1 211 (nI 0))) hD2 hT3
        refine hK _ _ _ rfl hD3 (fun p hp => ?_)
        rw [hT3.1 p (by omega) (by omega), kw_n (by omega), a3 p hp, hfr p hp]
      · intro M3 f v hb
        cases hb
  · intro M1 f v _ hff hT
    simp only [hff] at hK
    have z8 := hT.2.2.2.2
    have z7 := hT.2.2.2.1
    rw [hr] at hT
    have hD1 : kf_D M1 A := kf_D_T hD hT
    simp (disch := omega) only [↓kb_0t, ↓kb_0f, ↓kb_1t, ↓kb_1f, ↓kb_2t, ↓kb_2f, ↓kb_3t, ↓kb_3f, ↓kb_4t, ↓kb_4f, ↓kb_5t, ↓kb_5f, ↓kg_S1, kg_S2, kg_br_T, kg_br_F, kg_br_N, kg_br_t, kg_br_f, ↓kg_at_n, nI_add, pk_mul, kg_sub_n, kg_rem_n, kg_eq_n, kg_lt_n, kg_le_n, kg_nz, kg_01_0, kg_01_1, kg_w0_1, kg_ret0, kg_ret1, kg_ret2, kg_wr_n, kg_wr_s, kg_Skd, kg_Smc, kg_Sob, kg_Srf, kg_Sld, kg_pad, List.map_cons, List.map_nil, List.length_cons, List.length_nil, List.replicate, List.cons_append, List.nil_append, List.append_nil, Nat.reduceAdd, Nat.reduceSub, Nat.reduceMul, Nat.reduceMod, Nat.reduceDiv, Nat.reduceLT, Nat.reduceLeDiff, Nat.reduceEqDiff, ne_eq, not_true_eq_false, not_false_eq_true, reduceIte, true_and, and_true, kg_lk115, kg_ls115, z8, z7]
    exact hK _ _ _ rfl hD1 (fun p hp => hT.1 p (by omega) (by omega))

end
