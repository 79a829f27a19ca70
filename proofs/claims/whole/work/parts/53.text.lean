/-! the class's fill and readPlan -/
section
variable {G : kg_G} {d c : Nat} {h : Nat → Nat} {A : kf_A} {M : kg_M} {K : kg_Qt} {x : Nat → Nat} {L : Nat} {r : Nat → Int32}
set_option maxRecDepth 100000 in
theorem kc20_l (hL : G.2.2.2.2.2.1 < 2 ^ 31) {M0 : kg_M} {z : Nat × Nat} (hL0 : M0 122 1 = nI L) (hL60 : L ≤ 60) (hx : ∀ i, i < L → M0 123 i = nI (x i)) (hx2 : ∀ i, i < L → x i < 65536) (hz : kf_au x L = some z) (hz4 : 4 < z.1) (hc10 : kf_cm x L + 1 ≤ 10) (hd : 4 ≤ d) (hK : ∀ M' : kg_M, (∀ q, (q < 1 ∨ 20 < q) → M' q = M0 q) → kf_Rel c M' 1 (kf_pla (kf_da x r L).2.2.2 (nI (kf_da x r L).1) (nI (kf_da x r L).2.1) (nI (kf_da x r L).2.2.1)) → kf_pla (kf_da x r L).2.2.2 (nI (kf_da x r L).1) (nI (kf_da x r L).2.1) (nI (kf_da x r L).2.2.1) 211 = nI (kf_cm x L + 1) → K none (kg_w0 h) M') : ∀ (m i : Nat) (M : kg_M) (s6 : Option Value), i + m = L → (∀ q, (q < 1 ∨ 20 < q) → M q = M0 q) → kf_Rel c M 1 (kf_da x r i).2.2.2 → (kf_da x r i).2.2.2 211 = nI (kf_cm x i) → kg_P G d 20 7 129 129 K 15 [some (.ref 122), some (.ref 10), some (.int (nI (kf_da x r i).1)), some (.int (nI (kf_da x r i).2.1)), some (.int (nI (kf_da x r i).2.2.1)), some (.int (nI i)), s6] [] (kg_w0 h) M := by
  have b0 : kf_b false = nI 0 := rfl
  have b1 : kf_b true = nI 1 := rfl
  have ivL := kf_iv_5 hz4 (kf_iv_a (r := r) hx2 L z.1 z.2 (Nat.le_refl _) hz)
  intro m
  induction m with
  | zero =>
    intro i M s6 hi hM hR h211
    obtain rfl : i = L := by omega
    have e0 : M 122 1 = nI i := by rw [hM 122 (by omega)]; exact hL0
    have e10 : M 10 0 = nI (kf_cm x i) := by
      obtain ⟨p', -, h2, h3, -⟩ := hR.2.2.2.2.2.1
      exact h2.trans (h3.symm.trans h211)
    refine kg_v20 hL (by omega) 60 ?_
    simp (disch := omega) only [↓kb_0t, ↓kb_0f, ↓kb_1t, ↓kb_1f, ↓kb_2t, ↓kb_2f, ↓kb_3t, ↓kb_3f, ↓kb_4t, ↓kb_4f, ↓kb_5t, ↓kb_5f, ↓kg_S1, kg_S2, kg_br_T, kg_br_F, kg_br_N, kg_br_t, kg_br_f, ↓kg_at_n, nI_add, pk_mul, kg_sub_n, kg_rem_n, kg_eq_n, kg_lt_n, kg_le_n, kg_nz, kg_01_0, kg_01_1, kg_w0_1, kg_ret0, kg_ret1, kg_ret2, kg_wr_n, kg_wr_s, kg_Skd, kg_Smc, kg_Sob, kg_Srf, kg_Sld, kg_pad, List.map_cons, List.map_nil, List.length_cons, List.length_nil, List.replicate, List.cons_append, List.nil_append, List.append_nil, Nat.reduceAdd, Nat.reduceSub, Nat.reduceMul, Nat.reduceMod, Nat.reduceDiv, Nat.reduceLT, Nat.reduceLeDiff, Nat.reduceEqDiff, ne_eq, not_true_eq_false, not_false_eq_true, reduceIte, true_and, and_true, kg_lk20, kg_ls20, e0]
    refine kc13 hL (by omega) e10 (by omega) ?_
    simp (disch := omega) only [↓kb_0t, ↓kb_0f, ↓kb_1t, ↓kb_1f, ↓kb_2t, ↓kb_2f, ↓kb_3t, ↓kb_3f, ↓kb_4t, ↓kb_4f, ↓kb_5t, ↓kb_5f, ↓kg_S1, kg_S2, kg_br_T, kg_br_F, kg_br_N, kg_br_t, kg_br_f, ↓kg_at_n, nI_add, pk_mul, kg_sub_n, kg_rem_n, kg_eq_n, kg_lt_n, kg_le_n, kg_nz, kg_01_0, kg_01_1, kg_w0_1, kg_ret0, kg_ret1, kg_ret2, kg_wr_n, kg_wr_s, kg_Skd, kg_Smc, kg_Sob, kg_Srf, kg_Sld, kg_pad, List.map_cons, List.map_nil, List.length_cons, List.length_nil, List.replicate, List.cons_append, List.nil_append, List.append_nil, Nat.reduceAdd, Nat.reduceSub, Nat.reduceMul, Nat.reduceMod, Nat.reduceDiv, Nat.reduceLT, Nat.reduceLeDiff, Nat.reduceEqDiff, ne_eq, not_true_eq_false, not_false_eq_true, reduceIte, true_and, and_true, kg_lk20, kg_ls20]
    refine hK _ (fun q hq => ?_) (kf_Rel_pa hR h211 (by omega) ivL.2.1 ivL.2.2.1 ivL.2.2.2) (kf_pla_2 h211)
    unfold kf_pm4
    rw [kg_wr_n (by omega), kg_wr_n (by omega), kg_wr_n (by omega), kg_wr_n (by omega)]
    exact hM q hq
  | succ m ih =>
    intro i M s6 hi hM hR h211
    have e0 : M 122 1 = nI L := by rw [hM 122 (by omega)]; exact hL0
    have e1 : M 123 i = nI (x i) := by rw [hM 123 (by omega)]; exact hx i (by omega)
    have e2 := hx2 i (by omega)
    obtain ⟨p, nd, ha⟩ := kf_au_m hz (i := i) (by omega)
    obtain ⟨p1, nd1, ha1⟩ := kf_au_m hz (i := i + 1) (by omega)
    have hp8 := (kf_au_b hx2 i p nd (by omega) ha).1
    have iv := kf_iv_a (r := r) hx2 i p nd (by omega) ha
    obtain ⟨p', nd', h1, h2, h3⟩ := kf_au_p ha1
    rw [ha] at h1
    cases h1
    have hcm := kf_cm_m (x := x) i (L - i)
    rw [show i + (L - i) = L by omega] at hcm
    have hnum := kf_iv_n iv
    have ih' := fun M s6 => ih (i + 1) M s6 (by omega)
    rw [kf_da] at ih'
    refine kg_v20 hL (by omega) 60 ?_
    simp (disch := omega) only [↓kb_0t, ↓kb_0f, ↓kb_1t, ↓kb_1f, ↓kb_2t, ↓kb_2f, ↓kb_3t, ↓kb_3f, ↓kb_4t, ↓kb_4f, ↓kb_5t, ↓kb_5f, ↓kg_S1, kg_S2, kg_br_T, kg_br_F, kg_br_N, kg_br_t, kg_br_f, ↓kg_at_n, nI_add, pk_mul, kg_sub_n, kg_rem_n, kg_eq_n, kg_lt_n, kg_le_n, kg_nz, kg_01_0, kg_01_1, kg_w0_1, kg_ret0, kg_ret1, kg_ret2, kg_wr_n, kg_wr_s, kg_Skd, kg_Smc, kg_Sob, kg_Srf, kg_Sld, kg_pad, List.map_cons, List.map_nil, List.length_cons, List.length_nil, List.replicate, List.cons_append, List.nil_append, List.append_nil, Nat.reduceAdd, Nat.reduceSub, Nat.reduceMul, Nat.reduceMod, Nat.reduceDiv, Nat.reduceLT, Nat.reduceLeDiff, Nat.reduceEqDiff, ne_eq, not_true_eq_false, not_false_eq_true, reduceIte, true_and, and_true, kg_lk20, kg_ls20, e0, e1]
    refine kc18 hL e2 (by omega) ?_
    cases ed : kf_dig (x i) with
    | true =>
      have hd2 := kf_dig_t ed
      have ec : kf_cm x (i + 1) = kf_cm x i := kf_ct_f (by simp; omega)
      rw [if_pos ed] at ih'
      rw [b1]
      simp (disch := omega) only [↓kb_0t, ↓kb_0f, ↓kb_1t, ↓kb_1f, ↓kb_2t, ↓kb_2f, ↓kb_3t, ↓kb_3f, ↓kb_4t, ↓kb_4f, ↓kb_5t, ↓kb_5f, ↓kg_S1, kg_S2, kg_br_T, kg_br_F, kg_br_N, kg_br_t, kg_br_f, ↓kg_at_n, nI_add, pk_mul, kg_sub_n, kg_rem_n, kg_eq_n, kg_lt_n, kg_le_n, kg_nz, kg_01_0, kg_01_1, kg_w0_1, kg_ret0, kg_ret1, kg_ret2, kg_wr_n, kg_wr_s, kg_Skd, kg_Smc, kg_Sob, kg_Srf, kg_Sld, kg_pad, List.map_cons, List.map_nil, List.length_cons, List.length_nil, List.replicate, List.cons_append, List.nil_append, List.append_nil, Nat.reduceAdd, Nat.reduceSub, Nat.reduceMul, Nat.reduceMod, Nat.reduceDiv, Nat.reduceLT, Nat.reduceLeDiff, Nat.reduceEqDiff, ne_eq, not_true_eq_false, not_false_eq_true, reduceIte, true_and, and_true, kg_lk20, kg_ls20]
      refine ih' M _ hM hR (by rw [ec]; exact h211)
    | false =>
      rw [if_neg (by rw [ed]; simp)] at ih'
      rw [b0]
      by_cases q1 : x i = 45
      · have ec : kf_cm x (i + 1) = kf_cm x i := kf_ct_f (by simp; omega)
        rw [if_pos q1] at ih'
        simp (disch := omega) only [↓kb_0t, ↓kb_0f, ↓kb_1t, ↓kb_1f, ↓kb_2t, ↓kb_2f, ↓kb_3t, ↓kb_3f, ↓kb_4t, ↓kb_4f, ↓kb_5t, ↓kb_5f, ↓kg_S1, kg_S2, kg_br_T, kg_br_F, kg_br_N, kg_br_t, kg_br_f, ↓kg_at_n, nI_add, pk_mul, kg_sub_n, kg_rem_n, kg_eq_n, kg_lt_n, kg_le_n, kg_nz, kg_01_0, kg_01_1, kg_w0_1, kg_ret0, kg_ret1, kg_ret2, kg_wr_n, kg_wr_s, kg_Skd, kg_Smc, kg_Sob, kg_Srf, kg_Sld, kg_pad, List.map_cons, List.map_nil, List.length_cons, List.length_nil, List.replicate, List.cons_append, List.nil_append, List.append_nil, Nat.reduceAdd, Nat.reduceSub, Nat.reduceMul, Nat.reduceMod, Nat.reduceDiv, Nat.reduceLT, Nat.reduceLeDiff, Nat.reduceEqDiff, ne_eq, not_true_eq_false, not_false_eq_true, reduceIte, true_and, and_true, kg_lk20, kg_ls20]
        exact ih' M _ hM hR (by rw [ec]; exact h211)
      rw [if_neg q1] at ih'
      by_cases q2 : x i = 64
      · have ec : kf_cm x (i + 1) = kf_cm x i := kf_ct_f (by simp; omega)
        rw [if_pos q2] at ih'
        simp (disch := omega) only [↓kb_0t, ↓kb_0f, ↓kb_1t, ↓kb_1f, ↓kb_2t, ↓kb_2f, ↓kb_3t, ↓kb_3f, ↓kb_4t, ↓kb_4f, ↓kb_5t, ↓kb_5f, ↓kg_S1, kg_S2, kg_br_T, kg_br_F, kg_br_N, kg_br_t, kg_br_f, ↓kg_at_n, nI_add, pk_mul, kg_sub_n, kg_rem_n, kg_eq_n, kg_lt_n, kg_le_n, kg_nz, kg_01_0, kg_01_1, kg_w0_1, kg_ret0, kg_ret1, kg_ret2, kg_wr_n, kg_wr_s, kg_Skd, kg_Smc, kg_Sob, kg_Srf, kg_Sld, kg_pad, List.map_cons, List.map_nil, List.length_cons, List.length_nil, List.replicate, List.cons_append, List.nil_append, List.append_nil, Nat.reduceAdd, Nat.reduceSub, Nat.reduceMul, Nat.reduceMod, Nat.reduceDiv, Nat.reduceLT, Nat.reduceLeDiff, Nat.reduceEqDiff, ne_eq, not_true_eq_false, not_false_eq_true, reduceIte, true_and, and_true, kg_lk20, kg_ls20]
        exact ih' M _ hM hR (by rw [ec]; exact h211)
      rw [if_neg q2] at ih'
      have hp5 := kf_sg_x h2 (by rw [ed]; simp) q1 q2
      have ec : kf_cm x (i + 1) = kf_cm x i + 1 := kf_ct_t (by simp; exact hp5.2)
      have iv5 := kf_iv_5 hp5.1 iv
      have e10 : M 10 0 = nI (kf_cm x i) := by
        obtain ⟨p', -, h2, h3, -⟩ := hR.2.2.2.2.2.1
        exact h2.trans (h3.symm.trans h211)
      have hcm2 := kf_cm_m (x := x) (i + 1) (L - (i + 1))
      rw [show i + 1 + (L - (i + 1)) = L by omega] at hcm2
      simp (disch := omega) only [↓kb_0t, ↓kb_0f, ↓kb_1t, ↓kb_1f, ↓kb_2t, ↓kb_2f, ↓kb_3t, ↓kb_3f, ↓kb_4t, ↓kb_4f, ↓kb_5t, ↓kb_5f, ↓kg_S1, kg_S2, kg_br_T, kg_br_F, kg_br_N, kg_br_t, kg_br_f, ↓kg_at_n, nI_add, pk_mul, kg_sub_n, kg_rem_n, kg_eq_n, kg_lt_n, kg_le_n, kg_nz, kg_01_0, kg_01_1, kg_w0_1, kg_ret0, kg_ret1, kg_ret2, kg_wr_n, kg_wr_s, kg_Skd, kg_Smc, kg_Sob, kg_Srf, kg_Sld, kg_pad, List.map_cons, List.map_nil, List.length_cons, List.length_nil, List.replicate, List.cons_append, List.nil_append, List.append_nil, Nat.reduceAdd, Nat.reduceSub, Nat.reduceMul, Nat.reduceMod, Nat.reduceDiv, Nat.reduceLT, Nat.reduceLeDiff, Nat.reduceEqDiff, ne_eq, not_true_eq_false, not_false_eq_true, reduceIte, true_and, and_true, kg_lk20, kg_ls20]
      refine kc13 hL (by omega) e10 (by omega) ?_
      simp (disch := omega) only [↓kb_0t, ↓kb_0f, ↓kb_1t, ↓kb_1f, ↓kb_2t, ↓kb_2f, ↓kb_3t, ↓kb_3f, ↓kb_4t, ↓kb_4f, ↓kb_5t, ↓kb_5f, ↓kg_S1, kg_S2, kg_br_T, kg_br_F, kg_br_N, kg_br_t, kg_br_f, ↓kg_at_n, nI_add, pk_mul, kg_sub_n, kg_rem_n, kg_eq_n, kg_lt_n, kg_le_n, kg_nz, kg_01_0, kg_01_1, kg_w0_1, kg_ret0, kg_ret1, kg_ret2, kg_wr_n, kg_wr_s, kg_Skd, kg_Smc, kg_Sob, kg_Srf, kg_Sld, kg_pad, List.map_cons, List.map_nil, List.length_cons, List.length_nil, List.replicate, List.cons_append, List.nil_append, List.append_nil, Nat.reduceAdd, Nat.reduceSub, Nat.reduceMul, Nat.reduceMod, Nat.reduceDiv, Nat.reduceLT, Nat.reduceLeDiff, Nat.reduceEqDiff, ne_eq, not_true_eq_false, not_false_eq_true, reduceIte, true_and, and_true, kg_lk20, kg_ls20]
      refine ih' _ _ (fun q hq => ?_) (kf_Rel_pa hR h211 (by omega) iv5.2.1 iv5.2.2.1 iv5.2.2.2) ?_
      · unfold kf_pm4
        rw [kg_wr_n (by omega), kg_wr_n (by omega), kg_wr_n (by omega), kg_wr_n (by omega)]
        exact hM q hq
      · show kf_pla (kf_da x r i).2.2.2 (nI (kf_da x r i).1) (nI (kf_da x r i).2.1) (nI (kf_da x r i).2.2.1) 211 = nI (kf_cm x (i + 1))
        rw [ec]; exact kf_pla_2 h211
set_option maxRecDepth 100000 in
theorem kc20 (hL : G.2.2.2.2.2.1 < 2 ^ 31) {z : Nat × Nat} (hL0 : M 122 1 = nI L) (hL60 : L ≤ 60) (hx : ∀ i, i < L → M 123 i = nI (x i)) (hx2 : ∀ i, i < L → x i < 65536) (hz : kf_au x L = some z) (hz4 : 4 < z.1) (hc10 : kf_cm x L + 1 ≤ 10) (hR : kf_Rel c M 1 r) (hd : 5 ≤ d) (hK : ∀ M' : kg_M, (∀ q, (q < 1 ∨ 20 < q) → M' q = M q) → kf_Rel c M' 1 (kf_rpr x L r) → kf_rpr x L r 211 = nI (kf_cm x L + 1) → K none (kg_w0 h) M') : kg_call G d 129 20 [.ref 122, .ref 10] (kg_w0 h) M K := by
  obtain ⟨d, rfl⟩ : ∃ e, d = e + 1 := ⟨d - 1, by omega⟩
  refine kg_m20 (by simp) (Nat.le_refl _) (kg_v20 hL (by omega) 40 ?_)
  simp (disch := omega) only [↓kb_0t, ↓kb_0f, ↓kb_1t, ↓kb_1f, ↓kb_2t, ↓kb_2f, ↓kb_3t, ↓kb_3f, ↓kb_4t, ↓kb_4f, ↓kb_5t, ↓kb_5f, ↓kg_S1, kg_S2, kg_br_T, kg_br_F, kg_br_N, kg_br_t, kg_br_f, ↓kg_at_n, nI_add, pk_mul, kg_sub_n, kg_rem_n, kg_eq_n, kg_lt_n, kg_le_n, kg_nz, kg_01_0, kg_01_1, kg_w0_1, kg_ret0, kg_ret1, kg_ret2, kg_wr_n, kg_wr_s, kg_Skd, kg_Smc, kg_Sob, kg_Srf, kg_Sld, kg_pad, List.map_cons, List.map_nil, List.length_cons, List.length_nil, List.replicate, List.cons_append, List.nil_append, List.append_nil, Nat.reduceAdd, Nat.reduceSub, Nat.reduceMul, Nat.reduceMod, Nat.reduceDiv, Nat.reduceLT, Nat.reduceLeDiff, Nat.reduceEqDiff, ne_eq, not_true_eq_false, not_false_eq_true, reduceIte, true_and, and_true, kg_lk20, kg_ls20]
  have hR0 : kf_Rel c (kg_wr M 10 0 (nI 0)) 1 (upd r 211 (nI 0)) := by
    refine kf_Rel_P hR (fun q h1 h2 => kg_wr_n (by omega)) (fun i hi => if_neg (by omega)) ⟨0, by omega, ?_, if_pos rfl, fun i hi => by omega⟩
    rw [kg_wr_s, if_pos rfl]
  have h00 : (kf_da x (upd r 211 (nI 0)) 0).2.2.2 211 = nI (kf_cm x 0) := by
    rw [kf_da]
    exact ku_s r 211 (nI 0)
  exact kc20_l hL (r := upd r 211 (nI 0)) (M0 := M) hL0 hL60 hx hx2 hz hz4 hc10 (by omega) hK L 0 _ _ (Nat.zero_add _) (fun q hq => kg_wr_n (by omega)) hR0 h00
set_option maxRecDepth 100000 in
theorem kc71 (hL : G.2.2.2.2.2.1 < 2 ^ 31) (hC : kf_C c h M A) (hd : 7 ≤ d) (hK : ∀ (o : Int32) (A' : kf_A) (h' : Nat → Nat) (M' : kg_M), kf_rpa A = (o, A') → kf_C c h' M' A' → (∀ p, 123 < p → M' p = M p) → K (some (.int o)) (kg_w0 h') M') : kg_call G d 129 71 [.ref 0] (kg_w0 h) M K := by
  obtain ⟨d, rfl⟩ : ∃ e, d = e + 1 := ⟨d - 1, by omega⟩
  refine kg_m71 (by simp) (Nat.le_refl _) (kg_v71 hL (by omega) 60 ?_)
  obtain ⟨l1, l2, l3⟩ := hC.2.2.2
  have hx : ∀ i, i < A.2.2.2.2.2.1 → M 123 i = nI (kf_m2 A.2.2.2.2.2.2 i) ∧ kf_m2 A.2.2.2.2.2.2 i < 65536 := by
    intro i hi
    obtain ⟨e, z, hz, ez⟩ := l3 i hi
    have := kf_m2_u hz ez
    rw [e]; exact this
  have hx1 := fun i hi => (hx i hi).1
  have hx2 := fun i hi => (hx i hi).2
  simp (disch := omega) only [↓kb_0t, ↓kb_0f, ↓kb_1t, ↓kb_1f, ↓kb_2t, ↓kb_2f, ↓kb_3t, ↓kb_3f, ↓kb_4t, ↓kb_4f, ↓kb_5t, ↓kb_5f, ↓kg_S1, kg_S2, kg_br_T, kg_br_F, kg_br_N, kg_br_t, kg_br_f, ↓kg_at_n, nI_add, pk_mul, kg_sub_n, kg_rem_n, kg_eq_n, kg_lt_n, kg_le_n, kg_nz, kg_01_0, kg_01_1, kg_w0_1, kg_ret0, kg_ret1, kg_ret2, kg_wr_n, kg_wr_s, kg_Skd, kg_Smc, kg_Sob, kg_Srf, kg_Sld, kg_pad, List.map_cons, List.map_nil, List.length_cons, List.length_nil, List.replicate, List.cons_append, List.nil_append, List.append_nil, Nat.reduceAdd, Nat.reduceSub, Nat.reduceMul, Nat.reduceMod, Nat.reduceDiv, Nat.reduceLT, Nat.reduceLeDiff, Nat.reduceEqDiff, ne_eq, not_true_eq_false, not_false_eq_true, reduceIte, true_and, and_true, kg_lk71, kg_ls71]
  refine kc15 hL l2 l1 hx1 hx2 (by omega) ?_
  unfold kf_rpa at hK
  cases ef : kf_ff (kf_m2 A.2.2.2.2.2.2) A.2.2.2.2.2.1 with
  | some f =>
    simp only [ef] at hK
    have hf : f ≤ 60 := by
      unfold kf_ff at ef
      have hfi : ∀ n, kf_fi (kf_m2 A.2.2.2.2.2.2) n ≤ n := by
        intro n
        induction n with
        | zero => exact Nat.le_refl _
        | succ n ih => rw [kf_fi]; split <;> omega
      split at ef
      · cases ef; have := hfi A.2.2.2.2.2.1; omega
      · split at ef
        · cases ef
        · cases ef; exact l1
    simp (disch := omega) only [↓kb_0t, ↓kb_0f, ↓kb_1t, ↓kb_1f, ↓kb_2t, ↓kb_2f, ↓kb_3t, ↓kb_3f, ↓kb_4t, ↓kb_4f, ↓kb_5t, ↓kb_5f, ↓kg_S1, kg_S2, kg_br_T, kg_br_F, kg_br_N, kg_br_t, kg_br_f, ↓kg_at_n, nI_add, pk_mul, kg_sub_n, kg_rem_n, kg_eq_n, kg_lt_n, kg_le_n, kg_nz, kg_01_0, kg_01_1, kg_w0_1, kg_ret0, kg_ret1, kg_ret2, kg_wr_n, kg_wr_s, kg_Skd, kg_Smc, kg_Sob, kg_Srf, kg_Sld, kg_pad, List.map_cons, List.map_nil, List.length_cons, List.length_nil, List.replicate, List.cons_append, List.nil_append, List.append_nil, Nat.reduceAdd, Nat.reduceSub, Nat.reduceMul, Nat.reduceMod, Nat.reduceDiv, Nat.reduceLT, Nat.reduceLeDiff, Nat.reduceEqDiff, ne_eq, not_true_eq_false, not_false_eq_true, reduceIte, true_and, and_true, kg_lk71, kg_ls71, kf_oi, kf_nn]
    exact hK _ _ _ _ rfl hC (fun _ _ => rfl)
  | none =>
    simp only [ef] at hK
    simp (disch := omega) only [↓kb_0t, ↓kb_0f, ↓kb_1t, ↓kb_1f, ↓kb_2t, ↓kb_2f, ↓kb_3t, ↓kb_3f, ↓kb_4t, ↓kb_4f, ↓kb_5t, ↓kb_5f, ↓kg_S1, kg_S2, kg_br_T, kg_br_F, kg_br_N, kg_br_t, kg_br_f, ↓kg_at_n, nI_add, pk_mul, kg_sub_n, kg_rem_n, kg_eq_n, kg_lt_n, kg_le_n, kg_nz, kg_01_0, kg_01_1, kg_w0_1, kg_ret0, kg_ret1, kg_ret2, kg_wr_n, kg_wr_s, kg_Skd, kg_Smc, kg_Sob, kg_Srf, kg_Sld, kg_pad, List.map_cons, List.map_nil, List.length_cons, List.length_nil, List.replicate, List.cons_append, List.nil_append, List.append_nil, Nat.reduceAdd, Nat.reduceSub, Nat.reduceMul, Nat.reduceMod, Nat.reduceDiv, Nat.reduceLT, Nat.reduceLeDiff, Nat.reduceEqDiff, ne_eq, not_true_eq_false, not_false_eq_true, reduceIte, true_and, and_true, kg_lk71, kg_ls71, kf_oi, eq_self]
    refine kc19 hL l2 l1 hx1 hx2 (by omega) ?_
    have hcl := kf_ct_le (fun i => decide (kf_m2 A.2.2.2.2.2.2 i = 44)) A.2.2.2.2.2.1
    change kf_cm (kf_m2 A.2.2.2.2.2.2) A.2.2.2.2.2.1 ≤ _ at hcl
    by_cases q : 10 < kf_cm (kf_m2 A.2.2.2.2.2.2) A.2.2.2.2.2.1 + 1
    · rw [if_pos q] at hK
      simp (disch := omega) only [↓kb_0t, ↓kb_0f, ↓kb_1t, ↓kb_1f, ↓kb_2t, ↓kb_2f, ↓kb_3t, ↓kb_3f, ↓kb_4t, ↓kb_4f, ↓kb_5t, ↓kb_5f, ↓kg_S1, kg_S2, kg_br_T, kg_br_F, kg_br_N, kg_br_t, kg_br_f, ↓kg_at_n, nI_add, pk_mul, kg_sub_n, kg_rem_n, kg_eq_n, kg_lt_n, kg_le_n, kg_nz, kg_01_0, kg_01_1, kg_w0_1, kg_ret0, kg_ret1, kg_ret2, kg_wr_n, kg_wr_s, kg_Skd, kg_Smc, kg_Sob, kg_Srf, kg_Sld, kg_pad, List.map_cons, List.map_nil, List.length_cons, List.length_nil, List.replicate, List.cons_append, List.nil_append, List.append_nil, Nat.reduceAdd, Nat.reduceSub, Nat.reduceMul, Nat.reduceMod, Nat.reduceDiv, Nat.reduceLT, Nat.reduceLeDiff, Nat.reduceEqDiff, ne_eq, not_true_eq_false, not_false_eq_true, reduceIte, true_and, and_true, kg_lk71, kg_ls71]
      exact hK _ _ _ _ rfl hC (fun _ _ => rfl)
    · rw [if_neg q] at hK
      have hz : ∃ z, kf_au (kf_m2 A.2.2.2.2.2.2) A.2.2.2.2.2.1 = some z ∧ 4 < z.1 := by
        unfold kf_ff at ef
        split at ef
        · cases ef
        · rename_i p nd e
          split at ef
          · exact ⟨_, e, ‹_›⟩
          · cases ef
      obtain ⟨z, hz1, hz2⟩ := hz
      simp (disch := omega) only [↓kb_0t, ↓kb_0f, ↓kb_1t, ↓kb_1f, ↓kb_2t, ↓kb_2f, ↓kb_3t, ↓kb_3f, ↓kb_4t, ↓kb_4f, ↓kb_5t, ↓kb_5f, ↓kg_S1, kg_S2, kg_br_T, kg_br_F, kg_br_N, kg_br_t, kg_br_f, ↓kg_at_n, nI_add, pk_mul, kg_sub_n, kg_rem_n, kg_eq_n, kg_lt_n, kg_le_n, kg_nz, kg_01_0, kg_01_1, kg_w0_1, kg_ret0, kg_ret1, kg_ret2, kg_wr_n, kg_wr_s, kg_Skd, kg_Smc, kg_Sob, kg_Srf, kg_Sld, kg_pad, List.map_cons, List.map_nil, List.length_cons, List.length_nil, List.replicate, List.cons_append, List.nil_append, List.append_nil, Nat.reduceAdd, Nat.reduceSub, Nat.reduceMul, Nat.reduceMod, Nat.reduceDiv, Nat.reduceLT, Nat.reduceLeDiff, Nat.reduceEqDiff, ne_eq, not_true_eq_false, not_false_eq_true, reduceIte, true_and, and_true, kg_lk71, kg_ls71]
      refine kcR2 hL hC (by omega) ?_
      intro h1 M1 c1 c2
      simp (disch := omega) only [↓kb_0t, ↓kb_0f, ↓kb_1t, ↓kb_1f, ↓kb_2t, ↓kb_2f, ↓kb_3t, ↓kb_3f, ↓kb_4t, ↓kb_4f, ↓kb_5t, ↓kb_5f, ↓kg_S1, kg_S2, kg_br_T, kg_br_F, kg_br_N, kg_br_t, kg_br_f, ↓kg_at_n, nI_add, pk_mul, kg_sub_n, kg_rem_n, kg_eq_n, kg_lt_n, kg_le_n, kg_nz, kg_01_0, kg_01_1, kg_w0_1, kg_ret0, kg_ret1, kg_ret2, kg_wr_n, kg_wr_s, kg_Skd, kg_Smc, kg_Sob, kg_Srf, kg_Sld, kg_pad, List.map_cons, List.map_nil, List.length_cons, List.length_nil, List.replicate, List.cons_append, List.nil_append, List.append_nil, Nat.reduceAdd, Nat.reduceSub, Nat.reduceMul, Nat.reduceMod, Nat.reduceDiv, Nat.reduceLT, Nat.reduceLeDiff, Nat.reduceEqDiff, ne_eq, not_true_eq_false, not_false_eq_true, reduceIte, true_and, and_true, kg_lk71, kg_ls71]
      refine kc20 hL (x := kf_m2 A.2.2.2.2.2.2) (L := A.2.2.2.2.2.1) (by rw [c2 122 (by omega) (by omega)]; exact l2) l1 (fun i hi => by rw [c2 123 (by omega) (by omega)]; exact hx1 i hi) hx2 hz1 hz2 (by omega) c1.1 (by omega) ?_
      intro M2 e1 e2 e3
      have e4 : M2 10 0 = nI (kf_cm (kf_m2 A.2.2.2.2.2.2) A.2.2.2.2.2.1 + 1) := by
        obtain ⟨p', -, h2, h3, -⟩ := e2.2.2.2.2.2.1
        exact h2.trans (h3.symm.trans e3)
      simp (disch := omega) only [↓kb_0t, ↓kb_0f, ↓kb_1t, ↓kb_1f, ↓kb_2t, ↓kb_2f, ↓kb_3t, ↓kb_3f, ↓kb_4t, ↓kb_4f, ↓kb_5t, ↓kb_5f, ↓kg_S1, kg_S2, kg_br_T, kg_br_F, kg_br_N, kg_br_t, kg_br_f, ↓kg_at_n, nI_add, pk_mul, kg_sub_n, kg_rem_n, kg_eq_n, kg_lt_n, kg_le_n, kg_nz, kg_01_0, kg_01_1, kg_w0_1, kg_ret0, kg_ret1, kg_ret2, kg_wr_n, kg_wr_s, kg_Skd, kg_Smc, kg_Sob, kg_Srf, kg_Sld, kg_pad, List.map_cons, List.map_nil, List.length_cons, List.length_nil, List.replicate, List.cons_append, List.nil_append, List.append_nil, Nat.reduceAdd, Nat.reduceSub, Nat.reduceMul, Nat.reduceMod, Nat.reduceDiv, Nat.reduceLT, Nat.reduceLeDiff, Nat.reduceEqDiff, ne_eq, not_true_eq_false, not_false_eq_true, reduceIte, true_and, and_true, kg_lk71, kg_ls71, e4]
      exact hK _ _ _ _ rfl (kf_C_st c1 (Nat.le_refl _) e2 (fun p hp => e1 p hp)) (fun p hp => (e1 p (by omega)).trans (c2 p (by omega) (by omega)))
end
