/-! the model's plan, clear, text, undo, keep and restore -/
theorem kf_pla_u {r : Nat → Int32} {p : Nat} {a b t : Int32} (e : r 211 = nI p) (hp : p ≤ 10) : upd (upd (upd (upd r (212 + 3 * p) a) (212 + 3 * p + 1) b) (212 + 3 * p + 2) t) 211 (nI (p + 1)) = kf_pla r a b t := by
  unfold kf_pla
  rw [kf_m2_n (by omega) e, e, nI_add]
theorem kf_J_p {c : Nat} {r : Nat → Int32} (hJ : kf_J c r) : ∃ p : Nat, p ≤ 10 ∧ r 211 = nI p ∧ kf_m2 r 211 = p := by
  obtain ⟨-, p, h1, h2, -⟩ := hJ
  exact ⟨p, h1, h2, kf_m2_n (by omega) h2⟩
theorem kf_cp_s (b s : Nat → Int32) (k : Nat) : upd (kf_ch b s 0 k) k (s k) = kf_ch b s 0 (k + 1) := by
  have := kf_ch_s b s 0 k
  rw [Nat.mul_zero, Nat.zero_add] at this
  exact this
section
variable {G : kg_G} {d c : Nat} {h : Nat → Nat} {A : kf_A} {M : kg_M} {K : kg_Qt} {r : Nat → Int32}

set_option maxRecDepth 100000 in
theorem kc114 (hL : G.2.2.2.2.2.1 < 2 ^ 31) {p : Nat} {a b t : Int32} (e : r 211 = nI p) (hp : p < 10) (hd : 2 ≤ d) (hK : K (some (.int (nI (p + 1)))) (kg_w0 h) (kg_row M 125 (kf_pla r a b t))) : kg_call G d 129 114 [.ref 124, .int a, .int b, .int t] (kg_w0 h) (kg_row M 125 r) K := by
  rw [← kf_pla_u e (by omega)] at hK
  obtain ⟨d, rfl⟩ : ∃ e, d = e + 1 := ⟨d - 1, by omega⟩
  refine kg_m114 (by simp) (Nat.le_refl _) (kg_v114 hL (by omega) 60 ?_)
  simp (disch := omega) only [kg_S1, kg_S2, kg_br_T, kg_br_F, kg_br_N, kg_br_t, kg_br_f, kg_at_n, nI_add, pk_mul, kg_sub_n, kg_rem_n, kg_eq_n, kg_lt_n, kg_le_n, kg_nz, kg_01_0, kg_01_1, kg_w0_1, kg_ret0, kg_ret1, kg_ret2, kg_wr_n, kg_Skd, kg_Smc, kg_Sob, kg_Srf, kg_Sld, kg_pad, List.map_cons, List.map_nil, List.length_cons, List.length_nil, List.replicate, List.cons_append, List.nil_append, List.append_nil, Nat.reduceAdd, Nat.reduceSub, Nat.reduceMul, Nat.reduceMod, Nat.reduceDiv, Nat.reduceLT, Nat.reduceLeDiff, Nat.reduceEqDiff, ne_eq, not_true_eq_false, not_false_eq_true, reduceIte, true_and, and_true, kw_n, kw_s, kw_w, kw_o, kw_ws, kw_wn, ku_s, ku_n, kg_lk114, kg_ls114, e]
  exact hK

set_option maxRecDepth 100000 in
theorem kc113 (hL : G.2.2.2.2.2.1 < 2 ^ 31) {i k t : Int32} (hJ : kf_J c A.1) (hD : kf_D M A) (hr : M 125 = A.1) (hd : 6 ≤ d) (hK : ∀ (o : Int32) (A' : kf_A) (M' : kg_M), kf_plc A i k t = (o, A') → kf_D M' A' → (∀ p, p < 124 → M' p = M p) → K (some (.int o)) (kg_w0 h) M') : kg_call G d 129 113 [.ref 124, .int i, .int k, .int t] (kg_w0 h) M K := by
  obtain ⟨d, rfl⟩ : ∃ e, d = e + 1 := ⟨d - 1, by omega⟩
  refine kg_m113 (by simp) (Nat.le_refl _) (kg_v113 hL (by omega) 60 ?_)
  simp (disch := omega) only [kg_S1, kg_S2, kg_br_T, kg_br_F, kg_br_N, kg_br_t, kg_br_f, kg_at_n, nI_add, pk_mul, kg_sub_n, kg_rem_n, kg_eq_n, kg_lt_n, kg_le_n, kg_nz, kg_01_0, kg_01_1, kg_w0_1, kg_ret0, kg_ret1, kg_ret2, kg_wr_n, kg_wr_s, kg_Skd, kg_Smc, kg_Sob, kg_Srf, kg_Sld, kg_pad, List.map_cons, List.map_nil, List.length_cons, List.length_nil, List.replicate, List.cons_append, List.nil_append, List.append_nil, Nat.reduceAdd, Nat.reduceSub, Nat.reduceMul, Nat.reduceMod, Nat.reduceDiv, Nat.reduceLT, Nat.reduceLeDiff, Nat.reduceEqDiff, ne_eq, not_true_eq_false, not_false_eq_true, reduceIte, true_and, and_true, kg_lk113, kg_ls113]
  cases ei : kf_ix 4 i with
  | none =>
    refine kc93b hL (by omega) (kf_ix_n (by omega) ei) ?_
    simp (disch := omega) only [kg_S1, kg_S2, kg_br_T, kg_br_F, kg_br_N, kg_br_t, kg_br_f, kg_at_n, nI_add, pk_mul, kg_sub_n, kg_rem_n, kg_eq_n, kg_lt_n, kg_le_n, kg_nz, kg_01_0, kg_01_1, kg_w0_1, kg_ret0, kg_ret1, kg_ret2, kg_wr_n, kg_wr_s, kg_Skd, kg_Smc, kg_Sob, kg_Srf, kg_Sld, kg_pad, List.map_cons, List.map_nil, List.length_cons, List.length_nil, List.replicate, List.cons_append, List.nil_append, List.append_nil, Nat.reduceAdd, Nat.reduceSub, Nat.reduceMul, Nat.reduceMod, Nat.reduceDiv, Nat.reduceLT, Nat.reduceLeDiff, Nat.reduceEqDiff, ne_eq, not_true_eq_false, not_false_eq_true, reduceIte, true_and, and_true, kg_lk113, kg_ls113]
    exact hK _ _ _ (by simp only [kf_plc, ei]) hD (fun _ _ => rfl)
  | some n =>
    obtain ⟨hn, rfl⟩ := kf_ix_s (by omega) ei
    refine kc93 hL (by omega) hn ?_
    simp (disch := omega) only [kg_S1, kg_S2, kg_br_T, kg_br_F, kg_br_N, kg_br_t, kg_br_f, kg_at_n, nI_add, pk_mul, kg_sub_n, kg_rem_n, kg_eq_n, kg_lt_n, kg_le_n, kg_nz, kg_01_0, kg_01_1, kg_w0_1, kg_ret0, kg_ret1, kg_ret2, kg_wr_n, kg_wr_s, kg_Skd, kg_Smc, kg_Sob, kg_Srf, kg_Sld, kg_pad, List.map_cons, List.map_nil, List.length_cons, List.length_nil, List.replicate, List.cons_append, List.nil_append, List.append_nil, Nat.reduceAdd, Nat.reduceSub, Nat.reduceMul, Nat.reduceMod, Nat.reduceDiv, Nat.reduceLT, Nat.reduceLeDiff, Nat.reduceEqDiff, ne_eq, not_true_eq_false, not_false_eq_true, reduceIte, true_and, and_true, kg_lk113, kg_ls113]
    cases ek : kf_ix 4 k with
    | none =>
      refine kc93b hL (by omega) (kf_ix_n (by omega) ek) ?_
      simp (disch := omega) only [kg_S1, kg_S2, kg_br_T, kg_br_F, kg_br_N, kg_br_t, kg_br_f, kg_at_n, nI_add, pk_mul, kg_sub_n, kg_rem_n, kg_eq_n, kg_lt_n, kg_le_n, kg_nz, kg_01_0, kg_01_1, kg_w0_1, kg_ret0, kg_ret1, kg_ret2, kg_wr_n, kg_wr_s, kg_Skd, kg_Smc, kg_Sob, kg_Srf, kg_Sld, kg_pad, List.map_cons, List.map_nil, List.length_cons, List.length_nil, List.replicate, List.cons_append, List.nil_append, List.append_nil, Nat.reduceAdd, Nat.reduceSub, Nat.reduceMul, Nat.reduceMod, Nat.reduceDiv, Nat.reduceLT, Nat.reduceLeDiff, Nat.reduceEqDiff, ne_eq, not_true_eq_false, not_false_eq_true, reduceIte, true_and, and_true, kg_lk113, kg_ls113]
      exact hK _ _ _ (by simp only [kf_plc, ei, ek]) hD (fun _ _ => rfl)
    | some k =>
      obtain ⟨hk, rfl⟩ := kf_ix_s (by omega) ek
      have hup := hJ.1.1.2.2.2.2.2.2.2.1
      have n01 : ¬ nI 1 = nI 0 := by decide
      simp only [kf_plc, ei, ek] at hK
      refine kc93 hL (by omega) hk ?_
      simp (disch := omega) only [kg_S1, kg_S2, kg_br_T, kg_br_F, kg_br_N, kg_br_t, kg_br_f, kg_at_n, nI_add, pk_mul, kg_sub_n, kg_rem_n, kg_eq_n, kg_lt_n, kg_le_n, kg_nz, kg_01_0, kg_01_1, kg_w0_1, kg_ret0, kg_ret1, kg_ret2, kg_wr_n, kg_wr_s, kg_Skd, kg_Smc, kg_Sob, kg_Srf, kg_Sld, kg_pad, List.map_cons, List.map_nil, List.length_cons, List.length_nil, List.replicate, List.cons_append, List.nil_append, List.append_nil, Nat.reduceAdd, Nat.reduceSub, Nat.reduceMul, Nat.reduceMod, Nat.reduceDiv, Nat.reduceLT, Nat.reduceLeDiff, Nat.reduceEqDiff, ne_eq, not_true_eq_false, not_false_eq_true, reduceIte, true_and, and_true, kg_lk113, kg_ls113]
      refine kc90 hL (by omega) ?_
      have b0 : kf_b false = nI 0 := rfl
      have b1 : kf_b true = nI 1 := rfl
      by_cases q : t < nI 0 ∨ nI 9999 < t
      · rw [if_pos (by rcases q with q | q; exact Or.inl q; exact Or.inr (Or.inl q))] at hK
        have eb : (decide (nI 0 ≤ t) && decide (t ≤ nI 9999)) = false := by
          rw [← Bool.decide_and]
          exact decide_eq_false (fun qq => q.elim (Int32.not_lt.mpr qq.1) (Int32.not_lt.mpr qq.2))
        rw [eb, b0]
        simp (disch := omega) only [kg_S1, kg_S2, kg_br_T, kg_br_F, kg_br_N, kg_br_t, kg_br_f, kg_at_n, nI_add, pk_mul, kg_sub_n, kg_rem_n, kg_eq_n, kg_lt_n, kg_le_n, kg_nz, kg_01_0, kg_01_1, kg_w0_1, kg_ret0, kg_ret1, kg_ret2, kg_wr_n, kg_wr_s, kg_Skd, kg_Smc, kg_Sob, kg_Srf, kg_Sld, kg_pad, List.map_cons, List.map_nil, List.length_cons, List.length_nil, List.replicate, List.cons_append, List.nil_append, List.append_nil, Nat.reduceAdd, Nat.reduceSub, Nat.reduceMul, Nat.reduceMod, Nat.reduceDiv, Nat.reduceLT, Nat.reduceLeDiff, Nat.reduceEqDiff, ne_eq, not_true_eq_false, not_false_eq_true, reduceIte, true_and, and_true, kg_lk113, kg_ls113, hr]
        exact hK _ _ _ rfl hD (fun _ _ => rfl)
      · have eb : (decide (nI 0 ≤ t) && decide (t ≤ nI 9999)) = true := by
          rw [← Bool.decide_and]
          exact decide_eq_true ⟨Int32.not_lt.mp (fun qq => q (Or.inl qq)), Int32.not_lt.mp (fun qq => q (Or.inr qq))⟩
        rw [eb, b1]
        by_cases q2 : n = k
        · rw [if_pos (Or.inr (Or.inr q2))] at hK
          simp (disch := omega) only [kg_S1, kg_S2, kg_br_T, kg_br_F, kg_br_N, kg_br_t, kg_br_f, kg_at_n, nI_add, pk_mul, kg_sub_n, kg_rem_n, kg_eq_n, kg_lt_n, kg_le_n, kg_nz, kg_01_0, kg_01_1, kg_w0_1, kg_ret0, kg_ret1, kg_ret2, kg_wr_n, kg_wr_s, kg_Skd, kg_Smc, kg_Sob, kg_Srf, kg_Sld, kg_pad, List.map_cons, List.map_nil, List.length_cons, List.length_nil, List.replicate, List.cons_append, List.nil_append, List.append_nil, Nat.reduceAdd, Nat.reduceSub, Nat.reduceMul, Nat.reduceMod, Nat.reduceDiv, Nat.reduceLT, Nat.reduceLeDiff, Nat.reduceEqDiff, ne_eq, not_true_eq_false, not_false_eq_true, reduceIte, true_and, and_true, kg_lk113, kg_ls113, hr]
          exact hK _ _ _ rfl hD (fun _ _ => rfl)
        rw [if_neg (by rintro (q3 | q3 | q3); exact q (Or.inl q3); exact q (Or.inr q3); exact q2 q3)] at hK
        obtain ⟨p, hp, ep, em⟩ := kf_J_p hJ
        rw [em] at hK
        by_cases q3 : p < 10
        · rw [if_pos q3] at hK
          simp (disch := omega) only [kg_S1, kg_S2, kg_br_T, kg_br_F, kg_br_N, kg_br_t, kg_br_f, kg_at_n, nI_add, pk_mul, kg_sub_n, kg_rem_n, kg_eq_n, kg_lt_n, kg_le_n, kg_nz, kg_01_0, kg_01_1, kg_w0_1, kg_ret0, kg_ret1, kg_ret2, kg_wr_n, kg_wr_s, kg_Skd, kg_Smc, kg_Sob, kg_Srf, kg_Sld, kg_pad, List.map_cons, List.map_nil, List.length_cons, List.length_nil, List.replicate, List.cons_append, List.nil_append, List.append_nil, Nat.reduceAdd, Nat.reduceSub, Nat.reduceMul, Nat.reduceMod, Nat.reduceDiv, Nat.reduceLT, Nat.reduceLeDiff, Nat.reduceEqDiff, ne_eq, not_true_eq_false, not_false_eq_true, reduceIte, true_and, and_true, kg_lk113, kg_ls113, hr, ep]
          refine kc91r hL hD hr (by omega) ?_
          intro M1 a1 a2 a3
          simp (disch := omega) only [kg_S1, kg_S2, kg_br_T, kg_br_F, kg_br_N, kg_br_t, kg_br_f, kg_at_n, nI_add, pk_mul, kg_sub_n, kg_rem_n, kg_eq_n, kg_lt_n, kg_le_n, kg_nz, kg_01_0, kg_01_1, kg_w0_1, kg_ret0, kg_ret1, kg_ret2, kg_wr_n, kg_Skd, kg_Smc, kg_Sob, kg_Srf, kg_Sld, kg_pad, List.map_cons, List.map_nil, List.length_cons, List.length_nil, List.replicate, List.cons_append, List.nil_append, List.append_nil, Nat.reduceAdd, Nat.reduceSub, Nat.reduceMul, Nat.reduceMod, Nat.reduceDiv, Nat.reduceLT, Nat.reduceLeDiff, Nat.reduceEqDiff, ne_eq, not_true_eq_false, not_false_eq_true, reduceIte, true_and, and_true, kw_n, kw_s, kw_w, kw_o, kw_ws, kw_wn, ku_s, ku_n, kg_lk113, kg_ls113]
          refine kc114 hL ep q3 (by omega) ?_
          simp (disch := omega) only [kg_S1, kg_S2, kg_br_T, kg_br_F, kg_br_N, kg_br_t, kg_br_f, kg_at_n, nI_add, pk_mul, kg_sub_n, kg_rem_n, kg_eq_n, kg_lt_n, kg_le_n, kg_nz, kg_01_0, kg_01_1, kg_w0_1, kg_ret0, kg_ret1, kg_ret2, kg_wr_n, kg_Skd, kg_Smc, kg_Sob, kg_Srf, kg_Sld, kg_pad, List.map_cons, List.map_nil, List.length_cons, List.length_nil, List.replicate, List.cons_append, List.nil_append, List.append_nil, Nat.reduceAdd, Nat.reduceSub, Nat.reduceMul, Nat.reduceMod, Nat.reduceDiv, Nat.reduceLT, Nat.reduceLeDiff, Nat.reduceEqDiff, ne_eq, not_true_eq_false, not_false_eq_true, reduceIte, true_and, and_true, kw_n, kw_s, kw_w, kw_o, kw_ws, kw_wn, ku_s, ku_n, kg_lk113, kg_ls113]
          exact hK _ _ _ rfl (a2 _) (kf_DK a3)
        · rw [if_neg q3] at hK
          simp (disch := omega) only [kg_S1, kg_S2, kg_br_T, kg_br_F, kg_br_N, kg_br_t, kg_br_f, kg_at_n, nI_add, pk_mul, kg_sub_n, kg_rem_n, kg_eq_n, kg_lt_n, kg_le_n, kg_nz, kg_01_0, kg_01_1, kg_w0_1, kg_ret0, kg_ret1, kg_ret2, kg_wr_n, kg_wr_s, kg_Skd, kg_Smc, kg_Sob, kg_Srf, kg_Sld, kg_pad, List.map_cons, List.map_nil, List.length_cons, List.length_nil, List.replicate, List.cons_append, List.nil_append, List.append_nil, Nat.reduceAdd, Nat.reduceSub, Nat.reduceMul, Nat.reduceMod, Nat.reduceDiv, Nat.reduceLT, Nat.reduceLeDiff, Nat.reduceEqDiff, ne_eq, not_true_eq_false, not_false_eq_true, reduceIte, true_and, and_true, kg_lk113, kg_ls113, hr, ep]
          exact hK _ _ _ rfl hD (fun _ _ => rfl)

theorem kf_D_tx {L : Nat} {M' : kg_M} {x : Nat → Int32} (hD : kf_D M A) (hL : L ≤ 60) (h1 : M' 124 6 = nI L) (h0 : ∀ i, i ≠ 6 → M' 124 i = M 124 i) (h2 : ∀ i, i < L → M' 128 i = x i ∧ ∃ z, z < 65536 ∧ x i = nI z) (hM : ∀ p, p ≠ 124 → p ≠ 128 → M' p = M p) : kf_D M' (kf_tx A L x) := by
  obtain ⟨a1, ⟨a2, a3, a4⟩, ⟨a5, a6⟩, a7, a8, a9⟩ := hD
  refine ⟨fun i hi => ?_, ⟨a2, ?_, fun j hj i hi => ?_⟩, ⟨?_, fun e i hi => ?_⟩, hL, h1, h2⟩
  · rw [hM _ (by omega) (by omega)]; exact a1 i hi
  · rw [h0 _ (by omega)]; exact a3
  · rw [hM _ (by omega) (by omega)]; exact a4 j hj i hi
  · rw [h0 _ (by omega)]; exact a5
  · rw [hM _ (by omega) (by omega)]; exact a6 e i hi

set_option maxRecDepth 100000 in
theorem kc120 (hL : G.2.2.2.2.2.1 < 2 ^ 31) {v : Int32} (hv : ∃ z, z < 65536 ∧ v = nI z) (hD : kf_D M A) (hd : 2 ≤ d) (hK : ∀ (o : Int32) (A' : kf_A) (M' : kg_M), kf_typ A v = (o, A') → kf_D M' A' → (∀ p, p < 124 → M' p = M p) → K (some (.int o)) (kg_w0 h) M') : kg_call G d 129 120 [.ref 124, .int v] (kg_w0 h) M K := by
  obtain ⟨d, rfl⟩ : ∃ e, d = e + 1 := ⟨d - 1, by omega⟩
  obtain ⟨z, hz, rfl⟩ := hv
  refine kg_m120 (by simp; try exact ⟨z, hz, rfl⟩) (Nat.le_refl _) (kg_v120 hL (by omega) 60 ?_)
  have l1 := hD.2.2.2.1
  have l2 := hD.2.2.2.2.1
  have l3 := hD.2.2.2.2.2
  by_cases q : A.2.2.2.2.2.1 < 60
  · simp (disch := omega) only [kg_S1, kg_S2, kg_br_T, kg_br_F, kg_br_N, kg_br_t, kg_br_f, kg_at_n, nI_add, pk_mul, kg_sub_n, kg_rem_n, kg_eq_n, kg_lt_n, kg_le_n, kg_nz, kg_01_0, kg_01_1, kg_w0_1, kg_ret0, kg_ret1, kg_ret2, kg_wr_n, kg_wr_s, kg_Skd, kg_Smc, kg_Sob, kg_Srf, kg_Sld, kg_pad, List.map_cons, List.map_nil, List.length_cons, List.length_nil, List.replicate, List.cons_append, List.nil_append, List.append_nil, Nat.reduceAdd, Nat.reduceSub, Nat.reduceMul, Nat.reduceMod, Nat.reduceDiv, Nat.reduceLT, Nat.reduceLeDiff, Nat.reduceEqDiff, ne_eq, not_true_eq_false, not_false_eq_true, reduceIte, true_and, and_true, kg_lk120, kg_ls120, l2]
    refine hK _ _ _ (by simp only [kf_typ, if_pos q]; rfl) (kf_D_tx hD (by omega) ?_ (fun i hi => ?_) (fun i hi => ?_) (fun p h1 h2 => ?_)) (fun p hp => ?_)
    · rw [kg_wr_s, if_pos rfl]
    · rw [kg_wr_s, if_neg hi, kg_wr_n (by omega)]
    · rw [kg_wr_n (by omega), kg_wr_s]
      simp only [upd]
      by_cases e : i = A.2.2.2.2.2.1
      · rw [if_pos e, if_pos e]; exact ⟨rfl, z, hz, rfl⟩
      · rw [if_neg e, if_neg e]; exact l3 i (by omega)
    · rw [kg_wr_n h1, kg_wr_n h2]
    · rw [kg_wr_n (by omega), kg_wr_n (by omega)]
  · simp (disch := omega) only [kg_S1, kg_S2, kg_br_T, kg_br_F, kg_br_N, kg_br_t, kg_br_f, kg_at_n, nI_add, pk_mul, kg_sub_n, kg_rem_n, kg_eq_n, kg_lt_n, kg_le_n, kg_nz, kg_01_0, kg_01_1, kg_w0_1, kg_ret0, kg_ret1, kg_ret2, kg_wr_n, kg_wr_s, kg_Skd, kg_Smc, kg_Sob, kg_Srf, kg_Sld, kg_pad, List.map_cons, List.map_nil, List.length_cons, List.length_nil, List.replicate, List.cons_append, List.nil_append, List.append_nil, Nat.reduceAdd, Nat.reduceSub, Nat.reduceMul, Nat.reduceMod, Nat.reduceDiv, Nat.reduceLT, Nat.reduceLeDiff, Nat.reduceEqDiff, ne_eq, not_true_eq_false, not_false_eq_true, reduceIte, true_and, and_true, kg_lk120, kg_ls120, l2]
    exact hK _ _ _ (by simp only [kf_typ, if_neg q]) hD (fun _ _ => rfl)

set_option maxRecDepth 100000 in
theorem kc121 (hL : G.2.2.2.2.2.1 < 2 ^ 31) (hD : kf_D M A) (hd : 2 ≤ d) (hK : ∀ (o : Int32) (A' : kf_A) (M' : kg_M), kf_ctx A = (o, A') → kf_D M' A' → (∀ p, p < 124 → M' p = M p) → K (some (.int o)) (kg_w0 h) M') : kg_call G d 129 121 [.ref 124] (kg_w0 h) M K := by
  obtain ⟨d, rfl⟩ : ∃ e, d = e + 1 := ⟨d - 1, by omega⟩
  refine kg_m121 (by simp) (Nat.le_refl _) (kg_v121 hL (by omega) 60 ?_)
  have l2 := hD.2.2.2.2.1
  simp (disch := omega) only [kg_S1, kg_S2, kg_br_T, kg_br_F, kg_br_N, kg_br_t, kg_br_f, kg_at_n, nI_add, pk_mul, kg_sub_n, kg_rem_n, kg_eq_n, kg_lt_n, kg_le_n, kg_nz, kg_01_0, kg_01_1, kg_w0_1, kg_ret0, kg_ret1, kg_ret2, kg_wr_n, kg_wr_s, kg_Skd, kg_Smc, kg_Sob, kg_Srf, kg_Sld, kg_pad, List.map_cons, List.map_nil, List.length_cons, List.length_nil, List.replicate, List.cons_append, List.nil_append, List.append_nil, Nat.reduceAdd, Nat.reduceSub, Nat.reduceMul, Nat.reduceMod, Nat.reduceDiv, Nat.reduceLT, Nat.reduceLeDiff, Nat.reduceEqDiff, ne_eq, not_true_eq_false, not_false_eq_true, reduceIte, true_and, and_true, kg_lk121, kg_ls121, l2]
  refine hK _ _ _ rfl (kf_D_tx hD (by omega) ?_ (fun i hi => ?_) (fun i hi => ?_) (fun p h1 h2 => ?_)) (fun p hp => ?_)
  · rw [kg_wr_s, if_pos rfl]
  · rw [kg_wr_s, if_neg hi]
  · omega
  · rw [kg_wr_n h1]
  · rw [kg_wr_n (by omega)]

set_option maxRecDepth 100000 in
theorem kc122_l (hL : G.2.2.2.2.2.1 < 2 ^ 31) {q : Nat} (hq : q < 4) (e : M 124 2 = nI q) (hd : 1 ≤ d) (hK : K (some (.int (nI q))) (kg_w0 h) (kg_row M 125 (kf_ch (M 125) (fun i => M 126 (287 * q + i)) 0 287))) : ∀ m k : Nat, k + m = 287 → kg_P G d 122 2 129 129 K 22 [some (.ref 124), some (.int (nI k))] [] (kg_w0 h) (kg_row M 125 (kf_ch (M 125) (fun i => M 126 (287 * q + i)) 0 k)) := by
  intro m
  induction m with
  | zero =>
    intro k hk
    obtain rfl : k = 287 := by omega
    refine kg_v122 hL (by omega) 60 ?_
    simp (disch := omega) only [kg_S1, kg_S2, kg_br_T, kg_br_F, kg_br_N, kg_br_t, kg_br_f, kg_at_n, nI_add, pk_mul, kg_sub_n, kg_rem_n, kg_eq_n, kg_lt_n, kg_le_n, kg_nz, kg_01_0, kg_01_1, kg_w0_1, kg_ret0, kg_ret1, kg_ret2, kg_wr_n, kg_Skd, kg_Smc, kg_Sob, kg_Srf, kg_Sld, kg_pad, List.map_cons, List.map_nil, List.length_cons, List.length_nil, List.replicate, List.cons_append, List.nil_append, List.append_nil, Nat.reduceAdd, Nat.reduceSub, Nat.reduceMul, Nat.reduceMod, Nat.reduceDiv, Nat.reduceLT, Nat.reduceLeDiff, Nat.reduceEqDiff, ne_eq, not_true_eq_false, not_false_eq_true, reduceIte, true_and, and_true, kw_n, kw_s, kw_w, kw_o, kw_ws, kw_wn, ku_s, ku_n, kg_lk122, kg_ls122, e]
    exact hK
  | succ m ih =>
    intro k hk
    have := ih (k + 1) (by omega)
    rw [← kf_cp_s] at this
    refine kg_v122 hL (by omega) 60 ?_
    simp (disch := omega) only [kg_S1, kg_S2, kg_br_T, kg_br_F, kg_br_N, kg_br_t, kg_br_f, kg_at_n, nI_add, pk_mul, kg_sub_n, kg_rem_n, kg_eq_n, kg_lt_n, kg_le_n, kg_nz, kg_01_0, kg_01_1, kg_w0_1, kg_ret0, kg_ret1, kg_ret2, kg_wr_n, kg_Skd, kg_Smc, kg_Sob, kg_Srf, kg_Sld, kg_pad, List.map_cons, List.map_nil, List.length_cons, List.length_nil, List.replicate, List.cons_append, List.nil_append, List.append_nil, Nat.reduceAdd, Nat.reduceSub, Nat.reduceMul, Nat.reduceMod, Nat.reduceDiv, Nat.reduceLT, Nat.reduceLeDiff, Nat.reduceEqDiff, ne_eq, not_true_eq_false, not_false_eq_true, reduceIte, true_and, and_true, kw_n, kw_s, kw_w, kw_o, kw_ws, kw_wn, ku_s, ku_n, kg_lk122, kg_ls122, e]
    exact this

set_option maxRecDepth 100000 in
theorem kc122 (hL : G.2.2.2.2.2.1 < 2 ^ 31) (hD : kf_D M A) (hd : 2 ≤ d) (hK : ∀ (o : Int32) (A' : kf_A) (M' : kg_M), kf_und A = (o, A') → kf_D M' A' → (∀ p, p < 124 → M' p = M p) → K (some (.int o)) (kg_w0 h) M') : kg_call G d 129 122 [.ref 124] (kg_w0 h) M K := by
  obtain ⟨d, rfl⟩ : ∃ e, d = e + 1 := ⟨d - 1, by omega⟩
  refine kg_m122 (by simp) (Nat.le_refl _) (kg_v122 hL (by omega) 60 ?_)
  obtain ⟨a1, ⟨a2, a3, a4⟩, ⟨a5, a6⟩, a7, a8, a9⟩ := hD
  by_cases q : A.2.1 < 1
  · rw [show A.2.1 = 0 by omega] at a3
    simp (disch := omega) only [kg_S1, kg_S2, kg_br_T, kg_br_F, kg_br_N, kg_br_t, kg_br_f, kg_at_n, nI_add, pk_mul, kg_sub_n, kg_rem_n, kg_eq_n, kg_lt_n, kg_le_n, kg_nz, kg_01_0, kg_01_1, kg_w0_1, kg_ret0, kg_ret1, kg_ret2, kg_wr_n, kg_wr_s, kg_Skd, kg_Smc, kg_Sob, kg_Srf, kg_Sld, kg_pad, List.map_cons, List.map_nil, List.length_cons, List.length_nil, List.replicate, List.cons_append, List.nil_append, List.append_nil, Nat.reduceAdd, Nat.reduceSub, Nat.reduceMul, Nat.reduceMod, Nat.reduceDiv, Nat.reduceLT, Nat.reduceLeDiff, Nat.reduceEqDiff, ne_eq, not_true_eq_false, not_false_eq_true, reduceIte, true_and, and_true, kg_lk122, kg_ls122, a3]
    exact hK _ _ _ (by simp only [kf_und, if_pos q]) ⟨a1, ⟨a2, by rw [a3, show A.2.1 = 0 by omega], a4⟩, ⟨a5, a6⟩, a7, a8, a9⟩ (fun _ _ => rfl)
  · simp (disch := omega) only [kg_S1, kg_S2, kg_br_T, kg_br_F, kg_br_N, kg_br_t, kg_br_f, kg_at_n, nI_add, pk_mul, kg_sub_n, kg_rem_n, kg_eq_n, kg_lt_n, kg_le_n, kg_nz, kg_01_0, kg_01_1, kg_w0_1, kg_ret0, kg_ret1, kg_ret2, kg_wr_n, kg_wr_s, kg_Skd, kg_Smc, kg_Sob, kg_Srf, kg_Sld, kg_pad, List.map_cons, List.map_nil, List.length_cons, List.length_nil, List.replicate, List.cons_append, List.nil_append, List.append_nil, Nat.reduceAdd, Nat.reduceSub, Nat.reduceMul, Nat.reduceMod, Nat.reduceDiv, Nat.reduceLT, Nat.reduceLeDiff, Nat.reduceEqDiff, ne_eq, not_true_eq_false, not_false_eq_true, reduceIte, true_and, and_true, kg_lk122, kg_ls122, a3]
    have := kc122_l (M := kg_wr M 124 2 (nI (A.2.1 - 1))) (q := A.2.1 - 1) (K := K) (h := h) hL (by omega) (by rw [kg_wr_s, if_pos rfl]) (by omega) (hK _ _ _ (by simp only [kf_und, if_neg q]; rfl) ?_ ?_) 287 0 rfl (d := d)
    · rw [kf_ch_z, kw_i] at this
      exact this
    · refine ⟨fun i hi => ?_, ⟨?_, ?_, fun j hj i hi => ?_⟩, ⟨?_, fun e i hi => ?_⟩, a7, ?_, fun i hi => ?_⟩
      · rw [kw_s, kf_ch, if_pos (by omega), Nat.mul_zero, Nat.sub_zero, kg_wr_n (by omega)]
        exact a4 (A.2.1 - 1) (by omega) i hi
      · show A.2.1 - 1 ≤ 4
        omega
      · rw [kw_n (by omega), kg_wr_s, if_pos rfl]
      · rw [kw_n (by omega), kg_wr_n (by omega)]
        change j < A.2.1 - 1 at hj
        exact a4 j (by omega) i hi
      · rw [kw_n (by omega), kg_wr_s, if_neg (by omega)]; exact a5
      · rw [kw_n (by omega), kg_wr_n (by omega)]; exact a6 e i hi
      · rw [kw_n (by omega), kg_wr_s, if_neg (by omega)]; exact a8
      · rw [kw_n (by omega), kg_wr_n (by omega)]; exact a9 i hi
    · intro p hp
      rw [kw_n (by omega), kg_wr_n (by omega)]

set_option maxRecDepth 100000 in
theorem kc123_l (hL : G.2.2.2.2.2.1 < 2 ^ 31) {b : Nat → Int32} (hd : 1 ≤ d) (hK : K (some (.int (M 125 0))) (kg_w0 h) (kg_row (kg_wr M 124 4 (nI 1)) 127 (kf_ch b (M 125) 0 287))) : ∀ m k : Nat, k + m = 287 → kg_P G d 123 2 129 129 K 2 [some (.ref 124), some (.int (nI k))] [] (kg_w0 h) (kg_row M 127 (kf_ch b (M 125) 0 k)) := by
  intro m
  induction m with
  | zero =>
    intro k hk
    obtain rfl : k = 287 := by omega
    refine kg_v123 hL (by omega) 60 ?_
    simp (disch := omega) only [kg_S1, kg_S2, kg_br_T, kg_br_F, kg_br_N, kg_br_t, kg_br_f, kg_at_n, nI_add, pk_mul, kg_sub_n, kg_rem_n, kg_eq_n, kg_lt_n, kg_le_n, kg_nz, kg_01_0, kg_01_1, kg_w0_1, kg_ret0, kg_ret1, kg_ret2, kg_wr_n, kg_Skd, kg_Smc, kg_Sob, kg_Srf, kg_Sld, kg_pad, List.map_cons, List.map_nil, List.length_cons, List.length_nil, List.replicate, List.cons_append, List.nil_append, List.append_nil, Nat.reduceAdd, Nat.reduceSub, Nat.reduceMul, Nat.reduceMod, Nat.reduceDiv, Nat.reduceLT, Nat.reduceLeDiff, Nat.reduceEqDiff, ne_eq, not_true_eq_false, not_false_eq_true, reduceIte, true_and, and_true, kw_n, kw_s, kw_w, kw_o, kw_ws, kw_wn, ku_s, ku_n, kg_lk123, kg_ls123]
    exact hK
  | succ m ih =>
    intro k hk
    have := ih (k + 1) (by omega)
    rw [← kf_cp_s] at this
    refine kg_v123 hL (by omega) 60 ?_
    simp (disch := omega) only [kg_S1, kg_S2, kg_br_T, kg_br_F, kg_br_N, kg_br_t, kg_br_f, kg_at_n, nI_add, pk_mul, kg_sub_n, kg_rem_n, kg_eq_n, kg_lt_n, kg_le_n, kg_nz, kg_01_0, kg_01_1, kg_w0_1, kg_ret0, kg_ret1, kg_ret2, kg_wr_n, kg_Skd, kg_Smc, kg_Sob, kg_Srf, kg_Sld, kg_pad, List.map_cons, List.map_nil, List.length_cons, List.length_nil, List.replicate, List.cons_append, List.nil_append, List.append_nil, Nat.reduceAdd, Nat.reduceSub, Nat.reduceMul, Nat.reduceMod, Nat.reduceDiv, Nat.reduceLT, Nat.reduceLeDiff, Nat.reduceEqDiff, ne_eq, not_true_eq_false, not_false_eq_true, reduceIte, true_and, and_true, kw_n, kw_s, kw_w, kw_o, kw_ws, kw_wn, ku_s, ku_n, kg_lk123, kg_ls123]
    exact this

set_option maxRecDepth 100000 in
theorem kc123 (hL : G.2.2.2.2.2.1 < 2 ^ 31) (hD : kf_D M A) (hr : M 125 = A.1) (hd : 2 ≤ d) (hK : ∀ (o : Int32) (A' : kf_A) (M' : kg_M), kf_kee A = (o, A') → kf_D M' A' → (∀ p, p < 124 → M' p = M p) → K (some (.int o)) (kg_w0 h) M') : kg_call G d 129 123 [.ref 124] (kg_w0 h) M K := by
  obtain ⟨d, rfl⟩ : ∃ e, d = e + 1 := ⟨d - 1, by omega⟩
  refine kg_m123 (by simp) (Nat.le_refl _) (kg_v123 hL (by omega) 60 ?_)
  obtain ⟨a1, ⟨a2, a3, a4⟩, ⟨a5, a6⟩, a7, a8, a9⟩ := hD
  simp (disch := omega) only [kg_S1, kg_S2, kg_br_T, kg_br_F, kg_br_N, kg_br_t, kg_br_f, kg_at_n, nI_add, pk_mul, kg_sub_n, kg_rem_n, kg_eq_n, kg_lt_n, kg_le_n, kg_nz, kg_01_0, kg_01_1, kg_w0_1, kg_ret0, kg_ret1, kg_ret2, kg_wr_n, kg_wr_s, kg_Skd, kg_Smc, kg_Sob, kg_Srf, kg_Sld, kg_pad, List.map_cons, List.map_nil, List.length_cons, List.length_nil, List.replicate, List.cons_append, List.nil_append, List.append_nil, Nat.reduceAdd, Nat.reduceSub, Nat.reduceMul, Nat.reduceMod, Nat.reduceDiv, Nat.reduceLT, Nat.reduceLeDiff, Nat.reduceEqDiff, ne_eq, not_true_eq_false, not_false_eq_true, reduceIte, true_and, and_true, kg_lk123, kg_ls123]
  have := kc123_l (M := M) (b := M 127) (K := K) (h := h) hL (by omega) (hK _ _ _ (by rw [hr]; rfl) ?_ ?_) 287 0 rfl (d := d)
  · rw [kf_ch_z, kw_i] at this
    exact this
  · refine ⟨fun i hi => ?_, ⟨a2, ?_, fun j hj i hi => ?_⟩, ⟨?_, fun e i hi => ?_⟩, a7, ?_, fun i hi => ?_⟩
    · rw [kw_n (by omega), kg_wr_n (by omega)]; exact a1 i hi
    · rw [kw_n (by omega), kg_wr_s, if_neg (by omega)]; exact a3
    · rw [kw_n (by omega), kg_wr_n (by omega)]; exact a4 j hj i hi
    · rw [kw_n (by omega), kg_wr_s, if_pos rfl]; rfl
    · rw [kw_s, kf_ch, if_pos (by omega), Nat.mul_zero, Nat.sub_zero]; exact a1 i hi
    · rw [kw_n (by omega), kg_wr_s, if_neg (by omega)]; exact a8
    · rw [kw_n (by omega), kg_wr_n (by omega)]; exact a9 i hi
  · intro p hp
    rw [kw_n (by omega), kg_wr_n (by omega)]

set_option maxRecDepth 100000 in
theorem kc124_l (hL : G.2.2.2.2.2.1 < 2 ^ 31) {b : Nat → Int32} (hd : 1 ≤ d) (hK : K (some (.int (M 127 0))) (kg_w0 h) (kg_row M 125 (kf_ch b (M 127) 0 287))) : ∀ m k : Nat, k + m = 287 → kg_P G d 124 2 129 129 K 16 [some (.ref 124), some (.int (nI k))] [] (kg_w0 h) (kg_row M 125 (kf_ch b (M 127) 0 k)) := by
  intro m
  induction m with
  | zero =>
    intro k hk
    obtain rfl : k = 287 := by omega
    refine kg_v124 hL (by omega) 60 ?_
    have e : kf_ch b (M 127) 0 287 0 = M 127 0 := by rw [kf_ch, if_pos (by omega)]
    simp (disch := omega) only [kg_S1, kg_S2, kg_br_T, kg_br_F, kg_br_N, kg_br_t, kg_br_f, kg_at_n, nI_add, pk_mul, kg_sub_n, kg_rem_n, kg_eq_n, kg_lt_n, kg_le_n, kg_nz, kg_01_0, kg_01_1, kg_w0_1, kg_ret0, kg_ret1, kg_ret2, kg_wr_n, kg_Skd, kg_Smc, kg_Sob, kg_Srf, kg_Sld, kg_pad, List.map_cons, List.map_nil, List.length_cons, List.length_nil, List.replicate, List.cons_append, List.nil_append, List.append_nil, Nat.reduceAdd, Nat.reduceSub, Nat.reduceMul, Nat.reduceMod, Nat.reduceDiv, Nat.reduceLT, Nat.reduceLeDiff, Nat.reduceEqDiff, ne_eq, not_true_eq_false, not_false_eq_true, reduceIte, true_and, and_true, kw_n, kw_s, kw_w, kw_o, kw_ws, kw_wn, ku_s, ku_n, kg_lk124, kg_ls124, e]
    exact hK
  | succ m ih =>
    intro k hk
    have := ih (k + 1) (by omega)
    rw [← kf_cp_s] at this
    refine kg_v124 hL (by omega) 60 ?_
    simp (disch := omega) only [kg_S1, kg_S2, kg_br_T, kg_br_F, kg_br_N, kg_br_t, kg_br_f, kg_at_n, nI_add, pk_mul, kg_sub_n, kg_rem_n, kg_eq_n, kg_lt_n, kg_le_n, kg_nz, kg_01_0, kg_01_1, kg_w0_1, kg_ret0, kg_ret1, kg_ret2, kg_wr_n, kg_Skd, kg_Smc, kg_Sob, kg_Srf, kg_Sld, kg_pad, List.map_cons, List.map_nil, List.length_cons, List.length_nil, List.replicate, List.cons_append, List.nil_append, List.append_nil, Nat.reduceAdd, Nat.reduceSub, Nat.reduceMul, Nat.reduceMod, Nat.reduceDiv, Nat.reduceLT, Nat.reduceLeDiff, Nat.reduceEqDiff, ne_eq, not_true_eq_false, not_false_eq_true, reduceIte, true_and, and_true, kw_n, kw_s, kw_w, kw_o, kw_ws, kw_wn, ku_s, ku_n, kg_lk124, kg_ls124]
    exact this

set_option maxRecDepth 100000 in
theorem kc124 (hL : G.2.2.2.2.2.1 < 2 ^ 31) (hD : kf_D M A) (hr : M 125 = A.1) (hd : 3 ≤ d) (hK : ∀ (o : Int32) (A' : kf_A) (M' : kg_M), kf_res A = (o, A') → kf_D M' A' → (∀ p, p < 124 → M' p = M p) → K (some (.int o)) (kg_w0 h) M') : kg_call G d 129 124 [.ref 124] (kg_w0 h) M K := by
  obtain ⟨d, rfl⟩ : ∃ e, d = e + 1 := ⟨d - 1, by omega⟩
  refine kg_m124 (by simp) (Nat.le_refl _) (kg_v124 hL (by omega) 60 ?_)
  have a5 := hD.2.2.1.1
  cases q : A.2.2.2.1 with
  | false =>
    rw [q, show kf_b false = nI 0 from rfl] at a5
    simp (disch := omega) only [kg_S1, kg_S2, kg_br_T, kg_br_F, kg_br_N, kg_br_t, kg_br_f, kg_at_n, nI_add, pk_mul, kg_sub_n, kg_rem_n, kg_eq_n, kg_lt_n, kg_le_n, kg_nz, kg_01_0, kg_01_1, kg_w0_1, kg_ret0, kg_ret1, kg_ret2, kg_wr_n, kg_wr_s, kg_Skd, kg_Smc, kg_Sob, kg_Srf, kg_Sld, kg_pad, List.map_cons, List.map_nil, List.length_cons, List.length_nil, List.replicate, List.cons_append, List.nil_append, List.append_nil, Nat.reduceAdd, Nat.reduceSub, Nat.reduceMul, Nat.reduceMod, Nat.reduceDiv, Nat.reduceLT, Nat.reduceLeDiff, Nat.reduceEqDiff, ne_eq, not_true_eq_false, not_false_eq_true, reduceIte, true_and, and_true, kg_lk124, kg_ls124, a5]
    exact hK _ _ _ (by simp only [kf_res, q, Bool.false_eq_true, reduceIte]) hD (fun _ _ => rfl)
  | true =>
    rw [q, show kf_b true = nI 1 from rfl] at a5
    simp (disch := omega) only [kg_S1, kg_S2, kg_br_T, kg_br_F, kg_br_N, kg_br_t, kg_br_f, kg_at_n, nI_add, pk_mul, kg_sub_n, kg_rem_n, kg_eq_n, kg_lt_n, kg_le_n, kg_nz, kg_01_0, kg_01_1, kg_w0_1, kg_ret0, kg_ret1, kg_ret2, kg_wr_n, kg_wr_s, kg_Skd, kg_Smc, kg_Sob, kg_Srf, kg_Sld, kg_pad, List.map_cons, List.map_nil, List.length_cons, List.length_nil, List.replicate, List.cons_append, List.nil_append, List.append_nil, Nat.reduceAdd, Nat.reduceSub, Nat.reduceMul, Nat.reduceMod, Nat.reduceDiv, Nat.reduceLT, Nat.reduceLeDiff, Nat.reduceEqDiff, ne_eq, not_true_eq_false, not_false_eq_true, reduceIte, true_and, and_true, kg_lk124, kg_ls124, a5]
    refine kc91r hL hD hr (by omega) ?_
    intro M1 b1 b2 b3
    have a6 := b1.2.2.1.2 q
    simp (disch := omega) only [kg_S1, kg_S2, kg_br_T, kg_br_F, kg_br_N, kg_br_t, kg_br_f, kg_at_n, nI_add, pk_mul, kg_sub_n, kg_rem_n, kg_eq_n, kg_lt_n, kg_le_n, kg_nz, kg_01_0, kg_01_1, kg_w0_1, kg_ret0, kg_ret1, kg_ret2, kg_wr_n, kg_Skd, kg_Smc, kg_Sob, kg_Srf, kg_Sld, kg_pad, List.map_cons, List.map_nil, List.length_cons, List.length_nil, List.replicate, List.cons_append, List.nil_append, List.append_nil, Nat.reduceAdd, Nat.reduceSub, Nat.reduceMul, Nat.reduceMod, Nat.reduceDiv, Nat.reduceLT, Nat.reduceLeDiff, Nat.reduceEqDiff, ne_eq, not_true_eq_false, not_false_eq_true, reduceIte, true_and, and_true, kw_n, kw_s, kw_w, kw_o, kw_ws, kw_wn, ku_s, ku_n, kg_lk124, kg_ls124]
    have := kc124_l (M := M1) (b := A.1) (K := K) (h := h) hL (by omega) ?_ 287 0 rfl (d := d)
    · rw [kf_ch_z] at this
      exact this
    · have e0 := a6 0 (by omega)
      rw [kw_n (by omega)] at e0
      rw [e0]
      refine hK _ _ _ (by simp only [kf_res, q, reduceIte]; rfl) ?_ (kf_DK b3)
      obtain ⟨-, c2⟩ := b2 (kf_ch A.1 (M1 127) 0 287)
      refine ⟨fun i hi => ?_, c2⟩
      rw [kw_s, kf_ch, if_pos (by omega), Nat.mul_zero, Nat.sub_zero]
      have e1 := a6 i hi
      rw [kw_n (by omega)] at e1
      exact e1

end
