/-! the model's clear -/
def kf_cP (r : Nat → Int32) (n k m : Nat) : Bool := decide (r 5 = nI 0) || (decide (m = n) || decide (kf_c r n k < r (11 + 4 * n + m)))
theorem kf_cP_4 {r : Nat → Int32} {n k : Nat} : (kf_rp r n k && kf_al (kf_cP r n k) 4) = kf_cl r n k := by
  unfold kf_cl
  congr 1
  by_cases e : r 5 = nI 0
  · have : ∀ m, kf_cP r n k m = true := fun m => by unfold kf_cP; rw [decide_eq_true e]; rfl
    rw [decide_eq_true e]
    simp [kf_al, this]
  · rw [decide_eq_false e, Bool.false_or]
    unfold kf_rs
    refine kf_al_c (fun m _ => ?_)
    unfold kf_cP
    rw [decide_eq_false e, Bool.false_or]
section
variable {G : kg_G} {d c : Nat} {h : Nat → Nat} {A : kf_A} {M : kg_M} {K : kg_Qt} {r : Nat → Int32}

set_option maxRecDepth 100000 in
theorem kc111_l (hL : G.2.2.2.2.2.1 < 2 ^ 31) {n k : Nat} (hn : n < 4) (hk : k < 8) (h5 : kg_01 (r 5)) (hd : 3 ≤ d) (hK : K (some (.int (kf_b (kf_cl r n k)))) (kg_w0 h) (kg_row M 125 r)) : ∀ z m : Nat, m + z = 4 → kg_P G d 111 5 129 129 K 10 [some (.ref 124), some (.int (nI n)), some (.int (nI k)), some (.int (kf_b (kf_rp r n k && kf_al (kf_cP r n k) m))), some (.int (nI m))] [] (kg_w0 h) (kg_row M 125 r) := by
  have b0 : kf_b false = nI 0 := rfl
  have b1 : kf_b true = nI 1 := rfl
  have n10 : ¬ nI 1 = nI 0 := by decide
  intro z
  induction z with
  | zero =>
    intro m hm
    obtain rfl : m = 4 := by omega
    rw [kf_cP_4]
    refine kg_v111 hL (by omega) 60 ?_
    cases e : kf_cl r n k with
    | true =>
      rw [e, b1] at hK
      rw [b1]
      simp (disch := omega) only [kg_S1, kg_S2, kg_br_T, kg_br_F, kg_br_N, kg_br_t, kg_br_f, kg_at_n, nI_add, pk_mul, kg_sub_n, kg_rem_n, kg_eq_n, kg_lt_n, kg_le_n, kg_nz, kg_01_0, kg_01_1, kg_w0_1, kg_ret0, kg_ret1, kg_ret2, kg_wr_n, kg_Skd, kg_Smc, kg_Sob, kg_Srf, kg_Sld, kg_pad, List.map_cons, List.map_nil, List.length_cons, List.length_nil, List.replicate, List.cons_append, List.nil_append, List.append_nil, Nat.reduceAdd, Nat.reduceSub, Nat.reduceMul, Nat.reduceMod, Nat.reduceDiv, Nat.reduceLT, Nat.reduceLeDiff, Nat.reduceEqDiff, ne_eq, not_true_eq_false, not_false_eq_true, reduceIte, true_and, and_true, kw_n, kw_s, kw_w, kw_o, kw_ws, kw_wn, ku_s, ku_n, kg_lk111, kg_ls111]
      exact hK
    | false =>
      rw [e, b0] at hK
      rw [b0]
      simp (disch := omega) only [kg_S1, kg_S2, kg_br_T, kg_br_F, kg_br_N, kg_br_t, kg_br_f, kg_at_n, nI_add, pk_mul, kg_sub_n, kg_rem_n, kg_eq_n, kg_lt_n, kg_le_n, kg_nz, kg_01_0, kg_01_1, kg_w0_1, kg_ret0, kg_ret1, kg_ret2, kg_wr_n, kg_Skd, kg_Smc, kg_Sob, kg_Srf, kg_Sld, kg_pad, List.map_cons, List.map_nil, List.length_cons, List.length_nil, List.replicate, List.cons_append, List.nil_append, List.append_nil, Nat.reduceAdd, Nat.reduceSub, Nat.reduceMul, Nat.reduceMod, Nat.reduceDiv, Nat.reduceLT, Nat.reduceLeDiff, Nat.reduceEqDiff, ne_eq, not_true_eq_false, not_false_eq_true, reduceIte, true_and, and_true, kw_n, kw_s, kw_w, kw_o, kw_ws, kw_wn, ku_s, ku_n, kg_lk111, kg_ls111]
      exact hK
  | succ z ih =>
    intro m hm
    have ih' := ih (m + 1) (by omega)
    rw [kf_al, ← Bool.and_assoc] at ih'
    refine kg_v111 hL (by omega) 60 ?_
    cases e : (kf_rp r n k && kf_al (kf_cP r n k) m) with
    | false =>
      rw [e, Bool.false_and, b0] at ih'
      rw [b0]
      simp (disch := omega) only [kg_S1, kg_S2, kg_br_T, kg_br_F, kg_br_N, kg_br_t, kg_br_f, kg_at_n, nI_add, pk_mul, kg_sub_n, kg_rem_n, kg_eq_n, kg_lt_n, kg_le_n, kg_nz, kg_01_0, kg_01_1, kg_w0_1, kg_ret0, kg_ret1, kg_ret2, kg_wr_n, kg_Skd, kg_Smc, kg_Sob, kg_Srf, kg_Sld, kg_pad, List.map_cons, List.map_nil, List.length_cons, List.length_nil, List.replicate, List.cons_append, List.nil_append, List.append_nil, Nat.reduceAdd, Nat.reduceSub, Nat.reduceMul, Nat.reduceMod, Nat.reduceDiv, Nat.reduceLT, Nat.reduceLeDiff, Nat.reduceEqDiff, ne_eq, not_true_eq_false, not_false_eq_true, reduceIte, true_and, and_true, kw_n, kw_s, kw_w, kw_o, kw_ws, kw_wn, ku_s, ku_n, kg_lk111, kg_ls111]
      exact ih'
    | true =>
      rw [e, Bool.true_and] at ih'
      rw [b1]
      rcases h5 with e5 | e5
      · have ep : kf_cP r n k m = true := by unfold kf_cP; rw [decide_eq_true e5]; rfl
        rw [ep, b1] at ih'
        simp (disch := omega) only [kg_S1, kg_S2, kg_br_T, kg_br_F, kg_br_N, kg_br_t, kg_br_f, kg_at_n, nI_add, pk_mul, kg_sub_n, kg_rem_n, kg_eq_n, kg_lt_n, kg_le_n, kg_nz, kg_01_0, kg_01_1, kg_w0_1, kg_ret0, kg_ret1, kg_ret2, kg_wr_n, kg_Skd, kg_Smc, kg_Sob, kg_Srf, kg_Sld, kg_pad, List.map_cons, List.map_nil, List.length_cons, List.length_nil, List.replicate, List.cons_append, List.nil_append, List.append_nil, Nat.reduceAdd, Nat.reduceSub, Nat.reduceMul, Nat.reduceMod, Nat.reduceDiv, Nat.reduceLT, Nat.reduceLeDiff, Nat.reduceEqDiff, ne_eq, not_true_eq_false, not_false_eq_true, reduceIte, true_and, and_true, kw_n, kw_s, kw_w, kw_o, kw_ws, kw_wn, ku_s, ku_n, kg_lk111, kg_ls111, e5]
        exact ih'
      · have e5' : ¬ r 5 = nI 0 := by rw [e5]; exact n10
        by_cases q : m = n
        · have ep : kf_cP r n k m = true := by unfold kf_cP; rw [decide_eq_true q]; simp
          rw [ep, b1] at ih'
          simp (disch := omega) only [kg_S1, kg_S2, kg_br_T, kg_br_F, kg_br_N, kg_br_t, kg_br_f, kg_at_n, nI_add, pk_mul, kg_sub_n, kg_rem_n, kg_eq_n, kg_lt_n, kg_le_n, kg_nz, kg_01_0, kg_01_1, kg_w0_1, kg_ret0, kg_ret1, kg_ret2, kg_wr_n, kg_Skd, kg_Smc, kg_Sob, kg_Srf, kg_Sld, kg_pad, List.map_cons, List.map_nil, List.length_cons, List.length_nil, List.replicate, List.cons_append, List.nil_append, List.append_nil, Nat.reduceAdd, Nat.reduceSub, Nat.reduceMul, Nat.reduceMod, Nat.reduceDiv, Nat.reduceLT, Nat.reduceLeDiff, Nat.reduceEqDiff, ne_eq, not_true_eq_false, not_false_eq_true, reduceIte, true_and, and_true, kw_n, kw_s, kw_w, kw_o, kw_ws, kw_wn, ku_s, ku_n, kg_lk111, kg_ls111, e5]
          exact ih'
        · simp (disch := omega) only [kg_S1, kg_S2, kg_br_T, kg_br_F, kg_br_N, kg_br_t, kg_br_f, kg_at_n, nI_add, pk_mul, kg_sub_n, kg_rem_n, kg_eq_n, kg_lt_n, kg_le_n, kg_nz, kg_01_0, kg_01_1, kg_w0_1, kg_ret0, kg_ret1, kg_ret2, kg_wr_n, kg_Skd, kg_Smc, kg_Sob, kg_Srf, kg_Sld, kg_pad, List.map_cons, List.map_nil, List.length_cons, List.length_nil, List.replicate, List.cons_append, List.nil_append, List.append_nil, Nat.reduceAdd, Nat.reduceSub, Nat.reduceMul, Nat.reduceMod, Nat.reduceDiv, Nat.reduceLT, Nat.reduceLeDiff, Nat.reduceEqDiff, ne_eq, not_true_eq_false, not_false_eq_true, reduceIte, true_and, and_true, kw_n, kw_s, kw_w, kw_o, kw_ws, kw_wn, ku_s, ku_n, kg_lk111, kg_ls111, e5]
          refine kc100 hL (by omega) hn hk (by omega) ?_
          simp (disch := omega) only [kg_S1, kg_S2, kg_br_T, kg_br_F, kg_br_N, kg_br_t, kg_br_f, kg_at_n, nI_add, pk_mul, kg_sub_n, kg_rem_n, kg_eq_n, kg_lt_n, kg_le_n, kg_nz, kg_01_0, kg_01_1, kg_w0_1, kg_ret0, kg_ret1, kg_ret2, kg_wr_n, kg_Skd, kg_Smc, kg_Sob, kg_Srf, kg_Sld, kg_pad, List.map_cons, List.map_nil, List.length_cons, List.length_nil, List.replicate, List.cons_append, List.nil_append, List.append_nil, Nat.reduceAdd, Nat.reduceSub, Nat.reduceMul, Nat.reduceMod, Nat.reduceDiv, Nat.reduceLT, Nat.reduceLeDiff, Nat.reduceEqDiff, ne_eq, not_true_eq_false, not_false_eq_true, reduceIte, true_and, and_true, kw_n, kw_s, kw_w, kw_o, kw_ws, kw_wn, ku_s, ku_n, kg_lk111, kg_ls111]
          have ep : kf_cP r n k m = decide (r (27 + 40 * n + 5 * k + 4) < r (11 + 4 * n + m)) := by
            unfold kf_cP kf_c; rw [decide_eq_false e5', decide_eq_false q]; rfl
          rw [ep] at ih'
          refine kg_br_i (fun q => ?_) (fun q => ?_)
          · rw [decide_eq_false (Int32.not_lt.mpr q), b0] at ih'
            exact ih'
          · rw [decide_eq_true (Int32.not_le.mp q), b1] at ih'
            exact ih'
set_option maxRecDepth 100000 in
theorem kc111 (hL : G.2.2.2.2.2.1 < 2 ^ 31) {n k : Nat} (hn : n < 4) (hk : k < 8) (h5 : kg_01 (r 5)) (hd : 4 ≤ d) (hK : K (some (.int (kf_b (kf_cl r n k)))) (kg_w0 h) (kg_row M 125 r)) : kg_call G d 129 111 [.ref 124, .int (nI n), .int (nI k)] (kg_w0 h) (kg_row M 125 r) K := by
  obtain ⟨d, rfl⟩ : ∃ e, d = e + 1 := ⟨d - 1, by omega⟩
  refine kg_m111 (by simp) (Nat.le_refl _) (kg_v111 hL (by omega) 60 ?_)
  simp (disch := omega) only [kg_S1, kg_S2, kg_br_T, kg_br_F, kg_br_N, kg_br_t, kg_br_f, kg_at_n, nI_add, pk_mul, kg_sub_n, kg_rem_n, kg_eq_n, kg_lt_n, kg_le_n, kg_nz, kg_01_0, kg_01_1, kg_w0_1, kg_ret0, kg_ret1, kg_ret2, kg_wr_n, kg_Skd, kg_Smc, kg_Sob, kg_Srf, kg_Sld, kg_pad, List.map_cons, List.map_nil, List.length_cons, List.length_nil, List.replicate, List.cons_append, List.nil_append, List.append_nil, Nat.reduceAdd, Nat.reduceSub, Nat.reduceMul, Nat.reduceMod, Nat.reduceDiv, Nat.reduceLT, Nat.reduceLeDiff, Nat.reduceEqDiff, ne_eq, not_true_eq_false, not_false_eq_true, reduceIte, true_and, and_true, kw_n, kw_s, kw_w, kw_o, kw_ws, kw_wn, ku_s, ku_n, kg_lk111, kg_ls111]
  refine kc112 hL (by omega) hn hk ?_
  simp (disch := omega) only [kg_S1, kg_S2, kg_br_T, kg_br_F, kg_br_N, kg_br_t, kg_br_f, kg_at_n, nI_add, pk_mul, kg_sub_n, kg_rem_n, kg_eq_n, kg_lt_n, kg_le_n, kg_nz, kg_01_0, kg_01_1, kg_w0_1, kg_ret0, kg_ret1, kg_ret2, kg_wr_n, kg_Skd, kg_Smc, kg_Sob, kg_Srf, kg_Sld, kg_pad, List.map_cons, List.map_nil, List.length_cons, List.length_nil, List.replicate, List.cons_append, List.nil_append, List.append_nil, Nat.reduceAdd, Nat.reduceSub, Nat.reduceMul, Nat.reduceMod, Nat.reduceDiv, Nat.reduceLT, Nat.reduceLeDiff, Nat.reduceEqDiff, ne_eq, not_true_eq_false, not_false_eq_true, reduceIte, true_and, and_true, kw_n, kw_s, kw_w, kw_o, kw_ws, kw_wn, ku_s, ku_n, kg_lk111, kg_ls111]
  have := kc111_l hL hn hk h5 (by omega) hK 4 0 rfl (d := d)
  rw [kf_al, Bool.and_true] at this
  exact this
set_option maxRecDepth 100000 in
theorem kc110_l (hL : G.2.2.2.2.2.1 < 2 ^ 31) {n : Nat} (hn : n < 4) (h5 : kg_01 (r 5)) (hd : 5 ≤ d) (hK : K (some (.int (nI (kf_ct (kf_cl r n) 8)))) (kg_w0 h) (kg_row M 125 r)) : ∀ z k : Nat, k + z = 8 → kg_P G d 110 4 129 129 K 4 [some (.ref 124), some (.int (nI n)), some (.int (nI (kf_ct (kf_cl r n) k))), some (.int (nI k))] [] (kg_w0 h) (kg_row M 125 r) := by
  have b0 : kf_b false = nI 0 := rfl
  have b1 : kf_b true = nI 1 := rfl
  intro z
  induction z with
  | zero =>
    intro k hk
    obtain rfl : k = 8 := by omega
    refine kg_v110 hL (by omega) 60 ?_
    simp (disch := omega) only [kg_S1, kg_S2, kg_br_T, kg_br_F, kg_br_N, kg_br_t, kg_br_f, kg_at_n, nI_add, pk_mul, kg_sub_n, kg_rem_n, kg_eq_n, kg_lt_n, kg_le_n, kg_nz, kg_01_0, kg_01_1, kg_w0_1, kg_ret0, kg_ret1, kg_ret2, kg_wr_n, kg_Skd, kg_Smc, kg_Sob, kg_Srf, kg_Sld, kg_pad, List.map_cons, List.map_nil, List.length_cons, List.length_nil, List.replicate, List.cons_append, List.nil_append, List.append_nil, Nat.reduceAdd, Nat.reduceSub, Nat.reduceMul, Nat.reduceMod, Nat.reduceDiv, Nat.reduceLT, Nat.reduceLeDiff, Nat.reduceEqDiff, ne_eq, not_true_eq_false, not_false_eq_true, reduceIte, true_and, and_true, kw_n, kw_s, kw_w, kw_o, kw_ws, kw_wn, ku_s, ku_n, kg_lk110, kg_ls110]
    exact hK
  | succ z ih =>
    intro k hk
    have ih' := ih (k + 1) (by omega)
    refine kg_v110 hL (by omega) 60 ?_
    simp (disch := omega) only [kg_S1, kg_S2, kg_br_T, kg_br_F, kg_br_N, kg_br_t, kg_br_f, kg_at_n, nI_add, pk_mul, kg_sub_n, kg_rem_n, kg_eq_n, kg_lt_n, kg_le_n, kg_nz, kg_01_0, kg_01_1, kg_w0_1, kg_ret0, kg_ret1, kg_ret2, kg_wr_n, kg_Skd, kg_Smc, kg_Sob, kg_Srf, kg_Sld, kg_pad, List.map_cons, List.map_nil, List.length_cons, List.length_nil, List.replicate, List.cons_append, List.nil_append, List.append_nil, Nat.reduceAdd, Nat.reduceSub, Nat.reduceMul, Nat.reduceMod, Nat.reduceDiv, Nat.reduceLT, Nat.reduceLeDiff, Nat.reduceEqDiff, ne_eq, not_true_eq_false, not_false_eq_true, reduceIte, true_and, and_true, kw_n, kw_s, kw_w, kw_o, kw_ws, kw_wn, ku_s, ku_n, kg_lk110, kg_ls110]
    refine kc111 hL hn (by omega) h5 (by omega) ?_
    cases e : kf_cl r n k with
    | true =>
      rw [kf_ct_t e] at ih'
      rw [b1]
      simp (disch := omega) only [kg_S1, kg_S2, kg_br_T, kg_br_F, kg_br_N, kg_br_t, kg_br_f, kg_at_n, nI_add, pk_mul, kg_sub_n, kg_rem_n, kg_eq_n, kg_lt_n, kg_le_n, kg_nz, kg_01_0, kg_01_1, kg_w0_1, kg_ret0, kg_ret1, kg_ret2, kg_wr_n, kg_Skd, kg_Smc, kg_Sob, kg_Srf, kg_Sld, kg_pad, List.map_cons, List.map_nil, List.length_cons, List.length_nil, List.replicate, List.cons_append, List.nil_append, List.append_nil, Nat.reduceAdd, Nat.reduceSub, Nat.reduceMul, Nat.reduceMod, Nat.reduceDiv, Nat.reduceLT, Nat.reduceLeDiff, Nat.reduceEqDiff, ne_eq, not_true_eq_false, not_false_eq_true, reduceIte, true_and, and_true, kw_n, kw_s, kw_w, kw_o, kw_ws, kw_wn, ku_s, ku_n, kg_lk110, kg_ls110]
      exact ih'
    | false =>
      rw [kf_ct_f (by rw [e]; simp)] at ih'
      rw [b0]
      simp (disch := omega) only [kg_S1, kg_S2, kg_br_T, kg_br_F, kg_br_N, kg_br_t, kg_br_f, kg_at_n, nI_add, pk_mul, kg_sub_n, kg_rem_n, kg_eq_n, kg_lt_n, kg_le_n, kg_nz, kg_01_0, kg_01_1, kg_w0_1, kg_ret0, kg_ret1, kg_ret2, kg_wr_n, kg_Skd, kg_Smc, kg_Sob, kg_Srf, kg_Sld, kg_pad, List.map_cons, List.map_nil, List.length_cons, List.length_nil, List.replicate, List.cons_append, List.nil_append, List.append_nil, Nat.reduceAdd, Nat.reduceSub, Nat.reduceMul, Nat.reduceMod, Nat.reduceDiv, Nat.reduceLT, Nat.reduceLeDiff, Nat.reduceEqDiff, ne_eq, not_true_eq_false, not_false_eq_true, reduceIte, true_and, and_true, kw_n, kw_s, kw_w, kw_o, kw_ws, kw_wn, ku_s, ku_n, kg_lk110, kg_ls110, Nat.add_zero]
      exact ih'
set_option maxRecDepth 100000 in
theorem kc110 (hL : G.2.2.2.2.2.1 < 2 ^ 31) {n : Nat} (hn : n < 4) (h5 : kg_01 (r 5)) (hd : 6 ≤ d) (hK : K (some (.int (nI (kf_ct (kf_cl r n) 8)))) (kg_w0 h) (kg_row M 125 r)) : kg_call G d 129 110 [.ref 124, .int (nI n)] (kg_w0 h) (kg_row M 125 r) K := by
  obtain ⟨d, rfl⟩ : ∃ e, d = e + 1 := ⟨d - 1, by omega⟩
  refine kg_m110 (by simp) (Nat.le_refl _) (kg_v110 hL (by omega) 60 ?_)
  simp (disch := omega) only [kg_S1, kg_S2, kg_br_T, kg_br_F, kg_br_N, kg_br_t, kg_br_f, kg_at_n, nI_add, pk_mul, kg_sub_n, kg_rem_n, kg_eq_n, kg_lt_n, kg_le_n, kg_nz, kg_01_0, kg_01_1, kg_w0_1, kg_ret0, kg_ret1, kg_ret2, kg_wr_n, kg_Skd, kg_Smc, kg_Sob, kg_Srf, kg_Sld, kg_pad, List.map_cons, List.map_nil, List.length_cons, List.length_nil, List.replicate, List.cons_append, List.nil_append, List.append_nil, Nat.reduceAdd, Nat.reduceSub, Nat.reduceMul, Nat.reduceMod, Nat.reduceDiv, Nat.reduceLT, Nat.reduceLeDiff, Nat.reduceEqDiff, ne_eq, not_true_eq_false, not_false_eq_true, reduceIte, true_and, and_true, kw_n, kw_s, kw_w, kw_o, kw_ws, kw_wn, ku_s, ku_n, kg_lk110, kg_ls110]
  exact kc110_l hL hn h5 (by omega) hK 8 0 rfl
set_option maxRecDepth 100000 in
theorem kc110m (hL : G.2.2.2.2.2.1 < 2 ^ 31) {n : Nat} (hr : M 125 = r) (hn : n < 4) (h5 : kg_01 (r 5)) (hd : 6 ≤ d) (hK : K (some (.int (nI (kf_ct (kf_cl r n) 8)))) (kg_w0 h) M) : kg_call G d 129 110 [.ref 124, .int (nI n)] (kg_w0 h) M K := by
  have em : kg_row M 125 r = M := by rw [← hr]; exact kw_i _ _
  have := kc110 (M := M) (r := r) (K := K) (h := h) hL hn h5 hd
  rw [em] at this
  exact this hK
def kf_zk (r : Nat → Int32) (n k j : Nat) : Nat → Int32 := fun i => if 27 + 40 * n + 5 * k ≤ i ∧ i < 27 + 40 * n + 5 * k + j then nI 0 else r i
theorem kf_zk_s {n k j : Nat} : upd (kf_zk r n k j) (27 + 40 * n + 5 * k + j) (nI 0) = kf_zk r n k (j + 1) := by
  funext i
  by_cases e : i = 27 + 40 * n + 5 * k + j
  · subst e
    rw [ku_s, kf_zk, if_pos (by omega)]
  · rw [ku_n e]
    simp only [kf_zk]
    by_cases e2 : 27 + 40 * n + 5 * k ≤ i ∧ i < 27 + 40 * n + 5 * k + j
    · rw [if_pos e2, if_pos (by omega)]
    · rw [if_neg e2, if_neg (by omega)]
theorem kf_zk_z {n k : Nat} : kf_zk r n k 0 = r := by
  funext i
  rw [kf_zk, if_neg (by omega)]
theorem kf_zk_5 {n k : Nat} : kf_zk r n k 5 = kf_z5 r n k := by
  funext i
  unfold kf_zk kf_z5 kf_pu
  by_cases e : 27 + 40 * n + 5 * k ≤ i ∧ i < 27 + 40 * n + 5 * k + 5
  · rw [if_pos e]
    split
    · rfl
    split
    · rfl
    split
    · rfl
    split
    · rfl
    split
    · rfl
    omega
  · rw [if_neg e, if_neg (by omega), if_neg (by omega), if_neg (by omega), if_neg (by omega), if_neg (by omega)]
theorem kf_cf_u {n : Nat} (hn : n < 4) : ∀ k, k ≤ 8 → ∀ i, (i < 27 ∨ 187 ≤ i) → kf_cf r n k i = r i
  | 0, _, _, _ => rfl
  | k + 1, hk, i, hi => by
    rw [kf_cf, kf_ck]
    split
    · rw [kf_z5, kf_pu_o hn (by omega) (by omega)]
      exact kf_cf_u hn k (by omega) i hi
    · exact kf_cf_u hn k (by omega) i hi
set_option maxRecDepth 100000 in
theorem kc109_i (hL : G.2.2.2.2.2.1 < 2 ^ 31) {n k : Nat} {x2 : Option Value} (hn : n < 4) (hk : k < 8) (hd : 2 ≤ d) (hK : kg_P G d 109 5 129 129 K 43 [some (.ref 124), some (.int (nI n)), x2, some (.int (nI (k + 1))), some (.int (nI 5))] [] (kg_w0 h) (kg_row M 125 (kf_z5 r n k))) : ∀ z j : Nat, j + z = 5 → kg_P G d 109 5 129 129 K 61 [some (.ref 124), some (.int (nI n)), x2, some (.int (nI k)), some (.int (nI j))] [] (kg_w0 h) (kg_row M 125 (kf_zk r n k j)) := by
  intro z
  induction z with
  | zero =>
    intro j hj
    obtain rfl : j = 5 := by omega
    rw [kf_zk_5]
    refine kg_v109 hL (by omega) 60 ?_
    simp (disch := omega) only [kg_S1, kg_S2, kg_br_T, kg_br_F, kg_br_N, kg_br_t, kg_br_f, kg_at_n, nI_add, pk_mul, kg_sub_n, kg_rem_n, kg_eq_n, kg_lt_n, kg_le_n, kg_nz, kg_01_0, kg_01_1, kg_w0_1, kg_ret0, kg_ret1, kg_ret2, kg_wr_n, kg_Skd, kg_Smc, kg_Sob, kg_Srf, kg_Sld, kg_pad, List.map_cons, List.map_nil, List.length_cons, List.length_nil, List.replicate, List.cons_append, List.nil_append, List.append_nil, Nat.reduceAdd, Nat.reduceSub, Nat.reduceMul, Nat.reduceMod, Nat.reduceDiv, Nat.reduceLT, Nat.reduceLeDiff, Nat.reduceEqDiff, ne_eq, not_true_eq_false, not_false_eq_true, reduceIte, true_and, and_true, kw_n, kw_s, kw_w, kw_o, kw_ws, kw_wn, ku_s, ku_n, kg_lk109, kg_ls109]
    exact hK
  | succ z ih =>
    intro j hj
    refine kg_v109 hL (by omega) 60 ?_
    simp (disch := omega) only [kg_S1, kg_S2, kg_br_T, kg_br_F, kg_br_N, kg_br_t, kg_br_f, kg_at_n, nI_add, pk_mul, kg_sub_n, kg_rem_n, kg_eq_n, kg_lt_n, kg_le_n, kg_nz, kg_01_0, kg_01_1, kg_w0_1, kg_ret0, kg_ret1, kg_ret2, kg_wr_n, kg_Skd, kg_Smc, kg_Sob, kg_Srf, kg_Sld, kg_pad, List.map_cons, List.map_nil, List.length_cons, List.length_nil, List.replicate, List.cons_append, List.nil_append, List.append_nil, Nat.reduceAdd, Nat.reduceSub, Nat.reduceMul, Nat.reduceMod, Nat.reduceDiv, Nat.reduceLT, Nat.reduceLeDiff, Nat.reduceEqDiff, ne_eq, not_true_eq_false, not_false_eq_true, reduceIte, true_and, and_true, kw_n, kw_s, kw_w, kw_o, kw_ws, kw_wn, ku_s, ku_n, kg_lk109, kg_ls109]
    refine kc100 hL (by omega) hn hk (by omega) ?_
    simp (disch := omega) only [kg_S1, kg_S2, kg_br_T, kg_br_F, kg_br_N, kg_br_t, kg_br_f, kg_at_n, nI_add, pk_mul, kg_sub_n, kg_rem_n, kg_eq_n, kg_lt_n, kg_le_n, kg_nz, kg_01_0, kg_01_1, kg_w0_1, kg_ret0, kg_ret1, kg_ret2, kg_wr_n, kg_Skd, kg_Smc, kg_Sob, kg_Srf, kg_Sld, kg_pad, List.map_cons, List.map_nil, List.length_cons, List.length_nil, List.replicate, List.cons_append, List.nil_append, List.append_nil, Nat.reduceAdd, Nat.reduceSub, Nat.reduceMul, Nat.reduceMod, Nat.reduceDiv, Nat.reduceLT, Nat.reduceLeDiff, Nat.reduceEqDiff, ne_eq, not_true_eq_false, not_false_eq_true, reduceIte, true_and, and_true, kw_n, kw_s, kw_w, kw_o, kw_ws, kw_wn, ku_s, ku_n, kg_lk109, kg_ls109]
    rw [kf_zk_s]
    exact ih (j + 1) (by omega)
set_option maxRecDepth 100000 in
theorem kc109_l (hL : G.2.2.2.2.2.1 < 2 ^ 31) {n q : Nat} (hq : q = kf_ct (kf_cl r n) 8) (hn : n < 4) (h5 : kg_01 (r 5)) (hE : kf_E r) (hd : 5 ≤ d) (hK : K (some (.int (nI q))) (kg_w0 h) (kg_row M 125 (kf_cg r n))) : ∀ (z k : Nat) (x4 : Option Value), k + z = 8 → kg_P G d 109 5 129 129 K 43 [some (.ref 124), some (.int (nI n)), some (.int (nI q)), some (.int (nI k)), x4] [] (kg_w0 h) (kg_row M 125 (kf_cf r n k)) := by
  have b0 : kf_b false = nI 0 := rfl
  have b1 : kf_b true = nI 1 := rfl
  intro z
  induction z with
  | zero =>
    intro k x4 hk
    obtain rfl : k = 8 := by omega
    refine kg_v109 hL (by omega) 60 ?_
    simp (disch := omega) only [kg_S1, kg_S2, kg_br_T, kg_br_F, kg_br_N, kg_br_t, kg_br_f, kg_at_n, nI_add, pk_mul, kg_sub_n, kg_rem_n, kg_eq_n, kg_lt_n, kg_le_n, kg_nz, kg_01_0, kg_01_1, kg_w0_1, kg_ret0, kg_ret1, kg_ret2, kg_wr_n, kg_Skd, kg_Smc, kg_Sob, kg_Srf, kg_Sld, kg_pad, List.map_cons, List.map_nil, List.length_cons, List.length_nil, List.replicate, List.cons_append, List.nil_append, List.append_nil, Nat.reduceAdd, Nat.reduceSub, Nat.reduceMul, Nat.reduceMod, Nat.reduceDiv, Nat.reduceLT, Nat.reduceLeDiff, Nat.reduceEqDiff, ne_eq, not_true_eq_false, not_false_eq_true, reduceIte, true_and, and_true, kw_n, kw_s, kw_w, kw_o, kw_ws, kw_wn, ku_s, ku_n, kg_lk109, kg_ls109]
    refine kc105 hL (by omega) ?_ (by omega) ?_
    · obtain ⟨p, hp, e⟩ := hE
      exact ⟨p, hp, (kf_cf_u hn 8 (by omega) _ (by omega)).trans e⟩
    · simp (disch := omega) only [kg_S1, kg_S2, kg_br_T, kg_br_F, kg_br_N, kg_br_t, kg_br_f, kg_at_n, nI_add, pk_mul, kg_sub_n, kg_rem_n, kg_eq_n, kg_lt_n, kg_le_n, kg_nz, kg_01_0, kg_01_1, kg_w0_1, kg_ret0, kg_ret1, kg_ret2, kg_wr_n, kg_Skd, kg_Smc, kg_Sob, kg_Srf, kg_Sld, kg_pad, List.map_cons, List.map_nil, List.length_cons, List.length_nil, List.replicate, List.cons_append, List.nil_append, List.append_nil, Nat.reduceAdd, Nat.reduceSub, Nat.reduceMul, Nat.reduceMod, Nat.reduceDiv, Nat.reduceLT, Nat.reduceLeDiff, Nat.reduceEqDiff, ne_eq, not_true_eq_false, not_false_eq_true, reduceIte, true_and, and_true, kw_n, kw_s, kw_w, kw_o, kw_ws, kw_wn, ku_s, ku_n, kg_lk109, kg_ls109]
      unfold kf_cg at hK
      rw [← hq] at hK
      exact hK
  | succ z ih =>
    intro k x4 hk
    have ih' := fun x => ih (k + 1) x (by omega)
    refine kg_v109 hL (by omega) 60 ?_
    simp (disch := omega) only [kg_S1, kg_S2, kg_br_T, kg_br_F, kg_br_N, kg_br_t, kg_br_f, kg_at_n, nI_add, pk_mul, kg_sub_n, kg_rem_n, kg_eq_n, kg_lt_n, kg_le_n, kg_nz, kg_01_0, kg_01_1, kg_w0_1, kg_ret0, kg_ret1, kg_ret2, kg_wr_n, kg_Skd, kg_Smc, kg_Sob, kg_Srf, kg_Sld, kg_pad, List.map_cons, List.map_nil, List.length_cons, List.length_nil, List.replicate, List.cons_append, List.nil_append, List.append_nil, Nat.reduceAdd, Nat.reduceSub, Nat.reduceMul, Nat.reduceMod, Nat.reduceDiv, Nat.reduceLT, Nat.reduceLeDiff, Nat.reduceEqDiff, ne_eq, not_true_eq_false, not_false_eq_true, reduceIte, true_and, and_true, kw_n, kw_s, kw_w, kw_o, kw_ws, kw_wn, ku_s, ku_n, kg_lk109, kg_ls109]
    refine kc111 hL hn (by omega) (by rw [kf_cf_u hn k (by omega) _ (by omega)]; exact h5) (by omega) ?_
    rw [kf_cf, kf_ck] at ih'
    cases e : kf_cl (kf_cf r n k) n k with
    | true =>
      rw [e] at ih'
      simp only [reduceIte] at ih'
      rw [b1]
      simp (disch := omega) only [kg_S1, kg_S2, kg_br_T, kg_br_F, kg_br_N, kg_br_t, kg_br_f, kg_at_n, nI_add, pk_mul, kg_sub_n, kg_rem_n, kg_eq_n, kg_lt_n, kg_le_n, kg_nz, kg_01_0, kg_01_1, kg_w0_1, kg_ret0, kg_ret1, kg_ret2, kg_wr_n, kg_Skd, kg_Smc, kg_Sob, kg_Srf, kg_Sld, kg_pad, List.map_cons, List.map_nil, List.length_cons, List.length_nil, List.replicate, List.cons_append, List.nil_append, List.append_nil, Nat.reduceAdd, Nat.reduceSub, Nat.reduceMul, Nat.reduceMod, Nat.reduceDiv, Nat.reduceLT, Nat.reduceLeDiff, Nat.reduceEqDiff, ne_eq, not_true_eq_false, not_false_eq_true, reduceIte, true_and, and_true, kw_n, kw_s, kw_w, kw_o, kw_ws, kw_wn, ku_s, ku_n, kg_lk109, kg_ls109]
      have := kc109_i hL hn (by omega) (by omega) (ih' _) 5 0 rfl (d := d)
      rw [kf_zk_z] at this
      exact this
    | false =>
      rw [e] at ih'
      simp only [Bool.false_eq_true, reduceIte] at ih'
      rw [b0]
      simp (disch := omega) only [kg_S1, kg_S2, kg_br_T, kg_br_F, kg_br_N, kg_br_t, kg_br_f, kg_at_n, nI_add, pk_mul, kg_sub_n, kg_rem_n, kg_eq_n, kg_lt_n, kg_le_n, kg_nz, kg_01_0, kg_01_1, kg_w0_1, kg_ret0, kg_ret1, kg_ret2, kg_wr_n, kg_Skd, kg_Smc, kg_Sob, kg_Srf, kg_Sld, kg_pad, List.map_cons, List.map_nil, List.length_cons, List.length_nil, List.replicate, List.cons_append, List.nil_append, List.append_nil, Nat.reduceAdd, Nat.reduceSub, Nat.reduceMul, Nat.reduceMod, Nat.reduceDiv, Nat.reduceLT, Nat.reduceLeDiff, Nat.reduceEqDiff, ne_eq, not_true_eq_false, not_false_eq_true, reduceIte, true_and, and_true, kw_n, kw_s, kw_w, kw_o, kw_ws, kw_wn, ku_s, ku_n, kg_lk109, kg_ls109]
      exact ih' _

set_option maxRecDepth 100000 in
theorem kc109 (hL : G.2.2.2.2.2.1 < 2 ^ 31) {i : Int32} (hJ : kf_J c A.1) (hD : kf_D M A) (hr : M 125 = A.1) (hd : 7 ≤ d) (hK : ∀ (o : Int32) (A' : kf_A) (M' : kg_M), kf_clr A i = (o, A') → kf_D M' A' → (∀ p, p < 124 → M' p = M p) → K (some (.int o)) (kg_w0 h) M') : kg_call G d 129 109 [.ref 124, .int i] (kg_w0 h) M K := by
  obtain ⟨d, rfl⟩ : ∃ e, d = e + 1 := ⟨d - 1, by omega⟩
  refine kg_m109 (by simp) (Nat.le_refl _) (kg_v109 hL (by omega) 60 ?_)
  simp (disch := omega) only [kg_S1, kg_S2, kg_br_T, kg_br_F, kg_br_N, kg_br_t, kg_br_f, kg_at_n, nI_add, pk_mul, kg_sub_n, kg_rem_n, kg_eq_n, kg_lt_n, kg_le_n, kg_nz, kg_01_0, kg_01_1, kg_w0_1, kg_ret0, kg_ret1, kg_ret2, kg_wr_n, kg_wr_s, kg_Skd, kg_Smc, kg_Sob, kg_Srf, kg_Sld, kg_pad, List.map_cons, List.map_nil, List.length_cons, List.length_nil, List.replicate, List.cons_append, List.nil_append, List.append_nil, Nat.reduceAdd, Nat.reduceSub, Nat.reduceMul, Nat.reduceMod, Nat.reduceDiv, Nat.reduceLT, Nat.reduceLeDiff, Nat.reduceEqDiff, ne_eq, not_true_eq_false, not_false_eq_true, reduceIte, true_and, and_true, kg_lk109, kg_ls109]
  cases ei : kf_ix 4 i with
  | none =>
    refine kc93b hL (by omega) (kf_ix_n (by omega) ei) ?_
    simp (disch := omega) only [kg_S1, kg_S2, kg_br_T, kg_br_F, kg_br_N, kg_br_t, kg_br_f, kg_at_n, nI_add, pk_mul, kg_sub_n, kg_rem_n, kg_eq_n, kg_lt_n, kg_le_n, kg_nz, kg_01_0, kg_01_1, kg_w0_1, kg_ret0, kg_ret1, kg_ret2, kg_wr_n, kg_wr_s, kg_Skd, kg_Smc, kg_Sob, kg_Srf, kg_Sld, kg_pad, List.map_cons, List.map_nil, List.length_cons, List.length_nil, List.replicate, List.cons_append, List.nil_append, List.append_nil, Nat.reduceAdd, Nat.reduceSub, Nat.reduceMul, Nat.reduceMod, Nat.reduceDiv, Nat.reduceLT, Nat.reduceLeDiff, Nat.reduceEqDiff, ne_eq, not_true_eq_false, not_false_eq_true, reduceIte, true_and, and_true, kg_lk109, kg_ls109]
    exact hK _ _ _ (by simp only [kf_clr, ei]) hD (fun _ _ => rfl)
  | some n =>
    obtain ⟨hn, rfl⟩ := kf_ix_s (by omega) ei
    simp only [kf_clr, ei] at hK
    have hup := hJ.1.1.2.2.2.2.2.2.2.1
    have h5 := hJ.1.1.2.2.2.2.2.1
    refine kc93 hL (by omega) hn ?_
    rcases hup n hn with e | e
    · rw [if_pos e] at hK
      simp (disch := omega) only [kg_S1, kg_S2, kg_br_T, kg_br_F, kg_br_N, kg_br_t, kg_br_f, kg_at_n, nI_add, pk_mul, kg_sub_n, kg_rem_n, kg_eq_n, kg_lt_n, kg_le_n, kg_nz, kg_01_0, kg_01_1, kg_w0_1, kg_ret0, kg_ret1, kg_ret2, kg_wr_n, kg_wr_s, kg_Skd, kg_Smc, kg_Sob, kg_Srf, kg_Sld, kg_pad, List.map_cons, List.map_nil, List.length_cons, List.length_nil, List.replicate, List.cons_append, List.nil_append, List.append_nil, Nat.reduceAdd, Nat.reduceSub, Nat.reduceMul, Nat.reduceMod, Nat.reduceDiv, Nat.reduceLT, Nat.reduceLeDiff, Nat.reduceEqDiff, ne_eq, not_true_eq_false, not_false_eq_true, reduceIte, true_and, and_true, kg_lk109, kg_ls109, hr, e]
      exact hK _ _ _ rfl hD (fun _ _ => rfl)
    · rw [e, if_neg (by decide)] at hK
      have hl8 : kf_ct (kf_cl A.1 n) 8 ≤ 8 := kf_ct_le _ 8
      simp (disch := omega) only [kg_S1, kg_S2, kg_br_T, kg_br_F, kg_br_N, kg_br_t, kg_br_f, kg_at_n, nI_add, pk_mul, kg_sub_n, kg_rem_n, kg_eq_n, kg_lt_n, kg_le_n, kg_nz, kg_01_0, kg_01_1, kg_w0_1, kg_ret0, kg_ret1, kg_ret2, kg_wr_n, kg_wr_s, kg_Skd, kg_Smc, kg_Sob, kg_Srf, kg_Sld, kg_pad, List.map_cons, List.map_nil, List.length_cons, List.length_nil, List.replicate, List.cons_append, List.nil_append, List.append_nil, Nat.reduceAdd, Nat.reduceSub, Nat.reduceMul, Nat.reduceMod, Nat.reduceDiv, Nat.reduceLT, Nat.reduceLeDiff, Nat.reduceEqDiff, ne_eq, not_true_eq_false, not_false_eq_true, reduceIte, true_and, and_true, kg_lk109, kg_ls109, hr, e]
      refine kc110m hL hr hn h5 (by omega) ?_
      by_cases q : kf_ct (fun k => kf_cl A.1 n k) 8 = 0
      · rw [if_pos q] at hK
        have q' : kf_ct (kf_cl A.1 n) 8 = 0 := q
        simp (disch := omega) only [kg_S1, kg_S2, kg_br_T, kg_br_F, kg_br_N, kg_br_t, kg_br_f, kg_at_n, nI_add, pk_mul, kg_sub_n, kg_rem_n, kg_eq_n, kg_lt_n, kg_le_n, kg_nz, kg_01_0, kg_01_1, kg_w0_1, kg_ret0, kg_ret1, kg_ret2, kg_wr_n, kg_wr_s, kg_Skd, kg_Smc, kg_Sob, kg_Srf, kg_Sld, kg_pad, List.map_cons, List.map_nil, List.length_cons, List.length_nil, List.replicate, List.cons_append, List.nil_append, List.append_nil, Nat.reduceAdd, Nat.reduceSub, Nat.reduceMul, Nat.reduceMod, Nat.reduceDiv, Nat.reduceLT, Nat.reduceLeDiff, Nat.reduceEqDiff, ne_eq, not_true_eq_false, not_false_eq_true, reduceIte, true_and, and_true, kg_lk109, kg_ls109, hr, q']
        exact hK _ _ _ rfl hD (fun _ _ => rfl)
      · rw [if_neg q] at hK
        have q' : ¬ kf_ct (kf_cl A.1 n) 8 = 0 := q
        simp (disch := omega) only [kg_S1, kg_S2, kg_br_T, kg_br_F, kg_br_N, kg_br_t, kg_br_f, kg_at_n, nI_add, pk_mul, kg_sub_n, kg_rem_n, kg_eq_n, kg_lt_n, kg_le_n, kg_nz, kg_01_0, kg_01_1, kg_w0_1, kg_ret0, kg_ret1, kg_ret2, kg_wr_n, kg_wr_s, kg_Skd, kg_Smc, kg_Sob, kg_Srf, kg_Sld, kg_pad, List.map_cons, List.map_nil, List.length_cons, List.length_nil, List.replicate, List.cons_append, List.nil_append, List.append_nil, Nat.reduceAdd, Nat.reduceSub, Nat.reduceMul, Nat.reduceMod, Nat.reduceDiv, Nat.reduceLT, Nat.reduceLeDiff, Nat.reduceEqDiff, ne_eq, not_true_eq_false, not_false_eq_true, reduceIte, true_and, and_true, kg_lk109, kg_ls109, hr]
        refine kc91r hL hD hr (by omega) ?_
        intro M1 a1 a2 a3
        simp (disch := omega) only [kg_S1, kg_S2, kg_br_T, kg_br_F, kg_br_N, kg_br_t, kg_br_f, kg_at_n, nI_add, pk_mul, kg_sub_n, kg_rem_n, kg_eq_n, kg_lt_n, kg_le_n, kg_nz, kg_01_0, kg_01_1, kg_w0_1, kg_ret0, kg_ret1, kg_ret2, kg_wr_n, kg_Skd, kg_Smc, kg_Sob, kg_Srf, kg_Sld, kg_pad, List.map_cons, List.map_nil, List.length_cons, List.length_nil, List.replicate, List.cons_append, List.nil_append, List.append_nil, Nat.reduceAdd, Nat.reduceSub, Nat.reduceMul, Nat.reduceMod, Nat.reduceDiv, Nat.reduceLT, Nat.reduceLeDiff, Nat.reduceEqDiff, ne_eq, not_true_eq_false, not_false_eq_true, reduceIte, true_and, and_true, kw_n, kw_s, kw_w, kw_o, kw_ws, kw_wn, ku_s, ku_n, kg_lk109, kg_ls109]
        exact kc109_l hL rfl hn h5 hJ.1.2 (by omega) (hK _ _ _ rfl (a2 _) (kf_DK a3)) 8 0 _ rfl

end
