/-! MORE READS of the class's state -/
theorem kf_al_f {P : Nat → Bool} {i : Nat} (h : ¬ P i = true) : ∀ n, i < n → ¬ kf_al P n = true := by
  intro n hn
  induction n with
  | zero => omega
  | succ n ih =>
    rw [kf_al, Bool.and_eq_true]
    rintro ⟨h1, h2⟩
    rcases Nat.lt_or_ge i n with q | q
    · exact ih q h1
    · obtain rfl : i = n := by omega
      exact h h2
theorem kf_al_s {P : Nat → Bool} {i : Nat} (h : kf_al P i = true) (h2 : P i = true) : kf_al P (i + 1) = true := by rw [kf_al, h, h2]; rfl
section
variable {G : kg_G} {d c : Nat} {h : Nat → Nat} {r : Nat → Int32} {M : kg_M} {K : kg_Qt}
theorem kf_lr {a b : Nat} (hR : kf_Rel c M 1 r) (ha : a < 4) (hb : b < 4) (hab : a ≠ b) : M 9 (kf_pp a b) = kf_lm (r (11 + 4 * a + b)) := by
  have h1 := hR.2.2.2.2.1
  have h2 := (hR.2.2.2.2.2.2.2.2.2.2.2.2.2.2.2.2 a b ha hb).1
  rcases Nat.lt_or_ge a b with q | q
  · have := h1 a b q hb
    rw [kf_pp, if_neg (by omega), if_pos q]
    exact this
  · have := h1 b a (by omega) ha
    rw [kf_pp, if_pos (by omega), if_neg (by omega), h2]
    exact this
theorem kf_lmle {x : Int32} {y : Nat} (hx : x = kg_n 5 ∨ ∃ z : Nat, z ≤ 99999 ∧ x = nI z) (hy : y < 1000000) : (nI y < kf_lm x) = (nI y < x) := by
  rcases hx with rfl | ⟨z, hz, rfl⟩
  · have e1 : ¬ nI y < kf_lm (kg_n 5) := by
      rw [show kf_lm (kg_n 5) = kg_n 1 from rfl, Int32.lt_iff_toInt_lt, nI_toInt (by omega)]
      have : (kg_n 1).toInt = -1 := by decide
      omega
    have e2 : ¬ nI y < kg_n 5 := by
      rw [Int32.lt_iff_toInt_lt, nI_toInt (by omega)]
      have : (kg_n 5).toInt = -5 := by decide
      omega
    simp only [e1, e2]
  · have : kf_lm (nI z) = nI z := by
      unfold kf_lm
      rw [if_neg]
      rw [kf_ne (by omega) (by omega) (by omega)]
      exact id
    rw [this]
theorem kc40_l (hL : G.2.2.2.2.2.1 < 2 ^ 31) (hR : kf_Rel c M 1 r) {n y : Nat} (hn : n < 4) (hy : y < 1000000) (hd : 3 ≤ d) (hK : K (some (.int (kf_b (kf_rs r n (nI y))))) (kg_w0 h) M) : ∀ m i : Nat, i + m = 4 → kf_al (fun m => decide (m = n) || decide (nI y < r (11 + 4 * n + m))) i = true → kg_P G d 40 4 125 125 K 2 [some (.ref 1), some (.int (nI n)), some (.int (nI y)), some (.int (nI i))] [] (kg_w0 h) M := by
  intro m
  induction m with
  | zero =>
    intro i hi ha
    obtain rfl : i = 4 := by omega
    refine kg_v40 hL (by omega) 30 ?_
    simp (disch := omega) only [kg_S1, kg_S2, kg_br_T, kg_br_F, kg_br_N, kg_br_t, kg_br_f, kg_at_n, nI_add, pk_mul, kg_sub_n, kg_rem_n, kg_eq_n, kg_lt_n, kg_le_n, kg_nz, kg_01_0, kg_01_1, kg_w0_1, kg_ret0, kg_ret1, kg_ret2, kg_wr_n, kg_wr_s, kg_Skd, kg_Smc, kg_Sob, kg_Srf, kg_Sld, kg_pad, List.map_cons, List.map_nil, List.length_cons, List.length_nil, List.replicate, List.cons_append, List.nil_append, List.append_nil, Nat.reduceAdd, Nat.reduceSub, Nat.reduceMul, Nat.reduceMod, Nat.reduceDiv, Nat.reduceLT, Nat.reduceLeDiff, Nat.reduceEqDiff, ne_eq, not_true_eq_false, not_false_eq_true, reduceIte, true_and, and_true, kg_lk40, kg_ls40]
    rw [kf_rs, kf_bt ha] at hK
    exact hK
  | succ m ih =>
    intro i hi ha
    refine kg_v40 hL (by omega) 30 ?_
    simp (disch := omega) only [kg_S1, kg_S2, kg_br_T, kg_br_F, kg_br_N, kg_br_t, kg_br_f, kg_at_n, nI_add, pk_mul, kg_sub_n, kg_rem_n, kg_eq_n, kg_lt_n, kg_le_n, kg_nz, kg_01_0, kg_01_1, kg_w0_1, kg_ret0, kg_ret1, kg_ret2, kg_wr_n, kg_wr_s, kg_Skd, kg_Smc, kg_Sob, kg_Srf, kg_Sld, kg_pad, List.map_cons, List.map_nil, List.length_cons, List.length_nil, List.replicate, List.cons_append, List.nil_append, List.append_nil, Nat.reduceAdd, Nat.reduceSub, Nat.reduceMul, Nat.reduceMod, Nat.reduceDiv, Nat.reduceLT, Nat.reduceLeDiff, Nat.reduceEqDiff, ne_eq, not_true_eq_false, not_false_eq_true, reduceIte, true_and, and_true, kg_lk40, kg_ls40]
    refine kg_br_i (fun q => ?_) (fun q => ?_)
    · subst q
      exact ih (i + 1) (by omega) (kf_al_s ha (by simp))
    · refine kc68 hL (by omega) hn (by omega) ?_
      have hp := kf_pp_lt hn (show i < 4 by omega)
      simp (disch := omega) only [kg_S1, kg_S2, kg_br_T, kg_br_F, kg_br_N, kg_br_t, kg_br_f, kg_at_n, nI_add, pk_mul, kg_sub_n, kg_rem_n, kg_eq_n, kg_lt_n, kg_le_n, kg_nz, kg_01_0, kg_01_1, kg_w0_1, kg_ret0, kg_ret1, kg_ret2, kg_wr_n, kg_wr_s, kg_Skd, kg_Smc, kg_Sob, kg_Srf, kg_Sld, kg_pad, List.map_cons, List.map_nil, List.length_cons, List.length_nil, List.replicate, List.cons_append, List.nil_append, List.append_nil, Nat.reduceAdd, Nat.reduceSub, Nat.reduceMul, Nat.reduceMod, Nat.reduceDiv, Nat.reduceLT, Nat.reduceLeDiff, Nat.reduceEqDiff, ne_eq, not_true_eq_false, not_false_eq_true, reduceIte, true_and, and_true, kg_lk40, kg_ls40]
      rw [kf_lr hR hn (by omega) (fun e => q e.symm), kf_lmle (hR.2.2.2.2.2.2.2.2.2.2.2.2.2.2.2.2 n i hn (by omega)).2 hy]
      refine kg_br_i (fun q2 => ?_) (fun q2 => ?_)
      · exact ih (i + 1) (by omega) (kf_al_s ha (by simp [q2]))
      · rw [kf_rs, kf_bf (kf_al_f (P := fun m => decide (m = n) || decide (nI y < r (11 + 4 * n + m))) (i := i) (by simp [q, q2]) 4 (by omega))] at hK
        exact hK
theorem kc40 (hL : G.2.2.2.2.2.1 < 2 ^ 31) (hR : kf_Rel c M 1 r) {n y : Nat} (hn : n < 4) (hy : y < 1000000) (hd : 4 ≤ d) (hK : K (some (.int (kf_b (kf_rs r n (nI y))))) (kg_w0 h) M) : kg_call G d 125 40 [.ref 1, .int (nI n), .int (nI y)] (kg_w0 h) M K := by
  obtain ⟨d, rfl⟩ : ∃ e, d = e + 1 := ⟨d - 1, by omega⟩
  refine kg_m40 (by simp) (Nat.le_refl _) (kg_v40 hL (by omega) 30 ?_)
  simp (disch := omega) only [kg_S1, kg_S2, kg_br_T, kg_br_F, kg_br_N, kg_br_t, kg_br_f, kg_at_n, nI_add, pk_mul, kg_sub_n, kg_rem_n, kg_eq_n, kg_lt_n, kg_le_n, kg_nz, kg_01_0, kg_01_1, kg_w0_1, kg_ret0, kg_ret1, kg_ret2, kg_wr_n, kg_wr_s, kg_Skd, kg_Smc, kg_Sob, kg_Srf, kg_Sld, kg_pad, List.map_cons, List.map_nil, List.length_cons, List.length_nil, List.replicate, List.cons_append, List.nil_append, List.append_nil, Nat.reduceAdd, Nat.reduceSub, Nat.reduceMul, Nat.reduceMod, Nat.reduceDiv, Nat.reduceLT, Nat.reduceLeDiff, Nat.reduceEqDiff, ne_eq, not_true_eq_false, not_false_eq_true, reduceIte, true_and, and_true, kg_lk40, kg_ls40]
  exact kc40_l hL hR hn hy (by omega) hK 4 0 rfl rfl
theorem kf_came {n k : Nat} (hR : kf_Rel c M 1 r) (hn : n < 4) (hk : k < 8) : ∃ y : Nat, y ≤ 99999 ∧ kf_c r n k = nI y := (hR.2.2.2.2.2.2.2.2.2.2.2.2.2.2.2.1 n k hn hk).2
theorem kc37 (hL : G.2.2.2.2.2.1 < 2 ^ 31) (hR : kf_Rel c M 1 r) {n k : Nat} (hd : 5 ≤ d) (hn : n < 4) (hk : k < 8) (hK : K (some (.int (kf_b (kf_cl r n k)))) (kg_w0 h) M) : kg_call G d 125 37 [.ref 1, .int (nI n), .int (nI k)] (kg_w0 h) M K := by
  obtain ⟨d, rfl⟩ : ∃ e, d = e + 1 := ⟨d - 1, by omega⟩
  refine kg_m37 (by simp) (Nat.le_refl _) (kg_v37 hL (by omega) 30 ?_)
  simp (disch := omega) only [kg_S1, kg_S2, kg_br_T, kg_br_F, kg_br_N, kg_br_t, kg_br_f, kg_at_n, nI_add, pk_mul, kg_sub_n, kg_rem_n, kg_eq_n, kg_lt_n, kg_le_n, kg_nz, kg_01_0, kg_01_1, kg_w0_1, kg_ret0, kg_ret1, kg_ret2, kg_wr_n, kg_wr_s, kg_Skd, kg_Smc, kg_Sob, kg_Srf, kg_Sld, kg_pad, List.map_cons, List.map_nil, List.length_cons, List.length_nil, List.replicate, List.cons_append, List.nil_append, List.append_nil, Nat.reduceAdd, Nat.reduceSub, Nat.reduceMul, Nat.reduceMod, Nat.reduceDiv, Nat.reduceLT, Nat.reduceLeDiff, Nat.reduceEqDiff, ne_eq, not_true_eq_false, not_false_eq_true, reduceIte, true_and, and_true, kg_lk37, kg_ls37]
  refine kc38 hL hR (by omega) (by omega) hk ?_
  simp (disch := omega) only [kg_S1, kg_S2, kg_br_T, kg_br_F, kg_br_N, kg_br_t, kg_br_f, kg_at_n, nI_add, pk_mul, kg_sub_n, kg_rem_n, kg_eq_n, kg_lt_n, kg_le_n, kg_nz, kg_01_0, kg_01_1, kg_w0_1, kg_ret0, kg_ret1, kg_ret2, kg_wr_n, kg_wr_s, kg_Skd, kg_Smc, kg_Sob, kg_Srf, kg_Sld, kg_pad, List.map_cons, List.map_nil, List.length_cons, List.length_nil, List.replicate, List.cons_append, List.nil_append, List.append_nil, Nat.reduceAdd, Nat.reduceSub, Nat.reduceMul, Nat.reduceMod, Nat.reduceDiv, Nat.reduceLT, Nat.reduceLeDiff, Nat.reduceEqDiff, ne_eq, not_true_eq_false, not_false_eq_true, reduceIte, true_and, and_true, kg_lk37, kg_ls37, kf_b0]
  rw [hR.2.1 3 (by omega)]
  refine kg_br_i (fun q => ?_) (fun q => ?_)
  · refine kg_br_i (fun q2 => ?_) (fun q2 => ?_)
    · rw [kf_bt (by simp only [kf_cl, q, Bool.true_and, Bool.or_eq_true, decide_eq_true_eq]; exact Or.inl q2)] at hK
      exact hK
    · refine kc64 hL (by omega) ?_
      simp (disch := omega) only [kg_S1, kg_S2, kg_br_T, kg_br_F, kg_br_N, kg_br_t, kg_br_f, kg_at_n, nI_add, pk_mul, kg_sub_n, kg_rem_n, kg_eq_n, kg_lt_n, kg_le_n, kg_nz, kg_01_0, kg_01_1, kg_w0_1, kg_ret0, kg_ret1, kg_ret2, kg_wr_n, kg_wr_s, kg_Skd, kg_Smc, kg_Sob, kg_Srf, kg_Sld, kg_pad, List.map_cons, List.map_nil, List.length_cons, List.length_nil, List.replicate, List.cons_append, List.nil_append, List.append_nil, Nat.reduceAdd, Nat.reduceSub, Nat.reduceMul, Nat.reduceMod, Nat.reduceDiv, Nat.reduceLT, Nat.reduceLeDiff, Nat.reduceEqDiff, ne_eq, not_true_eq_false, not_false_eq_true, reduceIte, true_and, and_true, kg_lk37, kg_ls37]
      obtain ⟨y, hy, ey⟩ := kf_came hR hn hk
      rw [(kf_tk hR hn hk (kf_gr_w (by simp only [kf_rp, Bool.and_eq_true] at q; exact q.1))).2, ey]
      refine kc40 hL hR hn (by omega) (by omega) ?_
      simp (disch := omega) only [kg_S1, kg_S2, kg_br_T, kg_br_F, kg_br_N, kg_br_t, kg_br_f, kg_at_n, nI_add, pk_mul, kg_sub_n, kg_rem_n, kg_eq_n, kg_lt_n, kg_le_n, kg_nz, kg_01_0, kg_01_1, kg_w0_1, kg_ret0, kg_ret1, kg_ret2, kg_wr_n, kg_wr_s, kg_Skd, kg_Smc, kg_Sob, kg_Srf, kg_Sld, kg_pad, List.map_cons, List.map_nil, List.length_cons, List.length_nil, List.replicate, List.cons_append, List.nil_append, List.append_nil, Nat.reduceAdd, Nat.reduceSub, Nat.reduceMul, Nat.reduceMod, Nat.reduceDiv, Nat.reduceLT, Nat.reduceLeDiff, Nat.reduceEqDiff, ne_eq, not_true_eq_false, not_false_eq_true, reduceIte, true_and, and_true, kg_lk37, kg_ls37, kf_b0]
      refine kg_br_i (fun q3 => ?_) (fun q3 => ?_)
      · rw [kf_bt (by simp only [kf_cl, q, Bool.true_and, Bool.or_eq_true, decide_eq_true_eq, ey]; exact Or.inr q3)] at hK
        exact hK
      · rw [kf_bf (by simp only [kf_cl, q, Bool.true_and, Bool.or_eq_true, decide_eq_true_eq, ey]; exact fun e => e.elim q2 q3)] at hK
        exact hK
  · rw [kf_bf (by simp only [kf_cl, Bool.and_eq_true]; exact fun e => q e.1)] at hK
    exact hK

theorem kc36_l (hL : G.2.2.2.2.2.1 < 2 ^ 31) (hR : kf_Rel c M 1 r) {n : Nat} (hn : n < 4) (hd : 5 ≤ d) (hK : K (some (.int (nI (kf_ct (fun k => kf_cl r n k) 8)))) (kg_w0 h) M) : ∀ m i : Nat, i + m = 8 → kg_P G d 36 4 125 125 K 4 [some (.ref 1), some (.int (nI n)), some (.int (nI (kf_ct (fun k => kf_cl r n k) i))), some (.int (nI i))] [] (kg_w0 h) M := by
  intro m
  induction m with
  | zero =>
    intro i hi
    obtain rfl : i = 8 := by omega
    refine kg_v36 hL (by omega) 30 ?_
    simp (disch := omega) only [kg_S1, kg_S2, kg_br_T, kg_br_F, kg_br_N, kg_br_t, kg_br_f, kg_at_n, nI_add, pk_mul, kg_sub_n, kg_rem_n, kg_eq_n, kg_lt_n, kg_le_n, kg_nz, kg_01_0, kg_01_1, kg_w0_1, kg_ret0, kg_ret1, kg_ret2, kg_wr_n, kg_wr_s, kg_Skd, kg_Smc, kg_Sob, kg_Srf, kg_Sld, kg_pad, List.map_cons, List.map_nil, List.length_cons, List.length_nil, List.replicate, List.cons_append, List.nil_append, List.append_nil, Nat.reduceAdd, Nat.reduceSub, Nat.reduceMul, Nat.reduceMod, Nat.reduceDiv, Nat.reduceLT, Nat.reduceLeDiff, Nat.reduceEqDiff, ne_eq, not_true_eq_false, not_false_eq_true, reduceIte, true_and, and_true, kg_lk36, kg_ls36]
    exact hK
  | succ m ih =>
    intro i hi
    refine kg_v36 hL (by omega) 30 ?_
    simp (disch := omega) only [kg_S1, kg_S2, kg_br_T, kg_br_F, kg_br_N, kg_br_t, kg_br_f, kg_at_n, nI_add, pk_mul, kg_sub_n, kg_rem_n, kg_eq_n, kg_lt_n, kg_le_n, kg_nz, kg_01_0, kg_01_1, kg_w0_1, kg_ret0, kg_ret1, kg_ret2, kg_wr_n, kg_wr_s, kg_Skd, kg_Smc, kg_Sob, kg_Srf, kg_Sld, kg_pad, List.map_cons, List.map_nil, List.length_cons, List.length_nil, List.replicate, List.cons_append, List.nil_append, List.append_nil, Nat.reduceAdd, Nat.reduceSub, Nat.reduceMul, Nat.reduceMod, Nat.reduceDiv, Nat.reduceLT, Nat.reduceLeDiff, Nat.reduceEqDiff, ne_eq, not_true_eq_false, not_false_eq_true, reduceIte, true_and, and_true, kg_lk36, kg_ls36]
    refine kc37 hL hR (by omega) (by omega) (by omega) ?_
    simp (disch := omega) only [kg_S1, kg_S2, kg_br_T, kg_br_F, kg_br_N, kg_br_t, kg_br_f, kg_at_n, nI_add, pk_mul, kg_sub_n, kg_rem_n, kg_eq_n, kg_lt_n, kg_le_n, kg_nz, kg_01_0, kg_01_1, kg_w0_1, kg_ret0, kg_ret1, kg_ret2, kg_wr_n, kg_wr_s, kg_Skd, kg_Smc, kg_Sob, kg_Srf, kg_Sld, kg_pad, List.map_cons, List.map_nil, List.length_cons, List.length_nil, List.replicate, List.cons_append, List.nil_append, List.append_nil, Nat.reduceAdd, Nat.reduceSub, Nat.reduceMul, Nat.reduceMod, Nat.reduceDiv, Nat.reduceLT, Nat.reduceLeDiff, Nat.reduceEqDiff, ne_eq, not_true_eq_false, not_false_eq_true, reduceIte, true_and, and_true, kg_lk36, kg_ls36, kf_b0]
    refine kg_br_i (fun q => ?_) (fun q => ?_)
    · have := ih (i + 1) (by omega)
      rw [kf_ct_t (by simpa using q)] at this
      exact this
    · have := ih (i + 1) (by omega)
      rw [kf_ct_f (by simpa using q)] at this
      exact this
theorem kc36 (hL : G.2.2.2.2.2.1 < 2 ^ 31) (hR : kf_Rel c M 1 r) {n : Nat} (hn : n < 4) (hd : 6 ≤ d) (hK : K (some (.int (nI (kf_ct (fun k => kf_cl r n k) 8)))) (kg_w0 h) M) : kg_call G d 125 36 [.ref 1, .int (nI n)] (kg_w0 h) M K := by
  obtain ⟨d, rfl⟩ : ∃ e, d = e + 1 := ⟨d - 1, by omega⟩
  refine kg_m36 (by simp) (Nat.le_refl _) (kg_v36 hL (by omega) 30 ?_)
  simp (disch := omega) only [kg_S1, kg_S2, kg_br_T, kg_br_F, kg_br_N, kg_br_t, kg_br_f, kg_at_n, nI_add, pk_mul, kg_sub_n, kg_rem_n, kg_eq_n, kg_lt_n, kg_le_n, kg_nz, kg_01_0, kg_01_1, kg_w0_1, kg_ret0, kg_ret1, kg_ret2, kg_wr_n, kg_wr_s, kg_Skd, kg_Smc, kg_Sob, kg_Srf, kg_Sld, kg_pad, List.map_cons, List.map_nil, List.length_cons, List.length_nil, List.replicate, List.cons_append, List.nil_append, List.append_nil, Nat.reduceAdd, Nat.reduceSub, Nat.reduceMul, Nat.reduceMod, Nat.reduceDiv, Nat.reduceLT, Nat.reduceLeDiff, Nat.reduceEqDiff, ne_eq, not_true_eq_false, not_false_eq_true, reduceIte, true_and, and_true, kg_lk36, kg_ls36]
  exact kc36_l hL hR hn (by omega) hK 8 0 rfl

theorem kc45_l (hL : G.2.2.2.2.2.1 < 2 ^ 31) (hR : kf_Rel c M 1 r) {n k : Nat} (hn : n < 5) (hk : k < 8) (hd : 3 ≤ d) (hg : kf_gr r n k = true) (hK : K (some (.int (kf_b (kf_gr r n k && kf_se r k (kf_s r n k))))) (kg_w0 h) M) : ∀ m i : Nat, i + m = 4 → kf_al (fun m => decide (kf_s r n k ≤ kf_s r m k)) i = true → kg_P G d 45 4 125 125 K 13 [some (.ref 1), some (.int (nI n)), some (.int (nI k)), some (.int (nI i))] [] (kg_w0 h) M := by
  intro m
  induction m with
  | zero =>
    intro i hi ha
    obtain rfl : i = 4 := by omega
    refine kg_v45 hL (by omega) 30 ?_
    simp (disch := omega) only [kg_S1, kg_S2, kg_br_T, kg_br_F, kg_br_N, kg_br_t, kg_br_f, kg_at_n, nI_add, pk_mul, kg_sub_n, kg_rem_n, kg_eq_n, kg_lt_n, kg_le_n, kg_nz, kg_01_0, kg_01_1, kg_w0_1, kg_ret0, kg_ret1, kg_ret2, kg_wr_n, kg_wr_s, kg_Skd, kg_Smc, kg_Sob, kg_Srf, kg_Sld, kg_pad, List.map_cons, List.map_nil, List.length_cons, List.length_nil, List.replicate, List.cons_append, List.nil_append, List.append_nil, Nat.reduceAdd, Nat.reduceSub, Nat.reduceMul, Nat.reduceMod, Nat.reduceDiv, Nat.reduceLT, Nat.reduceLeDiff, Nat.reduceEqDiff, ne_eq, not_true_eq_false, not_false_eq_true, reduceIte, true_and, and_true, kg_lk45, kg_ls45]
    rw [kf_bt (by rw [hg]; exact ha)] at hK
    exact hK
  | succ m ih =>
    intro i hi ha
    refine kg_v45 hL (by omega) 30 ?_
    simp (disch := omega) only [kg_S1, kg_S2, kg_br_T, kg_br_F, kg_br_N, kg_br_t, kg_br_f, kg_at_n, nI_add, pk_mul, kg_sub_n, kg_rem_n, kg_eq_n, kg_lt_n, kg_le_n, kg_nz, kg_01_0, kg_01_1, kg_w0_1, kg_ret0, kg_ret1, kg_ret2, kg_wr_n, kg_wr_s, kg_Skd, kg_Smc, kg_Sob, kg_Srf, kg_Sld, kg_pad, List.map_cons, List.map_nil, List.length_cons, List.length_nil, List.replicate, List.cons_append, List.nil_append, List.append_nil, Nat.reduceAdd, Nat.reduceSub, Nat.reduceMul, Nat.reduceMod, Nat.reduceDiv, Nat.reduceLT, Nat.reduceLeDiff, Nat.reduceEqDiff, ne_eq, not_true_eq_false, not_false_eq_true, reduceIte, true_and, and_true, kg_lk45, kg_ls45]
    refine kc27 hL hR (by omega) (by omega) hk ?_
    simp (disch := omega) only [kg_S1, kg_S2, kg_br_T, kg_br_F, kg_br_N, kg_br_t, kg_br_f, kg_at_n, nI_add, pk_mul, kg_sub_n, kg_rem_n, kg_eq_n, kg_lt_n, kg_le_n, kg_nz, kg_01_0, kg_01_1, kg_w0_1, kg_ret0, kg_ret1, kg_ret2, kg_wr_n, kg_wr_s, kg_Skd, kg_Smc, kg_Sob, kg_Srf, kg_Sld, kg_pad, List.map_cons, List.map_nil, List.length_cons, List.length_nil, List.replicate, List.cons_append, List.nil_append, List.append_nil, Nat.reduceAdd, Nat.reduceSub, Nat.reduceMul, Nat.reduceMod, Nat.reduceDiv, Nat.reduceLT, Nat.reduceLeDiff, Nat.reduceEqDiff, ne_eq, not_true_eq_false, not_false_eq_true, reduceIte, true_and, and_true, kg_lk45, kg_ls45]
    refine kc27 hL hR (by omega) (by omega) hk ?_
    simp (disch := omega) only [kg_S1, kg_S2, kg_br_T, kg_br_F, kg_br_N, kg_br_t, kg_br_f, kg_at_n, nI_add, pk_mul, kg_sub_n, kg_rem_n, kg_eq_n, kg_lt_n, kg_le_n, kg_nz, kg_01_0, kg_01_1, kg_w0_1, kg_ret0, kg_ret1, kg_ret2, kg_wr_n, kg_wr_s, kg_Skd, kg_Smc, kg_Sob, kg_Srf, kg_Sld, kg_pad, List.map_cons, List.map_nil, List.length_cons, List.length_nil, List.replicate, List.cons_append, List.nil_append, List.append_nil, Nat.reduceAdd, Nat.reduceSub, Nat.reduceMul, Nat.reduceMod, Nat.reduceDiv, Nat.reduceLT, Nat.reduceLeDiff, Nat.reduceEqDiff, ne_eq, not_true_eq_false, not_false_eq_true, reduceIte, true_and, and_true, kg_lk45, kg_ls45]
    refine kg_br_i (fun q => ?_) (fun q => ?_)
    · exact ih (i + 1) (by omega) (kf_al_s ha (by simpa using q))
    · rw [kf_bf (by rw [hg]; exact kf_al_f (P := fun m => decide (kf_s r n k ≤ kf_s r m k)) (i := i) (by simpa using q) 4 (by omega))] at hK
      exact hK
theorem kc45 (hL : G.2.2.2.2.2.1 < 2 ^ 31) (hR : kf_Rel c M 1 r) {n k : Nat} (hn : n < 5) (hk : k < 8) (hd : 4 ≤ d) (hK : K (some (.int (kf_b (kf_gr r n k && kf_se r k (kf_s r n k))))) (kg_w0 h) M) : kg_call G d 125 45 [.ref 1, .int (nI n), .int (nI k)] (kg_w0 h) M K := by
  obtain ⟨d, rfl⟩ : ∃ e, d = e + 1 := ⟨d - 1, by omega⟩
  refine kg_m45 (by simp) (Nat.le_refl _) (kg_v45 hL (by omega) 30 ?_)
  simp (disch := omega) only [kg_S1, kg_S2, kg_br_T, kg_br_F, kg_br_N, kg_br_t, kg_br_f, kg_at_n, nI_add, pk_mul, kg_sub_n, kg_rem_n, kg_eq_n, kg_lt_n, kg_le_n, kg_nz, kg_01_0, kg_01_1, kg_w0_1, kg_ret0, kg_ret1, kg_ret2, kg_wr_n, kg_wr_s, kg_Skd, kg_Smc, kg_Sob, kg_Srf, kg_Sld, kg_pad, List.map_cons, List.map_nil, List.length_cons, List.length_nil, List.replicate, List.cons_append, List.nil_append, List.append_nil, Nat.reduceAdd, Nat.reduceSub, Nat.reduceMul, Nat.reduceMod, Nat.reduceDiv, Nat.reduceLT, Nat.reduceLeDiff, Nat.reduceEqDiff, ne_eq, not_true_eq_false, not_false_eq_true, reduceIte, true_and, and_true, kg_lk45, kg_ls45]
  refine kc32 hL hR (by omega) hn hk ?_
  simp (disch := omega) only [kg_S1, kg_S2, kg_br_T, kg_br_F, kg_br_N, kg_br_t, kg_br_f, kg_at_n, nI_add, pk_mul, kg_sub_n, kg_rem_n, kg_eq_n, kg_lt_n, kg_le_n, kg_nz, kg_01_0, kg_01_1, kg_w0_1, kg_ret0, kg_ret1, kg_ret2, kg_wr_n, kg_wr_s, kg_Skd, kg_Smc, kg_Sob, kg_Srf, kg_Sld, kg_pad, List.map_cons, List.map_nil, List.length_cons, List.length_nil, List.replicate, List.cons_append, List.nil_append, List.append_nil, Nat.reduceAdd, Nat.reduceSub, Nat.reduceMul, Nat.reduceMod, Nat.reduceDiv, Nat.reduceLT, Nat.reduceLeDiff, Nat.reduceEqDiff, ne_eq, not_true_eq_false, not_false_eq_true, reduceIte, true_and, and_true, kg_lk45, kg_ls45, kf_b0]
  refine kg_br_i (fun q => ?_) (fun q => ?_)
  · exact kc45_l hL hR hn hk (by omega) q hK 4 0 rfl rfl
  · rw [kf_bf (by simp [q])] at hK
    exact hK
theorem kc51 (hL : G.2.2.2.2.2.1 < 2 ^ 31) (hR : kf_Rel c M 1 r) {n k : Nat} (hn : n < 4) (hk : k < 8) (hd : 5 ≤ d) (hK : K (some (.int (kf_b (kf_op r n k)))) (kg_w0 h) M) : kg_call G d 125 51 [.ref 1, .int (nI n), .int (nI k)] (kg_w0 h) M K := by
  obtain ⟨d, rfl⟩ : ∃ e, d = e + 1 := ⟨d - 1, by omega⟩
  refine kg_m51 (by simp) (Nat.le_refl _) (kg_v51 hL (by omega) 30 ?_)
  simp (disch := omega) only [kg_S1, kg_S2, kg_br_T, kg_br_F, kg_br_N, kg_br_t, kg_br_f, kg_at_n, nI_add, pk_mul, kg_sub_n, kg_rem_n, kg_eq_n, kg_lt_n, kg_le_n, kg_nz, kg_01_0, kg_01_1, kg_w0_1, kg_ret0, kg_ret1, kg_ret2, kg_wr_n, kg_wr_s, kg_Skd, kg_Smc, kg_Sob, kg_Srf, kg_Sld, kg_pad, List.map_cons, List.map_nil, List.length_cons, List.length_nil, List.replicate, List.cons_append, List.nil_append, List.append_nil, Nat.reduceAdd, Nat.reduceSub, Nat.reduceMul, Nat.reduceMod, Nat.reduceDiv, Nat.reduceLT, Nat.reduceLeDiff, Nat.reduceEqDiff, ne_eq, not_true_eq_false, not_false_eq_true, reduceIte, true_and, and_true, kg_lk51, kg_ls51]
  refine kc32 hL hR (by omega) (by omega) hk ?_
  simp (disch := omega) only [kg_S1, kg_S2, kg_br_T, kg_br_F, kg_br_N, kg_br_t, kg_br_f, kg_at_n, nI_add, pk_mul, kg_sub_n, kg_rem_n, kg_eq_n, kg_lt_n, kg_le_n, kg_nz, kg_01_0, kg_01_1, kg_w0_1, kg_ret0, kg_ret1, kg_ret2, kg_wr_n, kg_wr_s, kg_Skd, kg_Smc, kg_Sob, kg_Srf, kg_Sld, kg_pad, List.map_cons, List.map_nil, List.length_cons, List.length_nil, List.replicate, List.cons_append, List.nil_append, List.append_nil, Nat.reduceAdd, Nat.reduceSub, Nat.reduceMul, Nat.reduceMod, Nat.reduceDiv, Nat.reduceLT, Nat.reduceLeDiff, Nat.reduceEqDiff, ne_eq, not_true_eq_false, not_false_eq_true, reduceIte, true_and, and_true, kg_lk51, kg_ls51, kf_b0]
  refine kg_br_i (fun q => ?_) (fun q => ?_)
  · refine kc45 hL hR (by omega) hk (by omega) ?_
    simp (disch := omega) only [kg_S1, kg_S2, kg_br_T, kg_br_F, kg_br_N, kg_br_t, kg_br_f, kg_at_n, nI_add, pk_mul, kg_sub_n, kg_rem_n, kg_eq_n, kg_lt_n, kg_le_n, kg_nz, kg_01_0, kg_01_1, kg_w0_1, kg_ret0, kg_ret1, kg_ret2, kg_wr_n, kg_wr_s, kg_Skd, kg_Smc, kg_Sob, kg_Srf, kg_Sld, kg_pad, List.map_cons, List.map_nil, List.length_cons, List.length_nil, List.replicate, List.cons_append, List.nil_append, List.append_nil, Nat.reduceAdd, Nat.reduceSub, Nat.reduceMul, Nat.reduceMod, Nat.reduceDiv, Nat.reduceLT, Nat.reduceLeDiff, Nat.reduceEqDiff, ne_eq, not_true_eq_false, not_false_eq_true, reduceIte, true_and, and_true, kg_lk51, kg_ls51, kf_b0]
    refine kg_br_i (fun q2 => ?_) (fun q2 => ?_)
    · rw [kf_bf (by simp [kf_op, q] at q2 ⊢; exact q2)] at hK
      exact hK
    · rw [kf_bt (by simp [kf_op, q] at q2 ⊢; exact q2)] at hK
      exact hK
  · rw [kf_bf (by simp [kf_op, q])] at hK
    exact hK

theorem kc46_l (hL : G.2.2.2.2.2.1 < 2 ^ 31) (hR : kf_Rel c M 1 r) {n x : Nat} (hn : n < 4) (hd : 3 ≤ d) (hK : K (some (.int (nI (kf_ct (fun k => decide (kf_w r n k = nI x)) 8)))) (kg_w0 h) M) : ∀ m i : Nat, i + m = 8 → kg_P G d 46 5 125 125 K 5 [some (.ref 1), some (.int (nI n)), some (.int (nI x)), some (.int (nI (kf_ct (fun k => decide (kf_w r n k = nI x)) i))), some (.int (nI i))] [] (kg_w0 h) M := by
  intro m
  induction m with
  | zero =>
    intro i hi
    obtain rfl : i = 8 := by omega
    refine kg_v46 hL (by omega) 30 ?_
    simp (disch := omega) only [kg_S1, kg_S2, kg_br_T, kg_br_F, kg_br_N, kg_br_t, kg_br_f, kg_at_n, nI_add, pk_mul, kg_sub_n, kg_rem_n, kg_eq_n, kg_lt_n, kg_le_n, kg_nz, kg_01_0, kg_01_1, kg_w0_1, kg_ret0, kg_ret1, kg_ret2, kg_wr_n, kg_wr_s, kg_Skd, kg_Smc, kg_Sob, kg_Srf, kg_Sld, kg_pad, List.map_cons, List.map_nil, List.length_cons, List.length_nil, List.replicate, List.cons_append, List.nil_append, List.append_nil, Nat.reduceAdd, Nat.reduceSub, Nat.reduceMul, Nat.reduceMod, Nat.reduceDiv, Nat.reduceLT, Nat.reduceLeDiff, Nat.reduceEqDiff, ne_eq, not_true_eq_false, not_false_eq_true, reduceIte, true_and, and_true, kg_lk46, kg_ls46]
    exact hK
  | succ m ih =>
    intro i hi
    refine kg_v46 hL (by omega) 30 ?_
    simp (disch := omega) only [kg_S1, kg_S2, kg_br_T, kg_br_F, kg_br_N, kg_br_t, kg_br_f, kg_at_n, nI_add, pk_mul, kg_sub_n, kg_rem_n, kg_eq_n, kg_lt_n, kg_le_n, kg_nz, kg_01_0, kg_01_1, kg_w0_1, kg_ret0, kg_ret1, kg_ret2, kg_wr_n, kg_wr_s, kg_Skd, kg_Smc, kg_Sob, kg_Srf, kg_Sld, kg_pad, List.map_cons, List.map_nil, List.length_cons, List.length_nil, List.replicate, List.cons_append, List.nil_append, List.append_nil, Nat.reduceAdd, Nat.reduceSub, Nat.reduceMul, Nat.reduceMod, Nat.reduceDiv, Nat.reduceLT, Nat.reduceLeDiff, Nat.reduceEqDiff, ne_eq, not_true_eq_false, not_false_eq_true, reduceIte, true_and, and_true, kg_lk46, kg_ls46]
    refine kc64 hL (by omega) ?_
    simp (disch := omega) only [kg_S1, kg_S2, kg_br_T, kg_br_F, kg_br_N, kg_br_t, kg_br_f, kg_at_n, nI_add, pk_mul, kg_sub_n, kg_rem_n, kg_eq_n, kg_lt_n, kg_le_n, kg_nz, kg_01_0, kg_01_1, kg_w0_1, kg_ret0, kg_ret1, kg_ret2, kg_wr_n, kg_wr_s, kg_Skd, kg_Smc, kg_Sob, kg_Srf, kg_Sld, kg_pad, List.map_cons, List.map_nil, List.length_cons, List.length_nil, List.replicate, List.cons_append, List.nil_append, List.append_nil, Nat.reduceAdd, Nat.reduceSub, Nat.reduceMul, Nat.reduceMod, Nat.reduceDiv, Nat.reduceLT, Nat.reduceLeDiff, Nat.reduceEqDiff, ne_eq, not_true_eq_false, not_false_eq_true, reduceIte, true_and, and_true, kg_lk46, kg_ls46, kf_b0]
    refine kc7 hL (by omega) (by omega) (kf_st hR (by omega) (by omega)) (kf_fa hR (by omega) (by omega)) ?_
    simp (disch := omega) only [kg_S1, kg_S2, kg_br_T, kg_br_F, kg_br_N, kg_br_t, kg_br_f, kg_at_n, nI_add, pk_mul, kg_sub_n, kg_rem_n, kg_eq_n, kg_lt_n, kg_le_n, kg_nz, kg_01_0, kg_01_1, kg_w0_1, kg_ret0, kg_ret1, kg_ret2, kg_wr_n, kg_wr_s, kg_Skd, kg_Smc, kg_Sob, kg_Srf, kg_Sld, kg_pad, List.map_cons, List.map_nil, List.length_cons, List.length_nil, List.replicate, List.cons_append, List.nil_append, List.append_nil, Nat.reduceAdd, Nat.reduceSub, Nat.reduceMul, Nat.reduceMod, Nat.reduceDiv, Nat.reduceLT, Nat.reduceLeDiff, Nat.reduceEqDiff, ne_eq, not_true_eq_false, not_false_eq_true, reduceIte, true_and, and_true, kg_lk46, kg_ls46, kf_b0]
    refine kg_br_i (fun q => ?_) (fun q => ?_)
    · have := ih (i + 1) (by omega)
      rw [kf_ct_t (by simpa using q)] at this
      exact this
    · have := ih (i + 1) (by omega)
      rw [kf_ct_f (by simpa using q)] at this
      exact this
theorem kc46 (hL : G.2.2.2.2.2.1 < 2 ^ 31) (hR : kf_Rel c M 1 r) {n x : Nat} (hn : n < 4) (hd : 4 ≤ d) (hK : K (some (.int (nI (kf_ct (fun k => decide (kf_w r n k = nI x)) 8)))) (kg_w0 h) M) : kg_call G d 125 46 [.ref 1, .int (nI n), .int (nI x)] (kg_w0 h) M K := by
  obtain ⟨d, rfl⟩ : ∃ e, d = e + 1 := ⟨d - 1, by omega⟩
  refine kg_m46 (by simp) (Nat.le_refl _) (kg_v46 hL (by omega) 30 ?_)
  simp (disch := omega) only [kg_S1, kg_S2, kg_br_T, kg_br_F, kg_br_N, kg_br_t, kg_br_f, kg_at_n, nI_add, pk_mul, kg_sub_n, kg_rem_n, kg_eq_n, kg_lt_n, kg_le_n, kg_nz, kg_01_0, kg_01_1, kg_w0_1, kg_ret0, kg_ret1, kg_ret2, kg_wr_n, kg_wr_s, kg_Skd, kg_Smc, kg_Sob, kg_Srf, kg_Sld, kg_pad, List.map_cons, List.map_nil, List.length_cons, List.length_nil, List.replicate, List.cons_append, List.nil_append, List.append_nil, Nat.reduceAdd, Nat.reduceSub, Nat.reduceMul, Nat.reduceMod, Nat.reduceDiv, Nat.reduceLT, Nat.reduceLeDiff, Nat.reduceEqDiff, ne_eq, not_true_eq_false, not_false_eq_true, reduceIte, true_and, and_true, kg_lk46, kg_ls46]
  exact kc46_l hL hR hn (by omega) hK 8 0 rfl

theorem kc53_l (hL : G.2.2.2.2.2.1 < 2 ^ 31) (hR : kf_Rel c M 1 r)  (hd : 5 ≤ d) (hK : K (some (.int (nI (kf_ct (fun k => decide (0 < kf_ct (fun n => kf_hn r n k) 4)) 8)))) (kg_w0 h) M) : ∀ m i : Nat, i + m = 8 → kg_P G d 53 3 125 125 K 4 [some (.ref 1), some (.int (nI (kf_ct (fun k => decide (0 < kf_ct (fun n => kf_hn r n k) 4)) i))), some (.int (nI i))] [] (kg_w0 h) M := by
  intro m
  induction m with
  | zero =>
    intro i hi
    obtain rfl : i = 8 := by omega
    refine kg_v53 hL (by omega) 30 ?_
    simp (disch := omega) only [kg_S1, kg_S2, kg_br_T, kg_br_F, kg_br_N, kg_br_t, kg_br_f, kg_at_n, nI_add, pk_mul, kg_sub_n, kg_rem_n, kg_eq_n, kg_lt_n, kg_le_n, kg_nz, kg_01_0, kg_01_1, kg_w0_1, kg_ret0, kg_ret1, kg_ret2, kg_wr_n, kg_wr_s, kg_Skd, kg_Smc, kg_Sob, kg_Srf, kg_Sld, kg_pad, List.map_cons, List.map_nil, List.length_cons, List.length_nil, List.replicate, List.cons_append, List.nil_append, List.append_nil, Nat.reduceAdd, Nat.reduceSub, Nat.reduceMul, Nat.reduceMod, Nat.reduceDiv, Nat.reduceLT, Nat.reduceLeDiff, Nat.reduceEqDiff, ne_eq, not_true_eq_false, not_false_eq_true, reduceIte, true_and, and_true, kg_lk53, kg_ls53]
    exact hK
  | succ m ih =>
    intro i hi
    refine kg_v53 hL (by omega) 30 ?_
    simp (disch := omega) only [kg_S1, kg_S2, kg_br_T, kg_br_F, kg_br_N, kg_br_t, kg_br_f, kg_at_n, nI_add, pk_mul, kg_sub_n, kg_rem_n, kg_eq_n, kg_lt_n, kg_le_n, kg_nz, kg_01_0, kg_01_1, kg_w0_1, kg_ret0, kg_ret1, kg_ret2, kg_wr_n, kg_wr_s, kg_Skd, kg_Smc, kg_Sob, kg_Srf, kg_Sld, kg_pad, List.map_cons, List.map_nil, List.length_cons, List.length_nil, List.replicate, List.cons_append, List.nil_append, List.append_nil, Nat.reduceAdd, Nat.reduceSub, Nat.reduceMul, Nat.reduceMod, Nat.reduceDiv, Nat.reduceLT, Nat.reduceLeDiff, Nat.reduceEqDiff, ne_eq, not_true_eq_false, not_false_eq_true, reduceIte, true_and, and_true, kg_lk53, kg_ls53]
    have hb := kf_ct_le (fun n => kf_hn r n i) 4
    refine kc44 hL hR (by omega) (by omega) ?_
    simp (disch := omega) only [kg_S1, kg_S2, kg_br_T, kg_br_F, kg_br_N, kg_br_t, kg_br_f, kg_at_n, nI_add, pk_mul, kg_sub_n, kg_rem_n, kg_eq_n, kg_lt_n, kg_le_n, kg_nz, kg_01_0, kg_01_1, kg_w0_1, kg_ret0, kg_ret1, kg_ret2, kg_wr_n, kg_wr_s, kg_Skd, kg_Smc, kg_Sob, kg_Srf, kg_Sld, kg_pad, List.map_cons, List.map_nil, List.length_cons, List.length_nil, List.replicate, List.cons_append, List.nil_append, List.append_nil, Nat.reduceAdd, Nat.reduceSub, Nat.reduceMul, Nat.reduceMod, Nat.reduceDiv, Nat.reduceLT, Nat.reduceLeDiff, Nat.reduceEqDiff, ne_eq, not_true_eq_false, not_false_eq_true, reduceIte, true_and, and_true, kg_lk53, kg_ls53, kf_b0]
    refine kg_br_i (fun q => ?_) (fun q => ?_)
    · have := ih (i + 1) (by omega)
      rw [kf_ct_f (by simp at q ⊢; omega)] at this
      exact this
    · have := ih (i + 1) (by omega)
      rw [kf_ct_t (by simp at q ⊢; omega)] at this
      exact this
theorem kc53 (hL : G.2.2.2.2.2.1 < 2 ^ 31) (hR : kf_Rel c M 1 r)  (hd : 6 ≤ d) (hK : K (some (.int (nI (kf_ct (fun k => decide (0 < kf_ct (fun n => kf_hn r n k) 4)) 8)))) (kg_w0 h) M) : kg_call G d 125 53 [.ref 1] (kg_w0 h) M K := by
  obtain ⟨d, rfl⟩ : ∃ e, d = e + 1 := ⟨d - 1, by omega⟩
  refine kg_m53 (by simp) (Nat.le_refl _) (kg_v53 hL (by omega) 30 ?_)
  simp (disch := omega) only [kg_S1, kg_S2, kg_br_T, kg_br_F, kg_br_N, kg_br_t, kg_br_f, kg_at_n, nI_add, pk_mul, kg_sub_n, kg_rem_n, kg_eq_n, kg_lt_n, kg_le_n, kg_nz, kg_01_0, kg_01_1, kg_w0_1, kg_ret0, kg_ret1, kg_ret2, kg_wr_n, kg_wr_s, kg_Skd, kg_Smc, kg_Sob, kg_Srf, kg_Sld, kg_pad, List.map_cons, List.map_nil, List.length_cons, List.length_nil, List.replicate, List.cons_append, List.nil_append, List.append_nil, Nat.reduceAdd, Nat.reduceSub, Nat.reduceMul, Nat.reduceMod, Nat.reduceDiv, Nat.reduceLT, Nat.reduceLeDiff, Nat.reduceEqDiff, ne_eq, not_true_eq_false, not_false_eq_true, reduceIte, true_and, and_true, kg_lk53, kg_ls53]
  exact kc53_l hL hR (by omega) hK 8 0 rfl

def kf_sm (f : Nat → Nat) : Nat → Nat
  | 0 => 0
  | n + 1 => kf_sm f n + f n
theorem kc52_l (hL : G.2.2.2.2.2.1 < 2 ^ 31) (hR : kf_Rel c M 1 r) (hd : 4 ≤ d) (hK : K (some (.int (nI (kf_sm (fun n => kf_ct (fun k => decide (kf_w r n k = nI 2)) 8) 4)))) (kg_w0 h) M) : ∀ m i : Nat, i + m = 4 → kg_P G d 52 3 125 125 K 4 [some (.ref 1), some (.int (nI (kf_sm (fun n => kf_ct (fun k => decide (kf_w r n k = nI 2)) 8) i))), some (.int (nI i))] [] (kg_w0 h) M := by
  intro m
  induction m with
  | zero =>
    intro i hi
    obtain rfl : i = 4 := by omega
    refine kg_v52 hL (by omega) 30 ?_
    simp (disch := omega) only [kg_S1, kg_S2, kg_br_T, kg_br_F, kg_br_N, kg_br_t, kg_br_f, kg_at_n, nI_add, pk_mul, kg_sub_n, kg_rem_n, kg_eq_n, kg_lt_n, kg_le_n, kg_nz, kg_01_0, kg_01_1, kg_w0_1, kg_ret0, kg_ret1, kg_ret2, kg_wr_n, kg_wr_s, kg_Skd, kg_Smc, kg_Sob, kg_Srf, kg_Sld, kg_pad, List.map_cons, List.map_nil, List.length_cons, List.length_nil, List.replicate, List.cons_append, List.nil_append, List.append_nil, Nat.reduceAdd, Nat.reduceSub, Nat.reduceMul, Nat.reduceMod, Nat.reduceDiv, Nat.reduceLT, Nat.reduceLeDiff, Nat.reduceEqDiff, ne_eq, not_true_eq_false, not_false_eq_true, reduceIte, true_and, and_true, kg_lk52, kg_ls52]
    exact hK
  | succ m ih =>
    intro i hi
    refine kg_v52 hL (by omega) 30 ?_
    simp (disch := omega) only [kg_S1, kg_S2, kg_br_T, kg_br_F, kg_br_N, kg_br_t, kg_br_f, kg_at_n, nI_add, pk_mul, kg_sub_n, kg_rem_n, kg_eq_n, kg_lt_n, kg_le_n, kg_nz, kg_01_0, kg_01_1, kg_w0_1, kg_ret0, kg_ret1, kg_ret2, kg_wr_n, kg_wr_s, kg_Skd, kg_Smc, kg_Sob, kg_Srf, kg_Sld, kg_pad, List.map_cons, List.map_nil, List.length_cons, List.length_nil, List.replicate, List.cons_append, List.nil_append, List.append_nil, Nat.reduceAdd, Nat.reduceSub, Nat.reduceMul, Nat.reduceMod, Nat.reduceDiv, Nat.reduceLT, Nat.reduceLeDiff, Nat.reduceEqDiff, ne_eq, not_true_eq_false, not_false_eq_true, reduceIte, true_and, and_true, kg_lk52, kg_ls52]
    refine kc46 hL hR (by omega) (by omega) ?_
    simp (disch := omega) only [kg_S1, kg_S2, kg_br_T, kg_br_F, kg_br_N, kg_br_t, kg_br_f, kg_at_n, nI_add, pk_mul, kg_sub_n, kg_rem_n, kg_eq_n, kg_lt_n, kg_le_n, kg_nz, kg_01_0, kg_01_1, kg_w0_1, kg_ret0, kg_ret1, kg_ret2, kg_wr_n, kg_wr_s, kg_Skd, kg_Smc, kg_Sob, kg_Srf, kg_Sld, kg_pad, List.map_cons, List.map_nil, List.length_cons, List.length_nil, List.replicate, List.cons_append, List.nil_append, List.append_nil, Nat.reduceAdd, Nat.reduceSub, Nat.reduceMul, Nat.reduceMod, Nat.reduceDiv, Nat.reduceLT, Nat.reduceLeDiff, Nat.reduceEqDiff, ne_eq, not_true_eq_false, not_false_eq_true, reduceIte, true_and, and_true, kg_lk52, kg_ls52]
    exact ih (i + 1) (by omega)
theorem kc52 (hL : G.2.2.2.2.2.1 < 2 ^ 31) (hR : kf_Rel c M 1 r) (hd : 5 ≤ d) (hK : K (some (.int (nI (kf_sm (fun n => kf_ct (fun k => decide (kf_w r n k = nI 2)) 8) 4)))) (kg_w0 h) M) : kg_call G d 125 52 [.ref 1] (kg_w0 h) M K := by
  obtain ⟨d, rfl⟩ : ∃ e, d = e + 1 := ⟨d - 1, by omega⟩
  refine kg_m52 (by simp) (Nat.le_refl _) (kg_v52 hL (by omega) 30 ?_)
  simp (disch := omega) only [kg_S1, kg_S2, kg_br_T, kg_br_F, kg_br_N, kg_br_t, kg_br_f, kg_at_n, nI_add, pk_mul, kg_sub_n, kg_rem_n, kg_eq_n, kg_lt_n, kg_le_n, kg_nz, kg_01_0, kg_01_1, kg_w0_1, kg_ret0, kg_ret1, kg_ret2, kg_wr_n, kg_wr_s, kg_Skd, kg_Smc, kg_Sob, kg_Srf, kg_Sld, kg_pad, List.map_cons, List.map_nil, List.length_cons, List.length_nil, List.replicate, List.cons_append, List.nil_append, List.append_nil, Nat.reduceAdd, Nat.reduceSub, Nat.reduceMul, Nat.reduceMod, Nat.reduceDiv, Nat.reduceLT, Nat.reduceLeDiff, Nat.reduceEqDiff, ne_eq, not_true_eq_false, not_false_eq_true, reduceIte, true_and, and_true, kg_lk52, kg_ls52]
  exact kc52_l hL hR (by omega) hK 4 0 rfl
/-- does a lower node know the same -/
def kf_lo (r : Nat → Int32) (n k : Nat) : Bool := kf_al (fun m => !decide (kf_s r m k = kf_s r n k)) n
theorem kc55_l (hL : G.2.2.2.2.2.1 < 2 ^ 31) (hR : kf_Rel c M 1 r) {n k : Nat} (hn : n < 4) (hk : k < 8) (hd : 3 ≤ d) (hK : K (some (.int (kf_b (!kf_lo r n k)))) (kg_w0 h) M) : ∀ m i : Nat, i + m = n → kf_al (fun m => !decide (kf_s r m k = kf_s r n k)) i = true → kg_P G d 55 4 125 125 K 2 [some (.ref 1), some (.int (nI n)), some (.int (nI k)), some (.int (nI i))] [] (kg_w0 h) M := by
  intro m
  induction m with
  | zero =>
    intro i hi ha
    obtain rfl : i = n := by omega
    refine kg_v55 hL (by omega) 30 ?_
    simp (disch := omega) only [kg_S1, kg_S2, kg_br_T, kg_br_F, kg_br_N, kg_br_t, kg_br_f, kg_at_n, nI_add, pk_mul, kg_sub_n, kg_rem_n, kg_eq_n, kg_lt_n, kg_le_n, kg_nz, kg_01_0, kg_01_1, kg_w0_1, kg_ret0, kg_ret1, kg_ret2, kg_wr_n, kg_wr_s, kg_Skd, kg_Smc, kg_Sob, kg_Srf, kg_Sld, kg_pad, List.map_cons, List.map_nil, List.length_cons, List.length_nil, List.replicate, List.cons_append, List.nil_append, List.append_nil, Nat.reduceAdd, Nat.reduceSub, Nat.reduceMul, Nat.reduceMod, Nat.reduceDiv, Nat.reduceLT, Nat.reduceLeDiff, Nat.reduceEqDiff, ne_eq, not_true_eq_false, not_false_eq_true, reduceIte, true_and, and_true, kg_lk55, kg_ls55]
    rw [kf_bf (by rw [kf_lo, ha]; simp)] at hK
    exact hK
  | succ m ih =>
    intro i hi ha
    refine kg_v55 hL (by omega) 30 ?_
    simp (disch := omega) only [kg_S1, kg_S2, kg_br_T, kg_br_F, kg_br_N, kg_br_t, kg_br_f, kg_at_n, nI_add, pk_mul, kg_sub_n, kg_rem_n, kg_eq_n, kg_lt_n, kg_le_n, kg_nz, kg_01_0, kg_01_1, kg_w0_1, kg_ret0, kg_ret1, kg_ret2, kg_wr_n, kg_wr_s, kg_Skd, kg_Smc, kg_Sob, kg_Srf, kg_Sld, kg_pad, List.map_cons, List.map_nil, List.length_cons, List.length_nil, List.replicate, List.cons_append, List.nil_append, List.append_nil, Nat.reduceAdd, Nat.reduceSub, Nat.reduceMul, Nat.reduceMod, Nat.reduceDiv, Nat.reduceLT, Nat.reduceLeDiff, Nat.reduceEqDiff, ne_eq, not_true_eq_false, not_false_eq_true, reduceIte, true_and, and_true, kg_lk55, kg_ls55]
    refine kc27 hL hR (by omega) (by omega) hk ?_
    simp (disch := omega) only [kg_S1, kg_S2, kg_br_T, kg_br_F, kg_br_N, kg_br_t, kg_br_f, kg_at_n, nI_add, pk_mul, kg_sub_n, kg_rem_n, kg_eq_n, kg_lt_n, kg_le_n, kg_nz, kg_01_0, kg_01_1, kg_w0_1, kg_ret0, kg_ret1, kg_ret2, kg_wr_n, kg_wr_s, kg_Skd, kg_Smc, kg_Sob, kg_Srf, kg_Sld, kg_pad, List.map_cons, List.map_nil, List.length_cons, List.length_nil, List.replicate, List.cons_append, List.nil_append, List.append_nil, Nat.reduceAdd, Nat.reduceSub, Nat.reduceMul, Nat.reduceMod, Nat.reduceDiv, Nat.reduceLT, Nat.reduceLeDiff, Nat.reduceEqDiff, ne_eq, not_true_eq_false, not_false_eq_true, reduceIte, true_and, and_true, kg_lk55, kg_ls55]
    refine kc27 hL hR (by omega) (by omega) hk ?_
    simp (disch := omega) only [kg_S1, kg_S2, kg_br_T, kg_br_F, kg_br_N, kg_br_t, kg_br_f, kg_at_n, nI_add, pk_mul, kg_sub_n, kg_rem_n, kg_eq_n, kg_lt_n, kg_le_n, kg_nz, kg_01_0, kg_01_1, kg_w0_1, kg_ret0, kg_ret1, kg_ret2, kg_wr_n, kg_wr_s, kg_Skd, kg_Smc, kg_Sob, kg_Srf, kg_Sld, kg_pad, List.map_cons, List.map_nil, List.length_cons, List.length_nil, List.replicate, List.cons_append, List.nil_append, List.append_nil, Nat.reduceAdd, Nat.reduceSub, Nat.reduceMul, Nat.reduceMod, Nat.reduceDiv, Nat.reduceLT, Nat.reduceLeDiff, Nat.reduceEqDiff, ne_eq, not_true_eq_false, not_false_eq_true, reduceIte, true_and, and_true, kg_lk55, kg_ls55]
    refine kg_br_i (fun q => ?_) (fun q => ?_)
    · have := kf_al_f (P := fun m => !decide (kf_s r m k = kf_s r n k)) (i := i) (by simpa using q) n (by omega)
      rw [kf_bt (by rw [kf_lo, Bool.eq_false_iff.mpr this]; rfl)] at hK
      exact hK
    · exact ih (i + 1) (by omega) (kf_al_s ha (by simpa using q))
theorem kc55 (hL : G.2.2.2.2.2.1 < 2 ^ 31) (hR : kf_Rel c M 1 r) {n k : Nat} (hn : n < 4) (hk : k < 8) (hd : 4 ≤ d) (hK : K (some (.int (kf_b (!kf_lo r n k)))) (kg_w0 h) M) : kg_call G d 125 55 [.ref 1, .int (nI n), .int (nI k)] (kg_w0 h) M K := by
  obtain ⟨d, rfl⟩ : ∃ e, d = e + 1 := ⟨d - 1, by omega⟩
  refine kg_m55 (by simp) (Nat.le_refl _) (kg_v55 hL (by omega) 30 ?_)
  simp (disch := omega) only [kg_S1, kg_S2, kg_br_T, kg_br_F, kg_br_N, kg_br_t, kg_br_f, kg_at_n, nI_add, pk_mul, kg_sub_n, kg_rem_n, kg_eq_n, kg_lt_n, kg_le_n, kg_nz, kg_01_0, kg_01_1, kg_w0_1, kg_ret0, kg_ret1, kg_ret2, kg_wr_n, kg_wr_s, kg_Skd, kg_Smc, kg_Sob, kg_Srf, kg_Sld, kg_pad, List.map_cons, List.map_nil, List.length_cons, List.length_nil, List.replicate, List.cons_append, List.nil_append, List.append_nil, Nat.reduceAdd, Nat.reduceSub, Nat.reduceMul, Nat.reduceMod, Nat.reduceDiv, Nat.reduceLT, Nat.reduceLeDiff, Nat.reduceEqDiff, ne_eq, not_true_eq_false, not_false_eq_true, reduceIte, true_and, and_true, kg_lk55, kg_ls55]
  exact kc55_l hL hR hn hk (by omega) hK n 0 (by omega) rfl

end
