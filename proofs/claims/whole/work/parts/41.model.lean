/-! the model's note and learn -/
def kf_sh (r : Nat → Int32) (k : Nat) : Nat → Int32 := fun i => if 247 ≤ i ∧ i < 247 + k then r (i + 4) else r i
theorem kf_sh_s (r : Nat → Int32) (k : Nat) : upd (kf_sh r k) (247 + k) (kf_sh r k (251 + k)) = kf_sh r (k + 1) := by
  funext i
  by_cases e : i = 247 + k
  · subst e
    rw [ku_s, kf_sh, if_neg (by omega), kf_sh, if_pos (by omega)]
    exact congrArg r (by omega)
  · rw [ku_n e]
    simp only [kf_sh]
    by_cases e2 : 247 ≤ i ∧ i < 247 + k
    · rw [if_pos e2, if_pos (by omega)]
    · rw [if_neg e2, if_neg (by omega)]
theorem kf_sh_z (r : Nat → Int32) : kf_sh r 0 = r := by
  funext i
  rw [kf_sh, if_neg (by omega)]
/-- the log was full -/
theorem kf_nt_f {r : Nat → Int32} {kd : Nat} {a b : Int32} (hkd : kd < 4) (e : r 246 = nI 10) : upd (upd (upd (upd (upd (upd (kf_sh (upd r (242 + kd) (r (242 + kd) + nI 1)) 36) 246 (nI 9)) 283 (nI kd)) 284 (r 0)) 285 a) 286 b) 246 (nI 10) = kf_nt r kd a b := by
  have hq : kf_q r = 10 := kf_m2_n (by omega) e
  funext i
  unfold kf_nt
  rw [hq]
  by_cases q1 : i = 242 + kd
  · subst q1
    simp (disch := omega) only [upd, kf_sh, if_neg, if_pos]
  by_cases q2 : i < 247
  · by_cases q3 : i = 246
    · subst q3
      simp (disch := omega) only [upd, kf_sh, if_neg, if_pos, e, reduceIte]
    · simp (disch := omega) only [upd, kf_sh, if_neg, if_pos, reduceIte]
  by_cases q4 : i < 283
  · simp (disch := omega) only [upd, kf_sh, if_neg, if_pos, reduceIte]
  obtain rfl | rfl | rfl | rfl | q5 : i = 283 ∨ i = 284 ∨ i = 285 ∨ i = 286 ∨ 286 < i := by omega
  all_goals simp (disch := omega) only [upd, kf_sh, if_neg, if_pos, reduceIte]
theorem kf_nt_g {r : Nat → Int32} {kd p : Nat} {a b : Int32} (hkd : kd < 4) (hp : p < 10) (e : r 246 = nI p) : upd (upd (upd (upd (upd (upd r (242 + kd) (r (242 + kd) + nI 1)) (247 + 4 * p) (nI kd)) (247 + 4 * p + 1) (r 0)) (247 + 4 * p + 2) a) (247 + 4 * p + 3) b) 246 (nI (p + 1)) = kf_nt r kd a b := by
  have hq : kf_q r = p := kf_m2_n (by omega) e
  funext i
  unfold kf_nt
  rw [hq]
  by_cases q1 : i = 242 + kd
  · subst q1
    simp (disch := omega) only [upd, if_neg, if_pos]
  by_cases q3 : i = 246
  · subst q3
    simp (disch := omega) only [upd, if_neg, if_pos, reduceIte]
  by_cases q4 : i = 247 + 4 * p
  · simp (disch := omega) only [upd, if_neg, if_pos, reduceIte]
  by_cases q5 : i = 247 + 4 * p + 1
  · simp (disch := omega) only [upd, if_neg, if_pos, reduceIte]
  by_cases q6 : i = 247 + 4 * p + 2
  · simp (disch := omega) only [upd, if_neg, if_pos, reduceIte]
  by_cases q7 : i = 247 + 4 * p + 3
  · simp (disch := omega) only [upd, if_neg, if_pos, reduceIte]
  simp (disch := omega) only [upd, if_neg, if_pos, reduceIte]
def kf_E (r : Nat → Int32) : Prop := ∃ p : Nat, p ≤ 10 ∧ r 246 = nI p
theorem kf_E_nt {r : Nat → Int32} {kd : Nat} {a b : Int32} (hkd : kd < 4) (h : kf_E r) : kf_E (kf_nt r kd a b) := by
  obtain ⟨p, hp, e⟩ := h
  by_cases q : p = 10
  · subst q
    rw [← kf_nt_f hkd e]
    exact ⟨10, by omega, ku_s _ _ _⟩
  · rw [← kf_nt_g hkd (by omega) e]
    exact ⟨p + 1, by omega, ku_s _ _ _⟩
section
variable {G : kg_G} {d : Nat} {h : Nat → Nat} {M : kg_M} {K : kg_Qt} {r : Nat → Int32}

set_option maxRecDepth 100000 in
theorem kc105_l (hL : G.2.2.2.2.2.1 < 2 ^ 31) {kd : Nat} {a b : Int32} (hkd : kd < 4) (e : r 246 = nI 10) (hd : 2 ≤ d) (hK : K none (kg_w0 h) (kg_row M 125 (kf_nt r kd a b))) : ∀ m k : Nat, k + m = 36 → kg_P G d 105 5 129 129 K 30 [some (.ref 124), some (.int (nI kd)), some (.int a), some (.int b), some (.int (nI k))] [] (kg_w0 h) (kg_row M 125 (kf_sh (upd r (242 + kd) (r (242 + kd) + nI 1)) k)) := by
  intro m
  induction m with
  | zero =>
    intro k hk
    obtain rfl : k = 36 := by omega
    refine kg_v105 hL (by omega) 60 ?_
    have e1 : kf_sh (upd r (242 + kd) (r (242 + kd) + nI 1)) 36 246 = nI 10 := by
      rw [kf_sh, if_neg (by omega), ku_n (by omega)]; exact e
    have e2 : kf_sh (upd r (242 + kd) (r (242 + kd) + nI 1)) 36 0 = r 0 := by
      rw [kf_sh, if_neg (by omega), ku_n (by omega)]
    rw [← kf_nt_f hkd e] at hK
    simp (disch := omega) only [kg_S1, kg_S2, kg_br_T, kg_br_F, kg_br_N, kg_br_t, kg_br_f, kg_at_n, nI_add, pk_mul, kg_sub_n, kg_rem_n, kg_eq_n, kg_lt_n, kg_le_n, kg_nz, kg_01_0, kg_01_1, kg_w0_1, kg_ret0, kg_ret1, kg_ret2, kg_wr_n, kg_Skd, kg_Smc, kg_Sob, kg_Srf, kg_Sld, kg_pad, List.map_cons, List.map_nil, List.length_cons, List.length_nil, List.replicate, List.cons_append, List.nil_append, List.append_nil, Nat.reduceAdd, Nat.reduceSub, Nat.reduceMul, Nat.reduceMod, Nat.reduceDiv, Nat.reduceLT, Nat.reduceLeDiff, Nat.reduceEqDiff, ne_eq, not_true_eq_false, not_false_eq_true, reduceIte, true_and, and_true, kw_n, kw_s, kw_w, kw_o, kw_ws, kw_wn, ku_s, ku_n, kg_lk105, kg_ls105, e1, e2]
    exact hK
  | succ m ih =>
    intro k hk
    refine kg_v105 hL (by omega) 60 ?_
    simp (disch := omega) only [kg_S1, kg_S2, kg_br_T, kg_br_F, kg_br_N, kg_br_t, kg_br_f, kg_at_n, nI_add, pk_mul, kg_sub_n, kg_rem_n, kg_eq_n, kg_lt_n, kg_le_n, kg_nz, kg_01_0, kg_01_1, kg_w0_1, kg_ret0, kg_ret1, kg_ret2, kg_wr_n, kg_Skd, kg_Smc, kg_Sob, kg_Srf, kg_Sld, kg_pad, List.map_cons, List.map_nil, List.length_cons, List.length_nil, List.replicate, List.cons_append, List.nil_append, List.append_nil, Nat.reduceAdd, Nat.reduceSub, Nat.reduceMul, Nat.reduceMod, Nat.reduceDiv, Nat.reduceLT, Nat.reduceLeDiff, Nat.reduceEqDiff, ne_eq, not_true_eq_false, not_false_eq_true, reduceIte, true_and, and_true, kw_n, kw_s, kw_w, kw_o, kw_ws, kw_wn, ku_s, ku_n, kg_lk105, kg_ls105]
    rw [kf_sh_s]
    exact ih (k + 1) (by omega)
set_option maxRecDepth 100000 in
theorem kc105 (hL : G.2.2.2.2.2.1 < 2 ^ 31) {kd : Nat} {a b : Int32} (hkd : kd < 4) (hE : kf_E r) (hd : 3 ≤ d) (hK : K none (kg_w0 h) (kg_row M 125 (kf_nt r kd a b))) : kg_call G d 129 105 [.ref 124, .int (nI kd), .int a, .int b] (kg_w0 h) (kg_row M 125 r) K := by
  obtain ⟨p, hp, e⟩ := hE
  obtain ⟨d, rfl⟩ : ∃ e, d = e + 1 := ⟨d - 1, by omega⟩
  refine kg_m105 (by simp) (Nat.le_refl _) (kg_v105 hL (by omega) 80 ?_)
  by_cases q : p = 10
  · subst q
    simp (disch := omega) only [kg_S1, kg_S2, kg_br_T, kg_br_F, kg_br_N, kg_br_t, kg_br_f, kg_at_n, nI_add, pk_mul, kg_sub_n, kg_rem_n, kg_eq_n, kg_lt_n, kg_le_n, kg_nz, kg_01_0, kg_01_1, kg_w0_1, kg_ret0, kg_ret1, kg_ret2, kg_wr_n, kg_Skd, kg_Smc, kg_Sob, kg_Srf, kg_Sld, kg_pad, List.map_cons, List.map_nil, List.length_cons, List.length_nil, List.replicate, List.cons_append, List.nil_append, List.append_nil, Nat.reduceAdd, Nat.reduceSub, Nat.reduceMul, Nat.reduceMod, Nat.reduceDiv, Nat.reduceLT, Nat.reduceLeDiff, Nat.reduceEqDiff, ne_eq, not_true_eq_false, not_false_eq_true, reduceIte, true_and, and_true, kw_n, kw_s, kw_w, kw_o, kw_ws, kw_wn, ku_s, ku_n, kg_lk105, kg_ls105, e]
    have := kc105_l hL hkd e (by omega) hK 36 0 rfl (d := d)
    rw [kf_sh_z] at this
    exact this
  · rw [← kf_nt_g hkd (by omega) e] at hK
    simp (disch := omega) only [kg_S1, kg_S2, kg_br_T, kg_br_F, kg_br_N, kg_br_t, kg_br_f, kg_at_n, nI_add, pk_mul, kg_sub_n, kg_rem_n, kg_eq_n, kg_lt_n, kg_le_n, kg_nz, kg_01_0, kg_01_1, kg_w0_1, kg_ret0, kg_ret1, kg_ret2, kg_wr_n, kg_Skd, kg_Smc, kg_Sob, kg_Srf, kg_Sld, kg_pad, List.map_cons, List.map_nil, List.length_cons, List.length_nil, List.replicate, List.cons_append, List.nil_append, List.append_nil, Nat.reduceAdd, Nat.reduceSub, Nat.reduceMul, Nat.reduceMod, Nat.reduceDiv, Nat.reduceLT, Nat.reduceLeDiff, Nat.reduceEqDiff, ne_eq, not_true_eq_false, not_false_eq_true, reduceIte, true_and, and_true, kw_n, kw_s, kw_w, kw_o, kw_ws, kw_wn, ku_s, ku_n, kg_lk105, kg_ls105, e]
    exact hK
def kf_lk (r : Nat → Int32) (n s k j : Nat) : Nat → Int32 := fun i => if 27 + 40 * n + 5 * k ≤ i ∧ i < 27 + 40 * n + 5 * k + j then r (27 + 40 * s + 5 * k + (i - (27 + 40 * n + 5 * k))) else r i
theorem kf_lk_s {n s k j : Nat} (hn : n < 4) (hs : s < 4) (hns : n ≠ s) (hj : j < 4) : upd (kf_lk r n s k j) (27 + 40 * n + 5 * k + j) (kf_lk r n s k j (27 + 40 * s + 5 * k + j)) = kf_lk r n s k (j + 1) := by
  funext i
  by_cases e : i = 27 + 40 * n + 5 * k + j
  · subst e
    rw [ku_s, kf_lk, if_neg (by omega), kf_lk, if_pos (by omega)]
    exact congrArg r (by omega)
  · rw [ku_n e]
    simp only [kf_lk]
    by_cases e2 : 27 + 40 * n + 5 * k ≤ i ∧ i < 27 + 40 * n + 5 * k + j
    · rw [if_pos e2, if_pos (by omega)]
    · rw [if_neg e2, if_neg (by omega)]
theorem kf_lk_z {n s k : Nat} : kf_lk r n s k 0 = r := by
  funext i
  rw [kf_lk, if_neg (by omega)]
theorem kf_lk_4 {n s k : Nat} : upd (kf_lk r n s k 4) (27 + 40 * n + 5 * k + 4) (r 0) = kf_ta r n s k := by
  funext i
  unfold kf_ta
  by_cases e : i = 27 + 40 * n + 5 * k + 4
  · rw [if_pos e, e, ku_s]
  · rw [if_neg e, ku_n e]; rfl
set_option maxRecDepth 100000 in
theorem kc103_l (hL : G.2.2.2.2.2.1 < 2 ^ 31) {n s k : Nat} {w : Bool} (hw : w = kf_hn r n k) (hn : n < 4) (hs : s < 4) (hk : k < 8) (hns : n ≠ s) (hE : kf_E r) (hd : 4 ≤ d) (hK : K none (kg_w0 h) (kg_row M 125 (kf_ln r n s k))) : ∀ m j : Nat, j + m = 4 → kg_P G d 103 6 129 129 K 11 [some (.ref 124), some (.int (nI n)), some (.int (nI s)), some (.int (nI k)), some (.int (kf_b w)), some (.int (nI j))] [] (kg_w0 h) (kg_row M 125 (kf_lk r n s k j)) := by
  intro m
  induction m with
  | zero =>
    intro j hj
    obtain rfl : j = 4 := by omega
    refine kg_v103 hL (by omega) 60 ?_
    simp (disch := omega) only [kg_S1, kg_S2, kg_br_T, kg_br_F, kg_br_N, kg_br_t, kg_br_f, kg_at_n, nI_add, pk_mul, kg_sub_n, kg_rem_n, kg_eq_n, kg_lt_n, kg_le_n, kg_nz, kg_01_0, kg_01_1, kg_w0_1, kg_ret0, kg_ret1, kg_ret2, kg_wr_n, kg_Skd, kg_Smc, kg_Sob, kg_Srf, kg_Sld, kg_pad, List.map_cons, List.map_nil, List.length_cons, List.length_nil, List.replicate, List.cons_append, List.nil_append, List.append_nil, Nat.reduceAdd, Nat.reduceSub, Nat.reduceMul, Nat.reduceMod, Nat.reduceDiv, Nat.reduceLT, Nat.reduceLeDiff, Nat.reduceEqDiff, ne_eq, not_true_eq_false, not_false_eq_true, reduceIte, true_and, and_true, kw_n, kw_s, kw_w, kw_o, kw_ws, kw_wn, ku_s, ku_n, kg_lk103, kg_ls103]
    refine kc100 hL (by omega) hn hk (by omega) ?_
    have e2 : kf_lk r n s k 4 0 = r 0 := by
      rw [kf_lk, if_neg (by omega)]
    simp (disch := omega) only [kg_S1, kg_S2, kg_br_T, kg_br_F, kg_br_N, kg_br_t, kg_br_f, kg_at_n, nI_add, pk_mul, kg_sub_n, kg_rem_n, kg_eq_n, kg_lt_n, kg_le_n, kg_nz, kg_01_0, kg_01_1, kg_w0_1, kg_ret0, kg_ret1, kg_ret2, kg_wr_n, kg_Skd, kg_Smc, kg_Sob, kg_Srf, kg_Sld, kg_pad, List.map_cons, List.map_nil, List.length_cons, List.length_nil, List.replicate, List.cons_append, List.nil_append, List.append_nil, Nat.reduceAdd, Nat.reduceSub, Nat.reduceMul, Nat.reduceMod, Nat.reduceDiv, Nat.reduceLT, Nat.reduceLeDiff, Nat.reduceEqDiff, ne_eq, not_true_eq_false, not_false_eq_true, reduceIte, true_and, and_true, kw_n, kw_s, kw_w, kw_o, kw_ws, kw_wn, ku_s, ku_n, kg_lk103, kg_ls103, e2]
    rw [kf_lk_4]
    unfold kf_ln at hK
    cases w with
    | true =>
      rw [← hw] at hK
      have b1 : kf_b true = nI 1 := rfl
      rw [b1]
      simp (disch := omega) only [kg_S1, kg_S2, kg_br_T, kg_br_F, kg_br_N, kg_br_t, kg_br_f, kg_at_n, nI_add, pk_mul, kg_sub_n, kg_rem_n, kg_eq_n, kg_lt_n, kg_le_n, kg_nz, kg_01_0, kg_01_1, kg_w0_1, kg_ret0, kg_ret1, kg_ret2, kg_wr_n, kg_Skd, kg_Smc, kg_Sob, kg_Srf, kg_Sld, kg_pad, List.map_cons, List.map_nil, List.length_cons, List.length_nil, List.replicate, List.cons_append, List.nil_append, List.append_nil, Nat.reduceAdd, Nat.reduceSub, Nat.reduceMul, Nat.reduceMod, Nat.reduceDiv, Nat.reduceLT, Nat.reduceLeDiff, Nat.reduceEqDiff, ne_eq, not_true_eq_false, not_false_eq_true, reduceIte, true_and, and_true, kw_n, kw_s, kw_w, kw_o, kw_ws, kw_wn, ku_s, ku_n, kg_lk103, kg_ls103]
      exact hK
    | false =>
      rw [← hw] at hK
      have b0 : kf_b false = nI 0 := rfl
      rw [b0]
      simp (disch := omega) only [kg_S1, kg_S2, kg_br_T, kg_br_F, kg_br_N, kg_br_t, kg_br_f, kg_at_n, nI_add, pk_mul, kg_sub_n, kg_rem_n, kg_eq_n, kg_lt_n, kg_le_n, kg_nz, kg_01_0, kg_01_1, kg_w0_1, kg_ret0, kg_ret1, kg_ret2, kg_wr_n, kg_Skd, kg_Smc, kg_Sob, kg_Srf, kg_Sld, kg_pad, List.map_cons, List.map_nil, List.length_cons, List.length_nil, List.replicate, List.cons_append, List.nil_append, List.append_nil, Nat.reduceAdd, Nat.reduceSub, Nat.reduceMul, Nat.reduceMod, Nat.reduceDiv, Nat.reduceLT, Nat.reduceLeDiff, Nat.reduceEqDiff, ne_eq, not_true_eq_false, not_false_eq_true, reduceIte, true_and, and_true, kw_n, kw_s, kw_w, kw_o, kw_ws, kw_wn, ku_s, ku_n, kg_lk103, kg_ls103]
      refine kc104 hL (by omega) hn hk ?_
      cases e : kf_hn (kf_ta r n s k) n k with
      | true =>
        rw [e] at hK
        have b1 : kf_b true = nI 1 := rfl
        rw [b1]
        simp (disch := omega) only [kg_S1, kg_S2, kg_br_T, kg_br_F, kg_br_N, kg_br_t, kg_br_f, kg_at_n, nI_add, pk_mul, kg_sub_n, kg_rem_n, kg_eq_n, kg_lt_n, kg_le_n, kg_nz, kg_01_0, kg_01_1, kg_w0_1, kg_ret0, kg_ret1, kg_ret2, kg_wr_n, kg_Skd, kg_Smc, kg_Sob, kg_Srf, kg_Sld, kg_pad, List.map_cons, List.map_nil, List.length_cons, List.length_nil, List.replicate, List.cons_append, List.nil_append, List.append_nil, Nat.reduceAdd, Nat.reduceSub, Nat.reduceMul, Nat.reduceMod, Nat.reduceDiv, Nat.reduceLT, Nat.reduceLeDiff, Nat.reduceEqDiff, ne_eq, not_true_eq_false, not_false_eq_true, reduceIte, true_and, and_true, kw_n, kw_s, kw_w, kw_o, kw_ws, kw_wn, ku_s, ku_n, kg_lk103, kg_ls103]
        refine kc105 hL (by omega) ?_ (by omega) ?_
        · obtain ⟨p, hp, e⟩ := hE
          exact ⟨p, hp, (kf_ta_o hn hk (by omega)).trans e⟩
        · simp (disch := omega) only [kg_S1, kg_S2, kg_br_T, kg_br_F, kg_br_N, kg_br_t, kg_br_f, kg_at_n, nI_add, pk_mul, kg_sub_n, kg_rem_n, kg_eq_n, kg_lt_n, kg_le_n, kg_nz, kg_01_0, kg_01_1, kg_w0_1, kg_ret0, kg_ret1, kg_ret2, kg_wr_n, kg_Skd, kg_Smc, kg_Sob, kg_Srf, kg_Sld, kg_pad, List.map_cons, List.map_nil, List.length_cons, List.length_nil, List.replicate, List.cons_append, List.nil_append, List.append_nil, Nat.reduceAdd, Nat.reduceSub, Nat.reduceMul, Nat.reduceMod, Nat.reduceDiv, Nat.reduceLT, Nat.reduceLeDiff, Nat.reduceEqDiff, ne_eq, not_true_eq_false, not_false_eq_true, reduceIte, true_and, and_true, kw_n, kw_s, kw_w, kw_o, kw_ws, kw_wn, ku_s, ku_n, kg_lk103, kg_ls103]
          exact hK
      | false =>
        rw [e] at hK
        rw [b0]
        simp (disch := omega) only [kg_S1, kg_S2, kg_br_T, kg_br_F, kg_br_N, kg_br_t, kg_br_f, kg_at_n, nI_add, pk_mul, kg_sub_n, kg_rem_n, kg_eq_n, kg_lt_n, kg_le_n, kg_nz, kg_01_0, kg_01_1, kg_w0_1, kg_ret0, kg_ret1, kg_ret2, kg_wr_n, kg_Skd, kg_Smc, kg_Sob, kg_Srf, kg_Sld, kg_pad, List.map_cons, List.map_nil, List.length_cons, List.length_nil, List.replicate, List.cons_append, List.nil_append, List.append_nil, Nat.reduceAdd, Nat.reduceSub, Nat.reduceMul, Nat.reduceMod, Nat.reduceDiv, Nat.reduceLT, Nat.reduceLeDiff, Nat.reduceEqDiff, ne_eq, not_true_eq_false, not_false_eq_true, reduceIte, true_and, and_true, kw_n, kw_s, kw_w, kw_o, kw_ws, kw_wn, ku_s, ku_n, kg_lk103, kg_ls103]
        exact hK
  | succ m ih =>
    intro j hj
    refine kg_v103 hL (by omega) 60 ?_
    simp (disch := omega) only [kg_S1, kg_S2, kg_br_T, kg_br_F, kg_br_N, kg_br_t, kg_br_f, kg_at_n, nI_add, pk_mul, kg_sub_n, kg_rem_n, kg_eq_n, kg_lt_n, kg_le_n, kg_nz, kg_01_0, kg_01_1, kg_w0_1, kg_ret0, kg_ret1, kg_ret2, kg_wr_n, kg_Skd, kg_Smc, kg_Sob, kg_Srf, kg_Sld, kg_pad, List.map_cons, List.map_nil, List.length_cons, List.length_nil, List.replicate, List.cons_append, List.nil_append, List.append_nil, Nat.reduceAdd, Nat.reduceSub, Nat.reduceMul, Nat.reduceMod, Nat.reduceDiv, Nat.reduceLT, Nat.reduceLeDiff, Nat.reduceEqDiff, ne_eq, not_true_eq_false, not_false_eq_true, reduceIte, true_and, and_true, kw_n, kw_s, kw_w, kw_o, kw_ws, kw_wn, ku_s, ku_n, kg_lk103, kg_ls103]
    refine kc100 hL (by omega) hn hk (by omega) ?_
    simp (disch := omega) only [kg_S1, kg_S2, kg_br_T, kg_br_F, kg_br_N, kg_br_t, kg_br_f, kg_at_n, nI_add, pk_mul, kg_sub_n, kg_rem_n, kg_eq_n, kg_lt_n, kg_le_n, kg_nz, kg_01_0, kg_01_1, kg_w0_1, kg_ret0, kg_ret1, kg_ret2, kg_wr_n, kg_Skd, kg_Smc, kg_Sob, kg_Srf, kg_Sld, kg_pad, List.map_cons, List.map_nil, List.length_cons, List.length_nil, List.replicate, List.cons_append, List.nil_append, List.append_nil, Nat.reduceAdd, Nat.reduceSub, Nat.reduceMul, Nat.reduceMod, Nat.reduceDiv, Nat.reduceLT, Nat.reduceLeDiff, Nat.reduceEqDiff, ne_eq, not_true_eq_false, not_false_eq_true, reduceIte, true_and, and_true, kw_n, kw_s, kw_w, kw_o, kw_ws, kw_wn, ku_s, ku_n, kg_lk103, kg_ls103]
    refine kc100 hL (by omega) hs hk (by omega) ?_
    simp (disch := omega) only [kg_S1, kg_S2, kg_br_T, kg_br_F, kg_br_N, kg_br_t, kg_br_f, kg_at_n, nI_add, pk_mul, kg_sub_n, kg_rem_n, kg_eq_n, kg_lt_n, kg_le_n, kg_nz, kg_01_0, kg_01_1, kg_w0_1, kg_ret0, kg_ret1, kg_ret2, kg_wr_n, kg_Skd, kg_Smc, kg_Sob, kg_Srf, kg_Sld, kg_pad, List.map_cons, List.map_nil, List.length_cons, List.length_nil, List.replicate, List.cons_append, List.nil_append, List.append_nil, Nat.reduceAdd, Nat.reduceSub, Nat.reduceMul, Nat.reduceMod, Nat.reduceDiv, Nat.reduceLT, Nat.reduceLeDiff, Nat.reduceEqDiff, ne_eq, not_true_eq_false, not_false_eq_true, reduceIte, true_and, and_true, kw_n, kw_s, kw_w, kw_o, kw_ws, kw_wn, ku_s, ku_n, kg_lk103, kg_ls103]
    rw [kf_lk_s hn hs hns (by omega)]
    exact ih (j + 1) (by omega)
set_option maxRecDepth 100000 in
theorem kc103 (hL : G.2.2.2.2.2.1 < 2 ^ 31) {n s k : Nat} (hn : n < 4) (hs : s < 4) (hk : k < 8) (hns : n ≠ s) (hE : kf_E r) (hd : 5 ≤ d) (hK : K none (kg_w0 h) (kg_row M 125 (kf_ln r n s k))) : kg_call G d 129 103 [.ref 124, .int (nI n), .int (nI s), .int (nI k)] (kg_w0 h) (kg_row M 125 r) K := by
  obtain ⟨d, rfl⟩ : ∃ e, d = e + 1 := ⟨d - 1, by omega⟩
  refine kg_m103 (by simp) (Nat.le_refl _) (kg_v103 hL (by omega) 60 ?_)
  simp (disch := omega) only [kg_S1, kg_S2, kg_br_T, kg_br_F, kg_br_N, kg_br_t, kg_br_f, kg_at_n, nI_add, pk_mul, kg_sub_n, kg_rem_n, kg_eq_n, kg_lt_n, kg_le_n, kg_nz, kg_01_0, kg_01_1, kg_w0_1, kg_ret0, kg_ret1, kg_ret2, kg_wr_n, kg_Skd, kg_Smc, kg_Sob, kg_Srf, kg_Sld, kg_pad, List.map_cons, List.map_nil, List.length_cons, List.length_nil, List.replicate, List.cons_append, List.nil_append, List.append_nil, Nat.reduceAdd, Nat.reduceSub, Nat.reduceMul, Nat.reduceMod, Nat.reduceDiv, Nat.reduceLT, Nat.reduceLeDiff, Nat.reduceEqDiff, ne_eq, not_true_eq_false, not_false_eq_true, reduceIte, true_and, and_true, kw_n, kw_s, kw_w, kw_o, kw_ws, kw_wn, ku_s, ku_n, kg_lk103, kg_ls103]
  refine kc104 hL (by omega) hn hk ?_
  simp (disch := omega) only [kg_S1, kg_S2, kg_br_T, kg_br_F, kg_br_N, kg_br_t, kg_br_f, kg_at_n, nI_add, pk_mul, kg_sub_n, kg_rem_n, kg_eq_n, kg_lt_n, kg_le_n, kg_nz, kg_01_0, kg_01_1, kg_w0_1, kg_ret0, kg_ret1, kg_ret2, kg_wr_n, kg_Skd, kg_Smc, kg_Sob, kg_Srf, kg_Sld, kg_pad, List.map_cons, List.map_nil, List.length_cons, List.length_nil, List.replicate, List.cons_append, List.nil_append, List.append_nil, Nat.reduceAdd, Nat.reduceSub, Nat.reduceMul, Nat.reduceMod, Nat.reduceDiv, Nat.reduceLT, Nat.reduceLeDiff, Nat.reduceEqDiff, ne_eq, not_true_eq_false, not_false_eq_true, reduceIte, true_and, and_true, kw_n, kw_s, kw_w, kw_o, kw_ws, kw_wn, ku_s, ku_n, kg_lk103, kg_ls103]
  have := kc103_l hL rfl hn hs hk hns hE (by omega) hK 4 0 rfl (d := d)
  rw [kf_lk_z] at this
  exact this
end
