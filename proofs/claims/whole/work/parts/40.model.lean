/-! THE MODEL: its row is place 125; leaves -/
theorem kw_n {M : kg_M} {p q : Nat} {r : Nat → Int32} (h : q ≠ p) : kg_row M p r q = M q := if_neg h
theorem kw_s (M : kg_M) (p : Nat) (r : Nat → Int32) : kg_row M p r p = r := if_pos rfl
theorem kw_w (M : kg_M) (p j : Nat) (r : Nat → Int32) (v : Int32) : kg_wr (kg_row M p r) p j v = kg_row M p (upd r j v) := by
  funext q
  by_cases e : q = p
  · subst e; funext i; simp [kg_wr, kg_row, upd]
  · simp [kg_wr, kg_row, e]
theorem kw_o {M : kg_M} {p q j : Nat} {r : Nat → Int32} {v : Int32} (h : q ≠ p) : kg_wr (kg_row M p r) q j v = kg_row (kg_wr M q j v) p r := by
  funext z
  by_cases e : z = p
  · subst e; simp [kg_wr, kg_row, Ne.symm h]
  · by_cases e2 : z = q
    · subst e2; simp [kg_wr, kg_row, e]
    · simp [kg_wr, kg_row, e, e2]
theorem kw_i (M : kg_M) (p : Nat) : kg_row M p (M p) = M := by
  funext q
  by_cases e : q = p
  · subst e; exact kw_s _ _ _
  · exact kw_n e
theorem kw_k {M : kg_M} {p j : Nat} {v : Int32} (h : M p j = v) : kg_wr M p j v = M := by
  funext q
  by_cases e : q = p
  · subst e; funext i
    rw [kg_wr_s]
    split
    · rename_i e2; rw [e2, h]
    · rfl
  · exact kg_wr_n e
theorem ku_s (f : Nat → Int32) (i : Nat) (v : Int32) : upd f i v i = v := if_pos rfl
theorem ku_n {f : Nat → Int32} {i j : Nat} {v : Int32} (h : j ≠ i) : upd f i v j = f j := if_neg h
theorem kw_ws {M : kg_M} {p i j : Nat} {v : Int32} (h : i = j) : kg_wr M p j v p i = v := by rw [kg_wr_s, if_pos h]
theorem kw_wn {M : kg_M} {p i j : Nat} {v : Int32} (h : i ≠ j) : kg_wr M p j v p i = M p i := by rw [kg_wr_s, if_neg h]
theorem kf_iy {n : Nat} {x : Int32} (hn : n < 2147483647) : (decide (nI 0 ≤ x) && decide (x ≤ nI n)) = (kf_ix (n + 1) x).isSome := by
  cases e : kf_ix (n + 1) x with
  | none =>
    have := kf_i4 (n + 1) x (by omega) (kf_ix_n (by omega) e)
    have q1 : ¬ (nI 0 ≤ x ∧ x ≤ nI n) := by
      intro ⟨a1, a2⟩
      rw [Int32.le_iff_toInt_le, nI_toInt (by omega)] at a1 a2
      rcases this with q | q
      · rw [Int32.lt_iff_toInt_lt, nI_toInt (by omega)] at q; omega
      · rw [Int32.le_iff_toInt_le, nI_toInt (by omega)] at q; omega
    simp only [Option.isSome_none]
    rw [← Bool.decide_and]
    exact decide_eq_false q1
  | some j =>
    obtain ⟨h1, rfl⟩ := kf_ix_s (by omega) e
    simp (disch := omega) only [kg_le_n, Option.isSome_some]
    simp; omega
theorem kf_ixn {n j : Nat} (hn : n < 2147483648) (hj : j < n) : kf_ix n (nI j) = some j := by
  unfold kf_ix
  rw [nI_toInt (by omega), if_pos (by omega)]
  simp
section
variable {G : kg_G} {d : Nat} {h : Nat → Nat} {M : kg_M} {K : kg_Qt} {r : Nat → Int32}

theorem kc90 (hL : G.2.2.2.2.2.1 < 2 ^ 31) {v lo hi : Int32} (hd : 2 ≤ d) (hK : K (some (.int (kf_b (decide (lo ≤ v) && decide (v ≤ hi))))) (kg_w0 h) M) : kg_call G d 129 90 [.int v, .int lo, .int hi] (kg_w0 h) M K := by
  obtain ⟨d, rfl⟩ : ∃ e, d = e + 1 := ⟨d - 1, by omega⟩
  refine kg_m90 (by simp) (Nat.le_refl _) (kg_v90 hL (by omega) 20 ?_)
  by_cases q1 : v < lo
  · have e1 : ¬ lo ≤ v := Int32.not_le.mpr q1
    rw [decide_eq_false e1, Bool.false_and] at hK
    have e2 := eq_true q1
    simp (disch := omega) only [kg_S1, kg_S2, kg_br_T, kg_br_F, kg_br_N, kg_br_t, kg_br_f, kg_at_n, nI_add, pk_mul, kg_sub_n, kg_rem_n, kg_eq_n, kg_lt_n, kg_le_n, kg_nz, kg_01_0, kg_01_1, kg_w0_1, kg_ret0, kg_ret1, kg_ret2, kg_wr_n, kg_wr_s, kg_Skd, kg_Smc, kg_Sob, kg_Srf, kg_Sld, kg_pad, List.map_cons, List.map_nil, List.length_cons, List.length_nil, List.replicate, List.cons_append, List.nil_append, List.append_nil, Nat.reduceAdd, Nat.reduceSub, Nat.reduceMul, Nat.reduceMod, Nat.reduceDiv, Nat.reduceLT, Nat.reduceLeDiff, Nat.reduceEqDiff, ne_eq, not_true_eq_false, not_false_eq_true, reduceIte, true_and, and_true, kg_lk90, kg_ls90, e2]
    exact hK
  · have e1 : lo ≤ v := Int32.not_lt.mp q1
    have e2 := eq_false q1
    by_cases q2 : hi < v
    · rw [decide_eq_false (Int32.not_le.mpr q2), Bool.and_false] at hK
      have e3 := eq_true q2
      simp (disch := omega) only [kg_S1, kg_S2, kg_br_T, kg_br_F, kg_br_N, kg_br_t, kg_br_f, kg_at_n, nI_add, pk_mul, kg_sub_n, kg_rem_n, kg_eq_n, kg_lt_n, kg_le_n, kg_nz, kg_01_0, kg_01_1, kg_w0_1, kg_ret0, kg_ret1, kg_ret2, kg_wr_n, kg_wr_s, kg_Skd, kg_Smc, kg_Sob, kg_Srf, kg_Sld, kg_pad, List.map_cons, List.map_nil, List.length_cons, List.length_nil, List.replicate, List.cons_append, List.nil_append, List.append_nil, Nat.reduceAdd, Nat.reduceSub, Nat.reduceMul, Nat.reduceMod, Nat.reduceDiv, Nat.reduceLT, Nat.reduceLeDiff, Nat.reduceEqDiff, ne_eq, not_true_eq_false, not_false_eq_true, reduceIte, true_and, and_true, kg_lk90, kg_ls90, e2, e3]
      exact hK
    · rw [decide_eq_true e1, decide_eq_true (Int32.not_lt.mp q2)] at hK
      have e3 := eq_false q2
      simp (disch := omega) only [kg_S1, kg_S2, kg_br_T, kg_br_F, kg_br_N, kg_br_t, kg_br_f, kg_at_n, nI_add, pk_mul, kg_sub_n, kg_rem_n, kg_eq_n, kg_lt_n, kg_le_n, kg_nz, kg_01_0, kg_01_1, kg_w0_1, kg_ret0, kg_ret1, kg_ret2, kg_wr_n, kg_wr_s, kg_Skd, kg_Smc, kg_Sob, kg_Srf, kg_Sld, kg_pad, List.map_cons, List.map_nil, List.length_cons, List.length_nil, List.replicate, List.cons_append, List.nil_append, List.append_nil, Nat.reduceAdd, Nat.reduceSub, Nat.reduceMul, Nat.reduceMod, Nat.reduceDiv, Nat.reduceLT, Nat.reduceLeDiff, Nat.reduceEqDiff, ne_eq, not_true_eq_false, not_false_eq_true, reduceIte, true_and, and_true, kg_lk90, kg_ls90, e2, e3]
      exact hK

theorem kc93 (hL : G.2.2.2.2.2.1 < 2 ^ 31) {n : Nat} (hd : 3 ≤ d) (hn : n < 4) (hK : K (some (.int (nI 1))) (kg_w0 h) M) : kg_call G d 129 93 [.int (nI n)] (kg_w0 h) M K := by
  obtain ⟨d, rfl⟩ : ∃ e, d = e + 1 := ⟨d - 1, by omega⟩
  refine kg_m93 (by simp) (Nat.le_refl _) (kg_v93 hL (by omega) 20 ?_)
  simp (disch := omega) only [kg_S1, kg_S2, kg_br_T, kg_br_F, kg_br_N, kg_br_t, kg_br_f, kg_at_n, nI_add, pk_mul, kg_sub_n, kg_rem_n, kg_eq_n, kg_lt_n, kg_le_n, kg_nz, kg_01_0, kg_01_1, kg_w0_1, kg_ret0, kg_ret1, kg_ret2, kg_wr_n, kg_wr_s, kg_Skd, kg_Smc, kg_Sob, kg_Srf, kg_Sld, kg_pad, List.map_cons, List.map_nil, List.length_cons, List.length_nil, List.replicate, List.cons_append, List.nil_append, List.append_nil, Nat.reduceAdd, Nat.reduceSub, Nat.reduceMul, Nat.reduceMod, Nat.reduceDiv, Nat.reduceLT, Nat.reduceLeDiff, Nat.reduceEqDiff, ne_eq, not_true_eq_false, not_false_eq_true, reduceIte, true_and, and_true, kg_lk93, kg_ls93]
  refine kc90 hL (by omega) ?_
  rw [kf_iy (by omega), show kf_ix (3 + 1) (nI n) = some n from kf_ixn (by omega) (by omega)]
  have : kf_b (some n).isSome = nI 1 := rfl
  rw [this]
  simp (disch := omega) only [kg_S1, kg_S2, kg_br_T, kg_br_F, kg_br_N, kg_br_t, kg_br_f, kg_at_n, nI_add, pk_mul, kg_sub_n, kg_rem_n, kg_eq_n, kg_lt_n, kg_le_n, kg_nz, kg_01_0, kg_01_1, kg_w0_1, kg_ret0, kg_ret1, kg_ret2, kg_wr_n, kg_wr_s, kg_Skd, kg_Smc, kg_Sob, kg_Srf, kg_Sld, kg_pad, List.map_cons, List.map_nil, List.length_cons, List.length_nil, List.replicate, List.cons_append, List.nil_append, List.append_nil, Nat.reduceAdd, Nat.reduceSub, Nat.reduceMul, Nat.reduceMod, Nat.reduceDiv, Nat.reduceLT, Nat.reduceLeDiff, Nat.reduceEqDiff, ne_eq, not_true_eq_false, not_false_eq_true, reduceIte, true_and, and_true, kg_lk93, kg_ls93]
  exact hK
theorem kc93b (hL : G.2.2.2.2.2.1 < 2 ^ 31) {x : Int32} (hd : 3 ≤ d) (hn : ∀ j, j < 4 → x ≠ nI j) (hK : K (some (.int (nI 0))) (kg_w0 h) M) : kg_call G d 129 93 [.int x] (kg_w0 h) M K := by
  obtain ⟨d, rfl⟩ : ∃ e, d = e + 1 := ⟨d - 1, by omega⟩
  refine kg_m93 (by simp) (Nat.le_refl _) (kg_v93 hL (by omega) 20 ?_)
  simp (disch := omega) only [kg_S1, kg_S2, kg_br_T, kg_br_F, kg_br_N, kg_br_t, kg_br_f, kg_at_n, nI_add, pk_mul, kg_sub_n, kg_rem_n, kg_eq_n, kg_lt_n, kg_le_n, kg_nz, kg_01_0, kg_01_1, kg_w0_1, kg_ret0, kg_ret1, kg_ret2, kg_wr_n, kg_wr_s, kg_Skd, kg_Smc, kg_Sob, kg_Srf, kg_Sld, kg_pad, List.map_cons, List.map_nil, List.length_cons, List.length_nil, List.replicate, List.cons_append, List.nil_append, List.append_nil, Nat.reduceAdd, Nat.reduceSub, Nat.reduceMul, Nat.reduceMod, Nat.reduceDiv, Nat.reduceLT, Nat.reduceLeDiff, Nat.reduceEqDiff, ne_eq, not_true_eq_false, not_false_eq_true, reduceIte, true_and, and_true, kg_lk93, kg_ls93]
  refine kc90 hL (by omega) ?_
  have e : kf_ix (3 + 1) x = none := by
    cases e : kf_ix (3 + 1) x with
    | none => rfl
    | some j => exact absurd (kf_ix_s (by omega) e).2 (hn j (kf_ix_s (by omega) e).1)
  rw [kf_iy (by omega), e]
  have : kf_b (none : Option Nat).isSome = nI 0 := rfl
  rw [this]
  simp (disch := omega) only [kg_S1, kg_S2, kg_br_T, kg_br_F, kg_br_N, kg_br_t, kg_br_f, kg_at_n, nI_add, pk_mul, kg_sub_n, kg_rem_n, kg_eq_n, kg_lt_n, kg_le_n, kg_nz, kg_01_0, kg_01_1, kg_w0_1, kg_ret0, kg_ret1, kg_ret2, kg_wr_n, kg_wr_s, kg_Skd, kg_Smc, kg_Sob, kg_Srf, kg_Sld, kg_pad, List.map_cons, List.map_nil, List.length_cons, List.length_nil, List.replicate, List.cons_append, List.nil_append, List.append_nil, Nat.reduceAdd, Nat.reduceSub, Nat.reduceMul, Nat.reduceMod, Nat.reduceDiv, Nat.reduceLT, Nat.reduceLeDiff, Nat.reduceEqDiff, ne_eq, not_true_eq_false, not_false_eq_true, reduceIte, true_and, and_true, kg_lk93, kg_ls93]
  exact hK

theorem kc96 (hL : G.2.2.2.2.2.1 < 2 ^ 31) {n : Nat} (hd : 3 ≤ d) (hn : n < 8) (hK : K (some (.int (nI 1))) (kg_w0 h) M) : kg_call G d 129 96 [.int (nI n)] (kg_w0 h) M K := by
  obtain ⟨d, rfl⟩ : ∃ e, d = e + 1 := ⟨d - 1, by omega⟩
  refine kg_m96 (by simp) (Nat.le_refl _) (kg_v96 hL (by omega) 20 ?_)
  simp (disch := omega) only [kg_S1, kg_S2, kg_br_T, kg_br_F, kg_br_N, kg_br_t, kg_br_f, kg_at_n, nI_add, pk_mul, kg_sub_n, kg_rem_n, kg_eq_n, kg_lt_n, kg_le_n, kg_nz, kg_01_0, kg_01_1, kg_w0_1, kg_ret0, kg_ret1, kg_ret2, kg_wr_n, kg_wr_s, kg_Skd, kg_Smc, kg_Sob, kg_Srf, kg_Sld, kg_pad, List.map_cons, List.map_nil, List.length_cons, List.length_nil, List.replicate, List.cons_append, List.nil_append, List.append_nil, Nat.reduceAdd, Nat.reduceSub, Nat.reduceMul, Nat.reduceMod, Nat.reduceDiv, Nat.reduceLT, Nat.reduceLeDiff, Nat.reduceEqDiff, ne_eq, not_true_eq_false, not_false_eq_true, reduceIte, true_and, and_true, kg_lk96, kg_ls96]
  refine kc90 hL (by omega) ?_
  rw [kf_iy (by omega), show kf_ix (7 + 1) (nI n) = some n from kf_ixn (by omega) (by omega)]
  have : kf_b (some n).isSome = nI 1 := rfl
  rw [this]
  simp (disch := omega) only [kg_S1, kg_S2, kg_br_T, kg_br_F, kg_br_N, kg_br_t, kg_br_f, kg_at_n, nI_add, pk_mul, kg_sub_n, kg_rem_n, kg_eq_n, kg_lt_n, kg_le_n, kg_nz, kg_01_0, kg_01_1, kg_w0_1, kg_ret0, kg_ret1, kg_ret2, kg_wr_n, kg_wr_s, kg_Skd, kg_Smc, kg_Sob, kg_Srf, kg_Sld, kg_pad, List.map_cons, List.map_nil, List.length_cons, List.length_nil, List.replicate, List.cons_append, List.nil_append, List.append_nil, Nat.reduceAdd, Nat.reduceSub, Nat.reduceMul, Nat.reduceMod, Nat.reduceDiv, Nat.reduceLT, Nat.reduceLeDiff, Nat.reduceEqDiff, ne_eq, not_true_eq_false, not_false_eq_true, reduceIte, true_and, and_true, kg_lk96, kg_ls96]
  exact hK
theorem kc96b (hL : G.2.2.2.2.2.1 < 2 ^ 31) {x : Int32} (hd : 3 ≤ d) (hn : ∀ j, j < 8 → x ≠ nI j) (hK : K (some (.int (nI 0))) (kg_w0 h) M) : kg_call G d 129 96 [.int x] (kg_w0 h) M K := by
  obtain ⟨d, rfl⟩ : ∃ e, d = e + 1 := ⟨d - 1, by omega⟩
  refine kg_m96 (by simp) (Nat.le_refl _) (kg_v96 hL (by omega) 20 ?_)
  simp (disch := omega) only [kg_S1, kg_S2, kg_br_T, kg_br_F, kg_br_N, kg_br_t, kg_br_f, kg_at_n, nI_add, pk_mul, kg_sub_n, kg_rem_n, kg_eq_n, kg_lt_n, kg_le_n, kg_nz, kg_01_0, kg_01_1, kg_w0_1, kg_ret0, kg_ret1, kg_ret2, kg_wr_n, kg_wr_s, kg_Skd, kg_Smc, kg_Sob, kg_Srf, kg_Sld, kg_pad, List.map_cons, List.map_nil, List.length_cons, List.length_nil, List.replicate, List.cons_append, List.nil_append, List.append_nil, Nat.reduceAdd, Nat.reduceSub, Nat.reduceMul, Nat.reduceMod, Nat.reduceDiv, Nat.reduceLT, Nat.reduceLeDiff, Nat.reduceEqDiff, ne_eq, not_true_eq_false, not_false_eq_true, reduceIte, true_and, and_true, kg_lk96, kg_ls96]
  refine kc90 hL (by omega) ?_
  have e : kf_ix (7 + 1) x = none := by
    cases e : kf_ix (7 + 1) x with
    | none => rfl
    | some j => exact absurd (kf_ix_s (by omega) e).2 (hn j (kf_ix_s (by omega) e).1)
  rw [kf_iy (by omega), e]
  have : kf_b (none : Option Nat).isSome = nI 0 := rfl
  rw [this]
  simp (disch := omega) only [kg_S1, kg_S2, kg_br_T, kg_br_F, kg_br_N, kg_br_t, kg_br_f, kg_at_n, nI_add, pk_mul, kg_sub_n, kg_rem_n, kg_eq_n, kg_lt_n, kg_le_n, kg_nz, kg_01_0, kg_01_1, kg_w0_1, kg_ret0, kg_ret1, kg_ret2, kg_wr_n, kg_wr_s, kg_Skd, kg_Smc, kg_Sob, kg_Srf, kg_Sld, kg_pad, List.map_cons, List.map_nil, List.length_cons, List.length_nil, List.replicate, List.cons_append, List.nil_append, List.append_nil, Nat.reduceAdd, Nat.reduceSub, Nat.reduceMul, Nat.reduceMod, Nat.reduceDiv, Nat.reduceLT, Nat.reduceLeDiff, Nat.reduceEqDiff, ne_eq, not_true_eq_false, not_false_eq_true, reduceIte, true_and, and_true, kg_lk96, kg_ls96]
  exact hK

theorem kc98 (hL : G.2.2.2.2.2.1 < 2 ^ 31) {k w : Nat} (hd : 2 ≤ d) (hk : k < 8) (hw : w < 3) (hK : K (some (.int (nI (187 + 3 * k + w)))) (kg_w0 h) M) : kg_call G d 129 98 [.int (nI k), .int (nI w)] (kg_w0 h) M K := by
  obtain ⟨d, rfl⟩ : ∃ e, d = e + 1 := ⟨d - 1, by omega⟩
  refine kg_m98 (by simp) (Nat.le_refl _) (kg_v98 hL (by omega) 20 ?_)
  simp (disch := omega) only [kg_S1, kg_S2, kg_br_T, kg_br_F, kg_br_N, kg_br_t, kg_br_f, kg_at_n, nI_add, pk_mul, kg_sub_n, kg_rem_n, kg_eq_n, kg_lt_n, kg_le_n, kg_nz, kg_01_0, kg_01_1, kg_w0_1, kg_ret0, kg_ret1, kg_ret2, kg_wr_n, kg_wr_s, kg_Skd, kg_Smc, kg_Sob, kg_Srf, kg_Sld, kg_pad, List.map_cons, List.map_nil, List.length_cons, List.length_nil, List.replicate, List.cons_append, List.nil_append, List.append_nil, Nat.reduceAdd, Nat.reduceSub, Nat.reduceMul, Nat.reduceMod, Nat.reduceDiv, Nat.reduceLT, Nat.reduceLeDiff, Nat.reduceEqDiff, ne_eq, not_true_eq_false, not_false_eq_true, reduceIte, true_and, and_true, kg_lk98, kg_ls98]
  exact hK
theorem kc100 (hL : G.2.2.2.2.2.1 < 2 ^ 31) {n k w : Nat} (hd : 2 ≤ d) (hn : n < 4) (hk : k < 8) (hw : w < 5) (hK : K (some (.int (nI (27 + 40 * n + 5 * k + w)))) (kg_w0 h) M) : kg_call G d 129 100 [.int (nI n), .int (nI k), .int (nI w)] (kg_w0 h) M K := by
  obtain ⟨d, rfl⟩ : ∃ e, d = e + 1 := ⟨d - 1, by omega⟩
  refine kg_m100 (by simp) (Nat.le_refl _) (kg_v100 hL (by omega) 20 ?_)
  simp (disch := omega) only [kg_S1, kg_S2, kg_br_T, kg_br_F, kg_br_N, kg_br_t, kg_br_f, kg_at_n, nI_add, pk_mul, kg_sub_n, kg_rem_n, kg_eq_n, kg_lt_n, kg_le_n, kg_nz, kg_01_0, kg_01_1, kg_w0_1, kg_ret0, kg_ret1, kg_ret2, kg_wr_n, kg_wr_s, kg_Skd, kg_Smc, kg_Sob, kg_Srf, kg_Sld, kg_pad, List.map_cons, List.map_nil, List.length_cons, List.length_nil, List.replicate, List.cons_append, List.nil_append, List.append_nil, Nat.reduceAdd, Nat.reduceSub, Nat.reduceMul, Nat.reduceMod, Nat.reduceDiv, Nat.reduceLT, Nat.reduceLeDiff, Nat.reduceEqDiff, ne_eq, not_true_eq_false, not_false_eq_true, reduceIte, true_and, and_true, kg_lk100, kg_ls100]
  exact hK
theorem kc94 (hL : G.2.2.2.2.2.1 < 2 ^ 31) (hd : 2 ≤ d) (hu : ∀ n, n < 4 → kg_01 (r (7 + n))) (hK : K (some (.int (nI (kf_up4 r)))) (kg_w0 h) (kg_row M 125 r)) : kg_call G d 129 94 [.ref 124] (kg_w0 h) (kg_row M 125 r) K := by
  obtain ⟨d, rfl⟩ : ∃ e, d = e + 1 := ⟨d - 1, by omega⟩
  refine kg_m94 (by simp) (Nat.le_refl _) (kg_v94 hL (by omega) 60 ?_)
  have e : ∀ n, n < 4 → r (7 + n) = nI (if (!decide (r (7 + n) = nI 0)) = true then 1 else 0) := by
    intro n hn
    rcases hu n hn with e | e
    · rw [e]; rfl
    · rw [e]; rfl
  have e0 := e 0 (by omega)
  have e1 := e 1 (by omega)
  have e2 := e 2 (by omega)
  have e3 := e 3 (by omega)
  have s : r 7 + r 8 + r 9 + r 10 = nI (kf_up4 r) := by
    simp only [kf_up4, kf_ct, Nat.zero_add, ← nI_add]
    exact congr (congrArg HAdd.hAdd (congr (congrArg HAdd.hAdd (congr (congrArg HAdd.hAdd e0) e1)) e2)) e3
  simp (disch := omega) only [kg_S1, kg_S2, kg_br_T, kg_br_F, kg_br_N, kg_br_t, kg_br_f, kg_at_n, nI_add, pk_mul, kg_sub_n, kg_rem_n, kg_eq_n, kg_lt_n, kg_le_n, kg_nz, kg_01_0, kg_01_1, kg_w0_1, kg_ret0, kg_ret1, kg_ret2, kg_wr_n, kg_Skd, kg_Smc, kg_Sob, kg_Srf, kg_Sld, kg_pad, List.map_cons, List.map_nil, List.length_cons, List.length_nil, List.replicate, List.cons_append, List.nil_append, List.append_nil, Nat.reduceAdd, Nat.reduceSub, Nat.reduceMul, Nat.reduceMod, Nat.reduceDiv, Nat.reduceLT, Nat.reduceLeDiff, Nat.reduceEqDiff, ne_eq, not_true_eq_false, not_false_eq_true, reduceIte, true_and, and_true, kw_n, kw_s, kw_w, kw_o, kw_ws, kw_wn, ku_s, ku_n, kg_lk94, kg_ls94]
  rw [s]
  exact hK
theorem kc112 (hL : G.2.2.2.2.2.1 < 2 ^ 31) {n k : Nat} (hd : 3 ≤ d) (hn : n < 4) (hk : k < 8) (hK : K (some (.int (kf_b (kf_rp r n k)))) (kg_w0 h) (kg_row M 125 r)) : kg_call G d 129 112 [.ref 124, .int (nI n), .int (nI k)] (kg_w0 h) (kg_row M 125 r) K := by
  obtain ⟨d, rfl⟩ : ∃ e, d = e + 1 := ⟨d - 1, by omega⟩
  refine kg_m112 (by simp) (Nat.le_refl _) (kg_v112 hL (by omega) 60 ?_)
  have hK' := hK
  unfold kf_rp kf_gr kf_t kf_w at hK'
  rw [if_pos hn] at hK'
  simp (disch := omega) only [kg_S1, kg_S2, kg_br_T, kg_br_F, kg_br_N, kg_br_t, kg_br_f, kg_at_n, nI_add, pk_mul, kg_sub_n, kg_rem_n, kg_eq_n, kg_lt_n, kg_le_n, kg_nz, kg_01_0, kg_01_1, kg_w0_1, kg_ret0, kg_ret1, kg_ret2, kg_wr_n, kg_Skd, kg_Smc, kg_Sob, kg_Srf, kg_Sld, kg_pad, List.map_cons, List.map_nil, List.length_cons, List.length_nil, List.replicate, List.cons_append, List.nil_append, List.append_nil, Nat.reduceAdd, Nat.reduceSub, Nat.reduceMul, Nat.reduceMod, Nat.reduceDiv, Nat.reduceLT, Nat.reduceLeDiff, Nat.reduceEqDiff, ne_eq, not_true_eq_false, not_false_eq_true, reduceIte, true_and, and_true, kw_n, kw_s, kw_w, kw_o, kw_ws, kw_wn, ku_s, ku_n, kg_lk112, kg_ls112]
  refine kc100 hL (by omega) hn hk (by omega) ?_
  simp (disch := omega) only [kg_S1, kg_S2, kg_br_T, kg_br_F, kg_br_N, kg_br_t, kg_br_f, kg_at_n, nI_add, pk_mul, kg_sub_n, kg_rem_n, kg_eq_n, kg_lt_n, kg_le_n, kg_nz, kg_01_0, kg_01_1, kg_w0_1, kg_ret0, kg_ret1, kg_ret2, kg_wr_n, kg_Skd, kg_Smc, kg_Sob, kg_Srf, kg_Sld, kg_pad, List.map_cons, List.map_nil, List.length_cons, List.length_nil, List.replicate, List.cons_append, List.nil_append, List.append_nil, Nat.reduceAdd, Nat.reduceSub, Nat.reduceMul, Nat.reduceMod, Nat.reduceDiv, Nat.reduceLT, Nat.reduceLeDiff, Nat.reduceEqDiff, ne_eq, not_true_eq_false, not_false_eq_true, reduceIte, true_and, and_true, kw_n, kw_s, kw_w, kw_o, kw_ws, kw_wn, ku_s, ku_n, kg_lk112, kg_ls112, Nat.add_zero]
  refine kg_br_i (fun q1 => ?_) (fun q1 => ?_)
  · refine kc100 hL (by omega) hn hk (by omega) ?_
    simp (disch := omega) only [kg_S1, kg_S2, kg_br_T, kg_br_F, kg_br_N, kg_br_t, kg_br_f, kg_at_n, nI_add, pk_mul, kg_sub_n, kg_rem_n, kg_eq_n, kg_lt_n, kg_le_n, kg_nz, kg_01_0, kg_01_1, kg_w0_1, kg_ret0, kg_ret1, kg_ret2, kg_wr_n, kg_Skd, kg_Smc, kg_Sob, kg_Srf, kg_Sld, kg_pad, List.map_cons, List.map_nil, List.length_cons, List.length_nil, List.replicate, List.cons_append, List.nil_append, List.append_nil, Nat.reduceAdd, Nat.reduceSub, Nat.reduceMul, Nat.reduceMod, Nat.reduceDiv, Nat.reduceLT, Nat.reduceLeDiff, Nat.reduceEqDiff, ne_eq, not_true_eq_false, not_false_eq_true, reduceIte, true_and, and_true, kw_n, kw_s, kw_w, kw_o, kw_ws, kw_wn, ku_s, ku_n, kg_lk112, kg_ls112]
    refine kg_br_i (fun q2 => ?_) (fun q2 => ?_)
    · rw [decide_eq_false (Int32.not_le.mpr q2), Bool.and_false] at hK'
      exact hK'
    · rw [decide_eq_true q1, decide_eq_true (Int32.not_lt.mp q2)] at hK'
      exact hK'
  · rw [decide_eq_false q1, Bool.false_and] at hK'
    exact hK'
theorem kc104 (hL : G.2.2.2.2.2.1 < 2 ^ 31) {n k : Nat} (hd : 3 ≤ d) (hn : n < 4) (hk : k < 8) (hK : K (some (.int (kf_b (kf_hn r n k)))) (kg_w0 h) (kg_row M 125 r)) : kg_call G d 129 104 [.ref 124, .int (nI n), .int (nI k)] (kg_w0 h) (kg_row M 125 r) K := by
  obtain ⟨d, rfl⟩ : ∃ e, d = e + 1 := ⟨d - 1, by omega⟩
  refine kg_m104 (by simp) (Nat.le_refl _) (kg_v104 hL (by omega) 60 ?_)
  have hK' := hK
  unfold kf_hn kf_w at hK'
  rw [if_pos hn, if_neg (by omega)] at hK'
  simp (disch := omega) only [kg_S1, kg_S2, kg_br_T, kg_br_F, kg_br_N, kg_br_t, kg_br_f, kg_at_n, nI_add, pk_mul, kg_sub_n, kg_rem_n, kg_eq_n, kg_lt_n, kg_le_n, kg_nz, kg_01_0, kg_01_1, kg_w0_1, kg_ret0, kg_ret1, kg_ret2, kg_wr_n, kg_Skd, kg_Smc, kg_Sob, kg_Srf, kg_Sld, kg_pad, List.map_cons, List.map_nil, List.length_cons, List.length_nil, List.replicate, List.cons_append, List.nil_append, List.append_nil, Nat.reduceAdd, Nat.reduceSub, Nat.reduceMul, Nat.reduceMod, Nat.reduceDiv, Nat.reduceLT, Nat.reduceLeDiff, Nat.reduceEqDiff, ne_eq, not_true_eq_false, not_false_eq_true, reduceIte, true_and, and_true, kw_n, kw_s, kw_w, kw_o, kw_ws, kw_wn, ku_s, ku_n, kg_lk104, kg_ls104]
  refine kc100 hL (by omega) hn hk (by omega) ?_
  simp (disch := omega) only [kg_S1, kg_S2, kg_br_T, kg_br_F, kg_br_N, kg_br_t, kg_br_f, kg_at_n, nI_add, pk_mul, kg_sub_n, kg_rem_n, kg_eq_n, kg_lt_n, kg_le_n, kg_nz, kg_01_0, kg_01_1, kg_w0_1, kg_ret0, kg_ret1, kg_ret2, kg_wr_n, kg_Skd, kg_Smc, kg_Sob, kg_Srf, kg_Sld, kg_pad, List.map_cons, List.map_nil, List.length_cons, List.length_nil, List.replicate, List.cons_append, List.nil_append, List.append_nil, Nat.reduceAdd, Nat.reduceSub, Nat.reduceMul, Nat.reduceMod, Nat.reduceDiv, Nat.reduceLT, Nat.reduceLeDiff, Nat.reduceEqDiff, ne_eq, not_true_eq_false, not_false_eq_true, reduceIte, true_and, and_true, kw_n, kw_s, kw_w, kw_o, kw_ws, kw_wn, ku_s, ku_n, kg_lk104, kg_ls104, Nat.add_zero]
  refine kg_br_i (fun q1 => ?_) (fun q1 => ?_)
  · refine kc98 hL (by omega) hk (by omega) ?_
    simp (disch := omega) only [kg_S1, kg_S2, kg_br_T, kg_br_F, kg_br_N, kg_br_t, kg_br_f, kg_at_n, nI_add, pk_mul, kg_sub_n, kg_rem_n, kg_eq_n, kg_lt_n, kg_le_n, kg_nz, kg_01_0, kg_01_1, kg_w0_1, kg_ret0, kg_ret1, kg_ret2, kg_wr_n, kg_Skd, kg_Smc, kg_Sob, kg_Srf, kg_Sld, kg_pad, List.map_cons, List.map_nil, List.length_cons, List.length_nil, List.replicate, List.cons_append, List.nil_append, List.append_nil, Nat.reduceAdd, Nat.reduceSub, Nat.reduceMul, Nat.reduceMod, Nat.reduceDiv, Nat.reduceLT, Nat.reduceLeDiff, Nat.reduceEqDiff, ne_eq, not_true_eq_false, not_false_eq_true, reduceIte, true_and, and_true, kw_n, kw_s, kw_w, kw_o, kw_ws, kw_wn, ku_s, ku_n, kg_lk104, kg_ls104, Nat.add_zero]
    refine kg_br_i (fun q2 => ?_) (fun q2 => ?_)
    · rw [decide_eq_true q1, decide_eq_true q2] at hK'
      exact hK'
    · rw [decide_eq_false q2, Bool.and_false] at hK'
      exact hK'
  · rw [decide_eq_false q1, Bool.false_and] at hK'
    exact hK'
end
