/-! READS with two loops -/
def kf_fo (f : Nat → Int32 → Int32) : Nat → Int32 → Int32
  | 0, y => y
  | n + 1, y => f n (kf_fo f n y)
def kf_g1 (r : Nat → Int32) (n k : Nat) (y : Int32) : Int32 := if kf_op r n k = true then (if y < r 0 - kf_t r n k + nI 1 then r 0 - kf_t r n k + nI 1 else y) else y
def kf_gn (r : Nat → Int32) (n : Nat) : Int32 := kf_fo (fun n y => kf_fo (kf_g1 r n) 8 y) n (nI 1)
def kf_sl (r : Nat → Int32) (a b f : Nat) : Nat := if r (11 + 4 * a + b) < r (11 + f) then 4 * a + b else f
def kf_si (r : Nat → Int32) (a : Nat) : Nat → Nat → Nat
  | 0, f => f
  | j + 1, f => kf_sl r a (a + 1 + j) (kf_si r a j f)
def kf_so (r : Nat → Int32) : Nat → Nat
  | 0 => 1
  | n + 1 => kf_si r n (3 - n) (kf_so r n)
def kf_on (r : Nat → Int32) (n k : Nat) : Bool := kf_op r n k && kf_lo r n k
theorem kf_lmlt {x y : Int32} (hx : x = kg_n 5 ∨ ∃ z : Nat, z ≤ 99999 ∧ x = nI z) (hy : y = kg_n 5 ∨ ∃ z : Nat, z ≤ 99999 ∧ y = nI z) : (kf_lm x < kf_lm y) = (x < y) := by
  have e5 : kf_lm (kg_n 5) = kg_n 1 := rfl
  have t1 : (kg_n 1).toInt = -1 := by decide
  have t5 : (kg_n 5).toInt = -5 := by decide
  have en : ∀ z : Nat, z ≤ 99999 → kf_lm (nI z) = nI z := by
    intro z hz
    unfold kf_lm
    rw [if_neg]
    rw [kf_ne (by omega) (by omega) (by omega)]
    exact id
  rcases hx with rfl | ⟨a, ha, rfl⟩ <;> rcases hy with rfl | ⟨b, hb, rfl⟩
  · simp
  · rw [e5, en b hb]; simp only [Int32.lt_iff_toInt_lt, t1, t5]; rw [nI_toInt (by omega)]; exact propext ⟨fun _ => by omega, fun _ => by omega⟩
  · rw [e5, en a ha]; simp only [Int32.lt_iff_toInt_lt, t1, t5]; rw [nI_toInt (by omega)]; exact propext ⟨fun _ => by omega, fun _ => by omega⟩
  · rw [en a ha, en b hb]
section
variable {G : kg_G} {d c : Nat} {h : Nat → Nat} {r : Nat → Int32} {M : kg_M} {K : kg_Qt}
theorem kf_la {a b : Nat} (hR : kf_Rel c M 1 r) (ha : a < 4) (hb : b < 4) : r (11 + 4 * a + b) = kg_n 5 ∨ ∃ z : Nat, z ≤ 99999 ∧ r (11 + 4 * a + b) = nI z := (hR.2.2.2.2.2.2.2.2.2.2.2.2.2.2.2.2 a b ha hb).2
theorem kc54_i (hL : G.2.2.2.2.2.1 < 2 ^ 31) (hR : kf_Rel c M 1 r) {n : Nat} (hn : n < 4) (hd : 5 ≤ d) (ho : kg_P G d 54 4 125 125 K 4 [some (.ref 1), some (.int (nI (kf_sm (fun n => kf_ct (kf_on r n) 8) (n + 1)))), some (.int (nI (n + 1))), some (.int (nI 8))] [] (kg_w0 h) M) : ∀ m i : Nat, i + m = 8 → kg_P G d 54 4 125 125 K 11 [some (.ref 1), some (.int (nI (kf_sm (fun n => kf_ct (kf_on r n) 8) n + kf_ct (kf_on r n) i))), some (.int (nI n)), some (.int (nI i))] [] (kg_w0 h) M := by
  intro m
  induction m with
  | zero =>
    intro i hi
    obtain rfl : i = 8 := by omega
    refine kg_v54 hL (by omega) 30 ?_
    simp (disch := omega) only [kg_S1, kg_S2, kg_br_T, kg_br_F, kg_br_N, kg_br_t, kg_br_f, kg_at_n, nI_add, pk_mul, kg_sub_n, kg_rem_n, kg_eq_n, kg_lt_n, kg_le_n, kg_nz, kg_01_0, kg_01_1, kg_w0_1, kg_ret0, kg_ret1, kg_ret2, kg_wr_n, kg_wr_s, kg_Skd, kg_Smc, kg_Sob, kg_Srf, kg_Sld, kg_pad, List.map_cons, List.map_nil, List.length_cons, List.length_nil, List.replicate, List.cons_append, List.nil_append, List.append_nil, Nat.reduceAdd, Nat.reduceSub, Nat.reduceMul, Nat.reduceMod, Nat.reduceDiv, Nat.reduceLT, Nat.reduceLeDiff, Nat.reduceEqDiff, ne_eq, not_true_eq_false, not_false_eq_true, reduceIte, true_and, and_true, kg_lk54, kg_ls54]
    exact ho
  | succ m ih =>
    intro i hi
    refine kg_v54 hL (by omega) 30 ?_
    simp (disch := omega) only [kg_S1, kg_S2, kg_br_T, kg_br_F, kg_br_N, kg_br_t, kg_br_f, kg_at_n, nI_add, pk_mul, kg_sub_n, kg_rem_n, kg_eq_n, kg_lt_n, kg_le_n, kg_nz, kg_01_0, kg_01_1, kg_w0_1, kg_ret0, kg_ret1, kg_ret2, kg_wr_n, kg_wr_s, kg_Skd, kg_Smc, kg_Sob, kg_Srf, kg_Sld, kg_pad, List.map_cons, List.map_nil, List.length_cons, List.length_nil, List.replicate, List.cons_append, List.nil_append, List.append_nil, Nat.reduceAdd, Nat.reduceSub, Nat.reduceMul, Nat.reduceMod, Nat.reduceDiv, Nat.reduceLT, Nat.reduceLeDiff, Nat.reduceEqDiff, ne_eq, not_true_eq_false, not_false_eq_true, reduceIte, true_and, and_true, kg_lk54, kg_ls54]
    refine kc51 hL hR (by omega) (by omega) (by omega) ?_
    simp (disch := omega) only [kg_S1, kg_S2, kg_br_T, kg_br_F, kg_br_N, kg_br_t, kg_br_f, kg_at_n, nI_add, pk_mul, kg_sub_n, kg_rem_n, kg_eq_n, kg_lt_n, kg_le_n, kg_nz, kg_01_0, kg_01_1, kg_w0_1, kg_ret0, kg_ret1, kg_ret2, kg_wr_n, kg_wr_s, kg_Skd, kg_Smc, kg_Sob, kg_Srf, kg_Sld, kg_pad, List.map_cons, List.map_nil, List.length_cons, List.length_nil, List.replicate, List.cons_append, List.nil_append, List.append_nil, Nat.reduceAdd, Nat.reduceSub, Nat.reduceMul, Nat.reduceMod, Nat.reduceDiv, Nat.reduceLT, Nat.reduceLeDiff, Nat.reduceEqDiff, ne_eq, not_true_eq_false, not_false_eq_true, reduceIte, true_and, and_true, kg_lk54, kg_ls54, kf_b0]
    have h1 := ih (i + 1) (by omega)
    refine kg_br_i (fun q => ?_) (fun q => ?_)
    · refine kc55 hL hR (by omega) (by omega) (by omega) ?_
      simp (disch := omega) only [kg_S1, kg_S2, kg_br_T, kg_br_F, kg_br_N, kg_br_t, kg_br_f, kg_at_n, nI_add, pk_mul, kg_sub_n, kg_rem_n, kg_eq_n, kg_lt_n, kg_le_n, kg_nz, kg_01_0, kg_01_1, kg_w0_1, kg_ret0, kg_ret1, kg_ret2, kg_wr_n, kg_wr_s, kg_Skd, kg_Smc, kg_Sob, kg_Srf, kg_Sld, kg_pad, List.map_cons, List.map_nil, List.length_cons, List.length_nil, List.replicate, List.cons_append, List.nil_append, List.append_nil, Nat.reduceAdd, Nat.reduceSub, Nat.reduceMul, Nat.reduceMod, Nat.reduceDiv, Nat.reduceLT, Nat.reduceLeDiff, Nat.reduceEqDiff, ne_eq, not_true_eq_false, not_false_eq_true, reduceIte, true_and, and_true, kg_lk54, kg_ls54, kf_b0]
      refine kg_br_i (fun q2 => ?_) (fun q2 => ?_)
      · rw [kf_ct_f (by simp [kf_on, q] at q2 ⊢; exact q2)] at h1
        exact h1
      · rw [kf_ct_t (by simp [kf_on, q] at q2 ⊢; exact q2)] at h1
        exact h1
    · rw [kf_ct_f (by simp [kf_on, q])] at h1
      exact h1
theorem kc54_o (hL : G.2.2.2.2.2.1 < 2 ^ 31) (hR : kf_Rel c M 1 r) (hd : 5 ≤ d) (hK : K (some (.int (nI (kf_sm (fun n => kf_ct (kf_on r n) 8) 4)))) (kg_w0 h) M) : ∀ (m n : Nat) (x : Option Value), n + m = 4 → kg_P G d 54 4 125 125 K 4 [some (.ref 1), some (.int (nI (kf_sm (fun n => kf_ct (kf_on r n) 8) n))), some (.int (nI n)), x] [] (kg_w0 h) M := by
  intro m
  induction m with
  | zero =>
    intro n x hi
    obtain rfl : n = 4 := by omega
    refine kg_v54 hL (by omega) 30 ?_
    simp (disch := omega) only [kg_S1, kg_S2, kg_br_T, kg_br_F, kg_br_N, kg_br_t, kg_br_f, kg_at_n, nI_add, pk_mul, kg_sub_n, kg_rem_n, kg_eq_n, kg_lt_n, kg_le_n, kg_nz, kg_01_0, kg_01_1, kg_w0_1, kg_ret0, kg_ret1, kg_ret2, kg_wr_n, kg_wr_s, kg_Skd, kg_Smc, kg_Sob, kg_Srf, kg_Sld, kg_pad, List.map_cons, List.map_nil, List.length_cons, List.length_nil, List.replicate, List.cons_append, List.nil_append, List.append_nil, Nat.reduceAdd, Nat.reduceSub, Nat.reduceMul, Nat.reduceMod, Nat.reduceDiv, Nat.reduceLT, Nat.reduceLeDiff, Nat.reduceEqDiff, ne_eq, not_true_eq_false, not_false_eq_true, reduceIte, true_and, and_true, kg_lk54, kg_ls54]
    exact hK
  | succ m ih =>
    intro n x hi
    refine kg_v54 hL (by omega) 30 ?_
    simp (disch := omega) only [kg_S1, kg_S2, kg_br_T, kg_br_F, kg_br_N, kg_br_t, kg_br_f, kg_at_n, nI_add, pk_mul, kg_sub_n, kg_rem_n, kg_eq_n, kg_lt_n, kg_le_n, kg_nz, kg_01_0, kg_01_1, kg_w0_1, kg_ret0, kg_ret1, kg_ret2, kg_wr_n, kg_wr_s, kg_Skd, kg_Smc, kg_Sob, kg_Srf, kg_Sld, kg_pad, List.map_cons, List.map_nil, List.length_cons, List.length_nil, List.replicate, List.cons_append, List.nil_append, List.append_nil, Nat.reduceAdd, Nat.reduceSub, Nat.reduceMul, Nat.reduceMod, Nat.reduceDiv, Nat.reduceLT, Nat.reduceLeDiff, Nat.reduceEqDiff, ne_eq, not_true_eq_false, not_false_eq_true, reduceIte, true_and, and_true, kg_lk54, kg_ls54]
    exact kc54_i hL hR (by omega) (by omega) (ih (n + 1) _ (by omega)) 8 0 rfl
theorem kc54 (hL : G.2.2.2.2.2.1 < 2 ^ 31) (hR : kf_Rel c M 1 r) (hd : 6 ≤ d) (hK : K (some (.int (nI (kf_sm (fun n => kf_ct (kf_on r n) 8) 4)))) (kg_w0 h) M) : kg_call G d 125 54 [.ref 1] (kg_w0 h) M K := by
  obtain ⟨d, rfl⟩ : ∃ e, d = e + 1 := ⟨d - 1, by omega⟩
  refine kg_m54 (by simp) (Nat.le_refl _) (kg_v54 hL (by omega) 30 ?_)
  simp (disch := omega) only [kg_S1, kg_S2, kg_br_T, kg_br_F, kg_br_N, kg_br_t, kg_br_f, kg_at_n, nI_add, pk_mul, kg_sub_n, kg_rem_n, kg_eq_n, kg_lt_n, kg_le_n, kg_nz, kg_01_0, kg_01_1, kg_w0_1, kg_ret0, kg_ret1, kg_ret2, kg_wr_n, kg_wr_s, kg_Skd, kg_Smc, kg_Sob, kg_Srf, kg_Sld, kg_pad, List.map_cons, List.map_nil, List.length_cons, List.length_nil, List.replicate, List.cons_append, List.nil_append, List.append_nil, Nat.reduceAdd, Nat.reduceSub, Nat.reduceMul, Nat.reduceMod, Nat.reduceDiv, Nat.reduceLT, Nat.reduceLeDiff, Nat.reduceEqDiff, ne_eq, not_true_eq_false, not_false_eq_true, reduceIte, true_and, and_true, kg_lk54, kg_ls54]
  exact kc54_o hL hR (by omega) hK 4 0 _ rfl
theorem kc50_i (hL : G.2.2.2.2.2.1 < 2 ^ 31) (hR : kf_Rel c M 1 r) {n : Nat} (hn : n < 4) (hd : 5 ≤ d) (ho : kg_P G d 50 4 125 125 K 4 [some (.ref 1), some (.int (kf_gn r (n + 1))), some (.int (nI (n + 1))), some (.int (nI 8))] [] (kg_w0 h) M) : ∀ m i : Nat, i + m = 8 → kg_P G d 50 4 125 125 K 11 [some (.ref 1), some (.int (kf_fo (kf_g1 r n) i (kf_gn r n))), some (.int (nI n)), some (.int (nI i))] [] (kg_w0 h) M := by
  intro m
  induction m with
  | zero =>
    intro i hi
    obtain rfl : i = 8 := by omega
    refine kg_v50 hL (by omega) 30 ?_
    simp (disch := omega) only [kg_S1, kg_S2, kg_br_T, kg_br_F, kg_br_N, kg_br_t, kg_br_f, kg_at_n, nI_add, pk_mul, kg_sub_n, kg_rem_n, kg_eq_n, kg_lt_n, kg_le_n, kg_nz, kg_01_0, kg_01_1, kg_w0_1, kg_ret0, kg_ret1, kg_ret2, kg_wr_n, kg_wr_s, kg_Skd, kg_Smc, kg_Sob, kg_Srf, kg_Sld, kg_pad, List.map_cons, List.map_nil, List.length_cons, List.length_nil, List.replicate, List.cons_append, List.nil_append, List.append_nil, Nat.reduceAdd, Nat.reduceSub, Nat.reduceMul, Nat.reduceMod, Nat.reduceDiv, Nat.reduceLT, Nat.reduceLeDiff, Nat.reduceEqDiff, ne_eq, not_true_eq_false, not_false_eq_true, reduceIte, true_and, and_true, kg_lk50, kg_ls50]
    exact ho
  | succ m ih =>
    intro i hi
    refine kg_v50 hL (by omega) 30 ?_
    simp (disch := omega) only [kg_S1, kg_S2, kg_br_T, kg_br_F, kg_br_N, kg_br_t, kg_br_f, kg_at_n, nI_add, pk_mul, kg_sub_n, kg_rem_n, kg_eq_n, kg_lt_n, kg_le_n, kg_nz, kg_01_0, kg_01_1, kg_w0_1, kg_ret0, kg_ret1, kg_ret2, kg_wr_n, kg_wr_s, kg_Skd, kg_Smc, kg_Sob, kg_Srf, kg_Sld, kg_pad, List.map_cons, List.map_nil, List.length_cons, List.length_nil, List.replicate, List.cons_append, List.nil_append, List.append_nil, Nat.reduceAdd, Nat.reduceSub, Nat.reduceMul, Nat.reduceMod, Nat.reduceDiv, Nat.reduceLT, Nat.reduceLeDiff, Nat.reduceEqDiff, ne_eq, not_true_eq_false, not_false_eq_true, reduceIte, true_and, and_true, kg_lk50, kg_ls50]
    refine kc51 hL hR (by omega) (by omega) (by omega) ?_
    simp (disch := omega) only [kg_S1, kg_S2, kg_br_T, kg_br_F, kg_br_N, kg_br_t, kg_br_f, kg_at_n, nI_add, pk_mul, kg_sub_n, kg_rem_n, kg_eq_n, kg_lt_n, kg_le_n, kg_nz, kg_01_0, kg_01_1, kg_w0_1, kg_ret0, kg_ret1, kg_ret2, kg_wr_n, kg_wr_s, kg_Skd, kg_Smc, kg_Sob, kg_Srf, kg_Sld, kg_pad, List.map_cons, List.map_nil, List.length_cons, List.length_nil, List.replicate, List.cons_append, List.nil_append, List.append_nil, Nat.reduceAdd, Nat.reduceSub, Nat.reduceMul, Nat.reduceMod, Nat.reduceDiv, Nat.reduceLT, Nat.reduceLeDiff, Nat.reduceEqDiff, ne_eq, not_true_eq_false, not_false_eq_true, reduceIte, true_and, and_true, kg_lk50, kg_ls50, kf_b0]
    have h1 := ih (i + 1) (by omega)
    refine kg_br_i (fun q => ?_) (fun q => ?_)
    · refine kc39 hL hR (by omega) (by omega) (by omega) (kf_gr_w (by simp only [kf_op, Bool.and_eq_true] at q; exact q.1)) ?_
      simp (disch := omega) only [kg_S1, kg_S2, kg_br_T, kg_br_F, kg_br_N, kg_br_t, kg_br_f, kg_at_n, nI_add, pk_mul, kg_sub_n, kg_rem_n, kg_eq_n, kg_lt_n, kg_le_n, kg_nz, kg_01_0, kg_01_1, kg_w0_1, kg_ret0, kg_ret1, kg_ret2, kg_wr_n, kg_wr_s, kg_Skd, kg_Smc, kg_Sob, kg_Srf, kg_Sld, kg_pad, List.map_cons, List.map_nil, List.length_cons, List.length_nil, List.replicate, List.cons_append, List.nil_append, List.append_nil, Nat.reduceAdd, Nat.reduceSub, Nat.reduceMul, Nat.reduceMod, Nat.reduceDiv, Nat.reduceLT, Nat.reduceLeDiff, Nat.reduceEqDiff, ne_eq, not_true_eq_false, not_false_eq_true, reduceIte, true_and, and_true, kg_lk50, kg_ls50]
      rw [kf_fo, kf_g1, if_pos q] at h1
      exact h1
    · rw [kf_fo, kf_g1, if_neg q] at h1
      exact h1
theorem kc50_o (hL : G.2.2.2.2.2.1 < 2 ^ 31) (hR : kf_Rel c M 1 r) (hd : 5 ≤ d) (hK : K (some (.int (kf_gn r 4))) (kg_w0 h) M) : ∀ (m n : Nat) (x : Option Value), n + m = 4 → kg_P G d 50 4 125 125 K 4 [some (.ref 1), some (.int (kf_gn r n)), some (.int (nI n)), x] [] (kg_w0 h) M := by
  intro m
  induction m with
  | zero =>
    intro n x hi
    obtain rfl : n = 4 := by omega
    refine kg_v50 hL (by omega) 30 ?_
    simp (disch := omega) only [kg_S1, kg_S2, kg_br_T, kg_br_F, kg_br_N, kg_br_t, kg_br_f, kg_at_n, nI_add, pk_mul, kg_sub_n, kg_rem_n, kg_eq_n, kg_lt_n, kg_le_n, kg_nz, kg_01_0, kg_01_1, kg_w0_1, kg_ret0, kg_ret1, kg_ret2, kg_wr_n, kg_wr_s, kg_Skd, kg_Smc, kg_Sob, kg_Srf, kg_Sld, kg_pad, List.map_cons, List.map_nil, List.length_cons, List.length_nil, List.replicate, List.cons_append, List.nil_append, List.append_nil, Nat.reduceAdd, Nat.reduceSub, Nat.reduceMul, Nat.reduceMod, Nat.reduceDiv, Nat.reduceLT, Nat.reduceLeDiff, Nat.reduceEqDiff, ne_eq, not_true_eq_false, not_false_eq_true, reduceIte, true_and, and_true, kg_lk50, kg_ls50]
    exact hK
  | succ m ih =>
    intro n x hi
    refine kg_v50 hL (by omega) 30 ?_
    simp (disch := omega) only [kg_S1, kg_S2, kg_br_T, kg_br_F, kg_br_N, kg_br_t, kg_br_f, kg_at_n, nI_add, pk_mul, kg_sub_n, kg_rem_n, kg_eq_n, kg_lt_n, kg_le_n, kg_nz, kg_01_0, kg_01_1, kg_w0_1, kg_ret0, kg_ret1, kg_ret2, kg_wr_n, kg_wr_s, kg_Skd, kg_Smc, kg_Sob, kg_Srf, kg_Sld, kg_pad, List.map_cons, List.map_nil, List.length_cons, List.length_nil, List.replicate, List.cons_append, List.nil_append, List.append_nil, Nat.reduceAdd, Nat.reduceSub, Nat.reduceMul, Nat.reduceMod, Nat.reduceDiv, Nat.reduceLT, Nat.reduceLeDiff, Nat.reduceEqDiff, ne_eq, not_true_eq_false, not_false_eq_true, reduceIte, true_and, and_true, kg_lk50, kg_ls50]
    exact kc50_i hL hR (by omega) (by omega) (ih (n + 1) _ (by omega)) 8 0 rfl
theorem kc50 (hL : G.2.2.2.2.2.1 < 2 ^ 31) (hR : kf_Rel c M 1 r) (hd : 6 ≤ d) (hK : K (some (.int (kf_gn r 4))) (kg_w0 h) M) : kg_call G d 125 50 [.ref 1] (kg_w0 h) M K := by
  obtain ⟨d, rfl⟩ : ∃ e, d = e + 1 := ⟨d - 1, by omega⟩
  refine kg_m50 (by simp) (Nat.le_refl _) (kg_v50 hL (by omega) 30 ?_)
  simp (disch := omega) only [kg_S1, kg_S2, kg_br_T, kg_br_F, kg_br_N, kg_br_t, kg_br_f, kg_at_n, nI_add, pk_mul, kg_sub_n, kg_rem_n, kg_eq_n, kg_lt_n, kg_le_n, kg_nz, kg_01_0, kg_01_1, kg_w0_1, kg_ret0, kg_ret1, kg_ret2, kg_wr_n, kg_wr_s, kg_Skd, kg_Smc, kg_Sob, kg_Srf, kg_Sld, kg_pad, List.map_cons, List.map_nil, List.length_cons, List.length_nil, List.replicate, List.cons_append, List.nil_append, List.append_nil, Nat.reduceAdd, Nat.reduceSub, Nat.reduceMul, Nat.reduceMod, Nat.reduceDiv, Nat.reduceLT, Nat.reduceLeDiff, Nat.reduceEqDiff, ne_eq, not_true_eq_false, not_false_eq_true, reduceIte, true_and, and_true, kg_lk50, kg_ls50]
  exact kc50_o hL hR (by omega) hK 4 0 _ rfl
theorem kc49_i (hL : G.2.2.2.2.2.1 < 2 ^ 31) (hR : kf_Rel c M 1 r) {n f : Nat} (hn : n < 4) (hd : 3 ≤ d) (ho : ∀ (a b : Nat) (x : Option Value), a < b → b < 4 → a * 4 + b = kf_si r n (3 - n) f → kg_P G d 49 6 125 125 K 6 [some (.ref 1), some (.int (nI a)), some (.int (nI b)), some (.int (nI (n + 1))), some (.int (nI 4)), x] [] (kg_w0 h) M) : ∀ (m i a b : Nat) (x : Option Value), n + 1 + i + m = 4 → a < b → b < 4 → a * 4 + b = kf_si r n i f → kg_P G d 49 6 125 125 K 16 [some (.ref 1), some (.int (nI a)), some (.int (nI b)), some (.int (nI n)), some (.int (nI (n + 1 + i))), x] [] (kg_w0 h) M := by
  intro m
  induction m with
  | zero =>
    intro i a b x hi h1 h2 h3
    refine kg_v49 hL (by omega) 30 ?_
    simp (disch := omega) only [kg_S1, kg_S2, kg_br_T, kg_br_F, kg_br_N, kg_br_t, kg_br_f, kg_at_n, nI_add, pk_mul, kg_sub_n, kg_rem_n, kg_eq_n, kg_lt_n, kg_le_n, kg_nz, kg_01_0, kg_01_1, kg_w0_1, kg_ret0, kg_ret1, kg_ret2, kg_wr_n, kg_wr_s, kg_Skd, kg_Smc, kg_Sob, kg_Srf, kg_Sld, kg_pad, List.map_cons, List.map_nil, List.length_cons, List.length_nil, List.replicate, List.cons_append, List.nil_append, List.append_nil, Nat.reduceAdd, Nat.reduceSub, Nat.reduceMul, Nat.reduceMod, Nat.reduceDiv, Nat.reduceLT, Nat.reduceLeDiff, Nat.reduceEqDiff, ne_eq, not_true_eq_false, not_false_eq_true, reduceIte, true_and, and_true, kg_lk49, kg_ls49]
    rw [show n + 1 + i = 4 by omega]
    rw [show i = 3 - n by omega] at h3
    exact ho a b x h1 h2 h3
  | succ m ih =>
    intro i a b x hi h1 h2 h3
    refine kg_v49 hL (by omega) 30 ?_
    simp (disch := omega) only [kg_S1, kg_S2, kg_br_T, kg_br_F, kg_br_N, kg_br_t, kg_br_f, kg_at_n, nI_add, pk_mul, kg_sub_n, kg_rem_n, kg_eq_n, kg_lt_n, kg_le_n, kg_nz, kg_01_0, kg_01_1, kg_w0_1, kg_ret0, kg_ret1, kg_ret2, kg_wr_n, kg_wr_s, kg_Skd, kg_Smc, kg_Sob, kg_Srf, kg_Sld, kg_pad, List.map_cons, List.map_nil, List.length_cons, List.length_nil, List.replicate, List.cons_append, List.nil_append, List.append_nil, Nat.reduceAdd, Nat.reduceSub, Nat.reduceMul, Nat.reduceMod, Nat.reduceDiv, Nat.reduceLT, Nat.reduceLeDiff, Nat.reduceEqDiff, ne_eq, not_true_eq_false, not_false_eq_true, reduceIte, true_and, and_true, kg_lk49, kg_ls49]
    refine kc68 hL (by omega) (by omega) (by omega) ?_
    have hp := kf_pp_lt (show a < 4 by omega) h2
    simp (disch := omega) only [kg_S1, kg_S2, kg_br_T, kg_br_F, kg_br_N, kg_br_t, kg_br_f, kg_at_n, nI_add, pk_mul, kg_sub_n, kg_rem_n, kg_eq_n, kg_lt_n, kg_le_n, kg_nz, kg_01_0, kg_01_1, kg_w0_1, kg_ret0, kg_ret1, kg_ret2, kg_wr_n, kg_wr_s, kg_Skd, kg_Smc, kg_Sob, kg_Srf, kg_Sld, kg_pad, List.map_cons, List.map_nil, List.length_cons, List.length_nil, List.replicate, List.cons_append, List.nil_append, List.append_nil, Nat.reduceAdd, Nat.reduceSub, Nat.reduceMul, Nat.reduceMod, Nat.reduceDiv, Nat.reduceLT, Nat.reduceLeDiff, Nat.reduceEqDiff, ne_eq, not_true_eq_false, not_false_eq_true, reduceIte, true_and, and_true, kg_lk49, kg_ls49]
    refine kc68 hL (by omega) (by omega) (by omega) ?_
    have hp2 := kf_pp_lt hn (show n + 1 + i < 4 by omega)
    simp (disch := omega) only [kg_S1, kg_S2, kg_br_T, kg_br_F, kg_br_N, kg_br_t, kg_br_f, kg_at_n, nI_add, pk_mul, kg_sub_n, kg_rem_n, kg_eq_n, kg_lt_n, kg_le_n, kg_nz, kg_01_0, kg_01_1, kg_w0_1, kg_ret0, kg_ret1, kg_ret2, kg_wr_n, kg_wr_s, kg_Skd, kg_Smc, kg_Sob, kg_Srf, kg_Sld, kg_pad, List.map_cons, List.map_nil, List.length_cons, List.length_nil, List.replicate, List.cons_append, List.nil_append, List.append_nil, Nat.reduceAdd, Nat.reduceSub, Nat.reduceMul, Nat.reduceMod, Nat.reduceDiv, Nat.reduceLT, Nat.reduceLeDiff, Nat.reduceEqDiff, ne_eq, not_true_eq_false, not_false_eq_true, reduceIte, true_and, and_true, kg_lk49, kg_ls49]
    have e3 : r (11 + 4 * a + b) = r (11 + kf_si r n i f) := by rw [← h3]; congr 1; omega
    rw [kf_lr hR (by omega) (by omega) (by omega), kf_lr hR (by omega) (by omega) (by omega), show ∀ x y : Int32, (x ≤ y) = (¬ y < x) from fun x y => propext Int32.not_lt.symm, kg_br_N, kf_lmlt (kf_la hR (by omega) (by omega)) (kf_la hR (by omega) (by omega)), e3]
    refine kg_br_i (fun q => ?_) (fun q => ?_)
    · refine ih (i + 1) n (n + 1 + i) _ (by omega) (by omega) (by omega) ?_
      rw [kf_si, kf_sl, if_pos q]; omega
    · refine ih (i + 1) a b _ (by omega) h1 h2 ?_
      rw [kf_si, kf_sl, if_neg q]; exact h3
theorem kc49_o (hL : G.2.2.2.2.2.1 < 2 ^ 31) (hR : kf_Rel c M 1 r) (hd : 3 ≤ d) (hK : K (some (.int (nI (kf_so r 4)))) (kg_w0 h) M) : ∀ (m n a b : Nat) (x y : Option Value), n + m = 4 → a < b → b < 4 → a * 4 + b = kf_so r n → kg_P G d 49 6 125 125 K 6 [some (.ref 1), some (.int (nI a)), some (.int (nI b)), some (.int (nI n)), x, y] [] (kg_w0 h) M := by
  intro m
  induction m with
  | zero =>
    intro n a b x y hi h1 h2 h3
    obtain rfl : n = 4 := by omega
    refine kg_v49 hL (by omega) 30 ?_
    simp (disch := omega) only [kg_S1, kg_S2, kg_br_T, kg_br_F, kg_br_N, kg_br_t, kg_br_f, kg_at_n, nI_add, pk_mul, kg_sub_n, kg_rem_n, kg_eq_n, kg_lt_n, kg_le_n, kg_nz, kg_01_0, kg_01_1, kg_w0_1, kg_ret0, kg_ret1, kg_ret2, kg_wr_n, kg_wr_s, kg_Skd, kg_Smc, kg_Sob, kg_Srf, kg_Sld, kg_pad, List.map_cons, List.map_nil, List.length_cons, List.length_nil, List.replicate, List.cons_append, List.nil_append, List.append_nil, Nat.reduceAdd, Nat.reduceSub, Nat.reduceMul, Nat.reduceMod, Nat.reduceDiv, Nat.reduceLT, Nat.reduceLeDiff, Nat.reduceEqDiff, ne_eq, not_true_eq_false, not_false_eq_true, reduceIte, true_and, and_true, kg_lk49, kg_ls49]
    rw [h3]
    exact hK
  | succ m ih =>
    intro n a b x y hi h1 h2 h3
    refine kg_v49 hL (by omega) 30 ?_
    simp (disch := omega) only [kg_S1, kg_S2, kg_br_T, kg_br_F, kg_br_N, kg_br_t, kg_br_f, kg_at_n, nI_add, pk_mul, kg_sub_n, kg_rem_n, kg_eq_n, kg_lt_n, kg_le_n, kg_nz, kg_01_0, kg_01_1, kg_w0_1, kg_ret0, kg_ret1, kg_ret2, kg_wr_n, kg_wr_s, kg_Skd, kg_Smc, kg_Sob, kg_Srf, kg_Sld, kg_pad, List.map_cons, List.map_nil, List.length_cons, List.length_nil, List.replicate, List.cons_append, List.nil_append, List.append_nil, Nat.reduceAdd, Nat.reduceSub, Nat.reduceMul, Nat.reduceMod, Nat.reduceDiv, Nat.reduceLT, Nat.reduceLeDiff, Nat.reduceEqDiff, ne_eq, not_true_eq_false, not_false_eq_true, reduceIte, true_and, and_true, kg_lk49, kg_ls49]
    refine kc49_i hL hR (n := n) (f := kf_so r n) (by omega) (by omega) ?_ (3 - n) 0 a b y (by omega) h1 h2 h3
    intro a b x h1 h2 h3
    exact ih (n + 1) a b _ x (by omega) h1 h2 h3
theorem kc49 (hL : G.2.2.2.2.2.1 < 2 ^ 31) (hR : kf_Rel c M 1 r) (hd : 4 ≤ d) (hK : K (some (.int (nI (kf_so r 4)))) (kg_w0 h) M) : kg_call G d 125 49 [.ref 1] (kg_w0 h) M K := by
  obtain ⟨d, rfl⟩ : ∃ e, d = e + 1 := ⟨d - 1, by omega⟩
  refine kg_m49 (by simp) (Nat.le_refl _) (kg_v49 hL (by omega) 30 ?_)
  simp (disch := omega) only [kg_S1, kg_S2, kg_br_T, kg_br_F, kg_br_N, kg_br_t, kg_br_f, kg_at_n, nI_add, pk_mul, kg_sub_n, kg_rem_n, kg_eq_n, kg_lt_n, kg_le_n, kg_nz, kg_01_0, kg_01_1, kg_w0_1, kg_ret0, kg_ret1, kg_ret2, kg_wr_n, kg_wr_s, kg_Skd, kg_Smc, kg_Sob, kg_Srf, kg_Sld, kg_pad, List.map_cons, List.map_nil, List.length_cons, List.length_nil, List.replicate, List.cons_append, List.nil_append, List.append_nil, Nat.reduceAdd, Nat.reduceSub, Nat.reduceMul, Nat.reduceMod, Nat.reduceDiv, Nat.reduceLT, Nat.reduceLeDiff, Nat.reduceEqDiff, ne_eq, not_true_eq_false, not_false_eq_true, reduceIte, true_and, and_true, kg_lk49, kg_ls49]
  exact kc49_o hL hR (by omega) hK 4 0 0 1 _ _ rfl (by omega) (by omega) rfl
theorem kf_up1 {n : Nat} (hR : kf_Rel c M 1 r) (hn : n < 4) : M 3 n = r (7 + n) := hR.2.2.1 n hn
theorem kf_up0 {n : Nat} (hR : kf_Rel c M 1 r) (hn : n < 4) : kg_01 (r (7 + n)) := hR.2.2.2.2.2.2.2.2.2.2.2.2.2.2.1 n hn

theorem kc23_l (hL : G.2.2.2.2.2.1 < 2 ^ 31) (hR : kf_Rel c M 1 r)  (hd : 1 ≤ d) (hK : K (some (.int (nI (kf_ct (fun n => !decide (r (7 + n) = nI 0)) 4)))) (kg_w0 h) M) : ∀ m i : Nat, i + m = 4 → kg_P G d 23 3 125 125 K 4 [some (.ref 1), some (.int (nI (kf_ct (fun n => !decide (r (7 + n) = nI 0)) i))), some (.int (nI i))] [] (kg_w0 h) M := by
  intro m
  induction m with
  | zero =>
    intro i hi
    obtain rfl : i = 4 := by omega
    refine kg_v23 hL (by omega) 30 ?_
    simp (disch := omega) only [kg_S1, kg_S2, kg_br_T, kg_br_F, kg_br_N, kg_br_t, kg_br_f, kg_at_n, nI_add, pk_mul, kg_sub_n, kg_rem_n, kg_eq_n, kg_lt_n, kg_le_n, kg_nz, kg_01_0, kg_01_1, kg_w0_1, kg_ret0, kg_ret1, kg_ret2, kg_wr_n, kg_wr_s, kg_Skd, kg_Smc, kg_Sob, kg_Srf, kg_Sld, kg_pad, List.map_cons, List.map_nil, List.length_cons, List.length_nil, List.replicate, List.cons_append, List.nil_append, List.append_nil, Nat.reduceAdd, Nat.reduceSub, Nat.reduceMul, Nat.reduceMod, Nat.reduceDiv, Nat.reduceLT, Nat.reduceLeDiff, Nat.reduceEqDiff, ne_eq, not_true_eq_false, not_false_eq_true, reduceIte, true_and, and_true, kg_lk23, kg_ls23]
    exact hK
  | succ m ih =>
    intro i hi
    refine kg_v23 hL (by omega) 30 ?_
    simp (disch := omega) only [kg_S1, kg_S2, kg_br_T, kg_br_F, kg_br_N, kg_br_t, kg_br_f, kg_at_n, nI_add, pk_mul, kg_sub_n, kg_rem_n, kg_eq_n, kg_lt_n, kg_le_n, kg_nz, kg_01_0, kg_01_1, kg_w0_1, kg_ret0, kg_ret1, kg_ret2, kg_wr_n, kg_wr_s, kg_Skd, kg_Smc, kg_Sob, kg_Srf, kg_Sld, kg_pad, List.map_cons, List.map_nil, List.length_cons, List.length_nil, List.replicate, List.cons_append, List.nil_append, List.append_nil, Nat.reduceAdd, Nat.reduceSub, Nat.reduceMul, Nat.reduceMod, Nat.reduceDiv, Nat.reduceLT, Nat.reduceLeDiff, Nat.reduceEqDiff, ne_eq, not_true_eq_false, not_false_eq_true, reduceIte, true_and, and_true, kg_lk23, kg_ls23]
    rw [kf_up1 hR (by omega)]
    refine kg_br_i (fun q => ?_) (fun q => ?_)
    · have := ih (i + 1) (by omega)
      rw [kf_ct_f (by simpa using q)] at this
      exact this
    · have := ih (i + 1) (by omega)
      rw [kf_ct_t (by simpa using q)] at this
      exact this
theorem kc23 (hL : G.2.2.2.2.2.1 < 2 ^ 31) (hR : kf_Rel c M 1 r)  (hd : 2 ≤ d) (hK : K (some (.int (nI (kf_ct (fun n => !decide (r (7 + n) = nI 0)) 4)))) (kg_w0 h) M) : kg_call G d 125 23 [.ref 1] (kg_w0 h) M K := by
  obtain ⟨d, rfl⟩ : ∃ e, d = e + 1 := ⟨d - 1, by omega⟩
  refine kg_m23 (by simp) (Nat.le_refl _) (kg_v23 hL (by omega) 30 ?_)
  simp (disch := omega) only [kg_S1, kg_S2, kg_br_T, kg_br_F, kg_br_N, kg_br_t, kg_br_f, kg_at_n, nI_add, pk_mul, kg_sub_n, kg_rem_n, kg_eq_n, kg_lt_n, kg_le_n, kg_nz, kg_01_0, kg_01_1, kg_w0_1, kg_ret0, kg_ret1, kg_ret2, kg_wr_n, kg_wr_s, kg_Skd, kg_Smc, kg_Sob, kg_Srf, kg_Sld, kg_pad, List.map_cons, List.map_nil, List.length_cons, List.length_nil, List.replicate, List.cons_append, List.nil_append, List.append_nil, Nat.reduceAdd, Nat.reduceSub, Nat.reduceMul, Nat.reduceMod, Nat.reduceDiv, Nat.reduceLT, Nat.reduceLeDiff, Nat.reduceEqDiff, ne_eq, not_true_eq_false, not_false_eq_true, reduceIte, true_and, and_true, kg_lk23, kg_ls23]
  exact kc23_l hL hR (by omega) hK 4 0 rfl

end
