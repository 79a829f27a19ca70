/-! the model's reached, differing and repairs -/
def kf_at (l : List Nat) (i : Nat) : Int32 := match l[i]? with
  | some v => nI v
  | none => kg_n 5
theorem kf_rl_p {r : Nat → Int32} {n m i k : Nat} (hi : i < (kf_rl r n m k).length) : ∀ z, (kf_rl r n m (k + z))[i]? = (kf_rl r n m k)[i]? ∧ (kf_rl r n m k).length ≤ (kf_rl r n m (k + z)).length
  | 0 => ⟨rfl, Nat.le_refl _⟩
  | z + 1 => by
    have ih := kf_rl_p hi z
    rw [← Nat.add_assoc, kf_rl]
    split
    · rw [List.getElem?_append_left (by omega), List.length_append]
      exact ⟨ih.1, by omega⟩
    · exact ih
theorem kf_rl_m {r : Nat → Int32} {n m k : Nat} (hm : m ≤ (kf_rl r n m k).length) : ∀ z, kf_rl r n m (k + z) = kf_rl r n m k
  | 0 => rfl
  | z + 1 => by
    have ih := kf_rl_m hm z
    rw [← Nat.add_assoc, kf_rl, ih, if_neg]
    rw [decide_eq_false (by omega), Bool.and_false]
    simp
theorem kf_at_n {l : List Nat} {i : Nat} (h : l.length ≤ i) : kf_at l i = kg_n 5 := by
  rw [kf_at, List.getElem?_eq_none h]
section
variable {G : kg_G} {d c : Nat} {h : Nat → Nat} {M : kg_M} {K : kg_Qt} {r : Nat → Int32}

set_option maxRecDepth 100000 in
theorem kc99_l (hL : G.2.2.2.2.2.1 < 2 ^ 31) {n i m : Nat} (hn : n < 4) (hm : m ≤ 4) (hi : i < 1000) (hu : ∀ n, n < 4 → kg_01 (r (7 + n))) (hd : 2 ≤ d) (hK : K (some (.int (kf_at (kf_rl r n m 4) i))) (kg_w0 h) (kg_row M 125 r)) : ∀ (z k : Nat) (x6 : Option Value), k + z = 4 → (kf_rl r n m k).length ≤ i → kg_P G d 99 7 129 129 K 6 [some (.ref 124), some (.int (nI n)), some (.int (nI i)), some (.int (nI m)), some (.int (nI (kf_rl r n m k).length)), some (.int (nI k)), x6] [] (kg_w0 h) (kg_row M 125 r) := by
  intro z
  induction z with
  | zero =>
    intro k x6 hk hl
    obtain rfl : k = 4 := by omega
    refine kg_v99 hL (by omega) 60 ?_
    simp (disch := omega) only [kg_S1, kg_S2, kg_br_T, kg_br_F, kg_br_N, kg_br_t, kg_br_f, kg_at_n, nI_add, pk_mul, kg_sub_n, kg_rem_n, kg_eq_n, kg_lt_n, kg_le_n, kg_nz, kg_01_0, kg_01_1, kg_w0_1, kg_ret0, kg_ret1, kg_ret2, kg_wr_n, kg_Skd, kg_Smc, kg_Sob, kg_Srf, kg_Sld, kg_pad, List.map_cons, List.map_nil, List.length_cons, List.length_nil, List.replicate, List.cons_append, List.nil_append, List.append_nil, Nat.reduceAdd, Nat.reduceSub, Nat.reduceMul, Nat.reduceMod, Nat.reduceDiv, Nat.reduceLT, Nat.reduceLeDiff, Nat.reduceEqDiff, ne_eq, not_true_eq_false, not_false_eq_true, reduceIte, true_and, and_true, kw_n, kw_s, kw_w, kw_o, kw_ws, kw_wn, ku_s, ku_n, kg_lk99, kg_ls99]
    rw [kf_at_n hl] at hK
    exact hK
  | succ z ih =>
    intro k x6 hk hl
    have hll := kf_rl_len r n m k
    refine kg_v99 hL (by omega) 60 ?_
    by_cases q1 : m ≤ (kf_rl r n m k).length
    · simp (disch := omega) only [kg_S1, kg_S2, kg_br_T, kg_br_F, kg_br_N, kg_br_t, kg_br_f, kg_at_n, nI_add, pk_mul, kg_sub_n, kg_rem_n, kg_eq_n, kg_lt_n, kg_le_n, kg_nz, kg_01_0, kg_01_1, kg_w0_1, kg_ret0, kg_ret1, kg_ret2, kg_wr_n, kg_Skd, kg_Smc, kg_Sob, kg_Srf, kg_Sld, kg_pad, List.map_cons, List.map_nil, List.length_cons, List.length_nil, List.replicate, List.cons_append, List.nil_append, List.append_nil, Nat.reduceAdd, Nat.reduceSub, Nat.reduceMul, Nat.reduceMod, Nat.reduceDiv, Nat.reduceLT, Nat.reduceLeDiff, Nat.reduceEqDiff, ne_eq, not_true_eq_false, not_false_eq_true, reduceIte, true_and, and_true, kw_n, kw_s, kw_w, kw_o, kw_ws, kw_wn, ku_s, ku_n, kg_lk99, kg_ls99]
      have e := kf_rl_m q1 (z + 1)
      rw [hk] at e
      rw [e, kf_at_n hl] at hK
      exact hK
    have h4 : (n + k) % 4 < 4 := Nat.mod_lt _ (by omega)
    have hs : kf_rl r n m (k + 1) = if kf_u r ((n + k) % 4) = true then kf_rl r n m k ++ [(n + k) % 4] else kf_rl r n m k := by
      rw [kf_rl, decide_eq_true (by omega), Bool.and_true]
    have ih' := ih (k + 1)
    rcases hu _ h4 with e | e
    · have eu : kf_u r ((n + k) % 4) = false := by unfold kf_u; rw [e]; rfl
      rw [eu] at hs
      simp only [Bool.false_eq_true, reduceIte] at hs
      rw [hs] at ih'
      simp (disch := omega) only [kg_S1, kg_S2, kg_br_T, kg_br_F, kg_br_N, kg_br_t, kg_br_f, kg_at_n, nI_add, pk_mul, kg_sub_n, kg_rem_n, kg_eq_n, kg_lt_n, kg_le_n, kg_nz, kg_01_0, kg_01_1, kg_w0_1, kg_ret0, kg_ret1, kg_ret2, kg_wr_n, kg_Skd, kg_Smc, kg_Sob, kg_Srf, kg_Sld, kg_pad, List.map_cons, List.map_nil, List.length_cons, List.length_nil, List.replicate, List.cons_append, List.nil_append, List.append_nil, Nat.reduceAdd, Nat.reduceSub, Nat.reduceMul, Nat.reduceMod, Nat.reduceDiv, Nat.reduceLT, Nat.reduceLeDiff, Nat.reduceEqDiff, ne_eq, not_true_eq_false, not_false_eq_true, reduceIte, true_and, and_true, kw_n, kw_s, kw_w, kw_o, kw_ws, kw_wn, ku_s, ku_n, kg_lk99, kg_ls99, e]
      exact ih' _ (by omega) hl
    · have eu : kf_u r ((n + k) % 4) = true := by unfold kf_u; rw [e]; rfl
      rw [eu] at hs
      simp only [reduceIte] at hs
      by_cases q2 : (kf_rl r n m k).length = i
      · simp (disch := omega) only [kg_S1, kg_S2, kg_br_T, kg_br_F, kg_br_N, kg_br_t, kg_br_f, kg_at_n, nI_add, pk_mul, kg_sub_n, kg_rem_n, kg_eq_n, kg_lt_n, kg_le_n, kg_nz, kg_01_0, kg_01_1, kg_w0_1, kg_ret0, kg_ret1, kg_ret2, kg_wr_n, kg_Skd, kg_Smc, kg_Sob, kg_Srf, kg_Sld, kg_pad, List.map_cons, List.map_nil, List.length_cons, List.length_nil, List.replicate, List.cons_append, List.nil_append, List.append_nil, Nat.reduceAdd, Nat.reduceSub, Nat.reduceMul, Nat.reduceMod, Nat.reduceDiv, Nat.reduceLT, Nat.reduceLeDiff, Nat.reduceEqDiff, ne_eq, not_true_eq_false, not_false_eq_true, reduceIte, true_and, and_true, kw_n, kw_s, kw_w, kw_o, kw_ws, kw_wn, ku_s, ku_n, kg_lk99, kg_ls99, e]
        have hlt : i < (kf_rl r n m (k + 1)).length := by rw [hs, List.length_append]; simp; omega
        have p := (kf_rl_p hlt z).1
        rw [show k + 1 + z = 4 by omega, hs, List.getElem?_append_right (by omega)] at p
        unfold kf_at at hK
        rw [p, q2] at hK
        simp only [Nat.sub_self, List.getElem?_cons_zero] at hK
        exact hK
      · rw [hs, List.length_append] at ih'
        simp (disch := omega) only [kg_S1, kg_S2, kg_br_T, kg_br_F, kg_br_N, kg_br_t, kg_br_f, kg_at_n, nI_add, pk_mul, kg_sub_n, kg_rem_n, kg_eq_n, kg_lt_n, kg_le_n, kg_nz, kg_01_0, kg_01_1, kg_w0_1, kg_ret0, kg_ret1, kg_ret2, kg_wr_n, kg_Skd, kg_Smc, kg_Sob, kg_Srf, kg_Sld, kg_pad, List.map_cons, List.map_nil, List.length_cons, List.length_nil, List.replicate, List.cons_append, List.nil_append, List.append_nil, Nat.reduceAdd, Nat.reduceSub, Nat.reduceMul, Nat.reduceMod, Nat.reduceDiv, Nat.reduceLT, Nat.reduceLeDiff, Nat.reduceEqDiff, ne_eq, not_true_eq_false, not_false_eq_true, reduceIte, true_and, and_true, kw_n, kw_s, kw_w, kw_o, kw_ws, kw_wn, ku_s, ku_n, kg_lk99, kg_ls99, e]
        exact ih' _ (by omega) (by simp; omega)
set_option maxRecDepth 100000 in
theorem kc99 (hL : G.2.2.2.2.2.1 < 2 ^ 31) {n i m : Nat} (hn : n < 4) (hm : m ≤ 4) (hi : i < 1000) (hu : ∀ n, n < 4 → kg_01 (r (7 + n))) (hd : 3 ≤ d) (hK : K (some (.int (kf_at (kf_rl r n m 4) i))) (kg_w0 h) (kg_row M 125 r)) : kg_call G d 129 99 [.ref 124, .int (nI n), .int (nI i), .int (nI m)] (kg_w0 h) (kg_row M 125 r) K := by
  obtain ⟨d, rfl⟩ : ∃ e, d = e + 1 := ⟨d - 1, by omega⟩
  refine kg_m99 (by simp) (Nat.le_refl _) (kg_v99 hL (by omega) 60 ?_)
  simp (disch := omega) only [kg_S1, kg_S2, kg_br_T, kg_br_F, kg_br_N, kg_br_t, kg_br_f, kg_at_n, nI_add, pk_mul, kg_sub_n, kg_rem_n, kg_eq_n, kg_lt_n, kg_le_n, kg_nz, kg_01_0, kg_01_1, kg_w0_1, kg_ret0, kg_ret1, kg_ret2, kg_wr_n, kg_Skd, kg_Smc, kg_Sob, kg_Srf, kg_Sld, kg_pad, List.map_cons, List.map_nil, List.length_cons, List.length_nil, List.replicate, List.cons_append, List.nil_append, List.append_nil, Nat.reduceAdd, Nat.reduceSub, Nat.reduceMul, Nat.reduceMod, Nat.reduceDiv, Nat.reduceLT, Nat.reduceLeDiff, Nat.reduceEqDiff, ne_eq, not_true_eq_false, not_false_eq_true, reduceIte, true_and, and_true, kw_n, kw_s, kw_w, kw_o, kw_ws, kw_wn, ku_s, ku_n, kg_lk99, kg_ls99]
  exact kc99_l hL hn hm hi hu (by omega) hK 4 0 _ rfl (by simp [kf_rl])
set_option maxRecDepth 100000 in
theorem kc108_l (hL : G.2.2.2.2.2.1 < 2 ^ 31) {a b : Nat} (ha : a < 4) (hb : b < 4) (hd : 3 ≤ d) (hK : K (some (.int (nI (kf_dn r a b)))) (kg_w0 h) (kg_row M 125 r)) : ∀ m i : Nat, i + m = 8 → kg_P G d 108 5 129 129 K 5 [some (.ref 124), some (.int (nI a)), some (.int (nI b)), some (.int (nI (kf_ct (fun k => !decide (kf_s r a k = kf_s r b k)) i))), some (.int (nI i))] [] (kg_w0 h) (kg_row M 125 r) := by
  intro m
  induction m with
  | zero =>
    intro i hi
    obtain rfl : i = 8 := by omega
    refine kg_v108 hL (by omega) 60 ?_
    simp (disch := omega) only [kg_S1, kg_S2, kg_br_T, kg_br_F, kg_br_N, kg_br_t, kg_br_f, kg_at_n, nI_add, pk_mul, kg_sub_n, kg_rem_n, kg_eq_n, kg_lt_n, kg_le_n, kg_nz, kg_01_0, kg_01_1, kg_w0_1, kg_ret0, kg_ret1, kg_ret2, kg_wr_n, kg_Skd, kg_Smc, kg_Sob, kg_Srf, kg_Sld, kg_pad, List.map_cons, List.map_nil, List.length_cons, List.length_nil, List.replicate, List.cons_append, List.nil_append, List.append_nil, Nat.reduceAdd, Nat.reduceSub, Nat.reduceMul, Nat.reduceMod, Nat.reduceDiv, Nat.reduceLT, Nat.reduceLeDiff, Nat.reduceEqDiff, ne_eq, not_true_eq_false, not_false_eq_true, reduceIte, true_and, and_true, kw_n, kw_s, kw_w, kw_o, kw_ws, kw_wn, ku_s, ku_n, kg_lk108, kg_ls108]
    exact hK
  | succ m ih =>
    intro i hi
    have ea : kf_s r a i = r (27 + 40 * a + 5 * i + 2) := if_pos ha
    have eb : kf_s r b i = r (27 + 40 * b + 5 * i + 2) := if_pos hb
    have := ih (i + 1) (by omega)
    refine kg_v108 hL (by omega) 60 ?_
    simp (disch := omega) only [kg_S1, kg_S2, kg_br_T, kg_br_F, kg_br_N, kg_br_t, kg_br_f, kg_at_n, nI_add, pk_mul, kg_sub_n, kg_rem_n, kg_eq_n, kg_lt_n, kg_le_n, kg_nz, kg_01_0, kg_01_1, kg_w0_1, kg_ret0, kg_ret1, kg_ret2, kg_wr_n, kg_Skd, kg_Smc, kg_Sob, kg_Srf, kg_Sld, kg_pad, List.map_cons, List.map_nil, List.length_cons, List.length_nil, List.replicate, List.cons_append, List.nil_append, List.append_nil, Nat.reduceAdd, Nat.reduceSub, Nat.reduceMul, Nat.reduceMod, Nat.reduceDiv, Nat.reduceLT, Nat.reduceLeDiff, Nat.reduceEqDiff, ne_eq, not_true_eq_false, not_false_eq_true, reduceIte, true_and, and_true, kw_n, kw_s, kw_w, kw_o, kw_ws, kw_wn, ku_s, ku_n, kg_lk108, kg_ls108]
    refine kc100 hL (by omega) ha (by omega) (by omega) ?_
    simp (disch := omega) only [kg_S1, kg_S2, kg_br_T, kg_br_F, kg_br_N, kg_br_t, kg_br_f, kg_at_n, nI_add, pk_mul, kg_sub_n, kg_rem_n, kg_eq_n, kg_lt_n, kg_le_n, kg_nz, kg_01_0, kg_01_1, kg_w0_1, kg_ret0, kg_ret1, kg_ret2, kg_wr_n, kg_Skd, kg_Smc, kg_Sob, kg_Srf, kg_Sld, kg_pad, List.map_cons, List.map_nil, List.length_cons, List.length_nil, List.replicate, List.cons_append, List.nil_append, List.append_nil, Nat.reduceAdd, Nat.reduceSub, Nat.reduceMul, Nat.reduceMod, Nat.reduceDiv, Nat.reduceLT, Nat.reduceLeDiff, Nat.reduceEqDiff, ne_eq, not_true_eq_false, not_false_eq_true, reduceIte, true_and, and_true, kw_n, kw_s, kw_w, kw_o, kw_ws, kw_wn, ku_s, ku_n, kg_lk108, kg_ls108]
    refine kc100 hL (by omega) hb (by omega) (by omega) ?_
    simp (disch := omega) only [kg_S1, kg_S2, kg_br_T, kg_br_F, kg_br_N, kg_br_t, kg_br_f, kg_at_n, nI_add, pk_mul, kg_sub_n, kg_rem_n, kg_eq_n, kg_lt_n, kg_le_n, kg_nz, kg_01_0, kg_01_1, kg_w0_1, kg_ret0, kg_ret1, kg_ret2, kg_wr_n, kg_Skd, kg_Smc, kg_Sob, kg_Srf, kg_Sld, kg_pad, List.map_cons, List.map_nil, List.length_cons, List.length_nil, List.replicate, List.cons_append, List.nil_append, List.append_nil, Nat.reduceAdd, Nat.reduceSub, Nat.reduceMul, Nat.reduceMod, Nat.reduceDiv, Nat.reduceLT, Nat.reduceLeDiff, Nat.reduceEqDiff, ne_eq, not_true_eq_false, not_false_eq_true, reduceIte, true_and, and_true, kw_n, kw_s, kw_w, kw_o, kw_ws, kw_wn, ku_s, ku_n, kg_lk108, kg_ls108]
    refine kg_br_i (fun q => ?_) (fun q => ?_)
    · rw [kf_ct_f (by rw [ea, eb, decide_eq_true q]; simp)] at this
      rw [Nat.add_zero]
      exact this
    · rw [kf_ct_t (by rw [ea, eb, decide_eq_false q]; rfl)] at this
      exact this
set_option maxRecDepth 100000 in
theorem kc108 (hL : G.2.2.2.2.2.1 < 2 ^ 31) {a b : Nat} (ha : a < 4) (hb : b < 4) (hd : 4 ≤ d) (hK : K (some (.int (nI (kf_dn r a b)))) (kg_w0 h) (kg_row M 125 r)) : kg_call G d 129 108 [.ref 124, .int (nI a), .int (nI b)] (kg_w0 h) (kg_row M 125 r) K := by
  obtain ⟨d, rfl⟩ : ∃ e, d = e + 1 := ⟨d - 1, by omega⟩
  refine kg_m108 (by simp) (Nat.le_refl _) (kg_v108 hL (by omega) 60 ?_)
  simp (disch := omega) only [kg_S1, kg_S2, kg_br_T, kg_br_F, kg_br_N, kg_br_t, kg_br_f, kg_at_n, nI_add, pk_mul, kg_sub_n, kg_rem_n, kg_eq_n, kg_lt_n, kg_le_n, kg_nz, kg_01_0, kg_01_1, kg_w0_1, kg_ret0, kg_ret1, kg_ret2, kg_wr_n, kg_Skd, kg_Smc, kg_Sob, kg_Srf, kg_Sld, kg_pad, List.map_cons, List.map_nil, List.length_cons, List.length_nil, List.replicate, List.cons_append, List.nil_append, List.append_nil, Nat.reduceAdd, Nat.reduceSub, Nat.reduceMul, Nat.reduceMod, Nat.reduceDiv, Nat.reduceLT, Nat.reduceLeDiff, Nat.reduceEqDiff, ne_eq, not_true_eq_false, not_false_eq_true, reduceIte, true_and, and_true, kw_n, kw_s, kw_w, kw_o, kw_ws, kw_wn, ku_s, ku_n, kg_lk108, kg_ls108]
  exact kc108_l hL ha hb (by omega) hK 8 0 rfl
def kf_IE (c : Nat) (r : Nat → Int32) : Prop := kf_I c r ∧ kf_E r
theorem kf_IE_nt {kd : Nat} {a b : Int32} (hkd : kd < 4) (hI : kf_IE c r) : kf_IE c (kf_nt r kd a b) := ⟨kf_I_o hI.1 (fun i hi => kf_nt_o (by omega)), kf_E_nt hkd hI.2⟩
theorem kf_IE_ln {n s k : Nat} (hn : n < 4) (hs : s < 4) (hk : k < 8) (hI : kf_IE c r) : kf_IE c (kf_ln r n s k) := by
  have : kf_IE c (kf_ta r n s k) := ⟨kf_I_ta hI.1 hn hs hk, by
    obtain ⟨p, hp, e⟩ := hI.2
    exact ⟨p, hp, (kf_ta_o hn hk (by omega)).trans e⟩⟩
  unfold kf_ln
  split
  · exact kf_IE_nt (by omega) this
  · exact this
theorem kf_IE_jf {a b : Nat} (ha : a < 4) (hb : b < 4) (hI : kf_IE c r) : ∀ k, k ≤ 8 → kf_IE c (kf_jf a b r k)
  | 0, _ => hI
  | k + 1, hk => by
    have ih := kf_IE_jf ha hb hI k (by omega)
    rw [kf_jf, kf_jk]
    split
    · exact kf_IE_ln hb ha (by omega) ih
    · split
      · exact ih
      · exact kf_IE_ln ha hb (by omega) ih
theorem kf_ltn {x y : Nat} (h : x < y) (hy : y < 2147483648) : (nI x - nI y < nI 0) ∧ ¬ (nI 0 < nI x - nI y) := by
  have e : (nI x - nI y).toInt = (x : Int) - y := by
    rw [Int32.toInt_sub, nI_toInt (by omega), nI_toInt hy, Int.bmod_eq_of_le (by omega) (by omega)]
  rw [Int32.lt_iff_toInt_lt, Int32.lt_iff_toInt_lt, e, nI_toInt (by omega)]
  omega
theorem kf_nt_sl {kd a b : Nat} {x y : Int32} (ha : a < 4) (hb : b < 4) (hkd : kd < 4) : kf_nt (kf_sl2 r a b) kd x y = kf_sl2 (kf_nt r kd x y) a b := by
  have e : ∀ i, 27 ≤ i ∨ i = 0 → kf_sl2 r a b i = r i := fun i hi => if_neg (by omega)
  have eq : kf_q (kf_sl2 r a b) = kf_q r := by unfold kf_q; rw [e _ (by omega)]
  funext i
  by_cases q : i < 242
  · rw [kf_nt_o q]
    unfold kf_sl2
    rw [kf_nt_o q, kf_nt_o (by omega)]
  · have : kf_sl2 (kf_nt r kd x y) a b i = kf_nt r kd x y i := if_neg (by omega)
    rw [this]
    unfold kf_nt
    rw [eq, e i (by omega), e 0 (by omega), e (i + 4) (by omega)]
theorem kf_ta_sl {n s k a b : Nat} (hn : n < 4) (hs : s < 4) (hk : k < 8) (ha : a < 4) (hb : b < 4) : kf_ta (kf_sl2 r a b) n s k = kf_sl2 (kf_ta r n s k) a b := by
  have e : ∀ i, 27 ≤ i ∨ i = 0 → kf_sl2 r a b i = r i := fun i hi => if_neg (by omega)
  have e' : ∀ i, 27 ≤ i ∨ i = 0 → kf_sl2 (kf_ta r n s k) a b i = kf_ta r n s k i := fun i hi => if_neg (by omega)
  funext i
  by_cases q : i < 27
  · rw [kf_ta_o hn hk (by omega)]
    unfold kf_sl2
    rw [kf_ta_o hn hk (by omega), kf_ta_o hn hk (by omega)]
  · rw [e' i (by omega)]
    unfold kf_ta
    rw [e i (by omega), e 0 (by omega), e _ (by omega)]
theorem kf_hn_sl {n k a b : Nat} (ha : a < 4) (hb : b < 4) : kf_hn (kf_sl2 r a b) n k = kf_hn r n k := by
  have e : ∀ i, 27 ≤ i → kf_sl2 r a b i = r i := fun i hi => if_neg (by omega)
  unfold kf_hn kf_w
  rw [e _ (by omega), e _ (by omega), e _ (by omega)]
theorem kf_ln_sl {n s k a b : Nat} (hn : n < 4) (hs : s < 4) (hk : k < 8) (ha : a < 4) (hb : b < 4) : kf_ln (kf_sl2 r a b) n s k = kf_sl2 (kf_ln r n s k) a b := by
  unfold kf_ln
  rw [kf_ta_sl hn hs hk ha hb, kf_hn_sl ha hb, kf_hn_sl ha hb]
  split
  · exact kf_nt_sl ha hb (by omega)
  · rfl
theorem kf_s_sl {n k a b : Nat} (ha : a < 4) (hb : b < 4) : kf_s (kf_sl2 r a b) n k = kf_s r n k := by
  have e : ∀ i, 27 ≤ i → kf_sl2 r a b i = r i := fun i hi => if_neg (by omega)
  unfold kf_s
  rw [e _ (by omega), e _ (by omega)]
theorem kf_jf_sl {a b : Nat} (ha : a < 4) (hb : b < 4) : ∀ k, k ≤ 8 → kf_jf a b (kf_sl2 r a b) k = kf_sl2 (kf_jf a b r k) a b
  | 0, _ => rfl
  | k + 1, hk => by
    rw [kf_jf, kf_jf, kf_jf_sl ha hb k (by omega)]
    unfold kf_jk
    rw [kf_s_sl ha hb, kf_s_sl ha hb]
    split
    · exact kf_ln_sl hb ha (by omega) ha hb
    · split
      · rfl
      · exact kf_ln_sl ha hb (by omega) ha hb
theorem kf_sl_u {a b : Nat} (ha : a < 4) (hb : b < 4) : upd (upd r (11 + 4 * a + b) (r 0)) (11 + 4 * b + a) (r 0) = kf_sl2 r a b := by
  funext i
  unfold kf_sl2
  by_cases q1 : i = 11 + 4 * b + a
  · rw [if_pos (Or.inr q1), q1, ku_s]
  · rw [ku_n q1]
    by_cases q2 : i = 11 + 4 * a + b
    · rw [if_pos (Or.inl q2), q2, ku_s]
    · rw [ku_n q2, if_neg (by omega)]
theorem kf_dn_0 {a b : Nat} (ha : a < 4) (hb : b < 4) : kf_dn (kf_j0 r a b) a b = kf_dn r a b := by
  have e : ∀ n k, n < 4 → k < 8 → kf_s (kf_j0 r a b) n k = kf_s r n k := by
    intro n k hn hk
    unfold kf_j0
    rw [kf_s_sl ha hb]
    unfold kf_s
    rw [if_pos hn, if_pos hn, kf_nt_o (by omega)]
  have : ∀ m, m ≤ 8 → kf_ct (fun k => !decide (kf_s (kf_j0 r a b) a k = kf_s (kf_j0 r a b) b k)) m = kf_ct (fun k => !decide (kf_s r a k = kf_s r b k)) m := by
    intro m
    induction m with
    | zero => intro _; rfl
    | succ m ih =>
      intro hm
      rw [kf_ct, kf_ct, ih (by omega), e a m ha (by omega), e b m hb (by omega)]
  exact this 8 (Nat.le_refl _)
set_option maxRecDepth 100000 in
theorem kc107_l (hL : G.2.2.2.2.2.1 < 2 ^ 31) {a b n : Nat} (hc : c < 1048576) (ha : a < 4) (hb : b < 4) (hab : a ≠ b) (hI : kf_IE c r) (hd : 6 ≤ d) (hK : K (some (.int (nI n))) (kg_w0 h) (kg_row M 125 (kf_sl2 (kf_jf a b r 8) a b))) : ∀ (m k : Nat) (x5 : Option Value), k + m = 8 → kg_P G d 107 6 129 129 K 35 [some (.ref 124), some (.int (nI a)), some (.int (nI b)), some (.int (nI n)), some (.int (nI k)), x5] [] (kg_w0 h) (kg_row M 125 (kf_jf a b r k)) := by
  intro m
  induction m with
  | zero =>
    intro k x5 hk
    obtain rfl : k = 8 := by omega
    rw [← kf_sl_u ha hb] at hK
    refine kg_v107 hL (by omega) 80 ?_
    simp (disch := omega) only [kg_S1, kg_S2, kg_br_T, kg_br_F, kg_br_N, kg_br_t, kg_br_f, kg_at_n, nI_add, pk_mul, kg_sub_n, kg_rem_n, kg_eq_n, kg_lt_n, kg_le_n, kg_nz, kg_01_0, kg_01_1, kg_w0_1, kg_ret0, kg_ret1, kg_ret2, kg_wr_n, kg_Skd, kg_Smc, kg_Sob, kg_Srf, kg_Sld, kg_pad, List.map_cons, List.map_nil, List.length_cons, List.length_nil, List.replicate, List.cons_append, List.nil_append, List.append_nil, Nat.reduceAdd, Nat.reduceSub, Nat.reduceMul, Nat.reduceMod, Nat.reduceDiv, Nat.reduceLT, Nat.reduceLeDiff, Nat.reduceEqDiff, ne_eq, not_true_eq_false, not_false_eq_true, reduceIte, true_and, and_true, kw_n, kw_s, kw_w, kw_o, kw_ws, kw_wn, ku_s, ku_n, kg_lk107, kg_ls107]
    exact hK
  | succ m ih =>
    intro k x5 hk
    have hIk := kf_IE_jf ha hb hI k (by omega)
    obtain ⟨s, hs, -, hx⟩ := hIk.1.2.1
    obtain ⟨x, hx1, ex⟩ := hx a k (by omega) (by omega)
    obtain ⟨y, hy1, ey⟩ := hx b k (by omega) (by omega)
    have ea : kf_jf a b r k (27 + 40 * a + 5 * k + 2) = nI x := by rw [← ex]; exact (if_pos ha).symm
    have eb : kf_jf a b r k (27 + 40 * b + 5 * k + 2) = nI y := by rw [← ey]; exact (if_pos hb).symm
    have hj : kf_jf a b r (k + 1) = if y < x then kf_ln (kf_jf a b r k) b a k else if x = y then kf_jf a b r k else kf_ln (kf_jf a b r k) a b k := by
      simp (disch := omega) only [kf_jf, kf_jk, ex, ey, kg_lt_n, kg_eq_n]
    have ih' := fun x5 => ih (k + 1) x5 (by omega)
    refine kg_v107 hL (by omega) 80 ?_
    simp (disch := omega) only [kg_S1, kg_S2, kg_br_T, kg_br_F, kg_br_N, kg_br_t, kg_br_f, kg_at_n, nI_add, pk_mul, kg_sub_n, kg_rem_n, kg_eq_n, kg_lt_n, kg_le_n, kg_nz, kg_01_0, kg_01_1, kg_w0_1, kg_ret0, kg_ret1, kg_ret2, kg_wr_n, kg_Skd, kg_Smc, kg_Sob, kg_Srf, kg_Sld, kg_pad, List.map_cons, List.map_nil, List.length_cons, List.length_nil, List.replicate, List.cons_append, List.nil_append, List.append_nil, Nat.reduceAdd, Nat.reduceSub, Nat.reduceMul, Nat.reduceMod, Nat.reduceDiv, Nat.reduceLT, Nat.reduceLeDiff, Nat.reduceEqDiff, ne_eq, not_true_eq_false, not_false_eq_true, reduceIte, true_and, and_true, kw_n, kw_s, kw_w, kw_o, kw_ws, kw_wn, ku_s, ku_n, kg_lk107, kg_ls107]
    refine kc100 hL (by omega) ha (by omega) (by omega) ?_
    simp (disch := omega) only [kg_S1, kg_S2, kg_br_T, kg_br_F, kg_br_N, kg_br_t, kg_br_f, kg_at_n, nI_add, pk_mul, kg_sub_n, kg_rem_n, kg_eq_n, kg_lt_n, kg_le_n, kg_nz, kg_01_0, kg_01_1, kg_w0_1, kg_ret0, kg_ret1, kg_ret2, kg_wr_n, kg_Skd, kg_Smc, kg_Sob, kg_Srf, kg_Sld, kg_pad, List.map_cons, List.map_nil, List.length_cons, List.length_nil, List.replicate, List.cons_append, List.nil_append, List.append_nil, Nat.reduceAdd, Nat.reduceSub, Nat.reduceMul, Nat.reduceMod, Nat.reduceDiv, Nat.reduceLT, Nat.reduceLeDiff, Nat.reduceEqDiff, ne_eq, not_true_eq_false, not_false_eq_true, reduceIte, true_and, and_true, kw_n, kw_s, kw_w, kw_o, kw_ws, kw_wn, ku_s, ku_n, kg_lk107, kg_ls107]
    refine kc100 hL (by omega) hb (by omega) (by omega) ?_
    rcases Nat.lt_trichotomy y x with q | q | q
    · rw [if_pos q] at hj
      simp (disch := omega) only [kg_S1, kg_S2, kg_br_T, kg_br_F, kg_br_N, kg_br_t, kg_br_f, kg_at_n, nI_add, pk_mul, kg_sub_n, kg_rem_n, kg_eq_n, kg_lt_n, kg_le_n, kg_nz, kg_01_0, kg_01_1, kg_w0_1, kg_ret0, kg_ret1, kg_ret2, kg_wr_n, kg_Skd, kg_Smc, kg_Sob, kg_Srf, kg_Sld, kg_pad, List.map_cons, List.map_nil, List.length_cons, List.length_nil, List.replicate, List.cons_append, List.nil_append, List.append_nil, Nat.reduceAdd, Nat.reduceSub, Nat.reduceMul, Nat.reduceMod, Nat.reduceDiv, Nat.reduceLT, Nat.reduceLeDiff, Nat.reduceEqDiff, ne_eq, not_true_eq_false, not_false_eq_true, reduceIte, true_and, and_true, kw_n, kw_s, kw_w, kw_o, kw_ws, kw_wn, ku_s, ku_n, kg_lk107, kg_ls107, ea, eb]
      refine kc103 hL hb ha (by omega) (by omega) hIk.2 (by omega) ?_
      simp (disch := omega) only [kg_S1, kg_S2, kg_br_T, kg_br_F, kg_br_N, kg_br_t, kg_br_f, kg_at_n, nI_add, pk_mul, kg_sub_n, kg_rem_n, kg_eq_n, kg_lt_n, kg_le_n, kg_nz, kg_01_0, kg_01_1, kg_w0_1, kg_ret0, kg_ret1, kg_ret2, kg_wr_n, kg_Skd, kg_Smc, kg_Sob, kg_Srf, kg_Sld, kg_pad, List.map_cons, List.map_nil, List.length_cons, List.length_nil, List.replicate, List.cons_append, List.nil_append, List.append_nil, Nat.reduceAdd, Nat.reduceSub, Nat.reduceMul, Nat.reduceMod, Nat.reduceDiv, Nat.reduceLT, Nat.reduceLeDiff, Nat.reduceEqDiff, ne_eq, not_true_eq_false, not_false_eq_true, reduceIte, true_and, and_true, kw_n, kw_s, kw_w, kw_o, kw_ws, kw_wn, ku_s, ku_n, kg_lk107, kg_ls107]
      rw [← hj]
      exact ih' _
    · subst q
      rw [if_neg (by omega), if_pos rfl] at hj
      rw [hj] at ih'
      simp (disch := omega) only [kg_S1, kg_S2, kg_br_T, kg_br_F, kg_br_N, kg_br_t, kg_br_f, kg_at_n, nI_add, pk_mul, kg_sub_n, kg_rem_n, kg_eq_n, kg_lt_n, kg_le_n, kg_nz, kg_01_0, kg_01_1, kg_w0_1, kg_ret0, kg_ret1, kg_ret2, kg_wr_n, kg_Skd, kg_Smc, kg_Sob, kg_Srf, kg_Sld, kg_pad, List.map_cons, List.map_nil, List.length_cons, List.length_nil, List.replicate, List.cons_append, List.nil_append, List.append_nil, Nat.reduceAdd, Nat.reduceSub, Nat.reduceMul, Nat.reduceMod, Nat.reduceDiv, Nat.reduceLT, Nat.reduceLeDiff, Nat.reduceEqDiff, ne_eq, not_true_eq_false, not_false_eq_true, reduceIte, true_and, and_true, kw_n, kw_s, kw_w, kw_o, kw_ws, kw_wn, ku_s, ku_n, kg_lk107, kg_ls107, ea, eb, Nat.sub_self]
      exact ih' _
    · rw [if_neg (by omega), if_neg (by omega)] at hj
      have l := kf_ltn q (by omega)
      have f1 := eq_true l.1
      have f2 := eq_true (Int32.not_lt.mp l.2)
      have f3 := eq_false (Int32.not_le.mpr l.1)
      simp (disch := omega) only [kg_S1, kg_S2, kg_br_T, kg_br_F, kg_br_N, kg_br_t, kg_br_f, kg_at_n, nI_add, pk_mul, kg_sub_n, kg_rem_n, kg_eq_n, kg_lt_n, kg_le_n, kg_nz, kg_01_0, kg_01_1, kg_w0_1, kg_ret0, kg_ret1, kg_ret2, kg_wr_n, kg_Skd, kg_Smc, kg_Sob, kg_Srf, kg_Sld, kg_pad, List.map_cons, List.map_nil, List.length_cons, List.length_nil, List.replicate, List.cons_append, List.nil_append, List.append_nil, Nat.reduceAdd, Nat.reduceSub, Nat.reduceMul, Nat.reduceMod, Nat.reduceDiv, Nat.reduceLT, Nat.reduceLeDiff, Nat.reduceEqDiff, ne_eq, not_true_eq_false, not_false_eq_true, reduceIte, true_and, and_true, kw_n, kw_s, kw_w, kw_o, kw_ws, kw_wn, ku_s, ku_n, kg_lk107, kg_ls107, ea, eb, f1, f2, f3]
      refine kc103 hL ha hb (by omega) (by omega) hIk.2 (by omega) ?_
      simp (disch := omega) only [kg_S1, kg_S2, kg_br_T, kg_br_F, kg_br_N, kg_br_t, kg_br_f, kg_at_n, nI_add, pk_mul, kg_sub_n, kg_rem_n, kg_eq_n, kg_lt_n, kg_le_n, kg_nz, kg_01_0, kg_01_1, kg_w0_1, kg_ret0, kg_ret1, kg_ret2, kg_wr_n, kg_Skd, kg_Smc, kg_Sob, kg_Srf, kg_Sld, kg_pad, List.map_cons, List.map_nil, List.length_cons, List.length_nil, List.replicate, List.cons_append, List.nil_append, List.append_nil, Nat.reduceAdd, Nat.reduceSub, Nat.reduceMul, Nat.reduceMod, Nat.reduceDiv, Nat.reduceLT, Nat.reduceLeDiff, Nat.reduceEqDiff, ne_eq, not_true_eq_false, not_false_eq_true, reduceIte, true_and, and_true, kw_n, kw_s, kw_w, kw_o, kw_ws, kw_wn, ku_s, ku_n, kg_lk107, kg_ls107]
      rw [← hj]
      exact ih' _
set_option maxRecDepth 100000 in
theorem kc107 (hL : G.2.2.2.2.2.1 < 2 ^ 31) {a b : Nat} (hc : c < 1048576) (ha : a < 4) (hb : b < 4) (hab : a ≠ b) (hI : kf_IE c r) (hd : 7 ≤ d) (hK : K (some (.int (nI (kf_dn (kf_j0 r a b) a b)))) (kg_w0 h) (kg_row M 125 (kf_jn r a b))) : kg_call G d 129 107 [.ref 124, .int (nI a), .int (nI b)] (kg_w0 h) (kg_row M 125 r) K := by
  rw [kf_dn_0 ha hb] at hK
  unfold kf_jn kf_j0 at hK
  rw [kf_jf_sl ha hb 8 (by omega)] at hK
  obtain ⟨d, rfl⟩ : ∃ e, d = e + 1 := ⟨d - 1, by omega⟩
  refine kg_m107 (by simp) (Nat.le_refl _) (kg_v107 hL (by omega) 60 ?_)
  simp (disch := omega) only [kg_S1, kg_S2, kg_br_T, kg_br_F, kg_br_N, kg_br_t, kg_br_f, kg_at_n, nI_add, pk_mul, kg_sub_n, kg_rem_n, kg_eq_n, kg_lt_n, kg_le_n, kg_nz, kg_01_0, kg_01_1, kg_w0_1, kg_ret0, kg_ret1, kg_ret2, kg_wr_n, kg_Skd, kg_Smc, kg_Sob, kg_Srf, kg_Sld, kg_pad, List.map_cons, List.map_nil, List.length_cons, List.length_nil, List.replicate, List.cons_append, List.nil_append, List.append_nil, Nat.reduceAdd, Nat.reduceSub, Nat.reduceMul, Nat.reduceMod, Nat.reduceDiv, Nat.reduceLT, Nat.reduceLeDiff, Nat.reduceEqDiff, ne_eq, not_true_eq_false, not_false_eq_true, reduceIte, true_and, and_true, kw_n, kw_s, kw_w, kw_o, kw_ws, kw_wn, ku_s, ku_n, kg_lk107, kg_ls107]
  refine kc108 hL ha hb (by omega) ?_
  rcases Nat.lt_or_ge a b with q | q
  · rw [if_neg (by omega), if_pos q] at hK
    simp (disch := omega) only [kg_S1, kg_S2, kg_br_T, kg_br_F, kg_br_N, kg_br_t, kg_br_f, kg_at_n, nI_add, pk_mul, kg_sub_n, kg_rem_n, kg_eq_n, kg_lt_n, kg_le_n, kg_nz, kg_01_0, kg_01_1, kg_w0_1, kg_ret0, kg_ret1, kg_ret2, kg_wr_n, kg_Skd, kg_Smc, kg_Sob, kg_Srf, kg_Sld, kg_pad, List.map_cons, List.map_nil, List.length_cons, List.length_nil, List.replicate, List.cons_append, List.nil_append, List.append_nil, Nat.reduceAdd, Nat.reduceSub, Nat.reduceMul, Nat.reduceMod, Nat.reduceDiv, Nat.reduceLT, Nat.reduceLeDiff, Nat.reduceEqDiff, ne_eq, not_true_eq_false, not_false_eq_true, reduceIte, true_and, and_true, kw_n, kw_s, kw_w, kw_o, kw_ws, kw_wn, ku_s, ku_n, kg_lk107, kg_ls107]
    refine kc105 hL (by omega) hI.2 (by omega) ?_
    simp (disch := omega) only [kg_S1, kg_S2, kg_br_T, kg_br_F, kg_br_N, kg_br_t, kg_br_f, kg_at_n, nI_add, pk_mul, kg_sub_n, kg_rem_n, kg_eq_n, kg_lt_n, kg_le_n, kg_nz, kg_01_0, kg_01_1, kg_w0_1, kg_ret0, kg_ret1, kg_ret2, kg_wr_n, kg_Skd, kg_Smc, kg_Sob, kg_Srf, kg_Sld, kg_pad, List.map_cons, List.map_nil, List.length_cons, List.length_nil, List.replicate, List.cons_append, List.nil_append, List.append_nil, Nat.reduceAdd, Nat.reduceSub, Nat.reduceMul, Nat.reduceMod, Nat.reduceDiv, Nat.reduceLT, Nat.reduceLeDiff, Nat.reduceEqDiff, ne_eq, not_true_eq_false, not_false_eq_true, reduceIte, true_and, and_true, kw_n, kw_s, kw_w, kw_o, kw_ws, kw_wn, ku_s, ku_n, kg_lk107, kg_ls107]
    exact kc107_l hL hc ha hb hab (kf_IE_nt (by omega) hI) (by omega) hK 8 0 _ rfl
  · rw [if_pos (by omega), if_neg (by omega)] at hK
    simp (disch := omega) only [kg_S1, kg_S2, kg_br_T, kg_br_F, kg_br_N, kg_br_t, kg_br_f, kg_at_n, nI_add, pk_mul, kg_sub_n, kg_rem_n, kg_eq_n, kg_lt_n, kg_le_n, kg_nz, kg_01_0, kg_01_1, kg_w0_1, kg_ret0, kg_ret1, kg_ret2, kg_wr_n, kg_Skd, kg_Smc, kg_Sob, kg_Srf, kg_Sld, kg_pad, List.map_cons, List.map_nil, List.length_cons, List.length_nil, List.replicate, List.cons_append, List.nil_append, List.append_nil, Nat.reduceAdd, Nat.reduceSub, Nat.reduceMul, Nat.reduceMod, Nat.reduceDiv, Nat.reduceLT, Nat.reduceLeDiff, Nat.reduceEqDiff, ne_eq, not_true_eq_false, not_false_eq_true, reduceIte, true_and, and_true, kw_n, kw_s, kw_w, kw_o, kw_ws, kw_wn, ku_s, ku_n, kg_lk107, kg_ls107]
    refine kc105 hL (by omega) hI.2 (by omega) ?_
    simp (disch := omega) only [kg_S1, kg_S2, kg_br_T, kg_br_F, kg_br_N, kg_br_t, kg_br_f, kg_at_n, nI_add, pk_mul, kg_sub_n, kg_rem_n, kg_eq_n, kg_lt_n, kg_le_n, kg_nz, kg_01_0, kg_01_1, kg_w0_1, kg_ret0, kg_ret1, kg_ret2, kg_wr_n, kg_Skd, kg_Smc, kg_Sob, kg_Srf, kg_Sld, kg_pad, List.map_cons, List.map_nil, List.length_cons, List.length_nil, List.replicate, List.cons_append, List.nil_append, List.append_nil, Nat.reduceAdd, Nat.reduceSub, Nat.reduceMul, Nat.reduceMod, Nat.reduceDiv, Nat.reduceLT, Nat.reduceLeDiff, Nat.reduceEqDiff, ne_eq, not_true_eq_false, not_false_eq_true, reduceIte, true_and, and_true, kw_n, kw_s, kw_w, kw_o, kw_ws, kw_wn, ku_s, ku_n, kg_lk107, kg_ls107]
    exact kc107_l hL hc ha hb hab (kf_IE_nt (by omega) hI) (by omega) hK 8 0 _ rfl
end
