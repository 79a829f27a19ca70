/-! the model's write, delete and repair -/
theorem kf_pu_u {n k : Nat} {r : Nat → Int32} {w v s t l : Int32} : upd (upd (upd (upd (upd r (27 + 40 * n + 5 * k) w) (27 + 40 * n + 5 * k + 1) v) (27 + 40 * n + 5 * k + 2) s) (27 + 40 * n + 5 * k + 3) t) (27 + 40 * n + 5 * k + 4) l = kf_pu r n k w v s t l := by
  funext i
  unfold kf_pu
  by_cases q0 : i = 27 + 40 * n + 5 * k
  · simp (disch := omega) only [upd, if_pos, if_neg]
  by_cases q1 : i = 27 + 40 * n + 5 * k + 1
  · simp (disch := omega) only [upd, if_pos, if_neg]
  by_cases q2 : i = 27 + 40 * n + 5 * k + 2
  · simp (disch := omega) only [upd, if_pos, if_neg]
  by_cases q3 : i = 27 + 40 * n + 5 * k + 3
  · simp (disch := omega) only [upd, if_pos, if_neg]
  by_cases q4 : i = 27 + 40 * n + 5 * k + 4
  · simp (disch := omega) only [upd, if_pos, if_neg]
  simp (disch := omega) only [upd, if_neg]
theorem kf_pt_u {k : Nat} {r : Nat → Int32} {w v s : Int32} : upd (upd (upd r (187 + 3 * k) w) (187 + 3 * k + 1) v) (187 + 3 * k + 2) s = kf_pt r k w v s := by
  funext i
  unfold kf_pt
  by_cases q0 : i = 187 + 3 * k
  · simp (disch := omega) only [upd, if_pos, if_neg]
  by_cases q1 : i = 187 + 3 * k + 1
  · simp (disch := omega) only [upd, if_pos, if_neg]
  by_cases q2 : i = 187 + 3 * k + 2
  · simp (disch := omega) only [upd, if_pos, if_neg]
  simp (disch := omega) only [upd, if_neg]
theorem kf_rl_o {r r' : Nat → Int32} {n m : Nat} (h : ∀ i, i < 11 → r' i = r i) : ∀ k, kf_rl r' n m k = kf_rl r n m k
  | 0 => rfl
  | k + 1 => by
    have : (n + k) % 4 < 4 := Nat.mod_lt _ (by omega)
    rw [kf_rl, kf_rl, kf_rl_o h k, kf_u, kf_u, h _ (by omega)]
theorem kf_p1_f {k : Nat} {w v : Int32} {r : Nat → Int32} : ∀ l : List Nat, (∀ a ∈ l, a < 4) → ∀ i, i < 27 → l.foldl (kf_p1 k w v) r i = r i := by
  intro l
  induction l generalizing r with
  | nil => intro _ i _; rfl
  | cons a l ih =>
    intro hl i hi
    rw [List.foldl_cons, ih (fun b hb => hl b (List.mem_cons_of_mem _ hb)) i hi]
    unfold kf_p1 kf_pu
    rw [if_neg (by omega), if_neg (by omega), if_neg (by omega), if_neg (by omega), if_neg (by omega)]
section
variable {G : kg_G} {d c : Nat} {h : Nat → Nat} {A : kf_A} {M : kg_M} {K : kg_Qt} {r : Nat → Int32}

set_option maxRecDepth 100000 in
theorem kc97_l (hL : G.2.2.2.2.2.1 < 2 ^ 31) {n k w m : Nat} {v : Int32} {r0 : Nat → Int32} {l : List Nat} (hl : l = kf_rl r0 n m 4) (hn : n < 4) (hk : k < 8) (hm : m ≤ 4) (e2 : r0 2 = nI m) (hu : ∀ n, n < 4 → kg_01 (r0 (7 + n))) (hd : 4 ≤ d) (hK : K (some (.int (nI l.length))) (kg_w0 h) (kg_row M 125 (l.foldl (kf_p1 k (nI w) v) r0))) : ∀ z i : Nat, i + z = l.length → kg_P G d 97 7 129 129 K 70 [some (.ref 124), some (.int (nI n)), some (.int (nI k)), some (.int (nI w)), some (.int v), some (.int (nI i)), some (.int (kf_at l i))] [] (kg_w0 h) (kg_row M 125 ((l.take i).foldl (kf_p1 k (nI w) v) r0)) := by
  have hlt : ∀ a ∈ l, a < 4 := by rw [hl]; exact kf_rl_lt r0 n m 4
  have hll : l.length ≤ 4 := by rw [hl]; exact kf_rl_len r0 n m 4
  intro z
  induction z with
  | zero =>
    intro i hi
    rw [kf_at_n (by omega)]
    obtain rfl : i = l.length := by omega
    refine kg_v97 hL (by omega) 80 ?_
    simp (disch := omega) only [kg_S1, kg_S2, kg_br_T, kg_br_F, kg_br_N, kg_br_t, kg_br_f, kg_at_n, nI_add, pk_mul, kg_sub_n, kg_rem_n, kg_eq_n, kg_lt_n, kg_le_n, kg_nz, kg_01_0, kg_01_1, kg_w0_1, kg_ret0, kg_ret1, kg_ret2, kg_wr_n, kg_Skd, kg_Smc, kg_Sob, kg_Srf, kg_Sld, kg_pad, List.map_cons, List.map_nil, List.length_cons, List.length_nil, List.replicate, List.cons_append, List.nil_append, List.append_nil, Nat.reduceAdd, Nat.reduceSub, Nat.reduceMul, Nat.reduceMod, Nat.reduceDiv, Nat.reduceLT, Nat.reduceLeDiff, Nat.reduceEqDiff, ne_eq, not_true_eq_false, not_false_eq_true, reduceIte, true_and, and_true, kw_n, kw_s, kw_w, kw_o, kw_ws, kw_wn, ku_s, ku_n, kg_lk97, kg_ls97, eq_self]
    rw [List.take_of_length_le (by omega)]
    exact hK
  | succ z ih =>
    intro i hi
    obtain ⟨a, e1, et⟩ := kf_take (l := l) (i := i) (by omega)
    have ha := hlt a (List.mem_of_getElem? e1)
    have ea : kf_at l i = nI a := by unfold kf_at; rw [e1]
    have o := kf_p1_f (k := k) (w := nI w) (v := v) (r := r0) (l.take i) (fun a ha => hlt a (List.mem_of_mem_take ha))
    have o1 := kf_p1_f (k := k) (w := nI w) (v := v) (r := r0) (l.take (i + 1)) (fun a ha => hlt a (List.mem_of_mem_take ha))
    have en : nI a = kg_n 5 ↔ False := by rw [kf_ne (by omega) (by omega) (by omega)]
    have en' := eq_false (fun q => en.mp q)
    have ih' := ih (i + 1) (by omega)
    have es : (l.take (i + 1)).foldl (kf_p1 k (nI w) v) r0 = kf_pu ((l.take i).foldl (kf_p1 k (nI w) v) r0) a k (nI w) v ((l.take i).foldl (kf_p1 k (nI w) v) r0 1) ((l.take i).foldl (kf_p1 k (nI w) v) r0 0) ((l.take i).foldl (kf_p1 k (nI w) v) r0 0) := by
      rw [et, List.foldl_append]; rfl
    have e2' : (l.take (i + 1)).foldl (kf_p1 k (nI w) v) r0 2 = nI m := by rw [o1 2 (by omega)]; exact e2
    rw [ea]
    refine kg_v97 hL (by omega) 80 ?_
    simp (disch := omega) only [kg_S1, kg_S2, kg_br_T, kg_br_F, kg_br_N, kg_br_t, kg_br_f, kg_at_n, nI_add, pk_mul, kg_sub_n, kg_rem_n, kg_eq_n, kg_lt_n, kg_le_n, kg_nz, kg_01_0, kg_01_1, kg_w0_1, kg_ret0, kg_ret1, kg_ret2, kg_wr_n, kg_Skd, kg_Smc, kg_Sob, kg_Srf, kg_Sld, kg_pad, List.map_cons, List.map_nil, List.length_cons, List.length_nil, List.replicate, List.cons_append, List.nil_append, List.append_nil, Nat.reduceAdd, Nat.reduceSub, Nat.reduceMul, Nat.reduceMod, Nat.reduceDiv, Nat.reduceLT, Nat.reduceLeDiff, Nat.reduceEqDiff, ne_eq, not_true_eq_false, not_false_eq_true, reduceIte, true_and, and_true, kw_n, kw_s, kw_w, kw_o, kw_ws, kw_wn, ku_s, ku_n, kg_lk97, kg_ls97, en']
    refine kc100 hL (by omega) ha hk (by omega) ?_
    simp (disch := omega) only [kg_S1, kg_S2, kg_br_T, kg_br_F, kg_br_N, kg_br_t, kg_br_f, kg_at_n, nI_add, pk_mul, kg_sub_n, kg_rem_n, kg_eq_n, kg_lt_n, kg_le_n, kg_nz, kg_01_0, kg_01_1, kg_w0_1, kg_ret0, kg_ret1, kg_ret2, kg_wr_n, kg_Skd, kg_Smc, kg_Sob, kg_Srf, kg_Sld, kg_pad, List.map_cons, List.map_nil, List.length_cons, List.length_nil, List.replicate, List.cons_append, List.nil_append, List.append_nil, Nat.reduceAdd, Nat.reduceSub, Nat.reduceMul, Nat.reduceMod, Nat.reduceDiv, Nat.reduceLT, Nat.reduceLeDiff, Nat.reduceEqDiff, ne_eq, not_true_eq_false, not_false_eq_true, reduceIte, true_and, and_true, kw_n, kw_s, kw_w, kw_o, kw_ws, kw_wn, ku_s, ku_n, kg_lk97, kg_ls97]
    refine kc100 hL (by omega) ha hk (by omega) ?_
    simp (disch := omega) only [kg_S1, kg_S2, kg_br_T, kg_br_F, kg_br_N, kg_br_t, kg_br_f, kg_at_n, nI_add, pk_mul, kg_sub_n, kg_rem_n, kg_eq_n, kg_lt_n, kg_le_n, kg_nz, kg_01_0, kg_01_1, kg_w0_1, kg_ret0, kg_ret1, kg_ret2, kg_wr_n, kg_Skd, kg_Smc, kg_Sob, kg_Srf, kg_Sld, kg_pad, List.map_cons, List.map_nil, List.length_cons, List.length_nil, List.replicate, List.cons_append, List.nil_append, List.append_nil, Nat.reduceAdd, Nat.reduceSub, Nat.reduceMul, Nat.reduceMod, Nat.reduceDiv, Nat.reduceLT, Nat.reduceLeDiff, Nat.reduceEqDiff, ne_eq, not_true_eq_false, not_false_eq_true, reduceIte, true_and, and_true, kw_n, kw_s, kw_w, kw_o, kw_ws, kw_wn, ku_s, ku_n, kg_lk97, kg_ls97]
    refine kc100 hL (by omega) ha hk (by omega) ?_
    simp (disch := omega) only [kg_S1, kg_S2, kg_br_T, kg_br_F, kg_br_N, kg_br_t, kg_br_f, kg_at_n, nI_add, pk_mul, kg_sub_n, kg_rem_n, kg_eq_n, kg_lt_n, kg_le_n, kg_nz, kg_01_0, kg_01_1, kg_w0_1, kg_ret0, kg_ret1, kg_ret2, kg_wr_n, kg_Skd, kg_Smc, kg_Sob, kg_Srf, kg_Sld, kg_pad, List.map_cons, List.map_nil, List.length_cons, List.length_nil, List.replicate, List.cons_append, List.nil_append, List.append_nil, Nat.reduceAdd, Nat.reduceSub, Nat.reduceMul, Nat.reduceMod, Nat.reduceDiv, Nat.reduceLT, Nat.reduceLeDiff, Nat.reduceEqDiff, ne_eq, not_true_eq_false, not_false_eq_true, reduceIte, true_and, and_true, kw_n, kw_s, kw_w, kw_o, kw_ws, kw_wn, ku_s, ku_n, kg_lk97, kg_ls97]
    refine kc100 hL (by omega) ha hk (by omega) ?_
    simp (disch := omega) only [kg_S1, kg_S2, kg_br_T, kg_br_F, kg_br_N, kg_br_t, kg_br_f, kg_at_n, nI_add, pk_mul, kg_sub_n, kg_rem_n, kg_eq_n, kg_lt_n, kg_le_n, kg_nz, kg_01_0, kg_01_1, kg_w0_1, kg_ret0, kg_ret1, kg_ret2, kg_wr_n, kg_Skd, kg_Smc, kg_Sob, kg_Srf, kg_Sld, kg_pad, List.map_cons, List.map_nil, List.length_cons, List.length_nil, List.replicate, List.cons_append, List.nil_append, List.append_nil, Nat.reduceAdd, Nat.reduceSub, Nat.reduceMul, Nat.reduceMod, Nat.reduceDiv, Nat.reduceLT, Nat.reduceLeDiff, Nat.reduceEqDiff, ne_eq, not_true_eq_false, not_false_eq_true, reduceIte, true_and, and_true, kw_n, kw_s, kw_w, kw_o, kw_ws, kw_wn, ku_s, ku_n, kg_lk97, kg_ls97]
    refine kc100 hL (by omega) ha hk (by omega) ?_
    simp (disch := omega) only [kg_S1, kg_S2, kg_br_T, kg_br_F, kg_br_N, kg_br_t, kg_br_f, kg_at_n, nI_add, pk_mul, kg_sub_n, kg_rem_n, kg_eq_n, kg_lt_n, kg_le_n, kg_nz, kg_01_0, kg_01_1, kg_w0_1, kg_ret0, kg_ret1, kg_ret2, kg_wr_n, kg_Skd, kg_Smc, kg_Sob, kg_Srf, kg_Sld, kg_pad, List.map_cons, List.map_nil, List.length_cons, List.length_nil, List.replicate, List.cons_append, List.nil_append, List.append_nil, Nat.reduceAdd, Nat.reduceSub, Nat.reduceMul, Nat.reduceMod, Nat.reduceDiv, Nat.reduceLT, Nat.reduceLeDiff, Nat.reduceEqDiff, ne_eq, not_true_eq_false, not_false_eq_true, reduceIte, true_and, and_true, kw_n, kw_s, kw_w, kw_o, kw_ws, kw_wn, ku_s, ku_n, kg_lk97, kg_ls97, Nat.add_zero]
    rw [o 2 (by omega), e2]
    rw [kf_pu_u, ← es]
    refine kc99 hL hn hm (by omega) (fun n hn => by rw [o1 _ (by omega)]; exact hu n hn) (by omega) ?_
    rw [kf_rl_o (fun i hi => o1 i (by omega)), ← hl]
    simp (disch := omega) only [kg_S1, kg_S2, kg_br_T, kg_br_F, kg_br_N, kg_br_t, kg_br_f, kg_at_n, nI_add, pk_mul, kg_sub_n, kg_rem_n, kg_eq_n, kg_lt_n, kg_le_n, kg_nz, kg_01_0, kg_01_1, kg_w0_1, kg_ret0, kg_ret1, kg_ret2, kg_wr_n, kg_Skd, kg_Smc, kg_Sob, kg_Srf, kg_Sld, kg_pad, List.map_cons, List.map_nil, List.length_cons, List.length_nil, List.replicate, List.cons_append, List.nil_append, List.append_nil, Nat.reduceAdd, Nat.reduceSub, Nat.reduceMul, Nat.reduceMod, Nat.reduceDiv, Nat.reduceLT, Nat.reduceLeDiff, Nat.reduceEqDiff, ne_eq, not_true_eq_false, not_false_eq_true, reduceIte, true_and, and_true, kw_n, kw_s, kw_w, kw_o, kw_ws, kw_wn, ku_s, ku_n, kg_lk97, kg_ls97]
    exact ih'

set_option maxRecDepth 100000 in
theorem kc97 (hL : G.2.2.2.2.2.1 < 2 ^ 31) {n k w : Nat} {v : Int32} (hn : n < 4) (hk : k < 8) (hw : w < 10) (hJ : kf_J c A.1) (hD : kf_D M A) (hr : M 125 = A.1) (hd : 5 ≤ d) (hK : ∀ (o : Int32) (A' : kf_A) (M' : kg_M), kf_tls A n k (nI w) v = (o, A') → kf_D M' A' → (∀ p, p < 124 → M' p = M p) → K (some (.int o)) (kg_w0 h) M') : kg_call G d 129 97 [.ref 124, .int (nI n), .int (nI k), .int (nI w), .int v] (kg_w0 h) M K := by
  obtain ⟨d, rfl⟩ : ∃ e, d = e + 1 := ⟨d - 1, by omega⟩
  refine kg_m97 (by simp) (Nat.le_refl _) (kg_v97 hL (by omega) 60 ?_)
  obtain ⟨m, -, hm4, em⟩ := hJ.1.1.2.2.1
  have hu := hJ.1.1.2.2.2.2.2.2.2.1
  have e2 : kf_te A.1 k (nI w) v 2 = nI m := by unfold kf_te; rw [kf_pt_o hk (by omega)]; exact em
  have hu2 : ∀ n, n < 4 → kg_01 (kf_te A.1 k (nI w) v (7 + n)) := by
    intro n hn; unfold kf_te; rw [kf_pt_o hk (by omega), ku_n (by omega)]; exact hu n hn
  have em2 : kf_m2 A.1 2 = m := kf_m2_n (by omega) em
  unfold kf_tls at hK
  rw [em2] at hK
  simp (disch := omega) only [kg_S1, kg_S2, kg_br_T, kg_br_F, kg_br_N, kg_br_t, kg_br_f, kg_at_n, nI_add, pk_mul, kg_sub_n, kg_rem_n, kg_eq_n, kg_lt_n, kg_le_n, kg_nz, kg_01_0, kg_01_1, kg_w0_1, kg_ret0, kg_ret1, kg_ret2, kg_wr_n, kg_wr_s, kg_Skd, kg_Smc, kg_Sob, kg_Srf, kg_Sld, kg_pad, List.map_cons, List.map_nil, List.length_cons, List.length_nil, List.replicate, List.cons_append, List.nil_append, List.append_nil, Nat.reduceAdd, Nat.reduceSub, Nat.reduceMul, Nat.reduceMod, Nat.reduceDiv, Nat.reduceLT, Nat.reduceLeDiff, Nat.reduceEqDiff, ne_eq, not_true_eq_false, not_false_eq_true, reduceIte, true_and, and_true, kg_lk97, kg_ls97]
  refine kc91r hL hD hr (by omega) ?_
  intro M1 a1 a2 a3
  simp (disch := omega) only [kg_S1, kg_S2, kg_br_T, kg_br_F, kg_br_N, kg_br_t, kg_br_f, kg_at_n, nI_add, pk_mul, kg_sub_n, kg_rem_n, kg_eq_n, kg_lt_n, kg_le_n, kg_nz, kg_01_0, kg_01_1, kg_w0_1, kg_ret0, kg_ret1, kg_ret2, kg_wr_n, kg_Skd, kg_Smc, kg_Sob, kg_Srf, kg_Sld, kg_pad, List.map_cons, List.map_nil, List.length_cons, List.length_nil, List.replicate, List.cons_append, List.nil_append, List.append_nil, Nat.reduceAdd, Nat.reduceSub, Nat.reduceMul, Nat.reduceMod, Nat.reduceDiv, Nat.reduceLT, Nat.reduceLeDiff, Nat.reduceEqDiff, ne_eq, not_true_eq_false, not_false_eq_true, reduceIte, true_and, and_true, kw_n, kw_s, kw_w, kw_o, kw_ws, kw_wn, ku_s, ku_n, kg_lk97, kg_ls97]
  refine kc98 hL (by omega) hk (by omega) ?_
  simp (disch := omega) only [kg_S1, kg_S2, kg_br_T, kg_br_F, kg_br_N, kg_br_t, kg_br_f, kg_at_n, nI_add, pk_mul, kg_sub_n, kg_rem_n, kg_eq_n, kg_lt_n, kg_le_n, kg_nz, kg_01_0, kg_01_1, kg_w0_1, kg_ret0, kg_ret1, kg_ret2, kg_wr_n, kg_Skd, kg_Smc, kg_Sob, kg_Srf, kg_Sld, kg_pad, List.map_cons, List.map_nil, List.length_cons, List.length_nil, List.replicate, List.cons_append, List.nil_append, List.append_nil, Nat.reduceAdd, Nat.reduceSub, Nat.reduceMul, Nat.reduceMod, Nat.reduceDiv, Nat.reduceLT, Nat.reduceLeDiff, Nat.reduceEqDiff, ne_eq, not_true_eq_false, not_false_eq_true, reduceIte, true_and, and_true, kw_n, kw_s, kw_w, kw_o, kw_ws, kw_wn, ku_s, ku_n, kg_lk97, kg_ls97]
  refine kc98 hL (by omega) hk (by omega) ?_
  simp (disch := omega) only [kg_S1, kg_S2, kg_br_T, kg_br_F, kg_br_N, kg_br_t, kg_br_f, kg_at_n, nI_add, pk_mul, kg_sub_n, kg_rem_n, kg_eq_n, kg_lt_n, kg_le_n, kg_nz, kg_01_0, kg_01_1, kg_w0_1, kg_ret0, kg_ret1, kg_ret2, kg_wr_n, kg_Skd, kg_Smc, kg_Sob, kg_Srf, kg_Sld, kg_pad, List.map_cons, List.map_nil, List.length_cons, List.length_nil, List.replicate, List.cons_append, List.nil_append, List.append_nil, Nat.reduceAdd, Nat.reduceSub, Nat.reduceMul, Nat.reduceMod, Nat.reduceDiv, Nat.reduceLT, Nat.reduceLeDiff, Nat.reduceEqDiff, ne_eq, not_true_eq_false, not_false_eq_true, reduceIte, true_and, and_true, kw_n, kw_s, kw_w, kw_o, kw_ws, kw_wn, ku_s, ku_n, kg_lk97, kg_ls97]
  refine kc98 hL (by omega) hk (by omega) ?_
  simp (disch := omega) only [kg_S1, kg_S2, kg_br_T, kg_br_F, kg_br_N, kg_br_t, kg_br_f, kg_at_n, nI_add, pk_mul, kg_sub_n, kg_rem_n, kg_eq_n, kg_lt_n, kg_le_n, kg_nz, kg_01_0, kg_01_1, kg_w0_1, kg_ret0, kg_ret1, kg_ret2, kg_wr_n, kg_Skd, kg_Smc, kg_Sob, kg_Srf, kg_Sld, kg_pad, List.map_cons, List.map_nil, List.length_cons, List.length_nil, List.replicate, List.cons_append, List.nil_append, List.append_nil, Nat.reduceAdd, Nat.reduceSub, Nat.reduceMul, Nat.reduceMod, Nat.reduceDiv, Nat.reduceLT, Nat.reduceLeDiff, Nat.reduceEqDiff, ne_eq, not_true_eq_false, not_false_eq_true, reduceIte, true_and, and_true, kw_n, kw_s, kw_w, kw_o, kw_ws, kw_wn, ku_s, ku_n, kg_lk97, kg_ls97, Nat.add_zero, em]
  rw [kf_pt_u]
  change kg_call G d 129 99 _ (kg_w0 h) (kg_row M1 125 (kf_te A.1 k (nI w) v)) _
  refine kc99 hL hn hm4 (by omega) hu2 (by omega) ?_
  simp (disch := omega) only [kg_S1, kg_S2, kg_br_T, kg_br_F, kg_br_N, kg_br_t, kg_br_f, kg_at_n, nI_add, pk_mul, kg_sub_n, kg_rem_n, kg_eq_n, kg_lt_n, kg_le_n, kg_nz, kg_01_0, kg_01_1, kg_w0_1, kg_ret0, kg_ret1, kg_ret2, kg_wr_n, kg_Skd, kg_Smc, kg_Sob, kg_Srf, kg_Sld, kg_pad, List.map_cons, List.map_nil, List.length_cons, List.length_nil, List.replicate, List.cons_append, List.nil_append, List.append_nil, Nat.reduceAdd, Nat.reduceSub, Nat.reduceMul, Nat.reduceMod, Nat.reduceDiv, Nat.reduceLT, Nat.reduceLeDiff, Nat.reduceEqDiff, ne_eq, not_true_eq_false, not_false_eq_true, reduceIte, true_and, and_true, kw_n, kw_s, kw_w, kw_o, kw_ws, kw_wn, ku_s, ku_n, kg_lk97, kg_ls97]
  exact kc97_l hL rfl hn hk hm4 e2 hu2 (by omega) (hK _ _ _ rfl (a2 _) (kf_DK a3)) _ 0 (Nat.zero_add _)

set_option maxRecDepth 100000 in
theorem kc95 (hL : G.2.2.2.2.2.1 < 2 ^ 31) {i k v : Int32} (hJ : kf_J c A.1) (hD : kf_D M A) (hr : M 125 = A.1) (hd : 6 ≤ d) (hK : ∀ (o : Int32) (A' : kf_A) (M' : kg_M), kf_wri A i k v = (o, A') → kf_D M' A' → (∀ p, p < 124 → M' p = M p) → K (some (.int o)) (kg_w0 h) M') : kg_call G d 129 95 [.ref 124, .int i, .int k, .int v] (kg_w0 h) M K := by
  obtain ⟨d, rfl⟩ : ∃ e, d = e + 1 := ⟨d - 1, by omega⟩
  refine kg_m95 (by simp) (Nat.le_refl _) (kg_v95 hL (by omega) 60 ?_)
  simp (disch := omega) only [kg_S1, kg_S2, kg_br_T, kg_br_F, kg_br_N, kg_br_t, kg_br_f, kg_at_n, nI_add, pk_mul, kg_sub_n, kg_rem_n, kg_eq_n, kg_lt_n, kg_le_n, kg_nz, kg_01_0, kg_01_1, kg_w0_1, kg_ret0, kg_ret1, kg_ret2, kg_wr_n, kg_wr_s, kg_Skd, kg_Smc, kg_Sob, kg_Srf, kg_Sld, kg_pad, List.map_cons, List.map_nil, List.length_cons, List.length_nil, List.replicate, List.cons_append, List.nil_append, List.append_nil, Nat.reduceAdd, Nat.reduceSub, Nat.reduceMul, Nat.reduceMod, Nat.reduceDiv, Nat.reduceLT, Nat.reduceLeDiff, Nat.reduceEqDiff, ne_eq, not_true_eq_false, not_false_eq_true, reduceIte, true_and, and_true, kg_lk95, kg_ls95]
  cases ei : kf_ix 4 i with
  | none =>
    refine kc93b hL (by omega) (kf_ix_n (by omega) ei) ?_
    simp (disch := omega) only [kg_S1, kg_S2, kg_br_T, kg_br_F, kg_br_N, kg_br_t, kg_br_f, kg_at_n, nI_add, pk_mul, kg_sub_n, kg_rem_n, kg_eq_n, kg_lt_n, kg_le_n, kg_nz, kg_01_0, kg_01_1, kg_w0_1, kg_ret0, kg_ret1, kg_ret2, kg_wr_n, kg_wr_s, kg_Skd, kg_Smc, kg_Sob, kg_Srf, kg_Sld, kg_pad, List.map_cons, List.map_nil, List.length_cons, List.length_nil, List.replicate, List.cons_append, List.nil_append, List.append_nil, Nat.reduceAdd, Nat.reduceSub, Nat.reduceMul, Nat.reduceMod, Nat.reduceDiv, Nat.reduceLT, Nat.reduceLeDiff, Nat.reduceEqDiff, ne_eq, not_true_eq_false, not_false_eq_true, reduceIte, true_and, and_true, kg_lk95, kg_ls95]
    exact hK _ _ _ (by simp only [kf_wri, ei]) hD (fun _ _ => rfl)
  | some n =>
    obtain ⟨hn, rfl⟩ := kf_ix_s (by omega) ei
    refine kc93 hL (by omega) hn ?_
    simp (disch := omega) only [kg_S1, kg_S2, kg_br_T, kg_br_F, kg_br_N, kg_br_t, kg_br_f, kg_at_n, nI_add, pk_mul, kg_sub_n, kg_rem_n, kg_eq_n, kg_lt_n, kg_le_n, kg_nz, kg_01_0, kg_01_1, kg_w0_1, kg_ret0, kg_ret1, kg_ret2, kg_wr_n, kg_wr_s, kg_Skd, kg_Smc, kg_Sob, kg_Srf, kg_Sld, kg_pad, List.map_cons, List.map_nil, List.length_cons, List.length_nil, List.replicate, List.cons_append, List.nil_append, List.append_nil, Nat.reduceAdd, Nat.reduceSub, Nat.reduceMul, Nat.reduceMod, Nat.reduceDiv, Nat.reduceLT, Nat.reduceLeDiff, Nat.reduceEqDiff, ne_eq, not_true_eq_false, not_false_eq_true, reduceIte, true_and, and_true, kg_lk95, kg_ls95]
    cases ek : kf_ix 8 k with
    | none =>
      refine kc96b hL (by omega) (kf_ix_n (by omega) ek) ?_
      simp (disch := omega) only [kg_S1, kg_S2, kg_br_T, kg_br_F, kg_br_N, kg_br_t, kg_br_f, kg_at_n, nI_add, pk_mul, kg_sub_n, kg_rem_n, kg_eq_n, kg_lt_n, kg_le_n, kg_nz, kg_01_0, kg_01_1, kg_w0_1, kg_ret0, kg_ret1, kg_ret2, kg_wr_n, kg_wr_s, kg_Skd, kg_Smc, kg_Sob, kg_Srf, kg_Sld, kg_pad, List.map_cons, List.map_nil, List.length_cons, List.length_nil, List.replicate, List.cons_append, List.nil_append, List.append_nil, Nat.reduceAdd, Nat.reduceSub, Nat.reduceMul, Nat.reduceMod, Nat.reduceDiv, Nat.reduceLT, Nat.reduceLeDiff, Nat.reduceEqDiff, ne_eq, not_true_eq_false, not_false_eq_true, reduceIte, true_and, and_true, kg_lk95, kg_ls95]
      exact hK _ _ _ (by simp only [kf_wri, ei, ek]) hD (fun _ _ => rfl)
    | some k =>
      obtain ⟨hk, rfl⟩ := kf_ix_s (by omega) ek
      have hup := hJ.1.1.2.2.2.2.2.2.2.1
      have n01 : ¬ nI 1 = nI 0 := by decide
      simp only [kf_wri, ei, ek] at hK
      refine kc96 hL (by omega) hk ?_
      simp (disch := omega) only [kg_S1, kg_S2, kg_br_T, kg_br_F, kg_br_N, kg_br_t, kg_br_f, kg_at_n, nI_add, pk_mul, kg_sub_n, kg_rem_n, kg_eq_n, kg_lt_n, kg_le_n, kg_nz, kg_01_0, kg_01_1, kg_w0_1, kg_ret0, kg_ret1, kg_ret2, kg_wr_n, kg_wr_s, kg_Skd, kg_Smc, kg_Sob, kg_Srf, kg_Sld, kg_pad, List.map_cons, List.map_nil, List.length_cons, List.length_nil, List.replicate, List.cons_append, List.nil_append, List.append_nil, Nat.reduceAdd, Nat.reduceSub, Nat.reduceMul, Nat.reduceMod, Nat.reduceDiv, Nat.reduceLT, Nat.reduceLeDiff, Nat.reduceEqDiff, ne_eq, not_true_eq_false, not_false_eq_true, reduceIte, true_and, and_true, kg_lk95, kg_ls95]
      refine kc90 hL (by omega) ?_
      have b0 : kf_b false = nI 0 := rfl
      have b1 : kf_b true = nI 1 := rfl
      by_cases q : v < nI 0 ∨ nI 99 < v
      · rw [if_pos q] at hK
        have eb : (decide (nI 0 ≤ v) && decide (v ≤ nI 99)) = false := by
          rw [← Bool.decide_and]
          exact decide_eq_false (fun qq => q.elim (Int32.not_lt.mpr qq.1) (Int32.not_lt.mpr qq.2))
        rw [eb, b0]
        simp (disch := omega) only [kg_S1, kg_S2, kg_br_T, kg_br_F, kg_br_N, kg_br_t, kg_br_f, kg_at_n, nI_add, pk_mul, kg_sub_n, kg_rem_n, kg_eq_n, kg_lt_n, kg_le_n, kg_nz, kg_01_0, kg_01_1, kg_w0_1, kg_ret0, kg_ret1, kg_ret2, kg_wr_n, kg_wr_s, kg_Skd, kg_Smc, kg_Sob, kg_Srf, kg_Sld, kg_pad, List.map_cons, List.map_nil, List.length_cons, List.length_nil, List.replicate, List.cons_append, List.nil_append, List.append_nil, Nat.reduceAdd, Nat.reduceSub, Nat.reduceMul, Nat.reduceMod, Nat.reduceDiv, Nat.reduceLT, Nat.reduceLeDiff, Nat.reduceEqDiff, ne_eq, not_true_eq_false, not_false_eq_true, reduceIte, true_and, and_true, kg_lk95, kg_ls95, hr]
        exact hK _ _ _ rfl hD (fun _ _ => rfl)
      · rw [if_neg q] at hK
        have eb : (decide (nI 0 ≤ v) && decide (v ≤ nI 99)) = true := by
          rw [← Bool.decide_and]
          exact decide_eq_true ⟨Int32.not_lt.mp (fun qq => q (Or.inl qq)), Int32.not_lt.mp (fun qq => q (Or.inr qq))⟩
        rw [eb, b1]
        rcases hup n hn with e | e
        · rw [if_pos e] at hK
          simp (disch := omega) only [kg_S1, kg_S2, kg_br_T, kg_br_F, kg_br_N, kg_br_t, kg_br_f, kg_at_n, nI_add, pk_mul, kg_sub_n, kg_rem_n, kg_eq_n, kg_lt_n, kg_le_n, kg_nz, kg_01_0, kg_01_1, kg_w0_1, kg_ret0, kg_ret1, kg_ret2, kg_wr_n, kg_wr_s, kg_Skd, kg_Smc, kg_Sob, kg_Srf, kg_Sld, kg_pad, List.map_cons, List.map_nil, List.length_cons, List.length_nil, List.replicate, List.cons_append, List.nil_append, List.append_nil, Nat.reduceAdd, Nat.reduceSub, Nat.reduceMul, Nat.reduceMod, Nat.reduceDiv, Nat.reduceLT, Nat.reduceLeDiff, Nat.reduceEqDiff, ne_eq, not_true_eq_false, not_false_eq_true, reduceIte, true_and, and_true, kg_lk95, kg_ls95, hr, e]
          exact hK _ _ _ rfl hD (fun _ _ => rfl)
        · rw [e, if_neg n01] at hK
          simp (disch := omega) only [kg_S1, kg_S2, kg_br_T, kg_br_F, kg_br_N, kg_br_t, kg_br_f, kg_at_n, nI_add, pk_mul, kg_sub_n, kg_rem_n, kg_eq_n, kg_lt_n, kg_le_n, kg_nz, kg_01_0, kg_01_1, kg_w0_1, kg_ret0, kg_ret1, kg_ret2, kg_wr_n, kg_wr_s, kg_Skd, kg_Smc, kg_Sob, kg_Srf, kg_Sld, kg_pad, List.map_cons, List.map_nil, List.length_cons, List.length_nil, List.replicate, List.cons_append, List.nil_append, List.append_nil, Nat.reduceAdd, Nat.reduceSub, Nat.reduceMul, Nat.reduceMod, Nat.reduceDiv, Nat.reduceLT, Nat.reduceLeDiff, Nat.reduceEqDiff, ne_eq, not_true_eq_false, not_false_eq_true, reduceIte, true_and, and_true, kg_lk95, kg_ls95, hr, e]
          refine kc97 hL hn hk (by omega) hJ hD hr (by omega) ?_
          intro o A' M' q1 q2 q3
          simp (disch := omega) only [kg_S1, kg_S2, kg_br_T, kg_br_F, kg_br_N, kg_br_t, kg_br_f, kg_at_n, nI_add, pk_mul, kg_sub_n, kg_rem_n, kg_eq_n, kg_lt_n, kg_le_n, kg_nz, kg_01_0, kg_01_1, kg_w0_1, kg_ret0, kg_ret1, kg_ret2, kg_wr_n, kg_Skd, kg_Smc, kg_Sob, kg_Srf, kg_Sld, kg_pad, List.map_cons, List.map_nil, List.length_cons, List.length_nil, List.replicate, List.cons_append, List.nil_append, List.append_nil, Nat.reduceAdd, Nat.reduceSub, Nat.reduceMul, Nat.reduceMod, Nat.reduceDiv, Nat.reduceLT, Nat.reduceLeDiff, Nat.reduceEqDiff, ne_eq, not_true_eq_false, not_false_eq_true, reduceIte, true_and, and_true, kw_n, kw_s, kw_w, kw_o, kw_ws, kw_wn, ku_s, ku_n, kg_lk95, kg_ls95]
          exact hK _ _ _ q1 q2 q3

set_option maxRecDepth 100000 in
theorem kc101 (hL : G.2.2.2.2.2.1 < 2 ^ 31) {i k : Int32} (hJ : kf_J c A.1) (hD : kf_D M A) (hr : M 125 = A.1) (hd : 6 ≤ d) (hK : ∀ (o : Int32) (A' : kf_A) (M' : kg_M), kf_del A i k = (o, A') → kf_D M' A' → (∀ p, p < 124 → M' p = M p) → K (some (.int o)) (kg_w0 h) M') : kg_call G d 129 101 [.ref 124, .int i, .int k] (kg_w0 h) M K := by
  obtain ⟨d, rfl⟩ : ∃ e, d = e + 1 := ⟨d - 1, by omega⟩
  refine kg_m101 (by simp) (Nat.le_refl _) (kg_v101 hL (by omega) 60 ?_)
  simp (disch := omega) only [kg_S1, kg_S2, kg_br_T, kg_br_F, kg_br_N, kg_br_t, kg_br_f, kg_at_n, nI_add, pk_mul, kg_sub_n, kg_rem_n, kg_eq_n, kg_lt_n, kg_le_n, kg_nz, kg_01_0, kg_01_1, kg_w0_1, kg_ret0, kg_ret1, kg_ret2, kg_wr_n, kg_wr_s, kg_Skd, kg_Smc, kg_Sob, kg_Srf, kg_Sld, kg_pad, List.map_cons, List.map_nil, List.length_cons, List.length_nil, List.replicate, List.cons_append, List.nil_append, List.append_nil, Nat.reduceAdd, Nat.reduceSub, Nat.reduceMul, Nat.reduceMod, Nat.reduceDiv, Nat.reduceLT, Nat.reduceLeDiff, Nat.reduceEqDiff, ne_eq, not_true_eq_false, not_false_eq_true, reduceIte, true_and, and_true, kg_lk101, kg_ls101]
  cases ei : kf_ix 4 i with
  | none =>
    refine kc93b hL (by omega) (kf_ix_n (by omega) ei) ?_
    simp (disch := omega) only [kg_S1, kg_S2, kg_br_T, kg_br_F, kg_br_N, kg_br_t, kg_br_f, kg_at_n, nI_add, pk_mul, kg_sub_n, kg_rem_n, kg_eq_n, kg_lt_n, kg_le_n, kg_nz, kg_01_0, kg_01_1, kg_w0_1, kg_ret0, kg_ret1, kg_ret2, kg_wr_n, kg_wr_s, kg_Skd, kg_Smc, kg_Sob, kg_Srf, kg_Sld, kg_pad, List.map_cons, List.map_nil, List.length_cons, List.length_nil, List.replicate, List.cons_append, List.nil_append, List.append_nil, Nat.reduceAdd, Nat.reduceSub, Nat.reduceMul, Nat.reduceMod, Nat.reduceDiv, Nat.reduceLT, Nat.reduceLeDiff, Nat.reduceEqDiff, ne_eq, not_true_eq_false, not_false_eq_true, reduceIte, true_and, and_true, kg_lk101, kg_ls101]
    exact hK _ _ _ (by simp only [kf_del, ei]) hD (fun _ _ => rfl)
  | some n =>
    obtain ⟨hn, rfl⟩ := kf_ix_s (by omega) ei
    refine kc93 hL (by omega) hn ?_
    simp (disch := omega) only [kg_S1, kg_S2, kg_br_T, kg_br_F, kg_br_N, kg_br_t, kg_br_f, kg_at_n, nI_add, pk_mul, kg_sub_n, kg_rem_n, kg_eq_n, kg_lt_n, kg_le_n, kg_nz, kg_01_0, kg_01_1, kg_w0_1, kg_ret0, kg_ret1, kg_ret2, kg_wr_n, kg_wr_s, kg_Skd, kg_Smc, kg_Sob, kg_Srf, kg_Sld, kg_pad, List.map_cons, List.map_nil, List.length_cons, List.length_nil, List.replicate, List.cons_append, List.nil_append, List.append_nil, Nat.reduceAdd, Nat.reduceSub, Nat.reduceMul, Nat.reduceMod, Nat.reduceDiv, Nat.reduceLT, Nat.reduceLeDiff, Nat.reduceEqDiff, ne_eq, not_true_eq_false, not_false_eq_true, reduceIte, true_and, and_true, kg_lk101, kg_ls101]
    cases ek : kf_ix 8 k with
    | none =>
      refine kc96b hL (by omega) (kf_ix_n (by omega) ek) ?_
      simp (disch := omega) only [kg_S1, kg_S2, kg_br_T, kg_br_F, kg_br_N, kg_br_t, kg_br_f, kg_at_n, nI_add, pk_mul, kg_sub_n, kg_rem_n, kg_eq_n, kg_lt_n, kg_le_n, kg_nz, kg_01_0, kg_01_1, kg_w0_1, kg_ret0, kg_ret1, kg_ret2, kg_wr_n, kg_wr_s, kg_Skd, kg_Smc, kg_Sob, kg_Srf, kg_Sld, kg_pad, List.map_cons, List.map_nil, List.length_cons, List.length_nil, List.replicate, List.cons_append, List.nil_append, List.append_nil, Nat.reduceAdd, Nat.reduceSub, Nat.reduceMul, Nat.reduceMod, Nat.reduceDiv, Nat.reduceLT, Nat.reduceLeDiff, Nat.reduceEqDiff, ne_eq, not_true_eq_false, not_false_eq_true, reduceIte, true_and, and_true, kg_lk101, kg_ls101]
      exact hK _ _ _ (by simp only [kf_del, ei, ek]) hD (fun _ _ => rfl)
    | some k =>
      obtain ⟨hk, rfl⟩ := kf_ix_s (by omega) ek
      have hup := hJ.1.1.2.2.2.2.2.2.2.1
      have n01 : ¬ nI 1 = nI 0 := by decide
      simp only [kf_del, ei, ek] at hK
      refine kc96 hL (by omega) hk ?_
      rcases hup n hn with e | e
      · rw [if_pos e] at hK
        simp (disch := omega) only [kg_S1, kg_S2, kg_br_T, kg_br_F, kg_br_N, kg_br_t, kg_br_f, kg_at_n, nI_add, pk_mul, kg_sub_n, kg_rem_n, kg_eq_n, kg_lt_n, kg_le_n, kg_nz, kg_01_0, kg_01_1, kg_w0_1, kg_ret0, kg_ret1, kg_ret2, kg_wr_n, kg_wr_s, kg_Skd, kg_Smc, kg_Sob, kg_Srf, kg_Sld, kg_pad, List.map_cons, List.map_nil, List.length_cons, List.length_nil, List.replicate, List.cons_append, List.nil_append, List.append_nil, Nat.reduceAdd, Nat.reduceSub, Nat.reduceMul, Nat.reduceMod, Nat.reduceDiv, Nat.reduceLT, Nat.reduceLeDiff, Nat.reduceEqDiff, ne_eq, not_true_eq_false, not_false_eq_true, reduceIte, true_and, and_true, kg_lk101, kg_ls101, hr, e]
        exact hK _ _ _ rfl hD (fun _ _ => rfl)
      · rw [e, if_neg n01] at hK
        simp (disch := omega) only [kg_S1, kg_S2, kg_br_T, kg_br_F, kg_br_N, kg_br_t, kg_br_f, kg_at_n, nI_add, pk_mul, kg_sub_n, kg_rem_n, kg_eq_n, kg_lt_n, kg_le_n, kg_nz, kg_01_0, kg_01_1, kg_w0_1, kg_ret0, kg_ret1, kg_ret2, kg_wr_n, kg_wr_s, kg_Skd, kg_Smc, kg_Sob, kg_Srf, kg_Sld, kg_pad, List.map_cons, List.map_nil, List.length_cons, List.length_nil, List.replicate, List.cons_append, List.nil_append, List.append_nil, Nat.reduceAdd, Nat.reduceSub, Nat.reduceMul, Nat.reduceMod, Nat.reduceDiv, Nat.reduceLT, Nat.reduceLeDiff, Nat.reduceEqDiff, ne_eq, not_true_eq_false, not_false_eq_true, reduceIte, true_and, and_true, kg_lk101, kg_ls101, hr, e]
        refine kc97 hL hn hk (by omega) hJ hD hr (by omega) ?_
        intro o A' M' q1 q2 q3
        simp (disch := omega) only [kg_S1, kg_S2, kg_br_T, kg_br_F, kg_br_N, kg_br_t, kg_br_f, kg_at_n, nI_add, pk_mul, kg_sub_n, kg_rem_n, kg_eq_n, kg_lt_n, kg_le_n, kg_nz, kg_01_0, kg_01_1, kg_w0_1, kg_ret0, kg_ret1, kg_ret2, kg_wr_n, kg_Skd, kg_Smc, kg_Sob, kg_Srf, kg_Sld, kg_pad, List.map_cons, List.map_nil, List.length_cons, List.length_nil, List.replicate, List.cons_append, List.nil_append, List.append_nil, Nat.reduceAdd, Nat.reduceSub, Nat.reduceMul, Nat.reduceMod, Nat.reduceDiv, Nat.reduceLT, Nat.reduceLeDiff, Nat.reduceEqDiff, ne_eq, not_true_eq_false, not_false_eq_true, reduceIte, true_and, and_true, kw_n, kw_s, kw_w, kw_o, kw_ws, kw_wn, ku_s, ku_n, kg_lk101, kg_ls101]
        exact hK _ _ _ q1 q2 q3

set_option maxRecDepth 100000 in
theorem kc106 (hL : G.2.2.2.2.2.1 < 2 ^ 31) {i k : Int32} (hc : c < 1048576) (hJ : kf_J c A.1) (hD : kf_D M A) (hr : M 125 = A.1) (hd : 8 ≤ d) (hK : ∀ (o : Int32) (A' : kf_A) (M' : kg_M), kf_rep A i k = (o, A') → kf_D M' A' → (∀ p, p < 124 → M' p = M p) → K (some (.int o)) (kg_w0 h) M') : kg_call G d 129 106 [.ref 124, .int i, .int k] (kg_w0 h) M K := by
  obtain ⟨d, rfl⟩ : ∃ e, d = e + 1 := ⟨d - 1, by omega⟩
  refine kg_m106 (by simp) (Nat.le_refl _) (kg_v106 hL (by omega) 60 ?_)
  simp (disch := omega) only [kg_S1, kg_S2, kg_br_T, kg_br_F, kg_br_N, kg_br_t, kg_br_f, kg_at_n, nI_add, pk_mul, kg_sub_n, kg_rem_n, kg_eq_n, kg_lt_n, kg_le_n, kg_nz, kg_01_0, kg_01_1, kg_w0_1, kg_ret0, kg_ret1, kg_ret2, kg_wr_n, kg_wr_s, kg_Skd, kg_Smc, kg_Sob, kg_Srf, kg_Sld, kg_pad, List.map_cons, List.map_nil, List.length_cons, List.length_nil, List.replicate, List.cons_append, List.nil_append, List.append_nil, Nat.reduceAdd, Nat.reduceSub, Nat.reduceMul, Nat.reduceMod, Nat.reduceDiv, Nat.reduceLT, Nat.reduceLeDiff, Nat.reduceEqDiff, ne_eq, not_true_eq_false, not_false_eq_true, reduceIte, true_and, and_true, kg_lk106, kg_ls106]
  cases ei : kf_ix 4 i with
  | none =>
    refine kc93b hL (by omega) (kf_ix_n (by omega) ei) ?_
    simp (disch := omega) only [kg_S1, kg_S2, kg_br_T, kg_br_F, kg_br_N, kg_br_t, kg_br_f, kg_at_n, nI_add, pk_mul, kg_sub_n, kg_rem_n, kg_eq_n, kg_lt_n, kg_le_n, kg_nz, kg_01_0, kg_01_1, kg_w0_1, kg_ret0, kg_ret1, kg_ret2, kg_wr_n, kg_wr_s, kg_Skd, kg_Smc, kg_Sob, kg_Srf, kg_Sld, kg_pad, List.map_cons, List.map_nil, List.length_cons, List.length_nil, List.replicate, List.cons_append, List.nil_append, List.append_nil, Nat.reduceAdd, Nat.reduceSub, Nat.reduceMul, Nat.reduceMod, Nat.reduceDiv, Nat.reduceLT, Nat.reduceLeDiff, Nat.reduceEqDiff, ne_eq, not_true_eq_false, not_false_eq_true, reduceIte, true_and, and_true, kg_lk106, kg_ls106]
    exact hK _ _ _ (by simp only [kf_rep, ei]) hD (fun _ _ => rfl)
  | some n =>
    obtain ⟨hn, rfl⟩ := kf_ix_s (by omega) ei
    refine kc93 hL (by omega) hn ?_
    simp (disch := omega) only [kg_S1, kg_S2, kg_br_T, kg_br_F, kg_br_N, kg_br_t, kg_br_f, kg_at_n, nI_add, pk_mul, kg_sub_n, kg_rem_n, kg_eq_n, kg_lt_n, kg_le_n, kg_nz, kg_01_0, kg_01_1, kg_w0_1, kg_ret0, kg_ret1, kg_ret2, kg_wr_n, kg_wr_s, kg_Skd, kg_Smc, kg_Sob, kg_Srf, kg_Sld, kg_pad, List.map_cons, List.map_nil, List.length_cons, List.length_nil, List.replicate, List.cons_append, List.nil_append, List.append_nil, Nat.reduceAdd, Nat.reduceSub, Nat.reduceMul, Nat.reduceMod, Nat.reduceDiv, Nat.reduceLT, Nat.reduceLeDiff, Nat.reduceEqDiff, ne_eq, not_true_eq_false, not_false_eq_true, reduceIte, true_and, and_true, kg_lk106, kg_ls106]
    cases ek : kf_ix 4 k with
    | none =>
      refine kc93b hL (by omega) (kf_ix_n (by omega) ek) ?_
      simp (disch := omega) only [kg_S1, kg_S2, kg_br_T, kg_br_F, kg_br_N, kg_br_t, kg_br_f, kg_at_n, nI_add, pk_mul, kg_sub_n, kg_rem_n, kg_eq_n, kg_lt_n, kg_le_n, kg_nz, kg_01_0, kg_01_1, kg_w0_1, kg_ret0, kg_ret1, kg_ret2, kg_wr_n, kg_wr_s, kg_Skd, kg_Smc, kg_Sob, kg_Srf, kg_Sld, kg_pad, List.map_cons, List.map_nil, List.length_cons, List.length_nil, List.replicate, List.cons_append, List.nil_append, List.append_nil, Nat.reduceAdd, Nat.reduceSub, Nat.reduceMul, Nat.reduceMod, Nat.reduceDiv, Nat.reduceLT, Nat.reduceLeDiff, Nat.reduceEqDiff, ne_eq, not_true_eq_false, not_false_eq_true, reduceIte, true_and, and_true, kg_lk106, kg_ls106]
      exact hK _ _ _ (by simp only [kf_rep, ei, ek]) hD (fun _ _ => rfl)
    | some k =>
      obtain ⟨hk, rfl⟩ := kf_ix_s (by omega) ek
      have hup := hJ.1.1.2.2.2.2.2.2.2.1
      have n01 : ¬ nI 1 = nI 0 := by decide
      simp only [kf_rep, ei, ek] at hK
      refine kc93 hL (by omega) hk ?_
      by_cases q : n = k
      · rw [if_pos q] at hK
        simp (disch := omega) only [kg_S1, kg_S2, kg_br_T, kg_br_F, kg_br_N, kg_br_t, kg_br_f, kg_at_n, nI_add, pk_mul, kg_sub_n, kg_rem_n, kg_eq_n, kg_lt_n, kg_le_n, kg_nz, kg_01_0, kg_01_1, kg_w0_1, kg_ret0, kg_ret1, kg_ret2, kg_wr_n, kg_wr_s, kg_Skd, kg_Smc, kg_Sob, kg_Srf, kg_Sld, kg_pad, List.map_cons, List.map_nil, List.length_cons, List.length_nil, List.replicate, List.cons_append, List.nil_append, List.append_nil, Nat.reduceAdd, Nat.reduceSub, Nat.reduceMul, Nat.reduceMod, Nat.reduceDiv, Nat.reduceLT, Nat.reduceLeDiff, Nat.reduceEqDiff, ne_eq, not_true_eq_false, not_false_eq_true, reduceIte, true_and, and_true, kg_lk106, kg_ls106]
        exact hK _ _ _ rfl hD (fun _ _ => rfl)
      rw [if_neg q] at hK
      rcases hup n hn with e | e
      · rw [if_pos (Or.inl e)] at hK
        simp (disch := omega) only [kg_S1, kg_S2, kg_br_T, kg_br_F, kg_br_N, kg_br_t, kg_br_f, kg_at_n, nI_add, pk_mul, kg_sub_n, kg_rem_n, kg_eq_n, kg_lt_n, kg_le_n, kg_nz, kg_01_0, kg_01_1, kg_w0_1, kg_ret0, kg_ret1, kg_ret2, kg_wr_n, kg_wr_s, kg_Skd, kg_Smc, kg_Sob, kg_Srf, kg_Sld, kg_pad, List.map_cons, List.map_nil, List.length_cons, List.length_nil, List.replicate, List.cons_append, List.nil_append, List.append_nil, Nat.reduceAdd, Nat.reduceSub, Nat.reduceMul, Nat.reduceMod, Nat.reduceDiv, Nat.reduceLT, Nat.reduceLeDiff, Nat.reduceEqDiff, ne_eq, not_true_eq_false, not_false_eq_true, reduceIte, true_and, and_true, kg_lk106, kg_ls106, hr, e]
        exact hK _ _ _ rfl hD (fun _ _ => rfl)
      rcases hup k hk with e' | e'
      · rw [if_pos (Or.inr e')] at hK
        simp (disch := omega) only [kg_S1, kg_S2, kg_br_T, kg_br_F, kg_br_N, kg_br_t, kg_br_f, kg_at_n, nI_add, pk_mul, kg_sub_n, kg_rem_n, kg_eq_n, kg_lt_n, kg_le_n, kg_nz, kg_01_0, kg_01_1, kg_w0_1, kg_ret0, kg_ret1, kg_ret2, kg_wr_n, kg_wr_s, kg_Skd, kg_Smc, kg_Sob, kg_Srf, kg_Sld, kg_pad, List.map_cons, List.map_nil, List.length_cons, List.length_nil, List.replicate, List.cons_append, List.nil_append, List.append_nil, Nat.reduceAdd, Nat.reduceSub, Nat.reduceMul, Nat.reduceMod, Nat.reduceDiv, Nat.reduceLT, Nat.reduceLeDiff, Nat.reduceEqDiff, ne_eq, not_true_eq_false, not_false_eq_true, reduceIte, true_and, and_true, kg_lk106, kg_ls106, hr, e, e']
        exact hK _ _ _ rfl hD (fun _ _ => rfl)
      · rw [if_neg (by rw [e, e']; exact fun qq => qq.elim n01 n01)] at hK
        simp (disch := omega) only [kg_S1, kg_S2, kg_br_T, kg_br_F, kg_br_N, kg_br_t, kg_br_f, kg_at_n, nI_add, pk_mul, kg_sub_n, kg_rem_n, kg_eq_n, kg_lt_n, kg_le_n, kg_nz, kg_01_0, kg_01_1, kg_w0_1, kg_ret0, kg_ret1, kg_ret2, kg_wr_n, kg_wr_s, kg_Skd, kg_Smc, kg_Sob, kg_Srf, kg_Sld, kg_pad, List.map_cons, List.map_nil, List.length_cons, List.length_nil, List.replicate, List.cons_append, List.nil_append, List.append_nil, Nat.reduceAdd, Nat.reduceSub, Nat.reduceMul, Nat.reduceMod, Nat.reduceDiv, Nat.reduceLT, Nat.reduceLeDiff, Nat.reduceEqDiff, ne_eq, not_true_eq_false, not_false_eq_true, reduceIte, true_and, and_true, kg_lk106, kg_ls106, hr, e, e']
        refine kc91r hL hD hr (by omega) ?_
        intro M1 a1 a2 a3
        simp (disch := omega) only [kg_S1, kg_S2, kg_br_T, kg_br_F, kg_br_N, kg_br_t, kg_br_f, kg_at_n, nI_add, pk_mul, kg_sub_n, kg_rem_n, kg_eq_n, kg_lt_n, kg_le_n, kg_nz, kg_01_0, kg_01_1, kg_w0_1, kg_ret0, kg_ret1, kg_ret2, kg_wr_n, kg_Skd, kg_Smc, kg_Sob, kg_Srf, kg_Sld, kg_pad, List.map_cons, List.map_nil, List.length_cons, List.length_nil, List.replicate, List.cons_append, List.nil_append, List.append_nil, Nat.reduceAdd, Nat.reduceSub, Nat.reduceMul, Nat.reduceMod, Nat.reduceDiv, Nat.reduceLT, Nat.reduceLeDiff, Nat.reduceEqDiff, ne_eq, not_true_eq_false, not_false_eq_true, reduceIte, true_and, and_true, kw_n, kw_s, kw_w, kw_o, kw_ws, kw_wn, ku_s, ku_n, kg_lk106, kg_ls106]
        refine kc107 hL hc hn hk q hJ.1 (by omega) ?_
        simp (disch := omega) only [kg_S1, kg_S2, kg_br_T, kg_br_F, kg_br_N, kg_br_t, kg_br_f, kg_at_n, nI_add, pk_mul, kg_sub_n, kg_rem_n, kg_eq_n, kg_lt_n, kg_le_n, kg_nz, kg_01_0, kg_01_1, kg_w0_1, kg_ret0, kg_ret1, kg_ret2, kg_wr_n, kg_Skd, kg_Smc, kg_Sob, kg_Srf, kg_Sld, kg_pad, List.map_cons, List.map_nil, List.length_cons, List.length_nil, List.replicate, List.cons_append, List.nil_append, List.append_nil, Nat.reduceAdd, Nat.reduceSub, Nat.reduceMul, Nat.reduceMod, Nat.reduceDiv, Nat.reduceLT, Nat.reduceLeDiff, Nat.reduceEqDiff, ne_eq, not_true_eq_false, not_false_eq_true, reduceIte, true_and, and_true, kw_n, kw_s, kw_w, kw_o, kw_ws, kw_wn, ku_s, ku_n, kg_lk106, kg_ls106]
        exact hK _ _ _ rfl (a2 _) (kf_DK a3)

end
