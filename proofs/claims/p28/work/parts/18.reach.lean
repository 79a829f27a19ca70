/-! REACHING nodes; writes -/
def kf_u (r : Nat → Int32) (n : Nat) : Bool := !decide (r (7 + n) = nI 0)
/-- the nodes that are reached in k steps from n on, at most m -/
def kf_rl (r : Nat → Int32) (n m : Nat) : Nat → List Nat
  | 0 => []
  | k + 1 => if (kf_u r ((n + k) % 4) && decide ((kf_rl r n m k).length < m)) = true then kf_rl r n m k ++ [(n + k) % 4] else kf_rl r n m k
theorem kf_rl_len (r : Nat → Int32) (n m : Nat) : ∀ k, (kf_rl r n m k).length ≤ k
  | 0 => Nat.le_refl _
  | k + 1 => by
    have := kf_rl_len r n m k
    rw [kf_rl]
    split
    · rw [List.length_append]; simp; omega
    · omega
theorem kf_rl_lt (r : Nat → Int32) (n m : Nat) : ∀ k, ∀ a ∈ kf_rl r n m k, a < 4
  | 0 => fun a h => by cases h
  | k + 1 => by
    intro a h
    rw [kf_rl] at h
    split at h
    · rcases List.mem_append.mp h with h | h
      · exact kf_rl_lt r n m k a h
      · rw [List.mem_singleton.mp h]; exact Nat.mod_lt _ (by omega)
    · exact kf_rl_lt r n m k a h
def kf_RL (M : kg_M) (l : List Nat) : Prop := M 1 9 = nI l.length ∧ ∀ i v : Nat, l[i]? = some v → M 20 i = nI v
def kf_fr (M M0 : kg_M) : Prop := (∀ p, p ≠ 1 → p ≠ 20 → M p = M0 p) ∧ ∀ i, i ≠ 9 → M 1 i = M0 1 i
theorem kf_Rel_fr {c : Nat} {M M0 : kg_M} {r : Nat → Int32} (hR : kf_Rel c M0 1 r) (h : kf_fr M M0) : kf_Rel c M 1 r := by
  obtain ⟨⟨a1, a2⟩, a3, a4, a5, a6, a7, a8, a9⟩ := hR
  refine ⟨⟨(h.2 0 (by omega)).trans a1, (h.2 1 (by omega)).trans a2⟩, fun i hi => ?_, fun i hi => ?_, ?_, ?_, ?_, ?_, a9⟩
  · rw [h.1 _ (by omega) (by omega)]; exact a3 i hi
  · rw [h.1 _ (by omega) (by omega)]; exact a4 i hi
  · rw [h.1 _ (by omega) (by omega), h.1 _ (by omega) (by omega), h.1 _ (by omega) (by omega), h.1 _ (by omega) (by omega)]; exact a5
  · rw [h.1 _ (by omega) (by omega)]; exact a6
  · rw [h.1 _ (by omega) (by omega), h.1 _ (by omega) (by omega), h.1 _ (by omega) (by omega), h.1 _ (by omega) (by omega)]; exact a7
  · rw [h.1 _ (by omega) (by omega), h.1 _ (by omega) (by omega), h.1 _ (by omega) (by omega), h.1 _ (by omega) (by omega), h.1 _ (by omega) (by omega), h.1 _ (by omega) (by omega)]; exact a8
section
variable {G : kg_G} {d c : Nat} {h : Nat → Nat} {r : Nat → Int32} {M : kg_M} {K : kg_Qt}
theorem kc25_l (hL : G.2.2.2.2.2.1 < 2 ^ 31) {M0 : kg_M} (hR : kf_Rel c M0 1 r) {n m : Nat} (hm : m ≤ 4) (hd : 1 ≤ d) (hK : ∀ M' : kg_M, kf_fr M' M0 → kf_RL M' (kf_rl r n m 4) → K none (kg_w0 h) M') : ∀ (z k : Nat) (x : Option Value) (M : kg_M), k + z = 4 → kf_fr M M0 → kf_RL M (kf_rl r n m k) → n < 4 → kg_P G d 25 5 125 125 K 7 [some (.ref 1), some (.int (nI n)), some (.int (nI m)), some (.int (nI k)), x] [] (kg_w0 h) M := by
  intro z
  induction z with
  | zero =>
    intro k x M hk hf hl hn
    obtain rfl : k = 4 := by omega
    refine kg_v25 hL (by omega) 40 ?_
    simp (disch := omega) only [kg_S1, kg_S2, kg_br_T, kg_br_F, kg_br_N, kg_br_t, kg_br_f, kg_at_n, nI_add, pk_mul, kg_sub_n, kg_rem_n, kg_eq_n, kg_lt_n, kg_le_n, kg_nz, kg_01_0, kg_01_1, kg_w0_1, kg_ret0, kg_ret1, kg_ret2, kg_wr_n, kg_wr_s, kg_Skd, kg_Smc, kg_Sob, kg_Srf, kg_Sld, kg_pad, List.map_cons, List.map_nil, List.length_cons, List.length_nil, List.replicate, List.cons_append, List.nil_append, List.append_nil, Nat.reduceAdd, Nat.reduceSub, Nat.reduceMul, Nat.reduceMod, Nat.reduceDiv, Nat.reduceLT, Nat.reduceLeDiff, Nat.reduceEqDiff, ne_eq, not_true_eq_false, not_false_eq_true, reduceIte, true_and, and_true, kg_lk25, kg_ls25]
    exact hK M hf hl
  | succ z ih =>
    intro k x M hk hf hl hn
    have hq : (n + k) % 4 < 4 := Nat.mod_lt _ (by omega)
    have hlen := kf_rl_len r n m k
    have h9 := hl.1
    refine kg_v25 hL (by omega) 40 ?_
    simp (disch := omega) only [kg_S1, kg_S2, kg_br_T, kg_br_F, kg_br_N, kg_br_t, kg_br_f, kg_at_n, nI_add, pk_mul, kg_sub_n, kg_rem_n, kg_eq_n, kg_lt_n, kg_le_n, kg_nz, kg_01_0, kg_01_1, kg_w0_1, kg_ret0, kg_ret1, kg_ret2, kg_wr_n, kg_wr_s, kg_Skd, kg_Smc, kg_Sob, kg_Srf, kg_Sld, kg_pad, List.map_cons, List.map_nil, List.length_cons, List.length_nil, List.replicate, List.cons_append, List.nil_append, List.append_nil, Nat.reduceAdd, Nat.reduceSub, Nat.reduceMul, Nat.reduceMod, Nat.reduceDiv, Nat.reduceLT, Nat.reduceLeDiff, Nat.reduceEqDiff, ne_eq, not_true_eq_false, not_false_eq_true, reduceIte, true_and, and_true, kg_lk25, kg_ls25, h9]
    rw [kf_up1 (kf_Rel_fr hR hf) hq]
    refine kg_br_i (fun q => ?_) (fun q => ?_)
    · refine ih (k + 1) _ M (by omega) hf ?_ hn
      rw [kf_rl, if_neg (by simp [kf_u, q])]
      exact hl
    · refine kg_br_i (fun q2 => ?_) (fun q2 => ?_)
      · refine ih (k + 1) _ M (by omega) hf ?_ hn
        rw [kf_rl, if_neg (by simp; omega)]
        exact hl
      · refine ih (k + 1) _ _ (by omega) ?_ ?_ hn
        · refine ⟨fun p h1 h2 => ?_, fun i hi => ?_⟩
          · rw [kg_wr_n h1, kg_wr_n h2]; exact hf.1 p h1 h2
          · simp [kg_wr, hi]; exact hf.2 i hi
        · rw [kf_rl, if_pos (by simp [kf_u, q]; omega)]
          refine ⟨by simp [kg_wr], fun i v hi => ?_⟩
          simp only [kg_wr]
          rw [List.getElem?_append] at hi
          by_cases e : i < (kf_rl r n m k).length
          · rw [if_pos e] at hi
            have e2 : i ≠ (kf_rl r n m k).length := by omega
            simp [e2]
            exact hl.2 i v hi
          · rw [if_neg e] at hi
            have e3 : i - (kf_rl r n m k).length = 0 := by
              have := (List.getElem?_eq_some_iff.mp hi).1
              simp at this
              omega
            have e2 : i = (kf_rl r n m k).length := by omega
            rw [e3] at hi
            cases hi
            simp [e2]
theorem kc25 (hL : G.2.2.2.2.2.1 < 2 ^ 31) (hR : kf_Rel c M 1 r) {n m : Nat} (hn : n < 4) (hm : m ≤ 4) (hd : 2 ≤ d) (hK : ∀ M' : kg_M, kf_fr M' M → kf_RL M' (kf_rl r n m 4) → K none (kg_w0 h) M') : kg_call G d 125 25 [.ref 1, .int (nI n), .int (nI m)] (kg_w0 h) M K := by
  obtain ⟨d, rfl⟩ : ∃ e, d = e + 1 := ⟨d - 1, by omega⟩
  refine kg_m25 (by simp) (Nat.le_refl _) (kg_v25 hL (by omega) 40 ?_)
  simp (disch := omega) only [kg_S1, kg_S2, kg_br_T, kg_br_F, kg_br_N, kg_br_t, kg_br_f, kg_at_n, nI_add, pk_mul, kg_sub_n, kg_rem_n, kg_eq_n, kg_lt_n, kg_le_n, kg_nz, kg_01_0, kg_01_1, kg_w0_1, kg_ret0, kg_ret1, kg_ret2, kg_wr_n, kg_wr_s, kg_Skd, kg_Smc, kg_Sob, kg_Srf, kg_Sld, kg_pad, List.map_cons, List.map_nil, List.length_cons, List.length_nil, List.replicate, List.cons_append, List.nil_append, List.append_nil, Nat.reduceAdd, Nat.reduceSub, Nat.reduceMul, Nat.reduceMod, Nat.reduceDiv, Nat.reduceLT, Nat.reduceLeDiff, Nat.reduceEqDiff, ne_eq, not_true_eq_false, not_false_eq_true, reduceIte, true_and, and_true, kg_lk25, kg_ls25]
  refine kc25_l hL hR hm (by omega) hK 4 0 _ _ rfl ?_ ?_ hn
  · refine ⟨fun p h1 h2 => kg_wr_n h1, fun i hi => by simp [kg_wr, hi]⟩
  · exact ⟨by simp [kg_wr, kf_rl], fun i v hi => by simp [kf_rl] at hi⟩
/-- the newest of those -/
def kf_nw (r : Nat → Int32) (k : Nat) (b a : Nat) : Nat := if kf_s r b k < kf_s r a k then a else b
theorem kf_nw_lt {l : List Nat} {k n : Nat} (hl : ∀ a ∈ l, a < 4) (hn : n < 4) : l.foldl (kf_nw r k) n < 4 := by
  induction l generalizing n with
  | nil => exact hn
  | cons a l ih =>
    refine ih (fun b hb => hl b (List.mem_cons_of_mem _ hb)) ?_
    unfold kf_nw
    split
    · exact hl a List.mem_cons_self
    · exact hn
theorem kf_take {l : List Nat} {i : Nat} (hi : i < l.length) : ∃ v, l[i]? = some v ∧ l.take (i + 1) = l.take i ++ [v] := by
  refine ⟨l[i], List.getElem?_eq_getElem hi, ?_⟩
  rw [List.take_add_one, List.getElem?_eq_getElem hi]
  rfl
theorem kc26_l (hL : G.2.2.2.2.2.1 < 2 ^ 31) (hR : kf_Rel c M 1 r) {n k : Nat} {l : List Nat} (hl : kf_RL M l) (hlt : ∀ a ∈ l, a < 4) (hll : l.length ≤ 4) (hn : n < 4) (hk : k < 8) (hd : 3 ≤ d) (hK : K (some (.int (nI (l.foldl (kf_nw r k) n)))) (kg_w0 h) M) : ∀ z i : Nat, i + z = l.length → kg_P G d 26 5 125 125 K 16 [some (.ref 1), some (.int (nI n)), some (.int (nI k)), some (.int (nI ((l.take i).foldl (kf_nw r k) n))), some (.int (nI i))] [] (kg_w0 h) M := by
  have h9 := hl.1
  intro z
  induction z with
  | zero =>
    intro i hi
    refine kg_v26 hL (by omega) 40 ?_
    simp (disch := omega) only [kg_S1, kg_S2, kg_br_T, kg_br_F, kg_br_N, kg_br_t, kg_br_f, kg_at_n, nI_add, pk_mul, kg_sub_n, kg_rem_n, kg_eq_n, kg_lt_n, kg_le_n, kg_nz, kg_01_0, kg_01_1, kg_w0_1, kg_ret0, kg_ret1, kg_ret2, kg_wr_n, kg_wr_s, kg_Skd, kg_Smc, kg_Sob, kg_Srf, kg_Sld, kg_pad, List.map_cons, List.map_nil, List.length_cons, List.length_nil, List.replicate, List.cons_append, List.nil_append, List.append_nil, Nat.reduceAdd, Nat.reduceSub, Nat.reduceMul, Nat.reduceMod, Nat.reduceDiv, Nat.reduceLT, Nat.reduceLeDiff, Nat.reduceEqDiff, ne_eq, not_true_eq_false, not_false_eq_true, reduceIte, true_and, and_true, kg_lk26, kg_ls26, h9]
    rw [List.take_of_length_le (by omega)]
    exact hK
  | succ z ih =>
    intro i hi
    obtain ⟨v, e1, e2⟩ := kf_take (l := l) (i := i) (by omega)
    have e3 := hl.2 i v e1
    have hv := hlt v (List.mem_of_getElem? e1)
    have hb := kf_nw_lt (r := r) (k := k) (l := l.take i) (fun a ha => hlt a (List.mem_of_mem_take ha)) hn
    refine kg_v26 hL (by omega) 40 ?_
    simp (disch := omega) only [kg_S1, kg_S2, kg_br_T, kg_br_F, kg_br_N, kg_br_t, kg_br_f, kg_at_n, nI_add, pk_mul, kg_sub_n, kg_rem_n, kg_eq_n, kg_lt_n, kg_le_n, kg_nz, kg_01_0, kg_01_1, kg_w0_1, kg_ret0, kg_ret1, kg_ret2, kg_wr_n, kg_wr_s, kg_Skd, kg_Smc, kg_Sob, kg_Srf, kg_Sld, kg_pad, List.map_cons, List.map_nil, List.length_cons, List.length_nil, List.replicate, List.cons_append, List.nil_append, List.append_nil, Nat.reduceAdd, Nat.reduceSub, Nat.reduceMul, Nat.reduceMod, Nat.reduceDiv, Nat.reduceLT, Nat.reduceLeDiff, Nat.reduceEqDiff, ne_eq, not_true_eq_false, not_false_eq_true, reduceIte, true_and, and_true, kg_lk26, kg_ls26, h9, e3]
    refine kc27 hL hR (by omega) (by omega) hk ?_
    simp (disch := omega) only [kg_S1, kg_S2, kg_br_T, kg_br_F, kg_br_N, kg_br_t, kg_br_f, kg_at_n, nI_add, pk_mul, kg_sub_n, kg_rem_n, kg_eq_n, kg_lt_n, kg_le_n, kg_nz, kg_01_0, kg_01_1, kg_w0_1, kg_ret0, kg_ret1, kg_ret2, kg_wr_n, kg_wr_s, kg_Skd, kg_Smc, kg_Sob, kg_Srf, kg_Sld, kg_pad, List.map_cons, List.map_nil, List.length_cons, List.length_nil, List.replicate, List.cons_append, List.nil_append, List.append_nil, Nat.reduceAdd, Nat.reduceSub, Nat.reduceMul, Nat.reduceMod, Nat.reduceDiv, Nat.reduceLT, Nat.reduceLeDiff, Nat.reduceEqDiff, ne_eq, not_true_eq_false, not_false_eq_true, reduceIte, true_and, and_true, kg_lk26, kg_ls26, h9, e3]
    refine kc27 hL hR (by omega) (by omega) hk ?_
    simp (disch := omega) only [kg_S1, kg_S2, kg_br_T, kg_br_F, kg_br_N, kg_br_t, kg_br_f, kg_at_n, nI_add, pk_mul, kg_sub_n, kg_rem_n, kg_eq_n, kg_lt_n, kg_le_n, kg_nz, kg_01_0, kg_01_1, kg_w0_1, kg_ret0, kg_ret1, kg_ret2, kg_wr_n, kg_wr_s, kg_Skd, kg_Smc, kg_Sob, kg_Srf, kg_Sld, kg_pad, List.map_cons, List.map_nil, List.length_cons, List.length_nil, List.replicate, List.cons_append, List.nil_append, List.append_nil, Nat.reduceAdd, Nat.reduceSub, Nat.reduceMul, Nat.reduceMod, Nat.reduceDiv, Nat.reduceLT, Nat.reduceLeDiff, Nat.reduceEqDiff, ne_eq, not_true_eq_false, not_false_eq_true, reduceIte, true_and, and_true, kg_lk26, kg_ls26, h9, e3]
    have h1 := ih (i + 1) (by omega)
    rw [e2, List.foldl_append] at h1
    refine kg_br_i (fun q => ?_) (fun q => ?_)
    · have e4 : kf_nw r k ((l.take i).foldl (kf_nw r k) n) v = (l.take i).foldl (kf_nw r k) n := by unfold kf_nw at q ⊢; rw [if_neg (Int32.not_lt.mpr q)]
      simp only [List.foldl_cons, List.foldl_nil, e4] at h1
      exact h1
    · have e4 : kf_nw r k ((l.take i).foldl (kf_nw r k) n) v = v := by unfold kf_nw at q ⊢; rw [if_pos (Int32.not_le.mp q)]
      simp only [List.foldl_cons, List.foldl_nil, e4] at h1
      exact h1
theorem kf_rea (hR : kf_Rel c M 1 r) : ∃ a : Nat, 1 ≤ a ∧ a ≤ 4 ∧ M 2 1 = nI a ∧ r 3 = nI a := by
  obtain ⟨a, h1, h2, h3⟩ := hR.2.2.2.2.2.2.2.2.2.2.1
  exact ⟨a, h1, h2, (hR.2.1 1 (by omega)).trans h3, h3⟩
theorem kf_rea0 (hR : kf_Rel c M 1 r) : ∃ a : Nat, 1 ≤ a ∧ a ≤ 4 ∧ M 2 0 = nI a ∧ r 2 = nI a := by
  obtain ⟨a, h1, h2, h3⟩ := hR.2.2.2.2.2.2.2.2.2.1
  exact ⟨a, h1, h2, (hR.2.1 0 (by omega)).trans h3, h3⟩
theorem kc26 (hL : G.2.2.2.2.2.1 < 2 ^ 31) (hR : kf_Rel c M 1 r) {n k m : Nat} (hn : n < 4) (hk : k < 8) (hm : r 3 = nI m) (hm4 : m ≤ 4) (hd : 4 ≤ d) (hK : ∀ M' : kg_M, kf_fr M' M → kf_RL M' (kf_rl r n m 4) → K (some (.int (nI ((kf_rl r n m 4).foldl (kf_nw r k) n)))) (kg_w0 h) M') : kg_call G d 125 26 [.ref 1, .int (nI n), .int (nI k)] (kg_w0 h) M K := by
  obtain ⟨d, rfl⟩ : ∃ e, d = e + 1 := ⟨d - 1, by omega⟩
  refine kg_m26 (by simp) (Nat.le_refl _) (kg_v26 hL (by omega) 40 ?_)
  simp (disch := omega) only [kg_S1, kg_S2, kg_br_T, kg_br_F, kg_br_N, kg_br_t, kg_br_f, kg_at_n, nI_add, pk_mul, kg_sub_n, kg_rem_n, kg_eq_n, kg_lt_n, kg_le_n, kg_nz, kg_01_0, kg_01_1, kg_w0_1, kg_ret0, kg_ret1, kg_ret2, kg_wr_n, kg_wr_s, kg_Skd, kg_Smc, kg_Sob, kg_Srf, kg_Sld, kg_pad, List.map_cons, List.map_nil, List.length_cons, List.length_nil, List.replicate, List.cons_append, List.nil_append, List.append_nil, Nat.reduceAdd, Nat.reduceSub, Nat.reduceMul, Nat.reduceMod, Nat.reduceDiv, Nat.reduceLT, Nat.reduceLeDiff, Nat.reduceEqDiff, ne_eq, not_true_eq_false, not_false_eq_true, reduceIte, true_and, and_true, kg_lk26, kg_ls26]
  rw [hR.2.1 1 (by omega), show 2 + 1 = 3 from rfl, hm]
  refine kc25 hL hR hn hm4 (by omega) ?_
  intro M1 h1 h2
  simp (disch := omega) only [kg_S1, kg_S2, kg_br_T, kg_br_F, kg_br_N, kg_br_t, kg_br_f, kg_at_n, nI_add, pk_mul, kg_sub_n, kg_rem_n, kg_eq_n, kg_lt_n, kg_le_n, kg_nz, kg_01_0, kg_01_1, kg_w0_1, kg_ret0, kg_ret1, kg_ret2, kg_wr_n, kg_wr_s, kg_Skd, kg_Smc, kg_Sob, kg_Srf, kg_Sld, kg_pad, List.map_cons, List.map_nil, List.length_cons, List.length_nil, List.replicate, List.cons_append, List.nil_append, List.append_nil, Nat.reduceAdd, Nat.reduceSub, Nat.reduceMul, Nat.reduceMod, Nat.reduceDiv, Nat.reduceLT, Nat.reduceLeDiff, Nat.reduceEqDiff, ne_eq, not_true_eq_false, not_false_eq_true, reduceIte, true_and, and_true, kg_lk26, kg_ls26]
  exact kc26_l hL (kf_Rel_fr hR h1) h2 (kf_rl_lt r n m 4) (kf_rl_len r n m 4) hn hk (by omega) (hK M1 h1 h2) _ 0 (Nat.zero_add _)
def kf_df (r : Nat → Int32) (s k : Nat) (l : List Nat) : Bool := l.any (fun a => !decide (kf_s r a k = kf_s r s k))
theorem kc28_l (hL : G.2.2.2.2.2.1 < 2 ^ 31) (hR : kf_Rel c M 1 r) {s k : Nat} {l : List Nat} (hl : kf_RL M l) (hlt : ∀ a ∈ l, a < 4) (hll : l.length ≤ 4) (hs : s < 4) (hk : k < 8) (hd : 3 ≤ d) (hK : K (some (.int (kf_b (kf_df r s k l)))) (kg_w0 h) M) : ∀ z i : Nat, i + z = l.length → kf_df r s k (l.take i) = false → kg_P G d 28 4 125 125 K 2 [some (.ref 1), some (.int (nI s)), some (.int (nI k)), some (.int (nI i))] [] (kg_w0 h) M := by
  have h9 := hl.1
  intro z
  induction z with
  | zero =>
    intro i hi hf
    refine kg_v28 hL (by omega) 40 ?_
    simp (disch := omega) only [kg_S1, kg_S2, kg_br_T, kg_br_F, kg_br_N, kg_br_t, kg_br_f, kg_at_n, nI_add, pk_mul, kg_sub_n, kg_rem_n, kg_eq_n, kg_lt_n, kg_le_n, kg_nz, kg_01_0, kg_01_1, kg_w0_1, kg_ret0, kg_ret1, kg_ret2, kg_wr_n, kg_wr_s, kg_Skd, kg_Smc, kg_Sob, kg_Srf, kg_Sld, kg_pad, List.map_cons, List.map_nil, List.length_cons, List.length_nil, List.replicate, List.cons_append, List.nil_append, List.append_nil, Nat.reduceAdd, Nat.reduceSub, Nat.reduceMul, Nat.reduceMod, Nat.reduceDiv, Nat.reduceLT, Nat.reduceLeDiff, Nat.reduceEqDiff, ne_eq, not_true_eq_false, not_false_eq_true, reduceIte, true_and, and_true, kg_lk28, kg_ls28, h9]
    rw [List.take_of_length_le (by omega)] at hf
    rw [kf_bf (by simp [hf])] at hK
    exact hK
  | succ z ih =>
    intro i hi hf
    obtain ⟨v, e1, e2⟩ := kf_take (l := l) (i := i) (by omega)
    have e3 := hl.2 i v e1
    have hvm := List.mem_of_getElem? e1
    have hv := hlt v hvm
    refine kg_v28 hL (by omega) 40 ?_
    simp (disch := omega) only [kg_S1, kg_S2, kg_br_T, kg_br_F, kg_br_N, kg_br_t, kg_br_f, kg_at_n, nI_add, pk_mul, kg_sub_n, kg_rem_n, kg_eq_n, kg_lt_n, kg_le_n, kg_nz, kg_01_0, kg_01_1, kg_w0_1, kg_ret0, kg_ret1, kg_ret2, kg_wr_n, kg_wr_s, kg_Skd, kg_Smc, kg_Sob, kg_Srf, kg_Sld, kg_pad, List.map_cons, List.map_nil, List.length_cons, List.length_nil, List.replicate, List.cons_append, List.nil_append, List.append_nil, Nat.reduceAdd, Nat.reduceSub, Nat.reduceMul, Nat.reduceMod, Nat.reduceDiv, Nat.reduceLT, Nat.reduceLeDiff, Nat.reduceEqDiff, ne_eq, not_true_eq_false, not_false_eq_true, reduceIte, true_and, and_true, kg_lk28, kg_ls28, h9, e3]
    refine kc27 hL hR (by omega) (by omega) hk ?_
    simp (disch := omega) only [kg_S1, kg_S2, kg_br_T, kg_br_F, kg_br_N, kg_br_t, kg_br_f, kg_at_n, nI_add, pk_mul, kg_sub_n, kg_rem_n, kg_eq_n, kg_lt_n, kg_le_n, kg_nz, kg_01_0, kg_01_1, kg_w0_1, kg_ret0, kg_ret1, kg_ret2, kg_wr_n, kg_wr_s, kg_Skd, kg_Smc, kg_Sob, kg_Srf, kg_Sld, kg_pad, List.map_cons, List.map_nil, List.length_cons, List.length_nil, List.replicate, List.cons_append, List.nil_append, List.append_nil, Nat.reduceAdd, Nat.reduceSub, Nat.reduceMul, Nat.reduceMod, Nat.reduceDiv, Nat.reduceLT, Nat.reduceLeDiff, Nat.reduceEqDiff, ne_eq, not_true_eq_false, not_false_eq_true, reduceIte, true_and, and_true, kg_lk28, kg_ls28, h9, e3]
    refine kc27 hL hR (by omega) (by omega) hk ?_
    simp (disch := omega) only [kg_S1, kg_S2, kg_br_T, kg_br_F, kg_br_N, kg_br_t, kg_br_f, kg_at_n, nI_add, pk_mul, kg_sub_n, kg_rem_n, kg_eq_n, kg_lt_n, kg_le_n, kg_nz, kg_01_0, kg_01_1, kg_w0_1, kg_ret0, kg_ret1, kg_ret2, kg_wr_n, kg_wr_s, kg_Skd, kg_Smc, kg_Sob, kg_Srf, kg_Sld, kg_pad, List.map_cons, List.map_nil, List.length_cons, List.length_nil, List.replicate, List.cons_append, List.nil_append, List.append_nil, Nat.reduceAdd, Nat.reduceSub, Nat.reduceMul, Nat.reduceMod, Nat.reduceDiv, Nat.reduceLT, Nat.reduceLeDiff, Nat.reduceEqDiff, ne_eq, not_true_eq_false, not_false_eq_true, reduceIte, true_and, and_true, kg_lk28, kg_ls28, h9, e3]
    refine kg_br_i (fun q => ?_) (fun q => ?_)
    · refine ih (i + 1) (by omega) ?_
      rw [e2]
      unfold kf_df at hf ⊢
      rw [List.any_append, hf]
      simp [q]
    · have ha : kf_df r s k l = true := List.any_eq_true.mpr ⟨v, hvm, by simp [q]⟩
      rw [kf_bt ha] at hK
      exact hK
theorem kc28 (hL : G.2.2.2.2.2.1 < 2 ^ 31) (hR : kf_Rel c M 1 r) {s k : Nat} {l : List Nat} (hl : kf_RL M l) (hlt : ∀ a ∈ l, a < 4) (hll : l.length ≤ 4) (hs : s < 4) (hk : k < 8) (hd : 4 ≤ d) (hK : K (some (.int (kf_b (kf_df r s k l)))) (kg_w0 h) M) : kg_call G d 125 28 [.ref 1, .int (nI s), .int (nI k)] (kg_w0 h) M K := by
  obtain ⟨d, rfl⟩ : ∃ e, d = e + 1 := ⟨d - 1, by omega⟩
  refine kg_m28 (by simp) (Nat.le_refl _) (kg_v28 hL (by omega) 40 ?_)
  simp (disch := omega) only [kg_S1, kg_S2, kg_br_T, kg_br_F, kg_br_N, kg_br_t, kg_br_f, kg_at_n, nI_add, pk_mul, kg_sub_n, kg_rem_n, kg_eq_n, kg_lt_n, kg_le_n, kg_nz, kg_01_0, kg_01_1, kg_w0_1, kg_ret0, kg_ret1, kg_ret2, kg_wr_n, kg_wr_s, kg_Skd, kg_Smc, kg_Sob, kg_Srf, kg_Sld, kg_pad, List.map_cons, List.map_nil, List.length_cons, List.length_nil, List.replicate, List.cons_append, List.nil_append, List.append_nil, Nat.reduceAdd, Nat.reduceSub, Nat.reduceMul, Nat.reduceMod, Nat.reduceDiv, Nat.reduceLT, Nat.reduceLeDiff, Nat.reduceEqDiff, ne_eq, not_true_eq_false, not_false_eq_true, reduceIte, true_and, and_true, kg_lk28, kg_ls28]
  exact kc28_l hL hR hl hlt hll hs hk (by omega) hK _ 0 (Nat.zero_add _) rfl
def kf_m1 (s k : Nat) (r : Nat → Int32) (a : Nat) : Nat → Int32 := if kf_s r a k = kf_s r s k then r else kf_ln r a s k
theorem kf_w_nt {kd n k : Nat} {a b : Int32} (hn : n < 5) (hk : k < 8) : kf_w (kf_nt r kd a b) n k = kf_w r n k := by unfold kf_w; split <;> exact kf_nt_o (by omega)
theorem kf_s_nt {kd n k : Nat} {a b : Int32} (hn : n < 5) (hk : k < 8) : kf_s (kf_nt r kd a b) n k = kf_s r n k := by unfold kf_s; split <;> exact kf_nt_o (by omega)
theorem kf_w_ln {n s k n' k' : Nat} (hn : n < 4) (hs : s < 4) (hk : k < 8) (hn' : n' < 5) (hk' : k' < 8) : kf_w (kf_ln r n s k) n' k' = if n' = n ∧ k' = k then kf_w r s k else kf_w r n' k' := by
  unfold kf_ln
  split
  · rw [kf_w_nt hn' hk', kf_ta_w hn hs hk hn' hk']
  · rw [kf_ta_w hn hs hk hn' hk']
theorem kf_s_ln {n s k n' k' : Nat} (hn : n < 4) (hs : s < 4) (hk : k < 8) (hn' : n' < 5) (hk' : k' < 8) : kf_s (kf_ln r n s k) n' k' = if n' = n ∧ k' = k then kf_s r s k else kf_s r n' k' := by
  unfold kf_ln
  split
  · rw [kf_s_nt hn' hk', kf_ta_s hn hs hk hn' hk']
  · rw [kf_ta_s hn hs hk hn' hk']
theorem kf_w_m1 {a s k : Nat} (ha : a < 4) (hs : s < 4) (hk : k < 8) : kf_w (kf_m1 s k r a) s k = kf_w r s k := by
  unfold kf_m1
  split
  · rfl
  · rw [kf_w_ln ha hs hk (by omega) hk]; split <;> rfl
theorem kc29_l (hL : G.2.2.2.2.2.1 < 2 ^ 31) {M0 : kg_M} {r0 : Nat → Int32} {s k : Nat} {l : List Nat} (hl0 : kf_RL M0 l) (hlt : ∀ a ∈ l, a < 4) (hll : l.length ≤ 4) (hs : s < 4) (hk : k < 8) (hd : 5 ≤ d) (hK : ∀ M' : kg_M, (∀ p, (p < 5 ∨ 19 < p) → M' p = M0 p) → kf_Rel c M' 1 (l.foldl (kf_m1 s k) r0) → K none (kg_w0 h) M') : ∀ (z i : Nat) (M : kg_M), i + z = l.length → (∀ p, (p < 5 ∨ 19 < p) → M p = M0 p) → kf_Rel c M 1 ((l.take i).foldl (kf_m1 s k) r0) → kf_w ((l.take i).foldl (kf_m1 s k) r0) s k ≠ nI 0 → kg_P G d 29 4 125 125 K 2 [some (.ref 1), some (.int (nI s)), some (.int (nI k)), some (.int (nI i))] [] (kg_w0 h) M := by
  intro z
  induction z with
  | zero =>
    intro i M hi hf hR hw
    have h9 : M 1 9 = nI l.length := by rw [hf 1 (by omega)]; exact hl0.1
    refine kg_v29 hL (by omega) 40 ?_
    simp (disch := omega) only [kg_S1, kg_S2, kg_br_T, kg_br_F, kg_br_N, kg_br_t, kg_br_f, kg_at_n, nI_add, pk_mul, kg_sub_n, kg_rem_n, kg_eq_n, kg_lt_n, kg_le_n, kg_nz, kg_01_0, kg_01_1, kg_w0_1, kg_ret0, kg_ret1, kg_ret2, kg_wr_n, kg_wr_s, kg_Skd, kg_Smc, kg_Sob, kg_Srf, kg_Sld, kg_pad, List.map_cons, List.map_nil, List.length_cons, List.length_nil, List.replicate, List.cons_append, List.nil_append, List.append_nil, Nat.reduceAdd, Nat.reduceSub, Nat.reduceMul, Nat.reduceMod, Nat.reduceDiv, Nat.reduceLT, Nat.reduceLeDiff, Nat.reduceEqDiff, ne_eq, not_true_eq_false, not_false_eq_true, reduceIte, true_and, and_true, kg_lk29, kg_ls29, h9]
    rw [List.take_of_length_le (by omega)] at hR
    exact hK M hf hR
  | succ z ih =>
    intro i M hi hf hR hw
    have h9 : M 1 9 = nI l.length := by rw [hf 1 (by omega)]; exact hl0.1
    obtain ⟨v, e1, e2⟩ := kf_take (l := l) (i := i) (by omega)
    have e3 : M 20 i = nI v := by rw [hf 20 (by omega)]; exact hl0.2 i v e1
    have hv := hlt v (List.mem_of_getElem? e1)
    refine kg_v29 hL (by omega) 40 ?_
    simp (disch := omega) only [kg_S1, kg_S2, kg_br_T, kg_br_F, kg_br_N, kg_br_t, kg_br_f, kg_at_n, nI_add, pk_mul, kg_sub_n, kg_rem_n, kg_eq_n, kg_lt_n, kg_le_n, kg_nz, kg_01_0, kg_01_1, kg_w0_1, kg_ret0, kg_ret1, kg_ret2, kg_wr_n, kg_wr_s, kg_Skd, kg_Smc, kg_Sob, kg_Srf, kg_Sld, kg_pad, List.map_cons, List.map_nil, List.length_cons, List.length_nil, List.replicate, List.cons_append, List.nil_append, List.append_nil, Nat.reduceAdd, Nat.reduceSub, Nat.reduceMul, Nat.reduceMod, Nat.reduceDiv, Nat.reduceLT, Nat.reduceLeDiff, Nat.reduceEqDiff, ne_eq, not_true_eq_false, not_false_eq_true, reduceIte, true_and, and_true, kg_lk29, kg_ls29, h9, e3]
    have e4 : (l.take (i + 1)).foldl (kf_m1 s k) r0 = kf_m1 s k ((l.take i).foldl (kf_m1 s k) r0) v := by rw [e2, List.foldl_append]; rfl
    have hw' : kf_w (kf_m1 s k ((l.take i).foldl (kf_m1 s k) r0) v) s k ≠ nI 0 := by rw [kf_w_m1 hv hs hk]; exact hw
    refine kc30 hL hR (by omega) hv hs hk (fun _ => hw) (fun q => ?_) (fun q M' h1 h2 => ?_)
    · simp (disch := omega) only [kg_S1, kg_S2, kg_br_T, kg_br_F, kg_br_N, kg_br_t, kg_br_f, kg_at_n, nI_add, pk_mul, kg_sub_n, kg_rem_n, kg_eq_n, kg_lt_n, kg_le_n, kg_nz, kg_01_0, kg_01_1, kg_w0_1, kg_ret0, kg_ret1, kg_ret2, kg_wr_n, kg_wr_s, kg_Skd, kg_Smc, kg_Sob, kg_Srf, kg_Sld, kg_pad, List.map_cons, List.map_nil, List.length_cons, List.length_nil, List.replicate, List.cons_append, List.nil_append, List.append_nil, Nat.reduceAdd, Nat.reduceSub, Nat.reduceMul, Nat.reduceMod, Nat.reduceDiv, Nat.reduceLT, Nat.reduceLeDiff, Nat.reduceEqDiff, ne_eq, not_true_eq_false, not_false_eq_true, reduceIte, true_and, and_true, kg_lk29, kg_ls29]
      refine ih (i + 1) M (by omega) hf ?_ (by rw [e4]; exact hw')
      rw [e4, kf_m1, if_pos q]
      exact hR
    · simp (disch := omega) only [kg_S1, kg_S2, kg_br_T, kg_br_F, kg_br_N, kg_br_t, kg_br_f, kg_at_n, nI_add, pk_mul, kg_sub_n, kg_rem_n, kg_eq_n, kg_lt_n, kg_le_n, kg_nz, kg_01_0, kg_01_1, kg_w0_1, kg_ret0, kg_ret1, kg_ret2, kg_wr_n, kg_wr_s, kg_Skd, kg_Smc, kg_Sob, kg_Srf, kg_Sld, kg_pad, List.map_cons, List.map_nil, List.length_cons, List.length_nil, List.replicate, List.cons_append, List.nil_append, List.append_nil, Nat.reduceAdd, Nat.reduceSub, Nat.reduceMul, Nat.reduceMod, Nat.reduceDiv, Nat.reduceLT, Nat.reduceLeDiff, Nat.reduceEqDiff, ne_eq, not_true_eq_false, not_false_eq_true, reduceIte, true_and, and_true, kg_lk29, kg_ls29]
      refine ih (i + 1) M' (by omega) (fun p hp => (h1 p hp).trans (hf p hp)) ?_ (by rw [e4]; exact hw')
      rw [e4, kf_m1, if_neg q]
      exact h2
theorem kc29 (hL : G.2.2.2.2.2.1 < 2 ^ 31) (hR : kf_Rel c M 1 r) {s k : Nat} {l : List Nat} (hl : kf_RL M l) (hlt : ∀ a ∈ l, a < 4) (hll : l.length ≤ 4) (hs : s < 4) (hk : k < 8) (hw : kf_w r s k ≠ nI 0) (hd : 6 ≤ d) (hK : ∀ M' : kg_M, (∀ p, (p < 5 ∨ 19 < p) → M' p = M p) → kf_Rel c M' 1 (l.foldl (kf_m1 s k) r) → K none (kg_w0 h) M') : kg_call G d 125 29 [.ref 1, .int (nI s), .int (nI k)] (kg_w0 h) M K := by
  obtain ⟨d, rfl⟩ : ∃ e, d = e + 1 := ⟨d - 1, by omega⟩
  refine kg_m29 (by simp) (Nat.le_refl _) (kg_v29 hL (by omega) 40 ?_)
  simp (disch := omega) only [kg_S1, kg_S2, kg_br_T, kg_br_F, kg_br_N, kg_br_t, kg_br_f, kg_at_n, nI_add, pk_mul, kg_sub_n, kg_rem_n, kg_eq_n, kg_lt_n, kg_le_n, kg_nz, kg_01_0, kg_01_1, kg_w0_1, kg_ret0, kg_ret1, kg_ret2, kg_wr_n, kg_wr_s, kg_Skd, kg_Smc, kg_Sob, kg_Srf, kg_Sld, kg_pad, List.map_cons, List.map_nil, List.length_cons, List.length_nil, List.replicate, List.cons_append, List.nil_append, List.append_nil, Nat.reduceAdd, Nat.reduceSub, Nat.reduceMul, Nat.reduceMod, Nat.reduceDiv, Nat.reduceLT, Nat.reduceLeDiff, Nat.reduceEqDiff, ne_eq, not_true_eq_false, not_false_eq_true, reduceIte, true_and, and_true, kg_lk29, kg_ls29]
  exact kc29_l hL hl hlt hll hs hk (by omega) hK _ 0 M (Nat.zero_add _) (fun _ _ => rfl) hR hw

end
