/-! CLEARING, JOINING, PASSING -/
def kf_z5 (r : Nat → Int32) (n k : Nat) : Nat → Int32 := kf_pu r n k (nI 0) (nI 0) (nI 0) (nI 0) (nI 0)
def kf_ck (n : Nat) (r : Nat → Int32) (k : Nat) : Nat → Int32 := if kf_cl r n k = true then kf_z5 r n k else r
def kf_cf (r : Nat → Int32) (n : Nat) : Nat → Nat → Int32
  | 0 => r
  | k + 1 => kf_ck n (kf_cf r n k) k
def kf_cg (r : Nat → Int32) (n : Nat) : Nat → Int32 := kf_nt (kf_cf r n 8) 3 (nI n) (nI (kf_ct (kf_cl r n) 8))
section
variable {r r' : Nat → Int32} {n k k' : Nat}
theorem kf_al_c {P Q : Nat → Bool} : ∀ {n : Nat}, (∀ i, i < n → P i = Q i) → kf_al P n = kf_al Q n
  | 0, _ => rfl
  | n + 1, h => by rw [kf_al, kf_al, kf_al_c (fun i hi => h i (by omega)), h n (by omega)]
theorem kf_ct_c {P Q : Nat → Bool} : ∀ {n : Nat}, (∀ i, i < n → P i = Q i) → kf_ct P n = kf_ct Q n
  | 0, _ => rfl
  | n + 1, h => by rw [kf_ct, kf_ct, kf_ct_c (fun i hi => h i (by omega)), h n (by omega)]
/-- what is cleared depends on the one fact, the settings, the tick and the latest repairs -/
theorem kf_cl_c (h : ∀ i, i < 27 → r' i = r i) (hw : kf_w r' n k = kf_w r n k) (ht : kf_t r' n k = kf_t r n k) (hc : kf_c r' n k = kf_c r n k) (hn : n < 4) : kf_cl r' n k = kf_cl r n k := by
  have e1 : kf_rs r' n (kf_c r n k) = kf_rs r n (kf_c r n k) := by
    unfold kf_rs
    refine kf_al_c (fun i hi => ?_)
    rw [h _ (by omega)]
  unfold kf_cl kf_rp kf_gr
  rw [hw, ht, hc, h 4 (by omega), h 0 (by omega), h 5 (by omega), e1]
theorem kf_cl_z (hn : n < 4) (hk : k < 8) (hk' : k' < 8) (hne : k' ≠ k) : kf_cl (kf_z5 r n k) n k' = kf_cl r n k' := by
  refine kf_cl_c (fun i hi => kf_pu_o hn hk (by omega)) ?_ ?_ ?_ hn
  · unfold kf_z5; rw [kf_pu_w hn hk (by omega) hk', if_neg (by omega)]
  · unfold kf_z5; rw [kf_pu_t hn hk hn hk', if_neg (by omega)]
  · unfold kf_z5; rw [kf_pu_c hn hk hn hk', if_neg (by omega)]
theorem kf_cl_cf (hn : n < 4) : ∀ k, k ≤ 8 → ∀ k', k ≤ k' → k' < 8 → kf_cl (kf_cf r n k) n k' = kf_cl r n k'
  | 0, _, _, _, _ => rfl
  | k + 1, hk, k', h1, h2 => by
    rw [kf_cf, kf_ck]
    split
    · rw [kf_cl_z hn (by omega) h2 (by omega)]; exact kf_cl_cf hn k (by omega) k' (by omega) h2
    · exact kf_cl_cf hn k (by omega) k' (by omega) h2
end
theorem kf_stp2 {c : Nat} {M : kg_M} {r : Nat → Int32} (hR : kf_Rel c M 1 r) : ∃ s : Nat, s ≤ c ∧ r 1 = nI s := by
  obtain ⟨s, h1, h2, -⟩ := hR.2.2.2.2.2.2.2.2.1
  exact ⟨s, h1, h2⟩
section
variable {G : kg_G} {d c : Nat} {h : Nat → Nat} {r : Nat → Int32} {M : kg_M} {K : kg_Qt}
theorem kc41_l (hL : G.2.2.2.2.2.1 < 2 ^ 31) {M0 : kg_M} {n : Nat} (hc : c < 1048576) (hn : n < 4) (hd : 5 ≤ d) (hK : ∀ M' : kg_M, (∀ p, (p < 5 ∨ 19 < p) → M' p = M0 p) → kf_Rel c M' 1 (kf_cg r n) → K (some (.int (nI (kf_ct (kf_cl r n) 8)))) (kg_w0 h) M') : ∀ (z i : Nat) (M : kg_M), i + z = 8 → (∀ p, (p < 5 ∨ 8 < p) → M p = M0 p) → kf_Rel c M 1 (kf_cf r n i) → kg_P G d 41 4 125 125 K 4 [some (.ref 1), some (.int (nI n)), some (.int (nI (kf_ct (kf_cl r n) i))), some (.int (nI i))] [] (kg_w0 h) M := by
  intro z
  induction z with
  | zero =>
    intro i M hi hf hR
    obtain rfl : i = 8 := by omega
    refine kg_v41 hL (by omega) 40 ?_
    simp (disch := omega) only [kg_S1, kg_S2, kg_br_T, kg_br_F, kg_br_N, kg_br_t, kg_br_f, kg_at_n, nI_add, pk_mul, kg_sub_n, kg_rem_n, kg_eq_n, kg_lt_n, kg_le_n, kg_nz, kg_01_0, kg_01_1, kg_w0_1, kg_ret0, kg_ret1, kg_ret2, kg_wr_n, kg_wr_s, kg_Skd, kg_Smc, kg_Sob, kg_Srf, kg_Sld, kg_pad, List.map_cons, List.map_nil, List.length_cons, List.length_nil, List.replicate, List.cons_append, List.nil_append, List.append_nil, Nat.reduceAdd, Nat.reduceSub, Nat.reduceMul, Nat.reduceMod, Nat.reduceDiv, Nat.reduceLT, Nat.reduceLeDiff, Nat.reduceEqDiff, ne_eq, not_true_eq_false, not_false_eq_true, reduceIte, true_and, and_true, kg_lk41, kg_ls41]
    rw [hR.1.1]
    refine kc2 hL (by omega) (by omega) hR.2.2.2.2.2.2.1 ?_
    intro M2 hM2 hE2
    simp (disch := omega) only [kg_S1, kg_S2, kg_br_T, kg_br_F, kg_br_N, kg_br_t, kg_br_f, kg_at_n, nI_add, pk_mul, kg_sub_n, kg_rem_n, kg_eq_n, kg_lt_n, kg_le_n, kg_nz, kg_01_0, kg_01_1, kg_w0_1, kg_ret0, kg_ret1, kg_ret2, kg_wr_n, kg_wr_s, kg_Skd, kg_Smc, kg_Sob, kg_Srf, kg_Sld, kg_pad, List.map_cons, List.map_nil, List.length_cons, List.length_nil, List.replicate, List.cons_append, List.nil_append, List.append_nil, Nat.reduceAdd, Nat.reduceSub, Nat.reduceMul, Nat.reduceMod, Nat.reduceDiv, Nat.reduceLT, Nat.reduceLeDiff, Nat.reduceEqDiff, ne_eq, not_true_eq_false, not_false_eq_true, reduceIte, true_and, and_true, kg_lk41, kg_ls41]
    exact hK M2 (fun p hp => (hM2 p (by omega)).trans (hf p (by omega))) (kf_Rel_E hR (fun p _ hp => hM2 p hp) (fun i hi => kf_nt_o hi) hE2)
  | succ z ih =>
    intro i M hi hf hR
    obtain ⟨s, hs, es⟩ := kf_stp2 hR
    refine kg_v41 hL (by omega) 40 ?_
    simp (disch := omega) only [kg_S1, kg_S2, kg_br_T, kg_br_F, kg_br_N, kg_br_t, kg_br_f, kg_at_n, nI_add, pk_mul, kg_sub_n, kg_rem_n, kg_eq_n, kg_lt_n, kg_le_n, kg_nz, kg_01_0, kg_01_1, kg_w0_1, kg_ret0, kg_ret1, kg_ret2, kg_wr_n, kg_wr_s, kg_Skd, kg_Smc, kg_Sob, kg_Srf, kg_Sld, kg_pad, List.map_cons, List.map_nil, List.length_cons, List.length_nil, List.replicate, List.cons_append, List.nil_append, List.append_nil, Nat.reduceAdd, Nat.reduceSub, Nat.reduceMul, Nat.reduceMod, Nat.reduceDiv, Nat.reduceLT, Nat.reduceLeDiff, Nat.reduceEqDiff, ne_eq, not_true_eq_false, not_false_eq_true, reduceIte, true_and, and_true, kg_lk41, kg_ls41]
    refine kc37 hL hR (by omega) hn (by omega) ?_
    simp (disch := omega) only [kg_S1, kg_S2, kg_br_T, kg_br_F, kg_br_N, kg_br_t, kg_br_f, kg_at_n, nI_add, pk_mul, kg_sub_n, kg_rem_n, kg_eq_n, kg_lt_n, kg_le_n, kg_nz, kg_01_0, kg_01_1, kg_w0_1, kg_ret0, kg_ret1, kg_ret2, kg_wr_n, kg_wr_s, kg_Skd, kg_Smc, kg_Sob, kg_Srf, kg_Sld, kg_pad, List.map_cons, List.map_nil, List.length_cons, List.length_nil, List.replicate, List.cons_append, List.nil_append, List.append_nil, Nat.reduceAdd, Nat.reduceSub, Nat.reduceMul, Nat.reduceMod, Nat.reduceDiv, Nat.reduceLT, Nat.reduceLeDiff, Nat.reduceEqDiff, ne_eq, not_true_eq_false, not_false_eq_true, reduceIte, true_and, and_true, kg_lk41, kg_ls41, kf_b0]
    rw [kf_cl_cf hn i (by omega) i (Nat.le_refl _) (by omega)]
    refine kg_br_i (fun q => ?_) (fun q => ?_)
    · refine kc64 hL (by omega) ?_
      simp (disch := omega) only [kg_S1, kg_S2, kg_br_T, kg_br_F, kg_br_N, kg_br_t, kg_br_f, kg_at_n, nI_add, pk_mul, kg_sub_n, kg_rem_n, kg_eq_n, kg_lt_n, kg_le_n, kg_nz, kg_01_0, kg_01_1, kg_w0_1, kg_ret0, kg_ret1, kg_ret2, kg_wr_n, kg_wr_s, kg_Skd, kg_Smc, kg_Sob, kg_Srf, kg_Sld, kg_pad, List.map_cons, List.map_nil, List.length_cons, List.length_nil, List.replicate, List.cons_append, List.nil_append, List.append_nil, Nat.reduceAdd, Nat.reduceSub, Nat.reduceMul, Nat.reduceMod, Nat.reduceDiv, Nat.reduceLT, Nat.reduceLeDiff, Nat.reduceEqDiff, ne_eq, not_true_eq_false, not_false_eq_true, reduceIte, true_and, and_true, kg_lk41, kg_ls41]
      refine kc10 hL (by omega) (by omega) ?_
      simp (disch := omega) only [kg_S1, kg_S2, kg_br_T, kg_br_F, kg_br_N, kg_br_t, kg_br_f, kg_at_n, nI_add, pk_mul, kg_sub_n, kg_rem_n, kg_eq_n, kg_lt_n, kg_le_n, kg_nz, kg_01_0, kg_01_1, kg_w0_1, kg_ret0, kg_ret1, kg_ret2, kg_wr_n, kg_wr_s, kg_Skd, kg_Smc, kg_Sob, kg_Srf, kg_Sld, kg_pad, List.map_cons, List.map_nil, List.length_cons, List.length_nil, List.replicate, List.cons_append, List.nil_append, List.append_nil, Nat.reduceAdd, Nat.reduceSub, Nat.reduceMul, Nat.reduceMod, Nat.reduceDiv, Nat.reduceLT, Nat.reduceLeDiff, Nat.reduceEqDiff, ne_eq, not_true_eq_false, not_false_eq_true, reduceIte, true_and, and_true, kg_lk41, kg_ls41]
      have h1 := ih (i + 1) (kf_pm M (n * 8 + i) (nI 0) (nI 0) (nI 0) (nI 0)) (by omega) (fun p hp => (kf_pm_o hp).trans (hf p hp)) (by
        rw [kf_cf, kf_ck, if_pos (by rw [kf_cl_cf hn i (by omega) i (Nat.le_refl _) (by omega)]; exact q)]
        exact kf_Rel_pu hR hn (by omega) (Or.inl ⟨rfl, rfl⟩) ⟨0, s, Nat.zero_le _, es, by omega, rfl⟩ ⟨0, by omega, rfl⟩ ⟨0, by omega, rfl⟩ (by omega))
      rw [kf_ct_t q] at h1
      exact h1
    · have h1 := ih (i + 1) M (by omega) hf (by
        rw [kf_cf, kf_ck, if_neg (by rw [kf_cl_cf hn i (by omega) i (Nat.le_refl _) (by omega)]; exact q)]
        exact hR)
      rw [kf_ct_f q] at h1
      exact h1
theorem kc41 (hL : G.2.2.2.2.2.1 < 2 ^ 31) (hR : kf_Rel c M 1 r) {n : Nat} (hc : c < 1048576) (hn : n < 4) (hd : 6 ≤ d) (hK : ∀ M' : kg_M, (∀ p, (p < 5 ∨ 19 < p) → M' p = M p) → kf_Rel c M' 1 (kf_cg r n) → K (some (.int (nI (kf_ct (kf_cl r n) 8)))) (kg_w0 h) M') : kg_call G d 125 41 [.ref 1, .int (nI n)] (kg_w0 h) M K := by
  obtain ⟨d, rfl⟩ : ∃ e, d = e + 1 := ⟨d - 1, by omega⟩
  refine kg_m41 (by simp) (Nat.le_refl _) (kg_v41 hL (by omega) 40 ?_)
  simp (disch := omega) only [kg_S1, kg_S2, kg_br_T, kg_br_F, kg_br_N, kg_br_t, kg_br_f, kg_at_n, nI_add, pk_mul, kg_sub_n, kg_rem_n, kg_eq_n, kg_lt_n, kg_le_n, kg_nz, kg_01_0, kg_01_1, kg_w0_1, kg_ret0, kg_ret1, kg_ret2, kg_wr_n, kg_wr_s, kg_Skd, kg_Smc, kg_Sob, kg_Srf, kg_Sld, kg_pad, List.map_cons, List.map_nil, List.length_cons, List.length_nil, List.replicate, List.cons_append, List.nil_append, List.append_nil, Nat.reduceAdd, Nat.reduceSub, Nat.reduceMul, Nat.reduceMod, Nat.reduceDiv, Nat.reduceLT, Nat.reduceLeDiff, Nat.reduceEqDiff, ne_eq, not_true_eq_false, not_false_eq_true, reduceIte, true_and, and_true, kg_lk41, kg_ls41]
  exact kc41_l hL hc hn (by omega) hK 8 0 M rfl (fun _ _ => rfl) hR
/-- the latest repair of a pair -/
def kf_sl2 (r : Nat → Int32) (a b : Nat) : Nat → Int32 := fun i => if i = 11 + 4 * a + b ∨ i = 11 + 4 * b + a then r 0 else r i
def kf_jk (a b : Nat) (r : Nat → Int32) (k : Nat) : Nat → Int32 := if kf_s r b k < kf_s r a k then kf_ln r b a k else if kf_s r a k = kf_s r b k then r else kf_ln r a b k
def kf_jf (a b : Nat) (r : Nat → Int32) : Nat → Nat → Int32
  | 0 => r
  | k + 1 => kf_jk a b (kf_jf a b r k) k
def kf_j0 (r : Nat → Int32) (a b : Nat) : Nat → Int32 := kf_sl2 (kf_nt r 0 (nI (if b < a then b else a)) (nI (if a < b then b else a))) a b
def kf_jn (r : Nat → Int32) (a b : Nat) : Nat → Int32 := kf_jf a b (kf_j0 r a b) 8
def kf_dn (r : Nat → Int32) (a b : Nat) : Nat := kf_ct (fun k => !decide (kf_s r a k = kf_s r b k)) 8
theorem kf_sl2_o {a b i : Nat} (ha : a < 4) (hb : b < 4) (hi : i < 11 ∨ 27 ≤ i) : kf_sl2 r a b i = r i := by
  unfold kf_sl2; rw [if_neg (by omega)]
theorem kf_Rel_sl {a b : Nat} (hR : kf_Rel c M 1 r) (ha : a < 4) (hb : b < 4) (hab : a ≠ b) : kf_Rel c (kg_wr M 9 (kf_pp a b) (r 0)) 1 (kf_sl2 r a b) := by
  have o : ∀ i, (i < 11 ∨ 27 ≤ i) → kf_sl2 r a b i = r i := fun i hi => kf_sl2_o ha hb hi
  obtain ⟨⟨a1, a2⟩, a3, a4, a5, a6, ⟨p, b1, b2, b3, b4⟩, ⟨p2, q2, c1, c2, c3, c4, c5, c6, c7⟩, ⟨⟨t0, ht0, h1⟩, ⟨z, h2, h3, h4⟩, h5, h6, h7, h8, h9, h10, h11, h12⟩⟩ := hR
  refine ⟨⟨?_, ?_⟩, fun i hi => ?_, fun i hi => ?_, ?_, fun i j hij hj => ?_, ⟨p, b1, ?_, ?_, ?_⟩, ⟨p2, q2, c1, c2, ?_, ?_, ?_, ?_, ?_⟩, ⟨⟨t0, ht0, by rw [o _ (by omega)]; exact h1⟩, ⟨z, h2, ?_, fun n' k' hn' hk' => ?_⟩, by rw [o _ (by omega)]; exact h5, by rw [o _ (by omega)]; exact h6, by rw [o _ (by omega)]; exact h7, by rw [o _ (by omega)]; exact h8, by rw [o _ (by omega)]; exact h9, fun n hn => by rw [o _ (by omega)]; exact h10 n hn, fun n' k' hn' hk' => ?_, fun i j hi hj => ⟨?_, ?_⟩⟩⟩
  · rw [kg_wr_n (by omega), o _ (by omega)]; exact a1
  · rw [kg_wr_n (by omega), o _ (by omega)]; exact a2
  · rw [kg_wr_n (by omega), o _ (by omega)]; exact a3 i hi
  · rw [kg_wr_n (by omega), o _ (by omega)]; exact a4 i hi
  · rw [kg_wr_n (by omega), kg_wr_n (by omega), kg_wr_n (by omega), kg_wr_n (by omega)]; exact kf_F_o a5 (fun i hi _ => o i (by omega))
  · show kg_wr M 9 (kf_pp a b) (r 0) 9 (i * 4 + j) = _
    rw [kg_wr_s]
    by_cases e : (i = a ∧ j = b) ∨ (i = b ∧ j = a)
    · have e2 : i * 4 + j = kf_pp a b := by
        unfold kf_pp
        rcases e with ⟨rfl, rfl⟩ | ⟨rfl, rfl⟩
        · rw [if_neg (by omega), if_pos hij]
        · rw [if_pos hij, if_neg (by omega)]
      have e3 : kf_sl2 r a b (11 + 4 * i + j) = r 0 := by unfold kf_sl2; rw [if_pos (by omega)]
      rw [if_pos e2, e3, h1]
      unfold kf_lm
      rw [if_neg]
      rw [kf_ne (by omega) (by omega) (by omega)]
      exact id
    · have e2 : ¬ i * 4 + j = kf_pp a b := by
        unfold kf_pp
        intro e9
        apply e
        split at e9 <;> split at e9 <;> omega
      have e3 : kf_sl2 r a b (11 + 4 * i + j) = r (11 + 4 * i + j) := by unfold kf_sl2; rw [if_neg (by omega)]
      rw [if_neg e2, e3]
      exact a6 i j hij hj
  · rw [kg_wr_n (by omega)]; exact b2
  · rw [o _ (by omega)]; exact b3
  · intro i hi
    rw [kg_wr_n (by omega), kg_wr_n (by omega), kg_wr_n (by omega), o _ (by omega), o _ (by omega), o _ (by omega)]
    exact b4 i hi
  · rw [kg_wr_n (by omega)]; exact c3
  · rw [kg_wr_n (by omega)]; exact c4
  · rw [o _ (by omega)]; exact c5
  · intro i hi; rw [kg_wr_n (by omega), o _ (by omega)]; exact c6 i hi
  · intro i hi
    rw [kg_wr_n (by omega), kg_wr_n (by omega), kg_wr_n (by omega), kg_wr_n (by omega), o _ (by omega), o _ (by omega), o _ (by omega), o _ (by omega)]
    exact c7 i hi
  · rw [o _ (by omega)]; exact h3
  · have e : kf_s (kf_sl2 r a b) n' k' = kf_s r n' k' := by unfold kf_s; split <;> exact o _ (by omega)
    rw [e]; exact h4 n' k' hn' hk'
  · unfold kf_t kf_c
    rw [o _ (by omega), o _ (by omega)]
    exact h11 n' k' hn' hk'
  · unfold kf_sl2
    by_cases e : 11 + 4 * i + j = 11 + 4 * a + b ∨ 11 + 4 * i + j = 11 + 4 * b + a
    · rw [if_pos e, if_pos (by omega)]
    · rw [if_neg e, if_neg (by omega)]; exact (h12 i j hi hj).1
  · unfold kf_sl2
    by_cases e : 11 + 4 * i + j = 11 + 4 * a + b ∨ 11 + 4 * i + j = 11 + 4 * b + a
    · rw [if_pos e]; exact Or.inr ⟨t0, ht0, h1⟩
    · rw [if_neg e]; exact (h12 i j hi hj).2
theorem kf_pos {x y k : Nat} (hR : kf_Rel c M 1 r) (hx : x < 5) (hy : y < 5) (hk : k < 8) (hc : c < 1048576) (h : kf_s r x k < kf_s r y k) : kf_w r y k ≠ nI 0 := by
  intro e
  obtain ⟨s, hs, -, h4⟩ := hR.2.2.2.2.2.2.2.2.1
  obtain ⟨u, hu, eu⟩ := h4 x k hx hk
  rcases kf_fa hR hy hk with ⟨-, e2⟩ | ⟨a, b, e2, -⟩ | ⟨a, e2, -⟩
  · rw [eu, e2, Int32.lt_iff_toInt_lt, nI_toInt (by omega), nI_toInt (by omega)] at h
    omega
  · rw [e2] at e; revert e; decide
  · rw [e2] at e; revert e; decide
theorem kc33_l (hL : G.2.2.2.2.2.1 < 2 ^ 31) {M0 : kg_M} {r0 : Nat → Int32} {a b x : Nat} (hc : c < 1048576) (ha : a < 4) (hb : b < 4) (hd : 5 ≤ d) (hK : ∀ M' : kg_M, (∀ p, (p < 5 ∨ 19 < p) → M' p = M0 p) → kf_Rel c M' 1 (kf_jf a b r0 8) → K (some (.int (nI x))) (kg_w0 h) M') : ∀ (z i : Nat) (M : kg_M), i + z = 8 → (∀ p, (p < 5 ∨ 19 < p) → M p = M0 p) → kf_Rel c M 1 (kf_jf a b r0 i) → kg_P G d 33 5 125 125 K 31 [some (.ref 1), some (.int (nI a)), some (.int (nI b)), some (.int (nI x)), some (.int (nI i))] [] (kg_w0 h) M := by
  intro z
  induction z with
  | zero =>
    intro i M hi hf hR
    obtain rfl : i = 8 := by omega
    refine kg_v33 hL (by omega) 40 ?_
    simp (disch := omega) only [kg_S1, kg_S2, kg_br_T, kg_br_F, kg_br_N, kg_br_t, kg_br_f, kg_at_n, nI_add, pk_mul, kg_sub_n, kg_rem_n, kg_eq_n, kg_lt_n, kg_le_n, kg_nz, kg_01_0, kg_01_1, kg_w0_1, kg_ret0, kg_ret1, kg_ret2, kg_wr_n, kg_wr_s, kg_Skd, kg_Smc, kg_Sob, kg_Srf, kg_Sld, kg_pad, List.map_cons, List.map_nil, List.length_cons, List.length_nil, List.replicate, List.cons_append, List.nil_append, List.append_nil, Nat.reduceAdd, Nat.reduceSub, Nat.reduceMul, Nat.reduceMod, Nat.reduceDiv, Nat.reduceLT, Nat.reduceLeDiff, Nat.reduceEqDiff, ne_eq, not_true_eq_false, not_false_eq_true, reduceIte, true_and, and_true, kg_lk33, kg_ls33]
    exact hK M hf hR
  | succ z ih =>
    intro i M hi hf hR
    refine kg_v33 hL (by omega) 40 ?_
    simp (disch := omega) only [kg_S1, kg_S2, kg_br_T, kg_br_F, kg_br_N, kg_br_t, kg_br_f, kg_at_n, nI_add, pk_mul, kg_sub_n, kg_rem_n, kg_eq_n, kg_lt_n, kg_le_n, kg_nz, kg_01_0, kg_01_1, kg_w0_1, kg_ret0, kg_ret1, kg_ret2, kg_wr_n, kg_wr_s, kg_Skd, kg_Smc, kg_Sob, kg_Srf, kg_Sld, kg_pad, List.map_cons, List.map_nil, List.length_cons, List.length_nil, List.replicate, List.cons_append, List.nil_append, List.append_nil, Nat.reduceAdd, Nat.reduceSub, Nat.reduceMul, Nat.reduceMod, Nat.reduceDiv, Nat.reduceLT, Nat.reduceLeDiff, Nat.reduceEqDiff, ne_eq, not_true_eq_false, not_false_eq_true, reduceIte, true_and, and_true, kg_lk33, kg_ls33]
    refine kc27 hL hR (by omega) (by omega) (by omega) ?_
    simp (disch := omega) only [kg_S1, kg_S2, kg_br_T, kg_br_F, kg_br_N, kg_br_t, kg_br_f, kg_at_n, nI_add, pk_mul, kg_sub_n, kg_rem_n, kg_eq_n, kg_lt_n, kg_le_n, kg_nz, kg_01_0, kg_01_1, kg_w0_1, kg_ret0, kg_ret1, kg_ret2, kg_wr_n, kg_wr_s, kg_Skd, kg_Smc, kg_Sob, kg_Srf, kg_Sld, kg_pad, List.map_cons, List.map_nil, List.length_cons, List.length_nil, List.replicate, List.cons_append, List.nil_append, List.append_nil, Nat.reduceAdd, Nat.reduceSub, Nat.reduceMul, Nat.reduceMod, Nat.reduceDiv, Nat.reduceLT, Nat.reduceLeDiff, Nat.reduceEqDiff, ne_eq, not_true_eq_false, not_false_eq_true, reduceIte, true_and, and_true, kg_lk33, kg_ls33]
    refine kc27 hL hR (by omega) (by omega) (by omega) ?_
    simp (disch := omega) only [kg_S1, kg_S2, kg_br_T, kg_br_F, kg_br_N, kg_br_t, kg_br_f, kg_at_n, nI_add, pk_mul, kg_sub_n, kg_rem_n, kg_eq_n, kg_lt_n, kg_le_n, kg_nz, kg_01_0, kg_01_1, kg_w0_1, kg_ret0, kg_ret1, kg_ret2, kg_wr_n, kg_wr_s, kg_Skd, kg_Smc, kg_Sob, kg_Srf, kg_Sld, kg_pad, List.map_cons, List.map_nil, List.length_cons, List.length_nil, List.replicate, List.cons_append, List.nil_append, List.append_nil, Nat.reduceAdd, Nat.reduceSub, Nat.reduceMul, Nat.reduceMod, Nat.reduceDiv, Nat.reduceLT, Nat.reduceLeDiff, Nat.reduceEqDiff, ne_eq, not_true_eq_false, not_false_eq_true, reduceIte, true_and, and_true, kg_lk33, kg_ls33]
    refine kg_br_i (fun q => ?_) (fun q => ?_)
    · have q' := Int32.not_lt.mpr q
      refine kc30 hL hR (by omega) ha hb (by omega) (fun e => ?_) (fun e => ?_) (fun e M' h1 h2 => ?_)
      · exact kf_pos hR (x := a) (by omega) (by omega) (by omega) hc (Int32.lt_of_le_of_ne q e)
      · simp (disch := omega) only [kg_S1, kg_S2, kg_br_T, kg_br_F, kg_br_N, kg_br_t, kg_br_f, kg_at_n, nI_add, pk_mul, kg_sub_n, kg_rem_n, kg_eq_n, kg_lt_n, kg_le_n, kg_nz, kg_01_0, kg_01_1, kg_w0_1, kg_ret0, kg_ret1, kg_ret2, kg_wr_n, kg_wr_s, kg_Skd, kg_Smc, kg_Sob, kg_Srf, kg_Sld, kg_pad, List.map_cons, List.map_nil, List.length_cons, List.length_nil, List.replicate, List.cons_append, List.nil_append, List.append_nil, Nat.reduceAdd, Nat.reduceSub, Nat.reduceMul, Nat.reduceMod, Nat.reduceDiv, Nat.reduceLT, Nat.reduceLeDiff, Nat.reduceEqDiff, ne_eq, not_true_eq_false, not_false_eq_true, reduceIte, true_and, and_true, kg_lk33, kg_ls33]
        refine ih (i + 1) M (by omega) hf ?_
        rw [kf_jf, kf_jk, if_neg q', if_pos e]
        exact hR
      · simp (disch := omega) only [kg_S1, kg_S2, kg_br_T, kg_br_F, kg_br_N, kg_br_t, kg_br_f, kg_at_n, nI_add, pk_mul, kg_sub_n, kg_rem_n, kg_eq_n, kg_lt_n, kg_le_n, kg_nz, kg_01_0, kg_01_1, kg_w0_1, kg_ret0, kg_ret1, kg_ret2, kg_wr_n, kg_wr_s, kg_Skd, kg_Smc, kg_Sob, kg_Srf, kg_Sld, kg_pad, List.map_cons, List.map_nil, List.length_cons, List.length_nil, List.replicate, List.cons_append, List.nil_append, List.append_nil, Nat.reduceAdd, Nat.reduceSub, Nat.reduceMul, Nat.reduceMod, Nat.reduceDiv, Nat.reduceLT, Nat.reduceLeDiff, Nat.reduceEqDiff, ne_eq, not_true_eq_false, not_false_eq_true, reduceIte, true_and, and_true, kg_lk33, kg_ls33]
        refine ih (i + 1) M' (by omega) (fun p hp => (h1 p hp).trans (hf p hp)) ?_
        rw [kf_jf, kf_jk, if_neg q', if_neg e]
        exact h2
    · have q' := Int32.not_le.mp q
      refine kc30 hL hR (by omega) hb ha (by omega) (fun _ => kf_pos hR (x := b) (by omega) (by omega) (by omega) hc q') (fun e => ?_) (fun e M' h1 h2 => ?_)
      · exact absurd q' (by rw [e]; exact Int32.lt_irrefl)
      · simp (disch := omega) only [kg_S1, kg_S2, kg_br_T, kg_br_F, kg_br_N, kg_br_t, kg_br_f, kg_at_n, nI_add, pk_mul, kg_sub_n, kg_rem_n, kg_eq_n, kg_lt_n, kg_le_n, kg_nz, kg_01_0, kg_01_1, kg_w0_1, kg_ret0, kg_ret1, kg_ret2, kg_wr_n, kg_wr_s, kg_Skd, kg_Smc, kg_Sob, kg_Srf, kg_Sld, kg_pad, List.map_cons, List.map_nil, List.length_cons, List.length_nil, List.replicate, List.cons_append, List.nil_append, List.append_nil, Nat.reduceAdd, Nat.reduceSub, Nat.reduceMul, Nat.reduceMod, Nat.reduceDiv, Nat.reduceLT, Nat.reduceLeDiff, Nat.reduceEqDiff, ne_eq, not_true_eq_false, not_false_eq_true, reduceIte, true_and, and_true, kg_lk33, kg_ls33]
        refine ih (i + 1) M' (by omega) (fun p hp => (h1 p hp).trans (hf p hp)) ?_
        rw [kf_jf, kf_jk, if_pos q']
        exact h2
theorem kc33 (hL : G.2.2.2.2.2.1 < 2 ^ 31) (hR : kf_Rel c M 1 r) {a b : Nat} (hc : c < 1048576) (ha : a < 4) (hb : b < 4) (hab : a ≠ b) (hd : 6 ≤ d) (hK : ∀ M' : kg_M, (∀ p, (p < 5 ∨ 19 < p) → M' p = M p) → kf_Rel c M' 1 (kf_jn r a b) → K (some (.int (nI (kf_dn (kf_j0 r a b) a b)))) (kg_w0 h) M') : kg_call G d 125 33 [.ref 1, .int (nI a), .int (nI b)] (kg_w0 h) M K := by
  obtain ⟨d, rfl⟩ : ∃ e, d = e + 1 := ⟨d - 1, by omega⟩
  refine kg_m33 (by simp) (Nat.le_refl _) (kg_v33 hL (by omega) 40 ?_)
  simp (disch := omega) only [kg_S1, kg_S2, kg_br_T, kg_br_F, kg_br_N, kg_br_t, kg_br_f, kg_at_n, nI_add, pk_mul, kg_sub_n, kg_rem_n, kg_eq_n, kg_lt_n, kg_le_n, kg_nz, kg_01_0, kg_01_1, kg_w0_1, kg_ret0, kg_ret1, kg_ret2, kg_wr_n, kg_wr_s, kg_Skd, kg_Smc, kg_Sob, kg_Srf, kg_Sld, kg_pad, List.map_cons, List.map_nil, List.length_cons, List.length_nil, List.replicate, List.cons_append, List.nil_append, List.append_nil, Nat.reduceAdd, Nat.reduceSub, Nat.reduceMul, Nat.reduceMod, Nat.reduceDiv, Nat.reduceLT, Nat.reduceLeDiff, Nat.reduceEqDiff, ne_eq, not_true_eq_false, not_false_eq_true, reduceIte, true_and, and_true, kg_lk33, kg_ls33]
  refine kc34 hL (by omega) (by omega) ha hb hR.1.1 hR.2.2.2.2.2.2.1 ?_
  intro M1 hM1 hE1
  have hR1 := kf_Rel_E hR (fun p _ hp => hM1 p hp) (fun i hi => kf_nt_o hi) hE1
  simp (disch := omega) only [kg_S1, kg_S2, kg_br_T, kg_br_F, kg_br_N, kg_br_t, kg_br_f, kg_at_n, nI_add, pk_mul, kg_sub_n, kg_rem_n, kg_eq_n, kg_lt_n, kg_le_n, kg_nz, kg_01_0, kg_01_1, kg_w0_1, kg_ret0, kg_ret1, kg_ret2, kg_wr_n, kg_wr_s, kg_Skd, kg_Smc, kg_Sob, kg_Srf, kg_Sld, kg_pad, List.map_cons, List.map_nil, List.length_cons, List.length_nil, List.replicate, List.cons_append, List.nil_append, List.append_nil, Nat.reduceAdd, Nat.reduceSub, Nat.reduceMul, Nat.reduceMod, Nat.reduceDiv, Nat.reduceLT, Nat.reduceLeDiff, Nat.reduceEqDiff, ne_eq, not_true_eq_false, not_false_eq_true, reduceIte, true_and, and_true, kg_lk33, kg_ls33]
  refine kc68 hL (by omega) ha hb ?_
  have hp := kf_pp_lt ha hb
  simp (disch := omega) only [kg_S1, kg_S2, kg_br_T, kg_br_F, kg_br_N, kg_br_t, kg_br_f, kg_at_n, nI_add, pk_mul, kg_sub_n, kg_rem_n, kg_eq_n, kg_lt_n, kg_le_n, kg_nz, kg_01_0, kg_01_1, kg_w0_1, kg_ret0, kg_ret1, kg_ret2, kg_wr_n, kg_wr_s, kg_Skd, kg_Smc, kg_Sob, kg_Srf, kg_Sld, kg_pad, List.map_cons, List.map_nil, List.length_cons, List.length_nil, List.replicate, List.cons_append, List.nil_append, List.append_nil, Nat.reduceAdd, Nat.reduceSub, Nat.reduceMul, Nat.reduceMod, Nat.reduceDiv, Nat.reduceLT, Nat.reduceLeDiff, Nat.reduceEqDiff, ne_eq, not_true_eq_false, not_false_eq_true, reduceIte, true_and, and_true, kg_lk33, kg_ls33]
  rw [hR1.1.1]
  have hR2 := kf_Rel_sl hR1 ha hb hab
  have hM2 : ∀ p, (p < 5 ∨ 19 < p) → kg_wr M1 9 (kf_pp a b) (kf_nt r 0 (nI (if b < a then b else a)) (nI (if a < b then b else a)) 0) p = M p := fun p hp => by rw [kg_wr_n (by omega), hM1 p (by omega)]
  generalize kg_wr M1 9 (kf_pp a b) (kf_nt r 0 (nI (if b < a then b else a)) (nI (if a < b then b else a)) 0) = M2 at hR2 hM2 ⊢
  refine kc35 hL hR2 ha hb (by omega) ?_
  simp (disch := omega) only [kg_S1, kg_S2, kg_br_T, kg_br_F, kg_br_N, kg_br_t, kg_br_f, kg_at_n, nI_add, pk_mul, kg_sub_n, kg_rem_n, kg_eq_n, kg_lt_n, kg_le_n, kg_nz, kg_01_0, kg_01_1, kg_w0_1, kg_ret0, kg_ret1, kg_ret2, kg_wr_n, kg_wr_s, kg_Skd, kg_Smc, kg_Sob, kg_Srf, kg_Sld, kg_pad, List.map_cons, List.map_nil, List.length_cons, List.length_nil, List.replicate, List.cons_append, List.nil_append, List.append_nil, Nat.reduceAdd, Nat.reduceSub, Nat.reduceMul, Nat.reduceMod, Nat.reduceDiv, Nat.reduceLT, Nat.reduceLeDiff, Nat.reduceEqDiff, ne_eq, not_true_eq_false, not_false_eq_true, reduceIte, true_and, and_true, kg_lk33, kg_ls33]
  exact kc33_l hL (M0 := M2) (r0 := kf_j0 r a b) (x := kf_dn (kf_j0 r a b) a b) hc ha hb (by omega) (fun M' h1 h2 => hK M' (fun p hp => (h1 p hp).trans (hM2 p hp)) h2) 8 0 M2 rfl (fun _ _ => rfl) hR2

end
