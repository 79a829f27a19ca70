/-! record, Plan.add, placeOf -/
theorem kf_Rel_g {c b : Nat} {M M' : kg_M} {r : Nat → Int32} (hR : kf_Rel c M b r) (h : ∀ p, b ≤ p → p ≤ b + 18 → M' p = M p) : kf_Rel c M' b r := by
  unfold kf_Rel at hR ⊢
  rw [h b (by omega) (by omega), h (b + 1) (by omega) (by omega), h (b + 2) (by omega) (by omega), h (b + 4) (by omega) (by omega), h (b + 5) (by omega) (by omega), h (b + 6) (by omega) (by omega), h (b + 7) (by omega) (by omega), h (b + 8) (by omega) (by omega), h (b + 9) (by omega) (by omega), h (b + 10) (by omega) (by omega), h (b + 11) (by omega) (by omega), h (b + 12) (by omega) (by omega), h (b + 13) (by omega) (by omega), h (b + 14) (by omega) (by omega), h (b + 15) (by omega) (by omega), h (b + 16) (by omega) (by omega), h (b + 17) (by omega) (by omega), h (b + 18) (by omega) (by omega)]
  exact hR
def kf_hs (h : Nat → Nat) (j q : Nat) : Nat → Nat := fun i => if i = j then q else h i
theorem kf_hs_s {h : Nat → Nat} {j q i : Nat} : kf_hs h j q i = if i = j then q else h i := rfl
theorem kg_wrr_h {h : Nat → Nat} {j q : Nat} : kg_wrr (kg_w0 h) 21 j q = kg_w0 (kf_hs h j q) := by
  unfold kg_wrr kg_w0
  refine congrArg (Prod.mk 125) (funext fun p => ?_)
  by_cases e : p = 21
  · subst e
    rw [if_pos rfl]
    rfl
  · rw [if_neg e]
    simp only [kg_R, if_neg e]
def kf_hp (h : Nat → Nat) : Prop := ∃ s, s < 4 ∧ h 0 = 22 + 20 * s ∧ h 1 = 22 + 20 * ((s + 1) % 4) ∧ h 2 = 22 + 20 * ((s + 2) % 4) ∧ h 3 = 22 + 20 * ((s + 3) % 4)
theorem kf_hp_at {h : Nat → Nat} (hp : kf_hp h) : ∃ s, ∀ j, j < 4 → h j = 22 + 20 * ((s + j) % 4) := by
  obtain ⟨s, hs, h0, h1, h2, h3⟩ := hp
  refine ⟨s, fun j hj => ?_⟩
  obtain rfl | rfl | rfl | rfl : j = 0 ∨ j = 1 ∨ j = 2 ∨ j = 3 := by omega
  · rw [h0]; omega
  · exact h1
  · exact h2
  · exact h3
def kf_n (n : Nat) : Nat := if n < 4 then n + 1 else 4
def kf_R (n : Nat) (R : Nat → Nat → Int32) (r : Nat → Int32) (j : Nat) : Nat → Int32 := if n < 4 then (if j = n then r else R j) else (if j = 3 then r else R (j + 1))
section
variable {G : kg_G} {d c : Nat} {h : Nat → Nat} {r : Nat → Int32} {M : kg_M} {K : kg_Qt}
theorem kc22_h (hL : G.2.2.2.2.2.1 < 2 ^ 31) {t : Nat} (ht : t = 22 ∨ t = 42 ∨ t = 62 ∨ t = 82) (hR : kf_Rel c M 1 r) (hd : 4 ≤ d) (hK : ∀ M' : kg_M, (∀ p, (p < t ∨ t + 19 < p) → M' p = M p) → kf_Rel c M' t r → K none (kg_w0 h) M') : kg_call G d 125 22 [.ref t, .ref 1] (kg_w0 h) M K := by
  obtain rfl | rfl | rfl | rfl := ht
  · exact kc22_22_1 hL hR hd hK
  · exact kc22_42_1 hL hR hd hK
  · exact kc22_62_1 hL hR hd hK
  · exact kc22_82_1 hL hR hd hK
theorem kc59 (hL : G.2.2.2.2.2.1 < 2 ^ 31) (n : Nat) (R : Nat → Nat → Int32) (hR : kf_Rel c M 1 r) (hn : n ≤ 4) (hz : M 0 2 = nI n) (hp : kf_hp h) (hH : ∀ j, j < n → kf_Rel c M (h j) (R j)) (hd : 5 ≤ d) (hK : ∀ (h' : Nat → Nat) (M' : kg_M), (∀ p, p ≠ 0 → (p < 22 ∨ 101 < p) → M' p = M p) → (∀ k, k ≠ 2 → M' 0 k = M 0 k) → M' 0 2 = nI (kf_n n) → kf_hp h' → (∀ j, j < kf_n n → kf_Rel c M' (h' j) (kf_R n R r j)) → K none (kg_w0 h') M') : kg_call G d 125 59 [.ref 0] (kg_w0 h) M K := by
  by_cases h4 : n < 4
  · obtain ⟨s, hs⟩ := kf_hp_at hp
    have en := hs n h4
    have e1 : h n = 22 ∨ h n = 42 ∨ h n = 62 ∨ h n = 82 := by omega
    have e2 : (h n ≠ 0) = True := by simp; omega
    have e3 : kg_kd (h n) = (4, 4) := by rcases e1 with e | e | e | e <;> (rw [e]; decide)
    have e4 : h n < 1000 := by omega
    have e5 : h n < 125 := by omega
    obtain ⟨d, rfl⟩ : ∃ e, d = e + 1 := ⟨d - 1, by omega⟩
    refine kg_m59 (by simp) (Nat.le_refl _) (kg_v59 hL (by omega) 60 ?_)
    simp (disch := omega) only [kg_S1, kg_S2, kg_br_T, kg_br_F, kg_br_N, kg_br_t, kg_br_f, kg_at_n, nI_add, pk_mul, kg_sub_n, kg_rem_n, kg_eq_n, kg_lt_n, kg_le_n, kg_nz, kg_01_0, kg_01_1, kg_w0_1, kg_ret0, kg_ret1, kg_ret2, kg_wr_n, kg_wr_s, kg_Skd, kg_Smc, kg_Sob, kg_Srf, kg_Sld, kg_pad, List.map_cons, List.map_nil, List.length_cons, List.length_nil, List.replicate, List.cons_append, List.nil_append, List.append_nil, Nat.reduceAdd, Nat.reduceSub, Nat.reduceMul, Nat.reduceMod, Nat.reduceDiv, Nat.reduceLT, Nat.reduceLeDiff, Nat.reduceEqDiff, ne_eq, not_true_eq_false, not_false_eq_true, reduceIte, true_and, and_true, kg_lk59, kg_ls59, hz, e2, e3, e4, e5, ne_eq]
    refine kc22_h hL e1 hR (by omega) ?_
    intro M1 a1 a2
    have z1 : M1 0 2 = nI n := by rw [a1 0 (by omega), hz]
    simp (disch := omega) only [kg_S1, kg_S2, kg_br_T, kg_br_F, kg_br_N, kg_br_t, kg_br_f, kg_at_n, nI_add, pk_mul, kg_sub_n, kg_rem_n, kg_eq_n, kg_lt_n, kg_le_n, kg_nz, kg_01_0, kg_01_1, kg_w0_1, kg_ret0, kg_ret1, kg_ret2, kg_wr_n, kg_wr_s, kg_Skd, kg_Smc, kg_Sob, kg_Srf, kg_Sld, kg_pad, List.map_cons, List.map_nil, List.length_cons, List.length_nil, List.replicate, List.cons_append, List.nil_append, List.append_nil, Nat.reduceAdd, Nat.reduceSub, Nat.reduceMul, Nat.reduceMod, Nat.reduceDiv, Nat.reduceLT, Nat.reduceLeDiff, Nat.reduceEqDiff, ne_eq, not_true_eq_false, not_false_eq_true, reduceIte, true_and, and_true, kg_lk59, kg_ls59, z1]
    refine hK h _ (fun p hp0 hp => (kg_wr_n hp0).trans (a1 p (by omega))) (fun k hk => ?_) ?_ hp (fun j hj => ?_)
    · rw [kg_wr_s, if_neg hk, a1 0 (by omega)]
    · rw [kg_wr_s, if_pos rfl]; simp only [kf_n, if_pos h4]
    · simp only [kf_n, if_pos h4] at hj
      simp only [kf_R, if_pos h4]
      by_cases ej : j = n
      · subst ej
        rw [if_pos rfl]
        exact kf_Rel_g a2 (fun p h1 h2 => kg_wr_n (by omega))
      · rw [if_neg ej]
        have hj2 : j < 4 := by omega
        have ej2 := hs j hj2
        exact kf_Rel_g (hH j (by omega)) (fun p h1 h2 => (kg_wr_n (by omega)).trans (a1 p (by omega)))
  · obtain rfl : n = 4 := by omega
    obtain ⟨s, hs, h0, h1, h2, h3⟩ := hp
    have fin : ∀ (h' : Nat → Nat) (t : Nat) (M1 : kg_M), (∀ p, (p < t ∨ t + 19 < p) → M1 p = kg_wr M 0 2 (nI 3) p) → kf_Rel c M1 t r → t = 22 + 20 * s → h' 0 = 22 + 20 * ((s + 1) % 4) → h' 1 = 22 + 20 * ((s + 2) % 4) → h' 2 = 22 + 20 * ((s + 3) % 4) → h' 3 = t → K none (kg_w0 h') (kg_wr M1 0 2 (nI 4)) := by
      intro h' t M1 a1 a2 et b0 b1 b2 b3
      refine hK h' _ (fun p hp0 hp => (kg_wr_n hp0).trans ((a1 p (by omega)).trans (kg_wr_n hp0))) (fun k hk => ?_) ?_ ⟨(s + 1) % 4, by omega, b0, by omega, by omega, by omega⟩ (fun j hj => ?_)
      · rw [kg_wr_s, if_neg hk, a1 0 (by omega), kg_wr_s, if_neg hk]
      · rw [kg_wr_s, if_pos rfl]; rfl
      · have hj4 : j < 4 := hj
        have hRj : ∀ q, 0 < q → M1 q = kg_wr M 0 2 (nI 3) q → kg_wr M1 0 2 (nI 4) q = M q := fun q hq e => (kg_wr_n (by omega)).trans (e.trans (kg_wr_n (by omega)))
        obtain rfl | rfl | rfl | rfl : j = 0 ∨ j = 1 ∨ j = 2 ∨ j = 3 := by omega
        · rw [b0, ← h1]
          exact kf_Rel_g (hH 1 (by omega)) (fun p q1 q2 => hRj p (by omega) (a1 p (by omega)))
        · rw [b1, ← h2]
          exact kf_Rel_g (hH 2 (by omega)) (fun p q1 q2 => hRj p (by omega) (a1 p (by omega)))
        · rw [b2, ← h3]
          exact kf_Rel_g (hH 3 (by omega)) (fun p q1 q2 => hRj p (by omega) (a1 p (by omega)))
        · rw [b3]
          exact kf_Rel_g a2 (fun p q1 q2 => kg_wr_n (by omega))
    have hR3 : kf_Rel c (kg_wr M 0 2 (nI 3)) 1 r := kf_Rel_g hR (fun p q1 q2 => kg_wr_n (by omega))
    obtain ⟨d, rfl⟩ : ∃ e, d = e + 1 := ⟨d - 1, by omega⟩
    refine kg_m59 (by simp) (Nat.le_refl _) (kg_v59 hL (by omega) 60 ?_)
    obtain rfl | rfl | rfl | rfl : s = 0 ∨ s = 1 ∨ s = 2 ∨ s = 3 := by omega

    · simp (disch := omega) only [kg_S1, kg_S2, kg_br_T, kg_br_F, kg_br_N, kg_br_t, kg_br_f, kg_at_n, nI_add, pk_mul, kg_sub_n, kg_rem_n, kg_eq_n, kg_lt_n, kg_le_n, kg_nz, kg_01_0, kg_01_1, kg_w0_1, kg_ret0, kg_ret1, kg_ret2, kg_wr_n, kg_wr_s, kg_Skd, kg_Smc, kg_Sob, kg_Srf, kg_Sld, kg_pad, List.map_cons, List.map_nil, List.length_cons, List.length_nil, List.replicate, List.cons_append, List.nil_append, List.append_nil, Nat.reduceAdd, Nat.reduceSub, Nat.reduceMul, Nat.reduceMod, Nat.reduceDiv, Nat.reduceLT, Nat.reduceLeDiff, Nat.reduceEqDiff, ne_eq, not_true_eq_false, not_false_eq_true, reduceIte, true_and, and_true, kg_lk59, kg_ls59, hz, kg_wrr_h, kf_hs_s, h0, h1, h2, h3]
      refine kg_v59 hL (by omega) 60 ?_
      simp (disch := omega) only [kg_S1, kg_S2, kg_br_T, kg_br_F, kg_br_N, kg_br_t, kg_br_f, kg_at_n, nI_add, pk_mul, kg_sub_n, kg_rem_n, kg_eq_n, kg_lt_n, kg_le_n, kg_nz, kg_01_0, kg_01_1, kg_w0_1, kg_ret0, kg_ret1, kg_ret2, kg_wr_n, kg_wr_s, kg_Skd, kg_Smc, kg_Sob, kg_Srf, kg_Sld, kg_pad, List.map_cons, List.map_nil, List.length_cons, List.length_nil, List.replicate, List.cons_append, List.nil_append, List.append_nil, Nat.reduceAdd, Nat.reduceSub, Nat.reduceMul, Nat.reduceMod, Nat.reduceDiv, Nat.reduceLT, Nat.reduceLeDiff, Nat.reduceEqDiff, ne_eq, not_true_eq_false, not_false_eq_true, reduceIte, true_and, and_true, kg_lk59, kg_ls59, hz, kg_wrr_h, kf_hs_s, h0, h1, h2, h3]
      refine kg_v59 hL (by omega) 60 ?_
      simp (disch := omega) only [kg_S1, kg_S2, kg_br_T, kg_br_F, kg_br_N, kg_br_t, kg_br_f, kg_at_n, nI_add, pk_mul, kg_sub_n, kg_rem_n, kg_eq_n, kg_lt_n, kg_le_n, kg_nz, kg_01_0, kg_01_1, kg_w0_1, kg_ret0, kg_ret1, kg_ret2, kg_wr_n, kg_wr_s, kg_Skd, kg_Smc, kg_Sob, kg_Srf, kg_Sld, kg_pad, List.map_cons, List.map_nil, List.length_cons, List.length_nil, List.replicate, List.cons_append, List.nil_append, List.append_nil, Nat.reduceAdd, Nat.reduceSub, Nat.reduceMul, Nat.reduceMod, Nat.reduceDiv, Nat.reduceLT, Nat.reduceLeDiff, Nat.reduceEqDiff, ne_eq, not_true_eq_false, not_false_eq_true, reduceIte, true_and, and_true, kg_lk59, kg_ls59, hz, kg_wrr_h, kf_hs_s, h0, h1, h2, h3]
      refine kg_v59 hL (by omega) 60 ?_
      simp (disch := omega) only [kg_S1, kg_S2, kg_br_T, kg_br_F, kg_br_N, kg_br_t, kg_br_f, kg_at_n, nI_add, pk_mul, kg_sub_n, kg_rem_n, kg_eq_n, kg_lt_n, kg_le_n, kg_nz, kg_01_0, kg_01_1, kg_w0_1, kg_ret0, kg_ret1, kg_ret2, kg_wr_n, kg_wr_s, kg_Skd, kg_Smc, kg_Sob, kg_Srf, kg_Sld, kg_pad, List.map_cons, List.map_nil, List.length_cons, List.length_nil, List.replicate, List.cons_append, List.nil_append, List.append_nil, Nat.reduceAdd, Nat.reduceSub, Nat.reduceMul, Nat.reduceMod, Nat.reduceDiv, Nat.reduceLT, Nat.reduceLeDiff, Nat.reduceEqDiff, ne_eq, not_true_eq_false, not_false_eq_true, reduceIte, true_and, and_true, kg_lk59, kg_ls59, hz, kg_wrr_h, kf_hs_s, h0, h1, h2, h3]
      refine kg_v59 hL (by omega) 60 ?_
      simp (disch := omega) only [kg_S1, kg_S2, kg_br_T, kg_br_F, kg_br_N, kg_br_t, kg_br_f, kg_at_n, nI_add, pk_mul, kg_sub_n, kg_rem_n, kg_eq_n, kg_lt_n, kg_le_n, kg_nz, kg_01_0, kg_01_1, kg_w0_1, kg_ret0, kg_ret1, kg_ret2, kg_wr_n, kg_wr_s, kg_Skd, kg_Smc, kg_Sob, kg_Srf, kg_Sld, kg_pad, List.map_cons, List.map_nil, List.length_cons, List.length_nil, List.replicate, List.cons_append, List.nil_append, List.append_nil, Nat.reduceAdd, Nat.reduceSub, Nat.reduceMul, Nat.reduceMod, Nat.reduceDiv, Nat.reduceLT, Nat.reduceLeDiff, Nat.reduceEqDiff, ne_eq, not_true_eq_false, not_false_eq_true, reduceIte, true_and, and_true, kg_lk59, kg_ls59, hz, kg_wrr_h, kf_hs_s, h0, h1, h2, h3]
      refine kc22_h hL (by omega) hR3 (by omega) ?_
      intro M1 a1 a2
      have z1 : M1 0 2 = nI 3 := by rw [a1 0 (by omega), kg_wr_s, if_pos rfl]
      simp (disch := omega) only [kg_S1, kg_S2, kg_br_T, kg_br_F, kg_br_N, kg_br_t, kg_br_f, kg_at_n, nI_add, pk_mul, kg_sub_n, kg_rem_n, kg_eq_n, kg_lt_n, kg_le_n, kg_nz, kg_01_0, kg_01_1, kg_w0_1, kg_ret0, kg_ret1, kg_ret2, kg_wr_n, kg_wr_s, kg_Skd, kg_Smc, kg_Sob, kg_Srf, kg_Sld, kg_pad, List.map_cons, List.map_nil, List.length_cons, List.length_nil, List.replicate, List.cons_append, List.nil_append, List.append_nil, Nat.reduceAdd, Nat.reduceSub, Nat.reduceMul, Nat.reduceMod, Nat.reduceDiv, Nat.reduceLT, Nat.reduceLeDiff, Nat.reduceEqDiff, ne_eq, not_true_eq_false, not_false_eq_true, reduceIte, true_and, and_true, kg_lk59, kg_ls59, z1]
      exact fin _ 22 M1 a1 a2 (by omega) (by simp [kf_hs, h1]) (by simp [kf_hs, h2]) (by simp [kf_hs, h3]) (by simp [kf_hs])
    · simp (disch := omega) only [kg_S1, kg_S2, kg_br_T, kg_br_F, kg_br_N, kg_br_t, kg_br_f, kg_at_n, nI_add, pk_mul, kg_sub_n, kg_rem_n, kg_eq_n, kg_lt_n, kg_le_n, kg_nz, kg_01_0, kg_01_1, kg_w0_1, kg_ret0, kg_ret1, kg_ret2, kg_wr_n, kg_wr_s, kg_Skd, kg_Smc, kg_Sob, kg_Srf, kg_Sld, kg_pad, List.map_cons, List.map_nil, List.length_cons, List.length_nil, List.replicate, List.cons_append, List.nil_append, List.append_nil, Nat.reduceAdd, Nat.reduceSub, Nat.reduceMul, Nat.reduceMod, Nat.reduceDiv, Nat.reduceLT, Nat.reduceLeDiff, Nat.reduceEqDiff, ne_eq, not_true_eq_false, not_false_eq_true, reduceIte, true_and, and_true, kg_lk59, kg_ls59, hz, kg_wrr_h, kf_hs_s, h0, h1, h2, h3]
      refine kg_v59 hL (by omega) 60 ?_
      simp (disch := omega) only [kg_S1, kg_S2, kg_br_T, kg_br_F, kg_br_N, kg_br_t, kg_br_f, kg_at_n, nI_add, pk_mul, kg_sub_n, kg_rem_n, kg_eq_n, kg_lt_n, kg_le_n, kg_nz, kg_01_0, kg_01_1, kg_w0_1, kg_ret0, kg_ret1, kg_ret2, kg_wr_n, kg_wr_s, kg_Skd, kg_Smc, kg_Sob, kg_Srf, kg_Sld, kg_pad, List.map_cons, List.map_nil, List.length_cons, List.length_nil, List.replicate, List.cons_append, List.nil_append, List.append_nil, Nat.reduceAdd, Nat.reduceSub, Nat.reduceMul, Nat.reduceMod, Nat.reduceDiv, Nat.reduceLT, Nat.reduceLeDiff, Nat.reduceEqDiff, ne_eq, not_true_eq_false, not_false_eq_true, reduceIte, true_and, and_true, kg_lk59, kg_ls59, hz, kg_wrr_h, kf_hs_s, h0, h1, h2, h3]
      refine kg_v59 hL (by omega) 60 ?_
      simp (disch := omega) only [kg_S1, kg_S2, kg_br_T, kg_br_F, kg_br_N, kg_br_t, kg_br_f, kg_at_n, nI_add, pk_mul, kg_sub_n, kg_rem_n, kg_eq_n, kg_lt_n, kg_le_n, kg_nz, kg_01_0, kg_01_1, kg_w0_1, kg_ret0, kg_ret1, kg_ret2, kg_wr_n, kg_wr_s, kg_Skd, kg_Smc, kg_Sob, kg_Srf, kg_Sld, kg_pad, List.map_cons, List.map_nil, List.length_cons, List.length_nil, List.replicate, List.cons_append, List.nil_append, List.append_nil, Nat.reduceAdd, Nat.reduceSub, Nat.reduceMul, Nat.reduceMod, Nat.reduceDiv, Nat.reduceLT, Nat.reduceLeDiff, Nat.reduceEqDiff, ne_eq, not_true_eq_false, not_false_eq_true, reduceIte, true_and, and_true, kg_lk59, kg_ls59, hz, kg_wrr_h, kf_hs_s, h0, h1, h2, h3]
      refine kg_v59 hL (by omega) 60 ?_
      simp (disch := omega) only [kg_S1, kg_S2, kg_br_T, kg_br_F, kg_br_N, kg_br_t, kg_br_f, kg_at_n, nI_add, pk_mul, kg_sub_n, kg_rem_n, kg_eq_n, kg_lt_n, kg_le_n, kg_nz, kg_01_0, kg_01_1, kg_w0_1, kg_ret0, kg_ret1, kg_ret2, kg_wr_n, kg_wr_s, kg_Skd, kg_Smc, kg_Sob, kg_Srf, kg_Sld, kg_pad, List.map_cons, List.map_nil, List.length_cons, List.length_nil, List.replicate, List.cons_append, List.nil_append, List.append_nil, Nat.reduceAdd, Nat.reduceSub, Nat.reduceMul, Nat.reduceMod, Nat.reduceDiv, Nat.reduceLT, Nat.reduceLeDiff, Nat.reduceEqDiff, ne_eq, not_true_eq_false, not_false_eq_true, reduceIte, true_and, and_true, kg_lk59, kg_ls59, hz, kg_wrr_h, kf_hs_s, h0, h1, h2, h3]
      refine kg_v59 hL (by omega) 60 ?_
      simp (disch := omega) only [kg_S1, kg_S2, kg_br_T, kg_br_F, kg_br_N, kg_br_t, kg_br_f, kg_at_n, nI_add, pk_mul, kg_sub_n, kg_rem_n, kg_eq_n, kg_lt_n, kg_le_n, kg_nz, kg_01_0, kg_01_1, kg_w0_1, kg_ret0, kg_ret1, kg_ret2, kg_wr_n, kg_wr_s, kg_Skd, kg_Smc, kg_Sob, kg_Srf, kg_Sld, kg_pad, List.map_cons, List.map_nil, List.length_cons, List.length_nil, List.replicate, List.cons_append, List.nil_append, List.append_nil, Nat.reduceAdd, Nat.reduceSub, Nat.reduceMul, Nat.reduceMod, Nat.reduceDiv, Nat.reduceLT, Nat.reduceLeDiff, Nat.reduceEqDiff, ne_eq, not_true_eq_false, not_false_eq_true, reduceIte, true_and, and_true, kg_lk59, kg_ls59, hz, kg_wrr_h, kf_hs_s, h0, h1, h2, h3]
      refine kc22_h hL (by omega) hR3 (by omega) ?_
      intro M1 a1 a2
      have z1 : M1 0 2 = nI 3 := by rw [a1 0 (by omega), kg_wr_s, if_pos rfl]
      simp (disch := omega) only [kg_S1, kg_S2, kg_br_T, kg_br_F, kg_br_N, kg_br_t, kg_br_f, kg_at_n, nI_add, pk_mul, kg_sub_n, kg_rem_n, kg_eq_n, kg_lt_n, kg_le_n, kg_nz, kg_01_0, kg_01_1, kg_w0_1, kg_ret0, kg_ret1, kg_ret2, kg_wr_n, kg_wr_s, kg_Skd, kg_Smc, kg_Sob, kg_Srf, kg_Sld, kg_pad, List.map_cons, List.map_nil, List.length_cons, List.length_nil, List.replicate, List.cons_append, List.nil_append, List.append_nil, Nat.reduceAdd, Nat.reduceSub, Nat.reduceMul, Nat.reduceMod, Nat.reduceDiv, Nat.reduceLT, Nat.reduceLeDiff, Nat.reduceEqDiff, ne_eq, not_true_eq_false, not_false_eq_true, reduceIte, true_and, and_true, kg_lk59, kg_ls59, z1]
      exact fin _ 42 M1 a1 a2 (by omega) (by simp [kf_hs, h1]) (by simp [kf_hs, h2]) (by simp [kf_hs, h3]) (by simp [kf_hs])
    · simp (disch := omega) only [kg_S1, kg_S2, kg_br_T, kg_br_F, kg_br_N, kg_br_t, kg_br_f, kg_at_n, nI_add, pk_mul, kg_sub_n, kg_rem_n, kg_eq_n, kg_lt_n, kg_le_n, kg_nz, kg_01_0, kg_01_1, kg_w0_1, kg_ret0, kg_ret1, kg_ret2, kg_wr_n, kg_wr_s, kg_Skd, kg_Smc, kg_Sob, kg_Srf, kg_Sld, kg_pad, List.map_cons, List.map_nil, List.length_cons, List.length_nil, List.replicate, List.cons_append, List.nil_append, List.append_nil, Nat.reduceAdd, Nat.reduceSub, Nat.reduceMul, Nat.reduceMod, Nat.reduceDiv, Nat.reduceLT, Nat.reduceLeDiff, Nat.reduceEqDiff, ne_eq, not_true_eq_false, not_false_eq_true, reduceIte, true_and, and_true, kg_lk59, kg_ls59, hz, kg_wrr_h, kf_hs_s, h0, h1, h2, h3]
      refine kg_v59 hL (by omega) 60 ?_
      simp (disch := omega) only [kg_S1, kg_S2, kg_br_T, kg_br_F, kg_br_N, kg_br_t, kg_br_f, kg_at_n, nI_add, pk_mul, kg_sub_n, kg_rem_n, kg_eq_n, kg_lt_n, kg_le_n, kg_nz, kg_01_0, kg_01_1, kg_w0_1, kg_ret0, kg_ret1, kg_ret2, kg_wr_n, kg_wr_s, kg_Skd, kg_Smc, kg_Sob, kg_Srf, kg_Sld, kg_pad, List.map_cons, List.map_nil, List.length_cons, List.length_nil, List.replicate, List.cons_append, List.nil_append, List.append_nil, Nat.reduceAdd, Nat.reduceSub, Nat.reduceMul, Nat.reduceMod, Nat.reduceDiv, Nat.reduceLT, Nat.reduceLeDiff, Nat.reduceEqDiff, ne_eq, not_true_eq_false, not_false_eq_true, reduceIte, true_and, and_true, kg_lk59, kg_ls59, hz, kg_wrr_h, kf_hs_s, h0, h1, h2, h3]
      refine kg_v59 hL (by omega) 60 ?_
      simp (disch := omega) only [kg_S1, kg_S2, kg_br_T, kg_br_F, kg_br_N, kg_br_t, kg_br_f, kg_at_n, nI_add, pk_mul, kg_sub_n, kg_rem_n, kg_eq_n, kg_lt_n, kg_le_n, kg_nz, kg_01_0, kg_01_1, kg_w0_1, kg_ret0, kg_ret1, kg_ret2, kg_wr_n, kg_wr_s, kg_Skd, kg_Smc, kg_Sob, kg_Srf, kg_Sld, kg_pad, List.map_cons, List.map_nil, List.length_cons, List.length_nil, List.replicate, List.cons_append, List.nil_append, List.append_nil, Nat.reduceAdd, Nat.reduceSub, Nat.reduceMul, Nat.reduceMod, Nat.reduceDiv, Nat.reduceLT, Nat.reduceLeDiff, Nat.reduceEqDiff, ne_eq, not_true_eq_false, not_false_eq_true, reduceIte, true_and, and_true, kg_lk59, kg_ls59, hz, kg_wrr_h, kf_hs_s, h0, h1, h2, h3]
      refine kg_v59 hL (by omega) 60 ?_
      simp (disch := omega) only [kg_S1, kg_S2, kg_br_T, kg_br_F, kg_br_N, kg_br_t, kg_br_f, kg_at_n, nI_add, pk_mul, kg_sub_n, kg_rem_n, kg_eq_n, kg_lt_n, kg_le_n, kg_nz, kg_01_0, kg_01_1, kg_w0_1, kg_ret0, kg_ret1, kg_ret2, kg_wr_n, kg_wr_s, kg_Skd, kg_Smc, kg_Sob, kg_Srf, kg_Sld, kg_pad, List.map_cons, List.map_nil, List.length_cons, List.length_nil, List.replicate, List.cons_append, List.nil_append, List.append_nil, Nat.reduceAdd, Nat.reduceSub, Nat.reduceMul, Nat.reduceMod, Nat.reduceDiv, Nat.reduceLT, Nat.reduceLeDiff, Nat.reduceEqDiff, ne_eq, not_true_eq_false, not_false_eq_true, reduceIte, true_and, and_true, kg_lk59, kg_ls59, hz, kg_wrr_h, kf_hs_s, h0, h1, h2, h3]
      refine kg_v59 hL (by omega) 60 ?_
      simp (disch := omega) only [kg_S1, kg_S2, kg_br_T, kg_br_F, kg_br_N, kg_br_t, kg_br_f, kg_at_n, nI_add, pk_mul, kg_sub_n, kg_rem_n, kg_eq_n, kg_lt_n, kg_le_n, kg_nz, kg_01_0, kg_01_1, kg_w0_1, kg_ret0, kg_ret1, kg_ret2, kg_wr_n, kg_wr_s, kg_Skd, kg_Smc, kg_Sob, kg_Srf, kg_Sld, kg_pad, List.map_cons, List.map_nil, List.length_cons, List.length_nil, List.replicate, List.cons_append, List.nil_append, List.append_nil, Nat.reduceAdd, Nat.reduceSub, Nat.reduceMul, Nat.reduceMod, Nat.reduceDiv, Nat.reduceLT, Nat.reduceLeDiff, Nat.reduceEqDiff, ne_eq, not_true_eq_false, not_false_eq_true, reduceIte, true_and, and_true, kg_lk59, kg_ls59, hz, kg_wrr_h, kf_hs_s, h0, h1, h2, h3]
      refine kc22_h hL (by omega) hR3 (by omega) ?_
      intro M1 a1 a2
      have z1 : M1 0 2 = nI 3 := by rw [a1 0 (by omega), kg_wr_s, if_pos rfl]
      simp (disch := omega) only [kg_S1, kg_S2, kg_br_T, kg_br_F, kg_br_N, kg_br_t, kg_br_f, kg_at_n, nI_add, pk_mul, kg_sub_n, kg_rem_n, kg_eq_n, kg_lt_n, kg_le_n, kg_nz, kg_01_0, kg_01_1, kg_w0_1, kg_ret0, kg_ret1, kg_ret2, kg_wr_n, kg_wr_s, kg_Skd, kg_Smc, kg_Sob, kg_Srf, kg_Sld, kg_pad, List.map_cons, List.map_nil, List.length_cons, List.length_nil, List.replicate, List.cons_append, List.nil_append, List.append_nil, Nat.reduceAdd, Nat.reduceSub, Nat.reduceMul, Nat.reduceMod, Nat.reduceDiv, Nat.reduceLT, Nat.reduceLeDiff, Nat.reduceEqDiff, ne_eq, not_true_eq_false, not_false_eq_true, reduceIte, true_and, and_true, kg_lk59, kg_ls59, z1]
      exact fin _ 62 M1 a1 a2 (by omega) (by simp [kf_hs, h1]) (by simp [kf_hs, h2]) (by simp [kf_hs, h3]) (by simp [kf_hs])
    · simp (disch := omega) only [kg_S1, kg_S2, kg_br_T, kg_br_F, kg_br_N, kg_br_t, kg_br_f, kg_at_n, nI_add, pk_mul, kg_sub_n, kg_rem_n, kg_eq_n, kg_lt_n, kg_le_n, kg_nz, kg_01_0, kg_01_1, kg_w0_1, kg_ret0, kg_ret1, kg_ret2, kg_wr_n, kg_wr_s, kg_Skd, kg_Smc, kg_Sob, kg_Srf, kg_Sld, kg_pad, List.map_cons, List.map_nil, List.length_cons, List.length_nil, List.replicate, List.cons_append, List.nil_append, List.append_nil, Nat.reduceAdd, Nat.reduceSub, Nat.reduceMul, Nat.reduceMod, Nat.reduceDiv, Nat.reduceLT, Nat.reduceLeDiff, Nat.reduceEqDiff, ne_eq, not_true_eq_false, not_false_eq_true, reduceIte, true_and, and_true, kg_lk59, kg_ls59, hz, kg_wrr_h, kf_hs_s, h0, h1, h2, h3]
      refine kg_v59 hL (by omega) 60 ?_
      simp (disch := omega) only [kg_S1, kg_S2, kg_br_T, kg_br_F, kg_br_N, kg_br_t, kg_br_f, kg_at_n, nI_add, pk_mul, kg_sub_n, kg_rem_n, kg_eq_n, kg_lt_n, kg_le_n, kg_nz, kg_01_0, kg_01_1, kg_w0_1, kg_ret0, kg_ret1, kg_ret2, kg_wr_n, kg_wr_s, kg_Skd, kg_Smc, kg_Sob, kg_Srf, kg_Sld, kg_pad, List.map_cons, List.map_nil, List.length_cons, List.length_nil, List.replicate, List.cons_append, List.nil_append, List.append_nil, Nat.reduceAdd, Nat.reduceSub, Nat.reduceMul, Nat.reduceMod, Nat.reduceDiv, Nat.reduceLT, Nat.reduceLeDiff, Nat.reduceEqDiff, ne_eq, not_true_eq_false, not_false_eq_true, reduceIte, true_and, and_true, kg_lk59, kg_ls59, hz, kg_wrr_h, kf_hs_s, h0, h1, h2, h3]
      refine kg_v59 hL (by omega) 60 ?_
      simp (disch := omega) only [kg_S1, kg_S2, kg_br_T, kg_br_F, kg_br_N, kg_br_t, kg_br_f, kg_at_n, nI_add, pk_mul, kg_sub_n, kg_rem_n, kg_eq_n, kg_lt_n, kg_le_n, kg_nz, kg_01_0, kg_01_1, kg_w0_1, kg_ret0, kg_ret1, kg_ret2, kg_wr_n, kg_wr_s, kg_Skd, kg_Smc, kg_Sob, kg_Srf, kg_Sld, kg_pad, List.map_cons, List.map_nil, List.length_cons, List.length_nil, List.replicate, List.cons_append, List.nil_append, List.append_nil, Nat.reduceAdd, Nat.reduceSub, Nat.reduceMul, Nat.reduceMod, Nat.reduceDiv, Nat.reduceLT, Nat.reduceLeDiff, Nat.reduceEqDiff, ne_eq, not_true_eq_false, not_false_eq_true, reduceIte, true_and, and_true, kg_lk59, kg_ls59, hz, kg_wrr_h, kf_hs_s, h0, h1, h2, h3]
      refine kg_v59 hL (by omega) 60 ?_
      simp (disch := omega) only [kg_S1, kg_S2, kg_br_T, kg_br_F, kg_br_N, kg_br_t, kg_br_f, kg_at_n, nI_add, pk_mul, kg_sub_n, kg_rem_n, kg_eq_n, kg_lt_n, kg_le_n, kg_nz, kg_01_0, kg_01_1, kg_w0_1, kg_ret0, kg_ret1, kg_ret2, kg_wr_n, kg_wr_s, kg_Skd, kg_Smc, kg_Sob, kg_Srf, kg_Sld, kg_pad, List.map_cons, List.map_nil, List.length_cons, List.length_nil, List.replicate, List.cons_append, List.nil_append, List.append_nil, Nat.reduceAdd, Nat.reduceSub, Nat.reduceMul, Nat.reduceMod, Nat.reduceDiv, Nat.reduceLT, Nat.reduceLeDiff, Nat.reduceEqDiff, ne_eq, not_true_eq_false, not_false_eq_true, reduceIte, true_and, and_true, kg_lk59, kg_ls59, hz, kg_wrr_h, kf_hs_s, h0, h1, h2, h3]
      refine kg_v59 hL (by omega) 60 ?_
      simp (disch := omega) only [kg_S1, kg_S2, kg_br_T, kg_br_F, kg_br_N, kg_br_t, kg_br_f, kg_at_n, nI_add, pk_mul, kg_sub_n, kg_rem_n, kg_eq_n, kg_lt_n, kg_le_n, kg_nz, kg_01_0, kg_01_1, kg_w0_1, kg_ret0, kg_ret1, kg_ret2, kg_wr_n, kg_wr_s, kg_Skd, kg_Smc, kg_Sob, kg_Srf, kg_Sld, kg_pad, List.map_cons, List.map_nil, List.length_cons, List.length_nil, List.replicate, List.cons_append, List.nil_append, List.append_nil, Nat.reduceAdd, Nat.reduceSub, Nat.reduceMul, Nat.reduceMod, Nat.reduceDiv, Nat.reduceLT, Nat.reduceLeDiff, Nat.reduceEqDiff, ne_eq, not_true_eq_false, not_false_eq_true, reduceIte, true_and, and_true, kg_lk59, kg_ls59, hz, kg_wrr_h, kf_hs_s, h0, h1, h2, h3]
      refine kc22_h hL (by omega) hR3 (by omega) ?_
      intro M1 a1 a2
      have z1 : M1 0 2 = nI 3 := by rw [a1 0 (by omega), kg_wr_s, if_pos rfl]
      simp (disch := omega) only [kg_S1, kg_S2, kg_br_T, kg_br_F, kg_br_N, kg_br_t, kg_br_f, kg_at_n, nI_add, pk_mul, kg_sub_n, kg_rem_n, kg_eq_n, kg_lt_n, kg_le_n, kg_nz, kg_01_0, kg_01_1, kg_w0_1, kg_ret0, kg_ret1, kg_ret2, kg_wr_n, kg_wr_s, kg_Skd, kg_Smc, kg_Sob, kg_Srf, kg_Sld, kg_pad, List.map_cons, List.map_nil, List.length_cons, List.length_nil, List.replicate, List.cons_append, List.nil_append, List.append_nil, Nat.reduceAdd, Nat.reduceSub, Nat.reduceMul, Nat.reduceMod, Nat.reduceDiv, Nat.reduceLT, Nat.reduceLeDiff, Nat.reduceEqDiff, ne_eq, not_true_eq_false, not_false_eq_true, reduceIte, true_and, and_true, kg_lk59, kg_ls59, z1]
      exact fin _ 82 M1 a1 a2 (by omega) (by simp [kf_hs, h1]) (by simp [kf_hs, h2]) (by simp [kf_hs, h3]) (by simp [kf_hs])
end
