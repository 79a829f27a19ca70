/-! WRITES of the class: the log, the facts -/
def kf_q (r : Nat → Int32) : Nat := (r 246).toNatClampNeg
/-- an event is noted -/
def kf_nt (r : Nat → Int32) (kd : Nat) (a b : Int32) : Nat → Int32 := fun i =>
  if i = 242 + kd then r i + nI 1
  else if kf_q r = 10 then (if i < 247 then r i else if i < 283 then r (i + 4) else if i = 283 then nI kd else if i = 284 then r 0 else if i = 285 then a else if i = 286 then b else r i)
  else if i = 246 then nI (kf_q r + 1) else if i = 247 + 4 * kf_q r then nI kd else if i = 248 + 4 * kf_q r then r 0 else if i = 249 + 4 * kf_q r then a else if i = 250 + 4 * kf_q r then b else r i
abbrev kf_EVM (M : kg_M) (r : Nat → Int32) : Prop := kf_EV (M 14 0) (M 14 1) (M 15) (M 16) (M 17) (M 18) (M 19) r
theorem kf_ev_nt {M M' : kg_M} {r : Nat → Int32} {kd p q : Nat} {a b : Int32} (hkd : kd < 4) (hp : p ≤ 10) (hq : q < 10) (e246 : r 246 = nI p) (hN : ∀ i, i < 4 → M 15 i = r (242 + i))
    (hA : ∀ i, i < p → M 16 ((q + 10 - i) % 10) = r (247 + 4 * (p - 1 - i)) ∧ M 17 ((q + 10 - i) % 10) = r (248 + 4 * (p - 1 - i)) ∧ M 18 ((q + 10 - i) % 10) = r (249 + 4 * (p - 1 - i)) ∧ M 19 ((q + 10 - i) % 10) = r (250 + 4 * (p - 1 - i)))
    (z1 : M' 14 1 = nI ((q + 1) % 10)) (z0 : M' 14 0 = if p < 10 then nI (p + 1) else nI p) (zN : ∀ i, M' 15 i = if i = kd then M 15 kd + nI 1 else M 15 i)
    (zA : ∀ i, M' 16 i = if i = (q + 1) % 10 then nI kd else M 16 i) (zT : ∀ i, M' 17 i = if i = (q + 1) % 10 then r 0 else M 17 i) (zB : ∀ i, M' 18 i = if i = (q + 1) % 10 then a else M 18 i) (zC : ∀ i, M' 19 i = if i = (q + 1) % 10 then b else M 19 i) : kf_EVM M' (kf_nt r kd a b) := by
  have ep : kf_q r = p := by rw [kf_q, e246, nI_clamp (by omega)]
  have key : ∀ i : Nat, 0 < i → i < 10 → ((q + 1) % 10 + 10 - i) % 10 = (q + 10 - (i - 1)) % 10 ∧ (q + 10 - (i - 1)) % 10 ≠ (q + 1) % 10 := by intro i h1 h2; omega
  rcases Nat.lt_or_ge p 10 with g | g
  · refine ⟨p + 1, (q + 1) % 10, by omega, by omega, by rw [z0, if_pos g], z1, ?_, ?_, ?_⟩
    · simp (disch := omega) only [kf_nt, ep, if_pos, if_neg, reduceIte]
    · intro i hi
      rw [zN]
      by_cases e : i = kd
      · subst e
        simp (disch := omega) only [kf_nt, ep, if_pos, if_neg, reduceIte, hN i hi]
      · simp (disch := omega) only [kf_nt, ep, if_pos, if_neg, reduceIte, hN i hi]
    · intro i hi
      rw [zA, zT, zB, zC]
      by_cases e : i = 0
      · subst e
        refine ⟨?_, ?_, ?_, ?_⟩ <;> simp (disch := omega) only [kf_nt, ep, if_pos, if_neg, reduceIte]
      · have k1 := key i (by omega) (by omega)
        have h1 := hA (i - 1) (by omega)
        rw [k1.1]
        have e9 : p - 1 - (i - 1) = p + 1 - 1 - i := by omega
        simp only [if_neg k1.2, h1.1, h1.2.1, h1.2.2.1, h1.2.2.2, e9]
        refine ⟨?_, ?_, ?_, ?_⟩ <;> simp (disch := omega) only [kf_nt, ep, if_pos, if_neg, reduceIte]
  · obtain rfl : p = 10 := by omega
    refine ⟨10, (q + 1) % 10, by omega, by omega, by rw [z0, if_neg (by omega)], z1, ?_, ?_, ?_⟩
    · simp (disch := omega) only [kf_nt, ep, if_pos, if_neg, reduceIte, e246]
    · intro i hi
      rw [zN]
      by_cases e : i = kd
      · subst e
        simp (disch := omega) only [kf_nt, ep, if_pos, if_neg, reduceIte, hN i hi]
      · simp (disch := omega) only [kf_nt, ep, if_pos, if_neg, reduceIte, hN i hi]
    · intro i hi
      rw [zA, zT, zB, zC]
      by_cases e : i = 0
      · subst e
        refine ⟨?_, ?_, ?_, ?_⟩ <;> simp (disch := omega) only [kf_nt, ep, if_pos, if_neg, reduceIte]
      · have k1 := key i (by omega) (by omega)
        have h1 := hA (i - 1) (by omega)
        rw [k1.1]
        have e9 : ∀ z, z + 4 * (10 - 1 - (i - 1)) = z + 4 * (10 - 1 - i) + 4 := by intro z; omega
        simp only [if_neg k1.2, h1.1, h1.2.1, h1.2.2.1, h1.2.2.2, e9]
        refine ⟨?_, ?_, ?_, ?_⟩ <;> simp (disch := omega) only [kf_nt, ep, if_pos, if_neg, reduceIte]
section
variable {G : kg_G} {d c : Nat} {h : Nat → Nat} {r : Nat → Int32} {M : kg_M} {K : kg_Qt}
theorem kc2 (hL : G.2.2.2.2.2.1 < 2 ^ 31) {kd : Nat} {a b : Int32} (hd : 2 ≤ d) (hkd : kd < 4) (hE : kf_EVM M r) (hK : ∀ M' : kg_M, (∀ p, (p < 14 ∨ 19 < p) → M' p = M p) → kf_EVM M' (kf_nt r kd a b) → K none (kg_w0 h) M') : kg_call G d 125 2 [.ref 14, .int (nI kd), .int (r 0), .int a, .int b] (kg_w0 h) M K := by
  obtain ⟨p, q, hp, hq, e0, e1, e246, hN, hA⟩ := hE
  obtain ⟨d, rfl⟩ : ∃ e, d = e + 1 := ⟨d - 1, by omega⟩
  refine kg_m2 (by simp) (Nat.le_refl _) (kg_v2 hL (by omega) 60 ?_)
  have hm : (q + 1) % 10 < 10 := Nat.mod_lt _ (by omega)
  simp (disch := omega) only [kg_S1, kg_S2, kg_br_T, kg_br_F, kg_br_N, kg_br_t, kg_br_f, kg_at_n, nI_add, pk_mul, kg_sub_n, kg_rem_n, kg_eq_n, kg_lt_n, kg_le_n, kg_nz, kg_01_0, kg_01_1, kg_w0_1, kg_ret0, kg_ret1, kg_ret2, kg_wr_n, kg_wr_s, kg_Skd, kg_Smc, kg_Sob, kg_Srf, kg_Sld, kg_pad, List.map_cons, List.map_nil, List.length_cons, List.length_nil, List.replicate, List.cons_append, List.nil_append, List.append_nil, Nat.reduceAdd, Nat.reduceSub, Nat.reduceMul, Nat.reduceMod, Nat.reduceDiv, Nat.reduceLT, Nat.reduceLeDiff, Nat.reduceEqDiff, ne_eq, not_true_eq_false, not_false_eq_true, reduceIte, true_and, and_true, kg_lk2, kg_ls2, e0, e1]
  have fin : ∀ M' : kg_M, (∀ p, (p < 14 ∨ 19 < p) → M' p = M p) → M' 14 1 = nI ((q + 1) % 10) → (M' 14 0 = if p < 10 then nI (p + 1) else nI p) → (∀ i, M' 15 i = if i = kd then M 15 kd + nI 1 else M 15 i) → (∀ i, M' 16 i = if i = (q + 1) % 10 then nI kd else M 16 i) → (∀ i, M' 17 i = if i = (q + 1) % 10 then r 0 else M 17 i) → (∀ i, M' 18 i = if i = (q + 1) % 10 then a else M 18 i) → (∀ i, M' 19 i = if i = (q + 1) % 10 then b else M 19 i) → K none (kg_w0 h) M' := fun M' z9 z1 z0 zN zA zT zB zC => hK M' z9 (kf_ev_nt hkd hp hq e246 hN hA z1 z0 zN zA zT zB zC)
  refine kg_br_i (fun g => ?_) (fun g => ?_)
  · refine fin _ ?_ ?_ ?_ ?_ ?_ ?_ ?_ ?_
    · intro p hp
      simp (disch := omega) only [kg_wr_n]
    all_goals (simp [kg_wr, e0]; try (first | omega | (intro g9; omega)))
  · refine fin _ ?_ ?_ ?_ ?_ ?_ ?_ ?_ ?_
    · intro p hp
      simp (disch := omega) only [kg_wr_n]
    all_goals (simp [kg_wr, e0]; try (first | omega | (intro g9; omega)))
def kf_pm (M : kg_M) (p : Nat) (s ct t l : Int32) : kg_M := kg_wr (kg_wr (kg_wr (kg_wr M 5 p s) 6 p ct) 7 p t) 8 p l
theorem kc6 (hL : G.2.2.2.2.2.1 < 2 ^ 31) {p : Nat} {s ct t : Int32} (hd : 2 ≤ d) (hp : p < 40) (hK : K none (kg_w0 h) (kf_pm M p s ct t t)) : kg_call G d 125 6 [.ref 4, .int (nI p), .int s, .int ct, .int t] (kg_w0 h) M K := by
  obtain ⟨d, rfl⟩ : ∃ e, d = e + 1 := ⟨d - 1, by omega⟩
  refine kg_m6 (by simp) (Nat.le_refl _) (kg_v6 hL (by omega) 40 ?_)
  simp (disch := omega) only [kg_S1, kg_S2, kg_br_T, kg_br_F, kg_br_N, kg_br_t, kg_br_f, kg_at_n, nI_add, pk_mul, kg_sub_n, kg_rem_n, kg_eq_n, kg_lt_n, kg_le_n, kg_nz, kg_01_0, kg_01_1, kg_w0_1, kg_ret0, kg_ret1, kg_ret2, kg_wr_n, kg_wr_s, kg_Skd, kg_Smc, kg_Sob, kg_Srf, kg_Sld, kg_pad, List.map_cons, List.map_nil, List.length_cons, List.length_nil, List.replicate, List.cons_append, List.nil_append, List.append_nil, Nat.reduceAdd, Nat.reduceSub, Nat.reduceMul, Nat.reduceMod, Nat.reduceDiv, Nat.reduceLT, Nat.reduceLeDiff, Nat.reduceEqDiff, ne_eq, not_true_eq_false, not_false_eq_true, reduceIte, true_and, and_true, kg_lk6, kg_ls6]
  exact hK
theorem kc10 (hL : G.2.2.2.2.2.1 < 2 ^ 31) {p : Nat} (hd : 3 ≤ d) (hp : p < 40) (hK : K none (kg_w0 h) (kf_pm M p (nI 0) (nI 0) (nI 0) (nI 0))) : kg_call G d 125 10 [.ref 4, .int (nI p)] (kg_w0 h) M K := by
  obtain ⟨d, rfl⟩ : ∃ e, d = e + 1 := ⟨d - 1, by omega⟩
  refine kg_m10 (by simp) (Nat.le_refl _) (kg_v10 hL (by omega) 40 ?_)
  simp (disch := omega) only [kg_S1, kg_S2, kg_br_T, kg_br_F, kg_br_N, kg_br_t, kg_br_f, kg_at_n, nI_add, pk_mul, kg_sub_n, kg_rem_n, kg_eq_n, kg_lt_n, kg_le_n, kg_nz, kg_01_0, kg_01_1, kg_w0_1, kg_ret0, kg_ret1, kg_ret2, kg_wr_n, kg_wr_s, kg_Skd, kg_Smc, kg_Sob, kg_Srf, kg_Sld, kg_pad, List.map_cons, List.map_nil, List.length_cons, List.length_nil, List.replicate, List.cons_append, List.nil_append, List.append_nil, Nat.reduceAdd, Nat.reduceSub, Nat.reduceMul, Nat.reduceMod, Nat.reduceDiv, Nat.reduceLT, Nat.reduceLeDiff, Nat.reduceEqDiff, ne_eq, not_true_eq_false, not_false_eq_true, reduceIte, true_and, and_true, kg_lk10, kg_ls10]
  refine kc6 hL (by omega) hp ?_
  simp (disch := omega) only [kg_S1, kg_S2, kg_br_T, kg_br_F, kg_br_N, kg_br_t, kg_br_f, kg_at_n, nI_add, pk_mul, kg_sub_n, kg_rem_n, kg_eq_n, kg_lt_n, kg_le_n, kg_nz, kg_01_0, kg_01_1, kg_w0_1, kg_ret0, kg_ret1, kg_ret2, kg_wr_n, kg_wr_s, kg_Skd, kg_Smc, kg_Sob, kg_Srf, kg_Sld, kg_pad, List.map_cons, List.map_nil, List.length_cons, List.length_nil, List.replicate, List.cons_append, List.nil_append, List.append_nil, Nat.reduceAdd, Nat.reduceSub, Nat.reduceMul, Nat.reduceMod, Nat.reduceDiv, Nat.reduceLT, Nat.reduceLeDiff, Nat.reduceEqDiff, ne_eq, not_true_eq_false, not_false_eq_true, reduceIte, true_and, and_true, kg_lk10, kg_ls10]
  exact hK
theorem kc8 (hL : G.2.2.2.2.2.1 < 2 ^ 31) {p q : Nat} {t : Int32} (hd : 2 ≤ d) (hp : p < 40) (hq : q < 40) (hK : K none (kg_w0 h) (kf_pm M p (M 5 q) (M 6 q) (M 7 q) t)) : kg_call G d 125 8 [.ref 4, .int (nI p), .int (nI q), .int t] (kg_w0 h) M K := by
  obtain ⟨d, rfl⟩ : ∃ e, d = e + 1 := ⟨d - 1, by omega⟩
  refine kg_m8 (by simp) (Nat.le_refl _) (kg_v8 hL (by omega) 40 ?_)
  simp (disch := omega) only [kg_S1, kg_S2, kg_br_T, kg_br_F, kg_br_N, kg_br_t, kg_br_f, kg_at_n, nI_add, pk_mul, kg_sub_n, kg_rem_n, kg_eq_n, kg_lt_n, kg_le_n, kg_nz, kg_01_0, kg_01_1, kg_w0_1, kg_ret0, kg_ret1, kg_ret2, kg_wr_n, kg_wr_s, kg_Skd, kg_Smc, kg_Sob, kg_Srf, kg_Sld, kg_pad, List.map_cons, List.map_nil, List.length_cons, List.length_nil, List.replicate, List.cons_append, List.nil_append, List.append_nil, Nat.reduceAdd, Nat.reduceSub, Nat.reduceMul, Nat.reduceMod, Nat.reduceDiv, Nat.reduceLT, Nat.reduceLeDiff, Nat.reduceEqDiff, ne_eq, not_true_eq_false, not_false_eq_true, reduceIte, true_and, and_true, kg_lk8, kg_ls8]
  exact hK
theorem kc34 (hL : G.2.2.2.2.2.1 < 2 ^ 31) {kd a b : Nat} (hd : 3 ≤ d) (hkd : kd < 4) (ha : a < 4) (hb : b < 4) (hT : M 1 0 = r 0) (hE : kf_EVM M r) (hK : ∀ M' : kg_M, (∀ p, (p < 14 ∨ 19 < p) → M' p = M p) → kf_EVM M' (kf_nt r kd (nI (if b < a then b else a)) (nI (if a < b then b else a))) → K none (kg_w0 h) M') : kg_call G d 125 34 [.ref 1, .int (nI kd), .int (nI a), .int (nI b)] (kg_w0 h) M K := by
  obtain ⟨d, rfl⟩ : ∃ e, d = e + 1 := ⟨d - 1, by omega⟩
  refine kg_m34 (by simp) (Nat.le_refl _) (kg_v34 hL (by omega) 40 ?_)
  simp (disch := omega) only [kg_S1, kg_S2, kg_br_T, kg_br_F, kg_br_N, kg_br_t, kg_br_f, kg_at_n, nI_add, pk_mul, kg_sub_n, kg_rem_n, kg_eq_n, kg_lt_n, kg_le_n, kg_nz, kg_01_0, kg_01_1, kg_w0_1, kg_ret0, kg_ret1, kg_ret2, kg_wr_n, kg_wr_s, kg_Skd, kg_Smc, kg_Sob, kg_Srf, kg_Sld, kg_pad, List.map_cons, List.map_nil, List.length_cons, List.length_nil, List.replicate, List.cons_append, List.nil_append, List.append_nil, Nat.reduceAdd, Nat.reduceSub, Nat.reduceMul, Nat.reduceMod, Nat.reduceDiv, Nat.reduceLT, Nat.reduceLeDiff, Nat.reduceEqDiff, ne_eq, not_true_eq_false, not_false_eq_true, reduceIte, true_and, and_true, kg_lk34, kg_ls34]
  have e1 : (if b < a then nI b else nI a) = nI (if b < a then b else a) := by split <;> rfl
  have e2 : (if a < b then nI b else nI a) = nI (if a < b then b else a) := by split <;> rfl
  rw [hT, e1, e2]
  refine kc2 hL (by omega) hkd hE ?_
  intro M' h1 h2
  simp (disch := omega) only [kg_S1, kg_S2, kg_br_T, kg_br_F, kg_br_N, kg_br_t, kg_br_f, kg_at_n, nI_add, pk_mul, kg_sub_n, kg_rem_n, kg_eq_n, kg_lt_n, kg_le_n, kg_nz, kg_01_0, kg_01_1, kg_w0_1, kg_ret0, kg_ret1, kg_ret2, kg_wr_n, kg_wr_s, kg_Skd, kg_Smc, kg_Sob, kg_Srf, kg_Sld, kg_pad, List.map_cons, List.map_nil, List.length_cons, List.length_nil, List.replicate, List.cons_append, List.nil_append, List.append_nil, Nat.reduceAdd, Nat.reduceSub, Nat.reduceMul, Nat.reduceMod, Nat.reduceDiv, Nat.reduceLT, Nat.reduceLeDiff, Nat.reduceEqDiff, ne_eq, not_true_eq_false, not_false_eq_true, reduceIte, true_and, and_true, kg_lk34, kg_ls34]
  exact hK M' h1 h2

end
