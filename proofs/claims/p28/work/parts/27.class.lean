/-! the class's plan and pass -/
theorem kf_Rel_P {c : Nat} {M M' : kg_M} {r r' : Nat → Int32} (hR : kf_Rel c M 1 r) (hM : ∀ p, p ≤ 20 → (p < 10 ∨ 13 < p) → M' p = M p) (hr : ∀ i, (i < 211 ∨ 242 ≤ i) → r' i = r i) (hP : kf_PL (M' 10 0) (M' 11) (M' 12) (M' 13) r') : kf_Rel c M' 1 r' := by
  obtain ⟨⟨a1, a2⟩, a3, a4, a5, a6, -, ⟨p2, q2, c1, c2, c3, c4, c5, c6, c7⟩, a8⟩ := hR
  refine ⟨⟨?_, ?_⟩, ?_, ?_, ?_, ?_, hP, ⟨p2, q2, c1, c2, ?_, ?_, ?_, ?_, ?_⟩, kf_I_o a8 (fun i hi => hr i (by omega))⟩
  · rw [hM 1 (by omega) (by omega), hr _ (by omega)]; exact a1
  · rw [hM 1 (by omega) (by omega), hr _ (by omega)]; exact a2
  · intro i hi; rw [hM 2 (by omega) (by omega), hr _ (by omega)]; exact a3 i hi
  · intro i hi; rw [hM 3 (by omega) (by omega), hr _ (by omega)]; exact a4 i hi
  · rw [hM (1 + 4) (by omega) (by omega), hM (1 + 5) (by omega) (by omega), hM (1 + 6) (by omega) (by omega), hM (1 + 7) (by omega) (by omega)]; exact kf_F_o a5 (fun i _ hi => hr i (by omega))
  · intro i j hij hj; rw [hM 9 (by omega) (by omega), hr _ (by omega)]; exact a6 i j hij hj
  · rw [hM _ (by omega) (by omega)]; exact c3
  · rw [hM _ (by omega) (by omega)]; exact c4
  · rw [hr _ (by omega)]; exact c5
  · intro i hi; rw [hM _ (by omega) (by omega), hr _ (by omega)]; exact c6 i hi
  · intro i hi
    rw [hM _ (by omega) (by omega), hM _ (by omega) (by omega), hM _ (by omega) (by omega), hM _ (by omega) (by omega), hr _ (by omega), hr _ (by omega), hr _ (by omega), hr _ (by omega)]
    exact c7 i hi
/-- one more planned -/
def kf_pla (r : Nat → Int32) (a b t : Int32) : Nat → Int32 := upd (upd (upd (upd r (212 + 3 * kf_m2 r 211) a) (212 + 3 * kf_m2 r 211 + 1) b) (212 + 3 * kf_m2 r 211 + 2) t) 211 (r 211 + nI 1)
def kf_pm4 (M : kg_M) (p : Nat) (a b t : Int32) : kg_M := kg_wr (kg_wr (kg_wr (kg_wr M 11 p a) 12 p b) 13 p t) 10 0 (nI (p + 1))
theorem kf_PL_add {M : kg_M} {r : Nat → Int32} {p a b : Nat} {t : Int32} (hP : kf_PL (M 10 0) (M 11) (M 12) (M 13) r) (hp : r 211 = nI p) (hp10 : p < 10) (ha : a < 4) (hb : b < 4) (hab : a ≠ b) : kf_PL (kf_pm4 M p (nI a) (nI b) t 10 0) (kf_pm4 M p (nI a) (nI b) t 11) (kf_pm4 M p (nI a) (nI b) t 12) (kf_pm4 M p (nI a) (nI b) t 13) (kf_pla r (nI a) (nI b) t) := by
  obtain ⟨p', h1, h2, h3, h4⟩ := hP
  have e : p' = p := (nI_eq (by omega) (by omega)).mp (h3.symm.trans hp)
  subst e
  have em := kf_m2_n (i := 211) (by omega) hp
  refine ⟨p' + 1, by omega, by simp [kf_pm4, kg_wr], ?_, fun i hi => ?_⟩
  · simp [kf_pla, upd, hp, nI_add]
  · by_cases e : i = p'
    · subst e
      have q0 : ¬ (212 + 3 * i = 211) := by omega
      refine ⟨?_, ?_, ?_, a, b, ha, hb, hab, ?_, ?_⟩
      all_goals (try unfold kf_pm4); (try unfold kf_pla); (try rw [em])
      · simp (disch := omega) only [kg_wr_s, kg_wr_n, upd, reduceIte, if_neg, if_pos]
      · simp (disch := omega) only [kg_wr_s, kg_wr_n, upd, reduceIte, if_neg, if_pos]
      · simp (disch := omega) only [kg_wr_s, kg_wr_n, upd, reduceIte, if_neg, if_pos]
      · simp (disch := omega) only [kg_wr_s, kg_wr_n, upd, reduceIte, if_neg, if_pos]
      · simp (disch := omega) only [kg_wr_s, kg_wr_n, upd, reduceIte, if_neg, if_pos]
    · have hr : ∀ j, 212 ≤ j → j < 212 + 3 * p' → kf_pla r (nI a) (nI b) t j = r j := by
        intro j h1 h2
        unfold kf_pla
        rw [em]
        simp (disch := omega) only [upd, if_neg]
      rw [hr _ (by omega) (by omega), hr _ (by omega) (by omega), hr _ (by omega) (by omega)]
      have := h4 i (by omega)
      have e1 : kf_pm4 M p' (nI a) (nI b) t 11 i = M 11 i := by unfold kf_pm4; simp (disch := omega) only [kg_wr_s, kg_wr_n, if_neg]
      have e2 : kf_pm4 M p' (nI a) (nI b) t 12 i = M 12 i := by unfold kf_pm4; simp (disch := omega) only [kg_wr_s, kg_wr_n, if_neg]
      have e3 : kf_pm4 M p' (nI a) (nI b) t 13 i = M 13 i := by unfold kf_pm4; simp (disch := omega) only [kg_wr_s, kg_wr_n, if_neg]
      rw [e1, e2, e3]
      exact this
def kf_plc (A : kf_A) (a b t : Int32) : kf_O := match kf_ix 4 a, kf_ix 4 b with
  | some a, some b => if t < nI 0 ∨ nI 9999 < t ∨ a = b then (kg_n 2, A) else if kf_m2 A.1 211 < 10 then (nI (kf_m2 A.1 211 + 1), kf_sr (kf_rec A) (kf_pla A.1 (nI a) (nI b) t)) else (kg_n 3, A)
  | _, _ => (kg_n 1, A)
section
variable {G : kg_G} {d c : Nat} {h : Nat → Nat} {A : kf_A} {M : kg_M} {K : kg_Qt} {r : Nat → Int32}
theorem kc13 (hL : G.2.2.2.2.2.1 < 2 ^ 31) {p : Nat} {a b t : Int32} (hp : p < 10) (e : M 10 0 = nI p) (hd : 2 ≤ d) (hK : K none (kg_w0 h) (kf_pm4 M p a b t)) : kg_call G d 125 13 [.ref 10, .int a, .int b, .int t] (kg_w0 h) M K := by
  obtain ⟨d, rfl⟩ : ∃ e, d = e + 1 := ⟨d - 1, by omega⟩
  refine kg_m13 (by simp) (Nat.le_refl _) (kg_v13 hL (by omega) 60 ?_)
  simp (disch := omega) only [kg_S1, kg_S2, kg_br_T, kg_br_F, kg_br_N, kg_br_t, kg_br_f, kg_at_n, nI_add, pk_mul, kg_sub_n, kg_rem_n, kg_eq_n, kg_lt_n, kg_le_n, kg_nz, kg_01_0, kg_01_1, kg_w0_1, kg_ret0, kg_ret1, kg_ret2, kg_wr_n, kg_wr_s, kg_Skd, kg_Smc, kg_Sob, kg_Srf, kg_Sld, kg_pad, List.map_cons, List.map_nil, List.length_cons, List.length_nil, List.replicate, List.cons_append, List.nil_append, List.append_nil, Nat.reduceAdd, Nat.reduceSub, Nat.reduceMul, Nat.reduceMod, Nat.reduceDiv, Nat.reduceLT, Nat.reduceLeDiff, Nat.reduceEqDiff, ne_eq, not_true_eq_false, not_false_eq_true, reduceIte, true_and, and_true, kg_lk13, kg_ls13, e]
  exact hK

theorem kc70 (hL : G.2.2.2.2.2.1 < 2 ^ 31) {i k t : Int32} (hC : kf_C c h M A) (hd : 6 ≤ d) (hK : ∀ (o : Int32) (A' : kf_A) (h' : Nat → Nat) (M' : kg_M), kf_plc A i k t = (o, A') → kf_C c h' M' A' → (∀ p, 123 < p → M' p = M p) → K (some (.int o)) (kg_w0 h') M') : kg_call G d 125 70 [.ref 0, .int i, .int k, .int t] (kg_w0 h) M K := by
  obtain ⟨d, rfl⟩ : ∃ e, d = e + 1 := ⟨d - 1, by omega⟩
  refine kg_m70 (by simp) (Nat.le_refl _) (kg_v70 hL (by omega) 60 ?_)
  simp (disch := omega) only [kg_S1, kg_S2, kg_br_T, kg_br_F, kg_br_N, kg_br_t, kg_br_f, kg_at_n, nI_add, pk_mul, kg_sub_n, kg_rem_n, kg_eq_n, kg_lt_n, kg_le_n, kg_nz, kg_01_0, kg_01_1, kg_w0_1, kg_ret0, kg_ret1, kg_ret2, kg_wr_n, kg_wr_s, kg_Skd, kg_Smc, kg_Sob, kg_Srf, kg_Sld, kg_pad, List.map_cons, List.map_nil, List.length_cons, List.length_nil, List.replicate, List.cons_append, List.nil_append, List.append_nil, Nat.reduceAdd, Nat.reduceSub, Nat.reduceMul, Nat.reduceMod, Nat.reduceDiv, Nat.reduceLT, Nat.reduceLeDiff, Nat.reduceEqDiff, ne_eq, not_true_eq_false, not_false_eq_true, reduceIte, true_and, and_true, kg_lk70, kg_ls70]
  cases ei : kf_ix 4 i with
  | none =>
    refine kc61b hL (by omega) (kf_ix_n (by omega) ei) ?_
    simp (disch := omega) only [kg_S1, kg_S2, kg_br_T, kg_br_F, kg_br_N, kg_br_t, kg_br_f, kg_at_n, nI_add, pk_mul, kg_sub_n, kg_rem_n, kg_eq_n, kg_lt_n, kg_le_n, kg_nz, kg_01_0, kg_01_1, kg_w0_1, kg_ret0, kg_ret1, kg_ret2, kg_wr_n, kg_wr_s, kg_Skd, kg_Smc, kg_Sob, kg_Srf, kg_Sld, kg_pad, List.map_cons, List.map_nil, List.length_cons, List.length_nil, List.replicate, List.cons_append, List.nil_append, List.append_nil, Nat.reduceAdd, Nat.reduceSub, Nat.reduceMul, Nat.reduceMod, Nat.reduceDiv, Nat.reduceLT, Nat.reduceLeDiff, Nat.reduceEqDiff, ne_eq, not_true_eq_false, not_false_eq_true, reduceIte, true_and, and_true, kg_lk70, kg_ls70]
    exact hK _ _ _ _ (by simp [kf_plc, ei]) (kf_C_m hC (by omega)) (fun _ _ => rfl)
  | some n =>
    obtain ⟨hn, rfl⟩ := kf_ix_s (by omega) ei
    refine kc61 hL (by omega) hn ?_
    simp (disch := omega) only [kg_S1, kg_S2, kg_br_T, kg_br_F, kg_br_N, kg_br_t, kg_br_f, kg_at_n, nI_add, pk_mul, kg_sub_n, kg_rem_n, kg_eq_n, kg_lt_n, kg_le_n, kg_nz, kg_01_0, kg_01_1, kg_w0_1, kg_ret0, kg_ret1, kg_ret2, kg_wr_n, kg_wr_s, kg_Skd, kg_Smc, kg_Sob, kg_Srf, kg_Sld, kg_pad, List.map_cons, List.map_nil, List.length_cons, List.length_nil, List.replicate, List.cons_append, List.nil_append, List.append_nil, Nat.reduceAdd, Nat.reduceSub, Nat.reduceMul, Nat.reduceMod, Nat.reduceDiv, Nat.reduceLT, Nat.reduceLeDiff, Nat.reduceEqDiff, ne_eq, not_true_eq_false, not_false_eq_true, reduceIte, true_and, and_true, kg_lk70, kg_ls70]
    cases ek : kf_ix 4 k with
    | none =>
      refine kc61b hL (by omega) (kf_ix_n (by omega) ek) ?_
      simp (disch := omega) only [kg_S1, kg_S2, kg_br_T, kg_br_F, kg_br_N, kg_br_t, kg_br_f, kg_at_n, nI_add, pk_mul, kg_sub_n, kg_rem_n, kg_eq_n, kg_lt_n, kg_le_n, kg_nz, kg_01_0, kg_01_1, kg_w0_1, kg_ret0, kg_ret1, kg_ret2, kg_wr_n, kg_wr_s, kg_Skd, kg_Smc, kg_Sob, kg_Srf, kg_Sld, kg_pad, List.map_cons, List.map_nil, List.length_cons, List.length_nil, List.replicate, List.cons_append, List.nil_append, List.append_nil, Nat.reduceAdd, Nat.reduceSub, Nat.reduceMul, Nat.reduceMod, Nat.reduceDiv, Nat.reduceLT, Nat.reduceLeDiff, Nat.reduceEqDiff, ne_eq, not_true_eq_false, not_false_eq_true, reduceIte, true_and, and_true, kg_lk70, kg_ls70]
      exact hK _ _ _ _ (by simp [kf_plc, ei, ek]) (kf_C_m hC (by omega)) (fun _ _ => rfl)
    | some k =>
      obtain ⟨hk, rfl⟩ := kf_ix_s (by omega) ek
      refine kc61 hL (by omega) hk ?_
      simp (disch := omega) only [kg_S1, kg_S2, kg_br_T, kg_br_F, kg_br_N, kg_br_t, kg_br_f, kg_at_n, nI_add, pk_mul, kg_sub_n, kg_rem_n, kg_eq_n, kg_lt_n, kg_le_n, kg_nz, kg_01_0, kg_01_1, kg_w0_1, kg_ret0, kg_ret1, kg_ret2, kg_wr_n, kg_wr_s, kg_Skd, kg_Smc, kg_Sob, kg_Srf, kg_Sld, kg_pad, List.map_cons, List.map_nil, List.length_cons, List.length_nil, List.replicate, List.cons_append, List.nil_append, List.append_nil, Nat.reduceAdd, Nat.reduceSub, Nat.reduceMul, Nat.reduceMod, Nat.reduceDiv, Nat.reduceLT, Nat.reduceLeDiff, Nat.reduceEqDiff, ne_eq, not_true_eq_false, not_false_eq_true, reduceIte, true_and, and_true, kg_lk70, kg_ls70]
      obtain ⟨p, hp10, hz, hp, hpl⟩ := hC.1.2.2.2.2.2.1
      have em := kf_m2_n (i := 211) (by omega) hp
      have hz' : M 10 0 = nI p := hz
      refine kg_br_i (fun q1 => ?_) (fun q1 => ?_)
      · exact hK _ _ _ _ (by simp [kf_plc, ei, ek, q1]) (kf_C_m hC (by omega)) (fun _ _ => rfl)
      refine kg_br_i (fun q2 => ?_) (fun q2 => ?_)
      · have q2' : nI 9999 < t := q2
        exact hK _ _ _ _ (by simp [kf_plc, ei, ek, q1, q2']) (kf_C_m hC (by omega)) (fun _ _ => rfl)
      · have q2' : ¬ nI 9999 < t := q2
        refine kg_br_i (fun q0 => ?_) (fun q0 => ?_)
        · have q0' : n = k := by first | exact q0 | exact (nI_eq (by omega) (by omega)).mp q0
          exact hK _ _ _ _ (by simp [kf_plc, ei, ek, q1, q2', q0']) (kf_C_m hC (by omega)) (fun _ _ => rfl)
        have q0' : ¬ n = k := by first | exact q0 | exact fun e => q0 (congrArg nI e)
        by_cases q3 : p < 10
        · simp (disch := omega) only [kg_S1, kg_S2, kg_br_T, kg_br_F, kg_br_N, kg_br_t, kg_br_f, kg_at_n, nI_add, pk_mul, kg_sub_n, kg_rem_n, kg_eq_n, kg_lt_n, kg_le_n, kg_nz, kg_01_0, kg_01_1, kg_w0_1, kg_ret0, kg_ret1, kg_ret2, kg_wr_n, kg_wr_s, kg_Skd, kg_Smc, kg_Sob, kg_Srf, kg_Sld, kg_pad, List.map_cons, List.map_nil, List.length_cons, List.length_nil, List.replicate, List.cons_append, List.nil_append, List.append_nil, Nat.reduceAdd, Nat.reduceSub, Nat.reduceMul, Nat.reduceMod, Nat.reduceDiv, Nat.reduceLT, Nat.reduceLeDiff, Nat.reduceEqDiff, ne_eq, not_true_eq_false, not_false_eq_true, reduceIte, true_and, and_true, kg_lk70, kg_ls70, hz']
          refine kcR hL hC (by omega) ?_
          intro h' M1 a1 a2
          obtain ⟨p', hpq, hz1, hp1, hpl1⟩ := a1.1.2.2.2.2.2.1
          have ep : p' = p := (nI_eq (by omega) (by omega)).mp (hp1.symm.trans hp)
          subst ep
          simp (disch := omega) only [kg_S1, kg_S2, kg_br_T, kg_br_F, kg_br_N, kg_br_t, kg_br_f, kg_at_n, nI_add, pk_mul, kg_sub_n, kg_rem_n, kg_eq_n, kg_lt_n, kg_le_n, kg_nz, kg_01_0, kg_01_1, kg_w0_1, kg_ret0, kg_ret1, kg_ret2, kg_wr_n, kg_wr_s, kg_Skd, kg_Smc, kg_Sob, kg_Srf, kg_Sld, kg_pad, List.map_cons, List.map_nil, List.length_cons, List.length_nil, List.replicate, List.cons_append, List.nil_append, List.append_nil, Nat.reduceAdd, Nat.reduceSub, Nat.reduceMul, Nat.reduceMod, Nat.reduceDiv, Nat.reduceLT, Nat.reduceLeDiff, Nat.reduceEqDiff, ne_eq, not_true_eq_false, not_false_eq_true, reduceIte, true_and, and_true, kg_lk70, kg_ls70]
          refine kc13 hL q3 hz1 (by omega) ?_
          have z1 : kf_pm4 M1 p' (nI n) (nI k) t 10 0 = nI (p' + 1) := by simp [kf_pm4, kg_wr]
          simp (disch := omega) only [kg_S1, kg_S2, kg_br_T, kg_br_F, kg_br_N, kg_br_t, kg_br_f, kg_at_n, nI_add, pk_mul, kg_sub_n, kg_rem_n, kg_eq_n, kg_lt_n, kg_le_n, kg_nz, kg_01_0, kg_01_1, kg_w0_1, kg_ret0, kg_ret1, kg_ret2, kg_wr_n, kg_wr_s, kg_Skd, kg_Smc, kg_Sob, kg_Srf, kg_Sld, kg_pad, List.map_cons, List.map_nil, List.length_cons, List.length_nil, List.replicate, List.cons_append, List.nil_append, List.append_nil, Nat.reduceAdd, Nat.reduceSub, Nat.reduceMul, Nat.reduceMod, Nat.reduceDiv, Nat.reduceLT, Nat.reduceLeDiff, Nat.reduceEqDiff, ne_eq, not_true_eq_false, not_false_eq_true, reduceIte, true_and, and_true, kg_lk70, kg_ls70, z1]
          have fr : ∀ p, (p < 10 ∨ 13 < p) → kf_pm4 M1 p' (nI n) (nI k) t p = M1 p := fun p hp => by unfold kf_pm4; simp (disch := omega) only [kg_wr_n]
          exact hK _ _ _ _ (by simp [kf_plc, ei, ek, q1, q2', q0', em, q3]; try exact ⟨rfl, rfl⟩) (kf_C_st a1 (by omega) (kf_Rel_P a1.1 (fun p h1 h2 => fr p h2) (fun i hi => by unfold kf_pla; change upd (upd (upd (upd A.1 (212 + 3 * kf_m2 A.1 211) (nI n)) (212 + 3 * kf_m2 A.1 211 + 1) (nI k)) (212 + 3 * kf_m2 A.1 211 + 2) t) 211 (A.1 211 + nI 1) i = A.1 i; rw [em]; simp (disch := omega) only [upd, if_neg]) (kf_PL_add (r := A.1) ⟨p', by omega, hz1, hp1, hpl1⟩ hp q3 hn hk q0')) (fun p hp => fr p (by omega))) (fun p hp => (fr p (by omega)).trans (a2 p hp))
        · simp (disch := omega) only [kg_S1, kg_S2, kg_br_T, kg_br_F, kg_br_N, kg_br_t, kg_br_f, kg_at_n, nI_add, pk_mul, kg_sub_n, kg_rem_n, kg_eq_n, kg_lt_n, kg_le_n, kg_nz, kg_01_0, kg_01_1, kg_w0_1, kg_ret0, kg_ret1, kg_ret2, kg_wr_n, kg_wr_s, kg_Skd, kg_Smc, kg_Sob, kg_Srf, kg_Sld, kg_pad, List.map_cons, List.map_nil, List.length_cons, List.length_nil, List.replicate, List.cons_append, List.nil_append, List.append_nil, Nat.reduceAdd, Nat.reduceSub, Nat.reduceMul, Nat.reduceMod, Nat.reduceDiv, Nat.reduceLT, Nat.reduceLeDiff, Nat.reduceEqDiff, ne_eq, not_true_eq_false, not_false_eq_true, reduceIte, true_and, and_true, kg_lk70, kg_ls70, hz']
          exact hK _ _ _ _ (by simp [kf_plc, ei, ek, q1, q2', q0', em, q3]) (kf_C_m hC (by omega)) (fun _ _ => rfl)

end
