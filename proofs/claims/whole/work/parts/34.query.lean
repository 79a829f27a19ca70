/-! the class's queries: event -/
def kf_evt (A : kf_A) (b w : Int32) : Int32 := if b < nI 0 then kg_n 2 else (match kf_ix 4 w with
  | none => kg_n 2
  | some w => match kf_ix (kf_m2 A.1 246) b with
    | none => kg_n 5
    | some i => A.1 (247 + 4 * (kf_m2 A.1 246 - 1 - i) + w))
section
variable {G : kg_G} {d c : Nat} {h : Nat → Nat} {A : kf_A} {M : kg_M} {K : kg_Qt} {r : Nat → Int32}
theorem kc3 (hL : G.2.2.2.2.2.1 < 2 ^ 31) {q i : Nat} (hq : q < 10) (hi : i < 10) (e : M 14 1 = nI q) (hd : 2 ≤ d) (hK : K (some (.int (nI ((q + 10 - i) % 10)))) (kg_w0 h) M) : kg_call G d 129 3 [.ref 14, .int (nI i)] (kg_w0 h) M K := by
  obtain ⟨d, rfl⟩ : ∃ e, d = e + 1 := ⟨d - 1, by omega⟩
  refine kg_m3 (by simp) (Nat.le_refl _) (kg_v3 hL (by omega) 40 ?_)
  simp (disch := omega) only [kg_S1, kg_S2, kg_br_T, kg_br_F, kg_br_N, kg_br_t, kg_br_f, kg_at_n, nI_add, pk_mul, kg_sub_n, kg_rem_n, kg_eq_n, kg_lt_n, kg_le_n, kg_nz, kg_01_0, kg_01_1, kg_w0_1, kg_ret0, kg_ret1, kg_ret2, kg_wr_n, kg_wr_s, kg_Skd, kg_Smc, kg_Sob, kg_Srf, kg_Sld, kg_pad, List.map_cons, List.map_nil, List.length_cons, List.length_nil, List.replicate, List.cons_append, List.nil_append, List.append_nil, Nat.reduceAdd, Nat.reduceSub, Nat.reduceMul, Nat.reduceMod, Nat.reduceDiv, Nat.reduceLT, Nat.reduceLeDiff, Nat.reduceEqDiff, ne_eq, not_true_eq_false, not_false_eq_true, reduceIte, true_and, and_true, kg_lk3, kg_ls3, e]
  exact hK

theorem kc84 (hL : G.2.2.2.2.2.1 < 2 ^ 31) {b w : Int32} (hC : kf_C c h M A) (hd : 4 ≤ d) (hK : K (some (.int (kf_evt A b w))) (kg_w0 h) M) : kg_call G d 129 84 [.ref 0, .int b, .int w] (kg_w0 h) M K := by
  obtain ⟨d, rfl⟩ : ∃ e, d = e + 1 := ⟨d - 1, by omega⟩
  refine kg_m84 (by simp) (Nat.le_refl _) (kg_v84 hL (by omega) 60 ?_)
  obtain ⟨n, q, hn10, hq, hz, hnw, hp, -, hpl⟩ := hC.1.2.2.2.2.2.2.1
  have em := kf_m2_n (i := 246) (by omega) hp
  have hz' : M 14 0 = nI n := hz
  have hq' : M 14 1 = nI q := hnw
  unfold kf_evt at hK
  rw [em] at hK
  simp (disch := omega) only [kg_S1, kg_S2, kg_br_T, kg_br_F, kg_br_N, kg_br_t, kg_br_f, kg_at_n, nI_add, pk_mul, kg_sub_n, kg_rem_n, kg_eq_n, kg_lt_n, kg_le_n, kg_nz, kg_01_0, kg_01_1, kg_w0_1, kg_ret0, kg_ret1, kg_ret2, kg_wr_n, kg_wr_s, kg_Skd, kg_Smc, kg_Sob, kg_Srf, kg_Sld, kg_pad, List.map_cons, List.map_nil, List.length_cons, List.length_nil, List.replicate, List.cons_append, List.nil_append, List.append_nil, Nat.reduceAdd, Nat.reduceSub, Nat.reduceMul, Nat.reduceMod, Nat.reduceDiv, Nat.reduceLT, Nat.reduceLeDiff, Nat.reduceEqDiff, ne_eq, not_true_eq_false, not_false_eq_true, reduceIte, true_and, and_true, kg_lk84, kg_ls84]
  refine kg_br_i (fun q1 => ?_) (fun q1 => ?_)
  · rw [if_pos q1] at hK; exact hK
  rw [if_neg q1] at hK
  cases ew : kf_ix 4 w with
  | none =>
    simp only [ew] at hK
    refine kg_br_i (fun q2 => ?_) (fun q2 => ?_)
    · exact hK
    · refine kg_br_i (fun q3 => ?_) (fun q3 => ?_)
      · first
        | exact hK
        | (exfalso
           obtain ⟨a, h1, h2, h3⟩ := kf_rg (lo := 0) (hi := 3) (by omega) (by omega) (Int32.not_lt.mp q2) q3
           exact absurd h3 (kf_ix_n (by omega) ew a (by omega)))
      · first
        | exact hK
        | (exfalso
           obtain ⟨a, h1, h2, h3⟩ := kf_rg (lo := 0) (hi := 3) (by omega) (by omega) (Int32.not_lt.mp q2) (Int32.not_lt.mp q3)
           exact absurd h3 (kf_ix_n (by omega) ew a (by omega)))
  | some w =>
    obtain ⟨hw, rfl⟩ := kf_ix_s (by omega) ew
    simp only [ew] at hK
    cases ep : kf_ix n b with
    | none =>
      have hge := kf_ix_g (by omega) q1 ep
      have hl : (b < nI n) = False := eq_false (Int32.not_lt.mpr hge)
      simp only [ep] at hK
      simp (disch := omega) only [kg_S1, kg_S2, kg_br_T, kg_br_F, kg_br_N, kg_br_t, kg_br_f, kg_at_n, nI_add, pk_mul, kg_sub_n, kg_rem_n, kg_eq_n, kg_lt_n, kg_le_n, kg_nz, kg_01_0, kg_01_1, kg_w0_1, kg_ret0, kg_ret1, kg_ret2, kg_wr_n, kg_wr_s, kg_Skd, kg_Smc, kg_Sob, kg_Srf, kg_Sld, kg_pad, List.map_cons, List.map_nil, List.length_cons, List.length_nil, List.replicate, List.cons_append, List.nil_append, List.append_nil, Nat.reduceAdd, Nat.reduceSub, Nat.reduceMul, Nat.reduceMod, Nat.reduceDiv, Nat.reduceLT, Nat.reduceLeDiff, Nat.reduceEqDiff, ne_eq, not_true_eq_false, not_false_eq_true, reduceIte, true_and, and_true, kg_lk84, kg_ls84, hz', hl]
      exact hK
    | some i =>
      obtain ⟨hi, rfl⟩ := kf_ix_s (by omega) ep
      simp only [ep] at hK
      obtain ⟨g1, g2, g3, g4⟩ := hpl i hi
      have g1' : M 16 ((q + 10 - i) % 10) = A.1 (247 + 4 * (n - 1 - i)) := g1
      have g2' : M 17 ((q + 10 - i) % 10) = A.1 (247 + 4 * (n - 1 - i) + 1) := g2.trans (congrArg A.1 (by omega))
      have g3' : M 18 ((q + 10 - i) % 10) = A.1 (247 + 4 * (n - 1 - i) + 2) := g3.trans (congrArg A.1 (by omega))
      have g4' : M 19 ((q + 10 - i) % 10) = A.1 (247 + 4 * (n - 1 - i) + 3) := g4.trans (congrArg A.1 (by omega))
      have hm : (q + 10 - i) % 10 < 10 := Nat.mod_lt _ (by omega)
      simp (disch := omega) only [kg_S1, kg_S2, kg_br_T, kg_br_F, kg_br_N, kg_br_t, kg_br_f, kg_at_n, nI_add, pk_mul, kg_sub_n, kg_rem_n, kg_eq_n, kg_lt_n, kg_le_n, kg_nz, kg_01_0, kg_01_1, kg_w0_1, kg_ret0, kg_ret1, kg_ret2, kg_wr_n, kg_wr_s, kg_Skd, kg_Smc, kg_Sob, kg_Srf, kg_Sld, kg_pad, List.map_cons, List.map_nil, List.length_cons, List.length_nil, List.replicate, List.cons_append, List.nil_append, List.append_nil, Nat.reduceAdd, Nat.reduceSub, Nat.reduceMul, Nat.reduceMod, Nat.reduceDiv, Nat.reduceLT, Nat.reduceLeDiff, Nat.reduceEqDiff, ne_eq, not_true_eq_false, not_false_eq_true, reduceIte, true_and, and_true, kg_lk84, kg_ls84, hz']
      refine kc3 hL hq (by omega) hq' (by omega) ?_
      obtain rfl | rfl | rfl | rfl : w = 0 ∨ w = 1 ∨ w = 2 ∨ w = 3 := by omega
      all_goals
        simp (disch := omega) only [kg_S1, kg_S2, kg_br_T, kg_br_F, kg_br_N, kg_br_t, kg_br_f, kg_at_n, nI_add, pk_mul, kg_sub_n, kg_rem_n, kg_eq_n, kg_lt_n, kg_le_n, kg_nz, kg_01_0, kg_01_1, kg_w0_1, kg_ret0, kg_ret1, kg_ret2, kg_wr_n, kg_wr_s, kg_Skd, kg_Smc, kg_Sob, kg_Srf, kg_Sld, kg_pad, List.map_cons, List.map_nil, List.length_cons, List.length_nil, List.replicate, List.cons_append, List.nil_append, List.append_nil, Nat.reduceAdd, Nat.reduceSub, Nat.reduceMul, Nat.reduceMod, Nat.reduceDiv, Nat.reduceLT, Nat.reduceLeDiff, Nat.reduceEqDiff, ne_eq, not_true_eq_false, not_false_eq_true, reduceIte, true_and, and_true, kg_lk84, kg_ls84, kg_sw_c, kg_sw_e, g1', g2', g3', g4']
        exact hK

end
