/-! the class's queries: planned -/
def kf_pld (A : kf_A) (p w : Int32) : Int32 := if p < nI 0 then kg_n 2 else (match kf_ix 3 w with
  | none => kg_n 2
  | some w => match kf_ix (kf_m2 A.1 211) p with
    | none => kg_n 5
    | some i => A.1 (212 + 3 * i + w))
theorem kf_ix_g {n : Nat} {x : Int32} (hn : n < 2147483648) (h0 : ¬ x < nI 0) (h : kf_ix n x = none) : nI n ≤ x := by
  rcases pk_ix x (n := n) (by omega) with h1 | h1 | ⟨j, h1, h2⟩
  · exact absurd h1 h0
  · exact h1
  · exact absurd h2 (kf_ix_n hn h j h1)
section
variable {G : kg_G} {d c : Nat} {h : Nat → Nat} {A : kf_A} {M : kg_M} {K : kg_Qt} {r : Nat → Int32}

theorem kc85 (hL : G.2.2.2.2.2.1 < 2 ^ 31) {p w : Int32} (hC : kf_C c h M A) (hd : 3 ≤ d) (hK : K (some (.int (kf_pld A p w))) (kg_w0 h) M) : kg_call G d 129 85 [.ref 0, .int p, .int w] (kg_w0 h) M K := by
  obtain ⟨d, rfl⟩ : ∃ e, d = e + 1 := ⟨d - 1, by omega⟩
  refine kg_m85 (by simp) (Nat.le_refl _) (kg_v85 hL (by omega) 60 ?_)
  obtain ⟨n, hn10, hz, hp, hpl⟩ := hC.1.2.2.2.2.2.1
  have em := kf_m2_n (i := 211) (by omega) hp
  have hz' : M 10 0 = nI n := hz
  unfold kf_pld at hK
  rw [em] at hK
  simp (disch := omega) only [kg_S1, kg_S2, kg_br_T, kg_br_F, kg_br_N, kg_br_t, kg_br_f, kg_at_n, nI_add, pk_mul, kg_sub_n, kg_rem_n, kg_eq_n, kg_lt_n, kg_le_n, kg_nz, kg_01_0, kg_01_1, kg_w0_1, kg_ret0, kg_ret1, kg_ret2, kg_wr_n, kg_wr_s, kg_Skd, kg_Smc, kg_Sob, kg_Srf, kg_Sld, kg_pad, List.map_cons, List.map_nil, List.length_cons, List.length_nil, List.replicate, List.cons_append, List.nil_append, List.append_nil, Nat.reduceAdd, Nat.reduceSub, Nat.reduceMul, Nat.reduceMod, Nat.reduceDiv, Nat.reduceLT, Nat.reduceLeDiff, Nat.reduceEqDiff, ne_eq, not_true_eq_false, not_false_eq_true, reduceIte, true_and, and_true, kg_lk85, kg_ls85]
  refine kg_br_i (fun q1 => ?_) (fun q1 => ?_)
  · rw [if_pos q1] at hK; exact hK
  rw [if_neg q1] at hK
  cases ew : kf_ix 3 w with
  | none =>
    simp only [ew] at hK
    refine kg_br_i (fun q2 => ?_) (fun q2 => ?_)
    · exact hK
    · refine kg_br_i (fun q3 => ?_) (fun q3 => ?_)
      · first
        | exact hK
        | (exfalso
           obtain ⟨a, h1, h2, h3⟩ := kf_rg (lo := 0) (hi := 2) (by omega) (by omega) (Int32.not_lt.mp q2) q3
           exact absurd h3 (kf_ix_n (by omega) ew a (by omega)))
      · first
        | exact hK
        | (exfalso
           obtain ⟨a, h1, h2, h3⟩ := kf_rg (lo := 0) (hi := 2) (by omega) (by omega) (Int32.not_lt.mp q2) (Int32.not_lt.mp q3)
           exact absurd h3 (kf_ix_n (by omega) ew a (by omega)))
  | some w =>
    obtain ⟨hw, rfl⟩ := kf_ix_s (by omega) ew
    simp only [ew] at hK
    cases ep : kf_ix n p with
    | none =>
      have hge := kf_ix_g (by omega) q1 ep
      have hl : (p < nI n) = False := eq_false (Int32.not_lt.mpr hge)
      simp only [ep] at hK
      simp (disch := omega) only [kg_S1, kg_S2, kg_br_T, kg_br_F, kg_br_N, kg_br_t, kg_br_f, kg_at_n, nI_add, pk_mul, kg_sub_n, kg_rem_n, kg_eq_n, kg_lt_n, kg_le_n, kg_nz, kg_01_0, kg_01_1, kg_w0_1, kg_ret0, kg_ret1, kg_ret2, kg_wr_n, kg_wr_s, kg_Skd, kg_Smc, kg_Sob, kg_Srf, kg_Sld, kg_pad, List.map_cons, List.map_nil, List.length_cons, List.length_nil, List.replicate, List.cons_append, List.nil_append, List.append_nil, Nat.reduceAdd, Nat.reduceSub, Nat.reduceMul, Nat.reduceMod, Nat.reduceDiv, Nat.reduceLT, Nat.reduceLeDiff, Nat.reduceEqDiff, ne_eq, not_true_eq_false, not_false_eq_true, reduceIte, true_and, and_true, kg_lk85, kg_ls85, hz', hl]
      exact hK
    | some i =>
      obtain ⟨hi, rfl⟩ := kf_ix_s (by omega) ep
      simp only [ep] at hK
      obtain ⟨g1, g2, g3, -⟩ := hpl i hi
      have g1' : M 11 i = A.1 (212 + 3 * i) := g1
      have g2' : M 12 i = A.1 (212 + 3 * i + 1) := g2.trans (congrArg A.1 (by omega))
      have g3' : M 13 i = A.1 (212 + 3 * i + 2) := g3.trans (congrArg A.1 (by omega))
      obtain rfl | rfl | rfl : w = 0 ∨ w = 1 ∨ w = 2 := by omega
      all_goals
        simp (disch := omega) only [kg_S1, kg_S2, kg_br_T, kg_br_F, kg_br_N, kg_br_t, kg_br_f, kg_at_n, nI_add, pk_mul, kg_sub_n, kg_rem_n, kg_eq_n, kg_lt_n, kg_le_n, kg_nz, kg_01_0, kg_01_1, kg_w0_1, kg_ret0, kg_ret1, kg_ret2, kg_wr_n, kg_wr_s, kg_Skd, kg_Smc, kg_Sob, kg_Srf, kg_Sld, kg_pad, List.map_cons, List.map_nil, List.length_cons, List.length_nil, List.replicate, List.cons_append, List.nil_append, List.append_nil, Nat.reduceAdd, Nat.reduceSub, Nat.reduceMul, Nat.reduceMod, Nat.reduceDiv, Nat.reduceLT, Nat.reduceLeDiff, Nat.reduceEqDiff, ne_eq, not_true_eq_false, not_false_eq_true, reduceIte, true_and, and_true, kg_lk85, kg_ls85, hz', kg_sw_c, kg_sw_e, g1', g2', g3']
        exact hK

end
