/-! the class's pass -/
def kf_pn (p : Nat) (r : Nat → Int32) : Nat → (Nat → Int32) × Nat
  | 0 => (r, 0)
  | i + 1 => ((kf_pf (kf_pn p r i).1 p).1, (kf_pn p r i).2 + (kf_pf (kf_pn p r i).1 p).2)
def kf_pas (A : kf_A) (t : Int32) : kf_O := match kf_ix 100 t with
  | none => (kg_n 2, A)
  | some m => if m < 1 then (kg_n 2, A) else if 99999 < kf_m2 A.1 0 + m then (kg_n 3, A) else (nI (kf_pn (kf_m2 A.1 211) A.1 m).2, kf_sr (kf_rec A) (kf_pn (kf_m2 A.1 211) A.1 m).1)
theorem kf_pf_o {r : Nat → Int32} {p : Nat} (hp : p ≤ 10) (h : ∀ i, i < p → kf_pa r i < 4 ∧ kf_pb r i < 4) : ∀ j, j ≤ p → ∀ i, (i < 11 ∨ (187 ≤ i ∧ i < 242)) → (kf_pf r j).1 i = kf_tc r i
  | 0, _, _, _ => rfl
  | j + 1, hj, i, hi => by
    have ih := kf_pf_o hp h j (by omega)
    have et : ∀ q, q ≠ 0 → kf_tc r q = r q := fun q hq => if_neg hq
    have ea : kf_pa (kf_pf r j).1 j = kf_pa r j := by unfold kf_pa; rw [ih _ (by omega), et _ (by omega)]
    have eb : kf_pb (kf_pf r j).1 j = kf_pb r j := by unfold kf_pb; rw [ih _ (by omega), et _ (by omega)]
    obtain ⟨ha, hb⟩ := h j (by omega)
    rw [kf_pf, kf_ps, ea, eb]
    split
    · split
      · show kf_jn _ _ _ i = _
        rw [kf_jn_o ha hb hi]; exact ih i hi
      · show kf_nt _ _ _ _ i = _
        rw [kf_nt_o (by omega)]; exact ih i hi
    · exact ih i hi
theorem kf_PL_ab {z : Int32} {X Y Z r : Nat → Int32} {p : Nat} (hP : kf_PL z X Y Z r) (hp : r 211 = nI p) (hp10 : p ≤ 10) : ∀ i, i < p → kf_pa r i < 4 ∧ kf_pb r i < 4 := by
  obtain ⟨p', h1, h2, h3, h4⟩ := hP
  have e : p' = p := (nI_eq (by omega) (by omega)).mp (h3.symm.trans hp)
  subst e
  intro i hi
  obtain ⟨-, -, -, a, b, ha, hb, -, e1, e2⟩ := h4 i hi
  have e3 : kf_pa r i = a := kf_m2_n (by omega) e1
  have e4 : kf_pb r i = b := kf_m2_n (by omega) e2
  omega
section
variable {G : kg_G} {d c : Nat} {h : Nat → Nat} {A : kf_A} {M : kg_M} {K : kg_Qt} {r : Nat → Int32}
theorem kc72_l (hL : G.2.2.2.2.2.1 < 2 ^ 31) {M0 : kg_M} {r0 : Nat → Int32} {t0 p m : Nat} (hc : c < 1048576) (hp10 : p ≤ 10) (ht : t0 + m ≤ 99999) (hd : 7 ≤ d) (hK : ∀ M' : kg_M, (∀ q, (q < 1 ∨ 20 < q) → M' q = M0 q) → kf_Rel c M' 1 (kf_pn p r0 m).1 → K (some (.int (nI (kf_pn p r0 m).2))) (kg_w0 h) M') : ∀ (z i : Nat) (M : kg_M), i + z = m → (∀ q, (q < 1 ∨ 20 < q) → M q = M0 q) → kf_Rel c M 1 (kf_pn p r0 i).1 → (kf_pn p r0 i).1 0 = nI (t0 + i) → (kf_pn p r0 i).1 211 = nI p → kg_P G d 72 4 125 125 K 39 [some (.ref 0), some (.int (nI m)), some (.int (nI (kf_pn p r0 i).2)), some (.int (nI i))] [] (kg_w0 h) M := by
  intro z
  induction z with
  | zero =>
    intro i M hi hf hR h0 hp
    obtain rfl : i = m := by omega
    refine kg_v72 hL (by omega) 60 ?_
    simp (disch := omega) only [kg_S1, kg_S2, kg_br_T, kg_br_F, kg_br_N, kg_br_t, kg_br_f, kg_at_n, nI_add, pk_mul, kg_sub_n, kg_rem_n, kg_eq_n, kg_lt_n, kg_le_n, kg_nz, kg_01_0, kg_01_1, kg_w0_1, kg_ret0, kg_ret1, kg_ret2, kg_wr_n, kg_wr_s, kg_Skd, kg_Smc, kg_Sob, kg_Srf, kg_Sld, kg_pad, List.map_cons, List.map_nil, List.length_cons, List.length_nil, List.replicate, List.cons_append, List.nil_append, List.append_nil, Nat.reduceAdd, Nat.reduceSub, Nat.reduceMul, Nat.reduceMod, Nat.reduceDiv, Nat.reduceLT, Nat.reduceLeDiff, Nat.reduceEqDiff, ne_eq, not_true_eq_false, not_false_eq_true, reduceIte, true_and, and_true, kg_lk72, kg_ls72]
    exact hK M hf hR
  | succ z ih =>
    intro i M hi hf hR h0 hp
    refine kg_v72 hL (by omega) 60 ?_
    simp (disch := omega) only [kg_S1, kg_S2, kg_br_T, kg_br_F, kg_br_N, kg_br_t, kg_br_f, kg_at_n, nI_add, pk_mul, kg_sub_n, kg_rem_n, kg_eq_n, kg_lt_n, kg_le_n, kg_nz, kg_01_0, kg_01_1, kg_w0_1, kg_ret0, kg_ret1, kg_ret2, kg_wr_n, kg_wr_s, kg_Skd, kg_Smc, kg_Sob, kg_Srf, kg_Sld, kg_pad, List.map_cons, List.map_nil, List.length_cons, List.length_nil, List.replicate, List.cons_append, List.nil_append, List.append_nil, Nat.reduceAdd, Nat.reduceSub, Nat.reduceMul, Nat.reduceMod, Nat.reduceDiv, Nat.reduceLT, Nat.reduceLeDiff, Nat.reduceEqDiff, ne_eq, not_true_eq_false, not_false_eq_true, reduceIte, true_and, and_true, kg_lk72, kg_ls72]
    refine kc42 hL hR hc h0 (by omega) hp hp10 (by omega) ?_
    intro M1 a1 a2
    simp (disch := omega) only [kg_S1, kg_S2, kg_br_T, kg_br_F, kg_br_N, kg_br_t, kg_br_f, kg_at_n, nI_add, pk_mul, kg_sub_n, kg_rem_n, kg_eq_n, kg_lt_n, kg_le_n, kg_nz, kg_01_0, kg_01_1, kg_w0_1, kg_ret0, kg_ret1, kg_ret2, kg_wr_n, kg_wr_s, kg_Skd, kg_Smc, kg_Sob, kg_Srf, kg_Sld, kg_pad, List.map_cons, List.map_nil, List.length_cons, List.length_nil, List.replicate, List.cons_append, List.nil_append, List.append_nil, Nat.reduceAdd, Nat.reduceSub, Nat.reduceMul, Nat.reduceMod, Nat.reduceDiv, Nat.reduceLT, Nat.reduceLeDiff, Nat.reduceEqDiff, ne_eq, not_true_eq_false, not_false_eq_true, reduceIte, true_and, and_true, kg_lk72, kg_ls72]
    have hab := kf_PL_ab hR.2.2.2.2.2.1 hp hp10
    have o := kf_pf_o hp10 hab p (Nat.le_refl _)
    refine ih (i + 1) M1 (by omega) (fun q hq => (a1 q hq).trans (hf q hq)) a2 ?_ ?_
    · show (kf_pf (kf_pn p r0 i).1 p).1 0 = _
      rw [o 0 (by omega)]
      show upd _ 0 _ 0 = _
      simp only [upd, reduceIte, h0, nI_add]
      rfl
    · show (kf_pf (kf_pn p r0 i).1 p).1 211 = _
      rw [o 211 (by omega)]
      exact hp

theorem kc72 (hL : G.2.2.2.2.2.1 < 2 ^ 31) {t : Int32} (hC : kf_C c h M A) (hc : c < 1048576) (hd : 8 ≤ d) (hK : ∀ (o : Int32) (A' : kf_A) (h' : Nat → Nat) (M' : kg_M), kf_pas A t = (o, A') → kf_C c h' M' A' → (∀ p, 123 < p → M' p = M p) → K (some (.int o)) (kg_w0 h') M') : kg_call G d 125 72 [.ref 0, .int t] (kg_w0 h) M K := by
  obtain ⟨d, rfl⟩ : ∃ e, d = e + 1 := ⟨d - 1, by omega⟩
  refine kg_m72 (by simp) (Nat.le_refl _) (kg_v72 hL (by omega) 60 ?_)
  cases ei : kf_ix 100 t with
  | none =>
    have hn := kf_ix_n (by omega) ei
    simp (disch := omega) only [kg_S1, kg_S2, kg_br_T, kg_br_F, kg_br_N, kg_br_t, kg_br_f, kg_at_n, nI_add, pk_mul, kg_sub_n, kg_rem_n, kg_eq_n, kg_lt_n, kg_le_n, kg_nz, kg_01_0, kg_01_1, kg_w0_1, kg_ret0, kg_ret1, kg_ret2, kg_wr_n, kg_wr_s, kg_Skd, kg_Smc, kg_Sob, kg_Srf, kg_Sld, kg_pad, List.map_cons, List.map_nil, List.length_cons, List.length_nil, List.replicate, List.cons_append, List.nil_append, List.append_nil, Nat.reduceAdd, Nat.reduceSub, Nat.reduceMul, Nat.reduceMod, Nat.reduceDiv, Nat.reduceLT, Nat.reduceLeDiff, Nat.reduceEqDiff, ne_eq, not_true_eq_false, not_false_eq_true, reduceIte, true_and, and_true, kg_lk72, kg_ls72]
    refine kg_br_i (fun q1 => ?_) (fun q1 => ?_)
    · exact hK _ _ _ _ (by simp [kf_pas, ei]) (kf_C_m hC (by omega)) (fun _ _ => rfl)
    refine kg_br_i (fun q2 => ?_) (fun q2 => ?_)
    · obtain ⟨a, h1, h2, h3⟩ := kf_rg (lo := 1) (hi := 99) (by omega) (by omega) (Int32.not_lt.mp q1) q2
      exact absurd h3 (hn a (by omega))
    · exact hK _ _ _ _ (by simp [kf_pas, ei]) (kf_C_m hC (by omega)) (fun _ _ => rfl)
  | some m =>
    obtain ⟨hm, rfl⟩ := kf_ix_s (by omega) ei
    by_cases q1 : m < 1
    · simp (disch := omega) only [kg_S1, kg_S2, kg_br_T, kg_br_F, kg_br_N, kg_br_t, kg_br_f, kg_at_n, nI_add, pk_mul, kg_sub_n, kg_rem_n, kg_eq_n, kg_lt_n, kg_le_n, kg_nz, kg_01_0, kg_01_1, kg_w0_1, kg_ret0, kg_ret1, kg_ret2, kg_wr_n, kg_wr_s, kg_Skd, kg_Smc, kg_Sob, kg_Srf, kg_Sld, kg_pad, List.map_cons, List.map_nil, List.length_cons, List.length_nil, List.replicate, List.cons_append, List.nil_append, List.append_nil, Nat.reduceAdd, Nat.reduceSub, Nat.reduceMul, Nat.reduceMod, Nat.reduceDiv, Nat.reduceLT, Nat.reduceLeDiff, Nat.reduceEqDiff, ne_eq, not_true_eq_false, not_false_eq_true, reduceIte, true_and, and_true, kg_lk72, kg_ls72]
      exact hK _ _ _ _ (by simp [kf_pas, ei, q1]) (kf_C_m hC (by omega)) (fun _ _ => rfl)
    obtain ⟨t0, ht0, et⟩ := hC.1.2.2.2.2.2.2.2.1
    have em := kf_m2_n (i := 0) (by omega) et
    have z1 : M 1 0 = nI t0 := hC.1.1.1.trans et
    by_cases q2 : 99999 < t0 + m
    · simp (disch := omega) only [kg_S1, kg_S2, kg_br_T, kg_br_F, kg_br_N, kg_br_t, kg_br_f, kg_at_n, nI_add, pk_mul, kg_sub_n, kg_rem_n, kg_eq_n, kg_lt_n, kg_le_n, kg_nz, kg_01_0, kg_01_1, kg_w0_1, kg_ret0, kg_ret1, kg_ret2, kg_wr_n, kg_wr_s, kg_Skd, kg_Smc, kg_Sob, kg_Srf, kg_Sld, kg_pad, List.map_cons, List.map_nil, List.length_cons, List.length_nil, List.replicate, List.cons_append, List.nil_append, List.append_nil, Nat.reduceAdd, Nat.reduceSub, Nat.reduceMul, Nat.reduceMod, Nat.reduceDiv, Nat.reduceLT, Nat.reduceLeDiff, Nat.reduceEqDiff, ne_eq, not_true_eq_false, not_false_eq_true, reduceIte, true_and, and_true, kg_lk72, kg_ls72, z1]
      exact hK _ _ _ _ (by simp [kf_pas, ei, q1, em, q2]) (kf_C_m hC (by omega)) (fun _ _ => rfl)
    · simp (disch := omega) only [kg_S1, kg_S2, kg_br_T, kg_br_F, kg_br_N, kg_br_t, kg_br_f, kg_at_n, nI_add, pk_mul, kg_sub_n, kg_rem_n, kg_eq_n, kg_lt_n, kg_le_n, kg_nz, kg_01_0, kg_01_1, kg_w0_1, kg_ret0, kg_ret1, kg_ret2, kg_wr_n, kg_wr_s, kg_Skd, kg_Smc, kg_Sob, kg_Srf, kg_Sld, kg_pad, List.map_cons, List.map_nil, List.length_cons, List.length_nil, List.replicate, List.cons_append, List.nil_append, List.append_nil, Nat.reduceAdd, Nat.reduceSub, Nat.reduceMul, Nat.reduceMod, Nat.reduceDiv, Nat.reduceLT, Nat.reduceLeDiff, Nat.reduceEqDiff, ne_eq, not_true_eq_false, not_false_eq_true, reduceIte, true_and, and_true, kg_lk72, kg_ls72, z1]
      refine kcR hL hC (by omega) ?_
      intro h' M1 a1 a2
      simp (disch := omega) only [kg_S1, kg_S2, kg_br_T, kg_br_F, kg_br_N, kg_br_t, kg_br_f, kg_at_n, nI_add, pk_mul, kg_sub_n, kg_rem_n, kg_eq_n, kg_lt_n, kg_le_n, kg_nz, kg_01_0, kg_01_1, kg_w0_1, kg_ret0, kg_ret1, kg_ret2, kg_wr_n, kg_wr_s, kg_Skd, kg_Smc, kg_Sob, kg_Srf, kg_Sld, kg_pad, List.map_cons, List.map_nil, List.length_cons, List.length_nil, List.replicate, List.cons_append, List.nil_append, List.append_nil, Nat.reduceAdd, Nat.reduceSub, Nat.reduceMul, Nat.reduceMod, Nat.reduceDiv, Nat.reduceLT, Nat.reduceLeDiff, Nat.reduceEqDiff, ne_eq, not_true_eq_false, not_false_eq_true, reduceIte, true_and, and_true, kg_lk72, kg_ls72]
      obtain ⟨p, hp10, -, hp, -⟩ := hC.1.2.2.2.2.2.1
      have ep := kf_m2_n (i := 211) (by omega) hp
      refine kc72_l hL (M0 := M1) (r0 := A.1) (t0 := t0) (p := p) hc hp10 (by omega) (by omega) ?_ m 0 M1 (Nat.zero_add _) (fun _ _ => rfl) a1.1 et hp
      intro M2 b1 b2
      exact hK _ _ _ _ (by simp [kf_pas, ei, q1, em, q2, ep]; try exact ⟨rfl, rfl⟩) (kf_C_st a1 (Nat.le_refl _) b2 b1) (fun p hp => (b1 p (by omega)).trans (a2 p hp))

end
