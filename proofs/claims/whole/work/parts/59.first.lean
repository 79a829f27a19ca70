/-! THE FIRST STATE: what the constructors leave; rows that agree below 287 -/
def kx_A0 : kf_A := (kx_r0, 0, fun _ _ => 0, false, fun _ => 0, 0, fun _ => 0)
theorem kx_r0_z {i : Nat} (h : 27 ≤ i) : kx_r0 i = nI 0 := by
  unfold kx_r0 kx_rg kx_r1
  rw [if_neg (by omega), if_neg (by omega), ku_n (by omega), ku_n (by omega), ku_n (by omega), ku_n (by omega)]
  rfl
theorem kx_r0_l {i : Nat} (h : 11 ≤ i) (h2 : i < 27) : kx_r0 i = kg_n 5 := by
  unfold kx_r0 kx_rg
  rw [if_pos (by omega)]
theorem kx_r0_u {i : Nat} (h : 7 ≤ i) (h2 : i < 11) : kx_r0 i = nI 1 := by
  unfold kx_r0 kx_rg
  rw [if_neg (by omega), if_pos (by omega)]
theorem kx_s_z {b p : Nat} {M : kg_M} (h : b ≤ p ∧ p < b + 20) (h1 : p ≠ b + 1) (h2 : p ≠ b + 2) (h3 : p ≠ b + 8) : kx_s b M p = fun _ => 0 := by
  unfold kx_s
  rw [if_neg h1, if_neg h2, if_neg h3, kx_zi h]
theorem kx_C {M Mx : kg_M} (hS : ∀ p, 1 ≤ p → p < 21 → M p = kx_s 1 Mx p) (h02 : M 0 2 = nI 0) (h04 : M 0 4 = nI 0) (h122 : M 122 1 = nI 0) (m124 : M 124 = fun _ => 0) (m125 : M 125 = kx_r0) : kf_C 0 kx_h0 M kx_A0 ∧ kf_D M kx_A0 ∧ M 125 = kx_A0.1 := by
  have z : ∀ p, 1 ≤ p → p < 21 → p ≠ 2 → p ≠ 3 → p ≠ 9 → M p = fun _ => 0 := by
    intro p h1 h2 h3 h4 h5
    rw [hS p h1 h2]
    exact kx_s_z (by omega) (by omega) (by omega) (by omega)
  have m2 : M 2 = kx_fl (kg_sv 1003) 5 := by rw [hS 2 (by omega) (by omega)]; rfl
  have m3 : M 3 = kx_fl (fun _ => nI 1) 4 := by rw [hS 3 (by omega) (by omega)]; rfl
  have m9 : M 9 = kx_fl (fun _ => kg_n 1) 16 := by rw [hS 9 (by omega) (by omega)]; rfl
  have ew : ∀ n k, n < 5 → k < 8 → kf_w kx_r0 n k = nI 0 := by
    intro n k hn hk; unfold kf_w; split <;> exact kx_r0_z (by omega)
  have es : ∀ n k, n < 5 → k < 8 → kf_s kx_r0 n k = nI 0 := by
    intro n k hn hk; unfold kf_s; split <;> exact kx_r0_z (by omega)
  have hR : kf_Rel 0 M 1 kx_r0 := by
    refine ⟨⟨?_, ?_⟩, fun i hi => ?_, fun n hn => ?_, ⟨fun n k hn hk => ⟨?_, Or.inl ⟨ew n k hn hk, es n k hn hk⟩⟩, fun n k hn hk hw => absurd (ew n k (by omega) hk) hw⟩, fun i j hij hj => ?_, ⟨0, by omega, ?_, kx_r0_z (by omega), fun i hi => absurd hi (by omega)⟩, ⟨0, 0, by omega, by omega, ?_, ?_, kx_r0_z (by omega), fun i hi => ?_, fun i hi => absurd hi (by omega)⟩, ⟨⟨0, by omega, rfl⟩, ⟨0, by omega, rfl, fun n k hn hk => ⟨0, by omega, es n k hn hk⟩⟩, ⟨2, by omega, by omega, rfl⟩, ⟨2, by omega, by omega, rfl⟩, ⟨50, by omega, by omega, rfl⟩, Or.inl rfl, Or.inr rfl, fun n hn => Or.inr (kx_r0_u (by omega) (by omega)), fun n k hn hk => ⟨⟨0, by omega, kx_r0_z (by omega)⟩, ⟨0, by omega, kx_r0_z (by omega)⟩⟩, fun i j hi hj => ⟨?_, Or.inl (kx_r0_l (by omega) (by omega))⟩⟩⟩
    · rw [z 1 (by omega) (by omega) (by omega) (by omega) (by omega)]; rfl
    · rw [z 1 (by omega) (by omega) (by omega) (by omega) (by omega)]; rfl
    · show M 2 i = _
      rw [m2]
      unfold kx_fl
      rw [if_pos hi]
      obtain rfl | rfl | rfl | rfl | rfl : i = 0 ∨ i = 1 ∨ i = 2 ∨ i = 3 ∨ i = 4 := by omega
      all_goals rfl
    · show M 3 n = _
      rw [m3]
      unfold kx_fl
      rw [if_pos hn, kx_r0_u (by omega) (by omega)]
    · show M 5 (n * 8 + k) = _
      rw [z 5 (by omega) (by omega) (by omega) (by omega) (by omega), es n k hn hk]; rfl
    · show M 9 (i * 4 + j) = _
      rw [m9, kx_r0_l (by omega) (by omega)]
      unfold kx_fl
      rw [if_pos (by omega)]
      rfl
    · show M 10 0 = _
      rw [z 10 (by omega) (by omega) (by omega) (by omega) (by omega)]; rfl
    · show M 14 0 = _
      rw [z 14 (by omega) (by omega) (by omega) (by omega) (by omega)]; rfl
    · show M 14 1 = _
      rw [z 14 (by omega) (by omega) (by omega) (by omega) (by omega)]; rfl
    · show M 15 i = _
      rw [z 15 (by omega) (by omega) (by omega) (by omega) (by omega), kx_r0_z (by omega)]; rfl
    · rw [kx_r0_l (by omega) (by omega), kx_r0_l (by omega) (by omega)]
  refine ⟨⟨hR, ⟨by show 0 ≤ 4; omega, h02, ⟨0, by omega, rfl, rfl, rfl, rfl⟩, fun j hj => absurd hj (by show ¬ j < 0; omega)⟩, ⟨h04, fun e => by cases e⟩, by show 0 ≤ 60; omega, h122, fun i hi => absurd hi (by show ¬ i < 0; omega)⟩, ⟨fun i hi => by rw [m125]; rfl, ⟨by show 0 ≤ 4; omega, by rw [m124]; rfl, fun j hj => absurd hj (by show ¬ j < 0; omega)⟩, ⟨by rw [m124]; rfl, fun e => by cases e⟩, by show 0 ≤ 60; omega, by rw [m124]; rfl, fun i hi => absurd hi (by show ¬ i < 0; omega)⟩, m125⟩
theorem kx_ww {h : Nat → Nat → Nat} (hR : ∀ p, p < 124 → h p = kg_R kx_h0 p) (hz : ∀ p, 129 ≤ p → h p = fun _ => 0) : ((129, kx_b 124 129 h) : kg_W) = kg_w0 kx_h0 := by
  unfold kg_w0
  refine congrArg (Prod.mk 129) (funext fun p => ?_)
  by_cases q : 124 ≤ p ∧ p < 129
  · rw [kx_bi q]; exact kx_Rh (by omega)
  · rw [kx_bo q]
    by_cases q2 : p < 124
    · exact hR p q2
    · rw [hz p (by omega)]
      unfold kg_R
      rw [if_neg (by omega), if_neg (by omega), if_neg (by omega), if_neg (by omega), if_neg (by omega), if_neg (by omega)]
/-! rows that agree below 287 -/
theorem kx_F {S C T L r r' : Nat → Int32} (h : ∀ i, i < 287 → r' i = r i) (hF : kf_F S C T L r) : kf_F S C T L r' := by
  have ew : ∀ n k, n < 5 → k < 8 → kf_w r' n k = kf_w r n k := by
    intro n k hn hk; unfold kf_w; split <;> exact h _ (by omega)
  have ev : ∀ n k, n < 5 → k < 8 → kf_v r' n k = kf_v r n k := by
    intro n k hn hk; unfold kf_v; split <;> exact h _ (by omega)
  have es : ∀ n k, n < 5 → k < 8 → kf_s r' n k = kf_s r n k := by
    intro n k hn hk; unfold kf_s; split <;> exact h _ (by omega)
  refine ⟨fun n k hn hk => ?_, fun n k hn hk hw => ?_⟩
  · rw [ew n k hn hk, ev n k hn hk, es n k hn hk]; exact hF.1 n k hn hk
  · rw [ew n k (by omega) hk] at hw
    have := hF.2 n k hn hk hw
    unfold kf_t kf_c at this ⊢
    rw [h _ (by omega), h _ (by omega)]
    exact this
theorem kx_Rel {c b : Nat} {M : kg_M} {r r' : Nat → Int32} (h : ∀ i, i < 287 → r' i = r i) (hR : kf_Rel c M b r) : kf_Rel c M b r' := by
  obtain ⟨⟨a1, a2⟩, a3, a4, a5, a6, ⟨p, b1, b2, b3, b4⟩, ⟨p2, q2, c1, c2, c3, c4, c5, c6, c7⟩, a8⟩ := hR
  refine ⟨⟨?_, ?_⟩, fun i hi => ?_, fun i hi => ?_, kx_F h a5, fun i j hij hj => ?_, ⟨p, b1, b2, ?_, fun i hi => ?_⟩, ⟨p2, q2, c1, c2, c3, c4, ?_, fun i hi => ?_, fun i hi => ?_⟩, kf_I_o a8 (fun i hi => h i (by omega))⟩
  · rw [h _ (by omega)]; exact a1
  · rw [h _ (by omega)]; exact a2
  · rw [h _ (by omega)]; exact a3 i hi
  · rw [h _ (by omega)]; exact a4 i hi
  · rw [h _ (by omega)]; exact a6 i j hij hj
  · rw [h _ (by omega)]; exact b3
  · rw [h _ (by omega), h _ (by omega), h _ (by omega)]; exact b4 i hi
  · rw [h _ (by omega)]; exact c5
  · rw [h _ (by omega)]; exact c6 i hi
  · rw [h _ (by omega), h _ (by omega), h _ (by omega), h _ (by omega)]; exact c7 i hi
theorem kx_Cf {c : Nat} {h : Nat → Nat} {M M' : kg_M} {A : kf_A} (hC : kf_C c h M A) (hM : ∀ p, p < 124 → M' p = M p) : kf_C c h M' A := by
  obtain ⟨a1, ⟨a2, a3, a4, a5⟩, ⟨a6, a7⟩, a8, a9, b1⟩ := hC
  refine ⟨kf_Rel_g a1 (fun p e1 e2 => hM p (by omega)), ⟨a2, by rw [hM 0 (by omega)]; exact a3, a4, fun j hj => ?_⟩, ⟨by rw [hM 0 (by omega)]; exact a6, fun e => kf_Rel_g (a7 e) (fun p e1 e2 => hM p (by omega))⟩, a8, by rw [hM 122 (by omega)]; exact a9, fun i hi => by rw [hM 123 (by omega)]; exact b1 i hi⟩
  have := kf_hp_at2 a4 (j := j) (by change A.2.1 ≤ 4 at a2; change j < A.2.1 at hj; omega)
  exact kf_Rel_g (a5 j hj) (fun p e1 e2 => hM p (by omega))
theorem kx_Df {M M' : kg_M} {A : kf_A} (hD : kf_D M A) (hM : ∀ p, 123 < p → M' p = M p) : kf_D M' A := by
  unfold kf_D at hD ⊢
  rw [hM 125 (by omega), hM 124 (by omega), hM 126 (by omega), hM 127 (by omega), hM 128 (by omega)]
  exact hD
/-- class and model at memory M are in one state -/
def kx_S (c : Nat) (h : Nat → Nat) (M : kg_M) : Prop := ∃ A : kf_A, kf_C c h M A ∧ kf_D M A ∧ M 125 = A.1
theorem kx_Sm {c c' : Nat} {h : Nat → Nat} {M : kg_M} (hS : kx_S c h M) (hc : c ≤ c') : kx_S c' h M := by
  obtain ⟨A, h1, h2, h3⟩ := hS
  exact ⟨A, kf_C_m h1 hc, h2, h3⟩
theorem kx_S_i {c : Nat} {h : Nat → Nat} {M : kg_M} {A : kf_A} (hC : kf_C c h M A) (hD : kf_D M A) : kx_S c h M := by
  refine ⟨kf_sr A (M 125), ⟨kx_Rel hD.1 hC.1, hC.2⟩, ⟨fun i _ => rfl, hD.2⟩, rfl⟩
section
variable {G : kg_G} {d c : Nat} {h : Nat → Nat} {A : kf_A} {M : kg_M} {K : kg_Qt} {r : Nat → Int32}

set_option maxRecDepth 100000 in
theorem kc72b (hL : G.2.2.2.2.2.1 < 2 ^ 31) {t : Int32} (hC : kf_C c h M A) (hc : c < 1048576) (hd : 9 ≤ d) (hK : ∀ (o : Int32) (A' : kf_A) (h' : Nat → Nat) (M' : kg_M), kf_pas A t = (o, A') → kf_C c h' M' A' → (∀ p, 123 < p → M' p = M p) → K (some (.int o)) (kg_w0 h') M') : kg_call G d 129 72 [.ref 0, .int t] (kg_w0 h) M K := by
  obtain ⟨d, rfl⟩ : ∃ e, d = e + 1 := ⟨d - 1, by omega⟩
  refine kg_m72 (by simp) (Nat.le_refl _) (kg_v72 hL (by omega) 60 ?_)
  cases ei : kf_ix 100 t with
  | none =>
    have hn := kf_ix_n (by omega) ei
    simp (disch := omega) only [↓kb_0t, ↓kb_0f, ↓kb_1t, ↓kb_1f, ↓kb_2t, ↓kb_2f, ↓kb_3t, ↓kb_3f, ↓kb_4t, ↓kb_4f, ↓kb_5t, ↓kb_5f, ↓kg_S1, kg_S2, kg_br_T, kg_br_F, kg_br_N, kg_br_t, kg_br_f, ↓kg_at_n, nI_add, pk_mul, kg_sub_n, kg_rem_n, kg_eq_n, kg_lt_n, kg_le_n, kg_nz, kg_01_0, kg_01_1, kg_w0_1, kg_ret0, kg_ret1, kg_ret2, kg_wr_n, kg_wr_s, kg_Skd, kg_Smc, kg_Sob, kg_Srf, kg_Sld, kg_pad, List.map_cons, List.map_nil, List.length_cons, List.length_nil, List.replicate, List.cons_append, List.nil_append, List.append_nil, Nat.reduceAdd, Nat.reduceSub, Nat.reduceMul, Nat.reduceMod, Nat.reduceDiv, Nat.reduceLT, Nat.reduceLeDiff, Nat.reduceEqDiff, ne_eq, not_true_eq_false, not_false_eq_true, reduceIte, true_and, and_true, kg_lk72, kg_ls72]
    refine kg_br_i (fun q1 => ?_) (fun q1 => ?_)
    · exact hK _ _ _ _ (by simp [kf_pas, ei]) (kf_C_m hC (by omega)) (fun _ _ => rfl)
    refine kg_br_i (fun q2 => ?_) (fun q2 => ?_)
    · obtain ⟨a, h1, h2, h3⟩ := kf_rg (lo := 1) (hi := 99) (by omega) (by omega) (Int32.not_lt.mp q1) q2
      exact absurd h3 (hn a (by omega))
    · exact hK _ _ _ _ (by simp [kf_pas, ei]) (kf_C_m hC (by omega)) (fun _ _ => rfl)
  | some m =>
    obtain ⟨hm, rfl⟩ := kf_ix_s (by omega) ei
    by_cases q1 : m < 1
    · simp (disch := omega) only [↓kb_0t, ↓kb_0f, ↓kb_1t, ↓kb_1f, ↓kb_2t, ↓kb_2f, ↓kb_3t, ↓kb_3f, ↓kb_4t, ↓kb_4f, ↓kb_5t, ↓kb_5f, ↓kg_S1, kg_S2, kg_br_T, kg_br_F, kg_br_N, kg_br_t, kg_br_f, ↓kg_at_n, nI_add, pk_mul, kg_sub_n, kg_rem_n, kg_eq_n, kg_lt_n, kg_le_n, kg_nz, kg_01_0, kg_01_1, kg_w0_1, kg_ret0, kg_ret1, kg_ret2, kg_wr_n, kg_wr_s, kg_Skd, kg_Smc, kg_Sob, kg_Srf, kg_Sld, kg_pad, List.map_cons, List.map_nil, List.length_cons, List.length_nil, List.replicate, List.cons_append, List.nil_append, List.append_nil, Nat.reduceAdd, Nat.reduceSub, Nat.reduceMul, Nat.reduceMod, Nat.reduceDiv, Nat.reduceLT, Nat.reduceLeDiff, Nat.reduceEqDiff, ne_eq, not_true_eq_false, not_false_eq_true, reduceIte, true_and, and_true, kg_lk72, kg_ls72]
      exact hK _ _ _ _ (by simp [kf_pas, ei, q1]) (kf_C_m hC (by omega)) (fun _ _ => rfl)
    obtain ⟨t0, ht0, et⟩ := hC.1.2.2.2.2.2.2.2.1
    have em := kf_m2_n (i := 0) (by omega) et
    have z1 : M 1 0 = nI t0 := hC.1.1.1.trans et
    by_cases q2 : 99999 < t0 + m
    · simp (disch := omega) only [↓kb_0t, ↓kb_0f, ↓kb_1t, ↓kb_1f, ↓kb_2t, ↓kb_2f, ↓kb_3t, ↓kb_3f, ↓kb_4t, ↓kb_4f, ↓kb_5t, ↓kb_5f, ↓kg_S1, kg_S2, kg_br_T, kg_br_F, kg_br_N, kg_br_t, kg_br_f, ↓kg_at_n, nI_add, pk_mul, kg_sub_n, kg_rem_n, kg_eq_n, kg_lt_n, kg_le_n, kg_nz, kg_01_0, kg_01_1, kg_w0_1, kg_ret0, kg_ret1, kg_ret2, kg_wr_n, kg_wr_s, kg_Skd, kg_Smc, kg_Sob, kg_Srf, kg_Sld, kg_pad, List.map_cons, List.map_nil, List.length_cons, List.length_nil, List.replicate, List.cons_append, List.nil_append, List.append_nil, Nat.reduceAdd, Nat.reduceSub, Nat.reduceMul, Nat.reduceMod, Nat.reduceDiv, Nat.reduceLT, Nat.reduceLeDiff, Nat.reduceEqDiff, ne_eq, not_true_eq_false, not_false_eq_true, reduceIte, true_and, and_true, kg_lk72, kg_ls72, z1]
      exact hK _ _ _ _ (by simp [kf_pas, ei, q1, em, q2]) (kf_C_m hC (by omega)) (fun _ _ => rfl)
    · simp (disch := omega) only [↓kb_0t, ↓kb_0f, ↓kb_1t, ↓kb_1f, ↓kb_2t, ↓kb_2f, ↓kb_3t, ↓kb_3f, ↓kb_4t, ↓kb_4f, ↓kb_5t, ↓kb_5f, ↓kg_S1, kg_S2, kg_br_T, kg_br_F, kg_br_N, kg_br_t, kg_br_f, ↓kg_at_n, nI_add, pk_mul, kg_sub_n, kg_rem_n, kg_eq_n, kg_lt_n, kg_le_n, kg_nz, kg_01_0, kg_01_1, kg_w0_1, kg_ret0, kg_ret1, kg_ret2, kg_wr_n, kg_wr_s, kg_Skd, kg_Smc, kg_Sob, kg_Srf, kg_Sld, kg_pad, List.map_cons, List.map_nil, List.length_cons, List.length_nil, List.replicate, List.cons_append, List.nil_append, List.append_nil, Nat.reduceAdd, Nat.reduceSub, Nat.reduceMul, Nat.reduceMod, Nat.reduceDiv, Nat.reduceLT, Nat.reduceLeDiff, Nat.reduceEqDiff, ne_eq, not_true_eq_false, not_false_eq_true, reduceIte, true_and, and_true, kg_lk72, kg_ls72, z1]
      refine kcR hL hC (by omega) ?_
      intro h' M1 a1 a2
      simp (disch := omega) only [↓kb_0t, ↓kb_0f, ↓kb_1t, ↓kb_1f, ↓kb_2t, ↓kb_2f, ↓kb_3t, ↓kb_3f, ↓kb_4t, ↓kb_4f, ↓kb_5t, ↓kb_5f, ↓kg_S1, kg_S2, kg_br_T, kg_br_F, kg_br_N, kg_br_t, kg_br_f, ↓kg_at_n, nI_add, pk_mul, kg_sub_n, kg_rem_n, kg_eq_n, kg_lt_n, kg_le_n, kg_nz, kg_01_0, kg_01_1, kg_w0_1, kg_ret0, kg_ret1, kg_ret2, kg_wr_n, kg_wr_s, kg_Skd, kg_Smc, kg_Sob, kg_Srf, kg_Sld, kg_pad, List.map_cons, List.map_nil, List.length_cons, List.length_nil, List.replicate, List.cons_append, List.nil_append, List.append_nil, Nat.reduceAdd, Nat.reduceSub, Nat.reduceMul, Nat.reduceMod, Nat.reduceDiv, Nat.reduceLT, Nat.reduceLeDiff, Nat.reduceEqDiff, ne_eq, not_true_eq_false, not_false_eq_true, reduceIte, true_and, and_true, kg_lk72, kg_ls72]
      obtain ⟨p, hp10, -, hp, -⟩ := hC.1.2.2.2.2.2.1
      have ep := kf_m2_n (i := 211) (by omega) hp
      refine kc72_l hL (M0 := M1) (r0 := A.1) (t0 := t0) (p := p) hc hp10 (by omega) (by omega) ?_ m 0 M1 (Nat.zero_add _) (fun _ _ => rfl) a1.1 et hp
      intro M2 b1 b2
      exact hK _ _ _ _ (by simp [kf_pas, ei, q1, em, q2, ep]; try exact ⟨rfl, rfl⟩) (kf_C_st a1 (Nat.le_refl _) b2 b1) (fun p hp => (b1 p (by omega)).trans (a2 p hp))

end
