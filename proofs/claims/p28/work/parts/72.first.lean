/-! THE FIRST STATE: what the constructors leave; rows that agree below 287 -/
def kx_A0 : kf_A := (kx_r0, 0, fun _ _ => 0, false, fun _ => 0, 0, fun _ => 0)
theorem kx_r0_z {i : Nat} (h : 27 ≤ i) : kx_r0 i = nI 0 := by
  unfold kx_r0 kx_rg kx_r1
  rw [if_neg (by omega), if_neg (by omega), ku_n (by omega), ku_n (by omega), ku_n (by omega), ku_n (by omega)]
  rfl
theorem kx_r0_l {i : Nat} (h : 11 ≤ i) (h2 : i < 27) : kx_r0 i = kg_n 5 := by
  unfold kx_r0 kx_rg
  rw [if_pos (by omega)]
theorem kx_r0_u {i : Nat} (h : 7 ≤ i) (h2 : i < 11) : kx_r0 i = nI 1 := by
  unfold kx_r0 kx_rg
  rw [if_neg (by omega), if_pos (by omega)]
theorem kx_s_z {b p : Nat} {M : kg_M} (h : b ≤ p ∧ p < b + 20) (h1 : p ≠ b + 1) (h2 : p ≠ b + 2) (h3 : p ≠ b + 8) : kx_s b M p = fun _ => 0 := by
  unfold kx_s
  rw [if_neg h1, if_neg h2, if_neg h3, kx_zi h]
theorem kx_C {M Mx : kg_M} (hS : ∀ p, 1 ≤ p → p < 21 → M p = kx_s 1 Mx p) (h02 : M 0 2 = nI 0) (h04 : M 0 4 = nI 0) (h122 : M 122 1 = nI 0) : kf_C 0 kx_h0 M kx_A0 ∧ kj_J kx_A0.1 := by
  have z : ∀ p, 1 ≤ p → p < 21 → p ≠ 2 → p ≠ 3 → p ≠ 9 → M p = fun _ => 0 := by
    intro p h1 h2 h3 h4 h5
    rw [hS p h1 h2]
    exact kx_s_z (by omega) (by omega) (by omega) (by omega)
  have m2 : M 2 = kx_fl (kg_sv 1003) 5 := by rw [hS 2 (by omega) (by omega)]; rfl
  have m3 : M 3 = kx_fl (fun _ => nI 1) 4 := by rw [hS 3 (by omega) (by omega)]; rfl
  have m9 : M 9 = kx_fl (fun _ => kg_n 1) 16 := by rw [hS 9 (by omega) (by omega)]; rfl
  have ew : ∀ n k, n < 5 → k < 8 → kf_w kx_r0 n k = nI 0 := by
    intro n k hn hk; unfold kf_w; split <;> exact kx_r0_z (by omega)
  have es : ∀ n k, n < 5 → k < 8 → kf_s kx_r0 n k = nI 0 := by
    intro n k hn hk; unfold kf_s; split <;> exact kx_r0_z (by omega)
  have hR : kf_Rel 0 M 1 kx_r0 := by
    refine ⟨⟨?_, ?_⟩, fun i hi => ?_, fun n hn => ?_, ⟨fun n k hn hk => ⟨?_, Or.inl ⟨ew n k hn hk, es n k hn hk⟩⟩, fun n k hn hk hw => absurd (ew n k (by omega) hk) hw⟩, fun i j hij hj => ?_, ⟨0, by omega, ?_, kx_r0_z (by omega), fun i hi => absurd hi (by omega)⟩, ⟨0, 0, by omega, by omega, ?_, ?_, kx_r0_z (by omega), fun i hi => ?_, fun i hi => absurd hi (by omega)⟩, ⟨⟨0, by omega, rfl⟩, ⟨0, by omega, rfl, fun n k hn hk => ⟨0, by omega, es n k hn hk⟩⟩, ⟨2, by omega, by omega, rfl⟩, ⟨2, by omega, by omega, rfl⟩, ⟨50, by omega, by omega, rfl⟩, Or.inl rfl, Or.inr rfl, fun n hn => Or.inr (kx_r0_u (by omega) (by omega)), fun n k hn hk => ⟨⟨0, by omega, kx_r0_z (by omega)⟩, ⟨0, by omega, kx_r0_z (by omega)⟩⟩, fun i j hi hj => ⟨?_, Or.inl (kx_r0_l (by omega) (by omega))⟩⟩⟩
    · rw [z 1 (by omega) (by omega) (by omega) (by omega) (by omega)]; rfl
    · rw [z 1 (by omega) (by omega) (by omega) (by omega) (by omega)]; rfl
    · show M 2 i = _
      rw [m2]
      unfold kx_fl
      rw [if_pos hi]
      obtain rfl | rfl | rfl | rfl | rfl : i = 0 ∨ i = 1 ∨ i = 2 ∨ i = 3 ∨ i = 4 := by omega
      all_goals rfl
    · show M 3 n = _
      rw [m3]
      unfold kx_fl
      rw [if_pos hn, kx_r0_u (by omega) (by omega)]
    · show M 5 (n * 8 + k) = _
      rw [z 5 (by omega) (by omega) (by omega) (by omega) (by omega), es n k hn hk]; rfl
    · show M 9 (i * 4 + j) = _
      rw [m9, kx_r0_l (by omega) (by omega)]
      unfold kx_fl
      rw [if_pos (by omega)]
      rfl
    · show M 10 0 = _
      rw [z 10 (by omega) (by omega) (by omega) (by omega) (by omega)]; rfl
    · show M 14 0 = _
      rw [z 14 (by omega) (by omega) (by omega) (by omega) (by omega)]; rfl
    · show M 14 1 = _
      rw [z 14 (by omega) (by omega) (by omega) (by omega) (by omega)]; rfl
    · show M 15 i = _
      rw [z 15 (by omega) (by omega) (by omega) (by omega) (by omega), kx_r0_z (by omega)]; rfl
    · rw [kx_r0_l (by omega) (by omega), kx_r0_l (by omega) (by omega)]
  refine ⟨⟨hR, ⟨by show 0 ≤ 4; omega, h02, ⟨0, by omega, rfl, rfl, rfl, rfl⟩, fun j hj => absurd hj (by show ¬ j < 0; omega)⟩, ⟨h04, fun e => by cases e⟩, by show 0 ≤ 60; omega, h122, fun i hi => absurd hi (by show ¬ i < 0; omega)⟩, ?_⟩
  show kj_J kx_r0
  refine ⟨fun n k hn hk => ?_, fun n k hn hk => ?_, fun n m k hn hm hk e => ?_, fun n k hn hk hw => absurd (ew n k (by omega) hk) hw, fun n k hn h4 hk => es n k hn hk⟩
  · rw [es n k hn hk, es 4 k (by omega) hk]; exact ⟨Int32.le_refl _, Int32.le_refl _⟩
  · rw [es n k hn hk, ew n k hn hk]
  · rw [ew n k hn hk, ew m k hm hk]; exact ⟨rfl, fun g => absurd g (by decide)⟩
theorem kx_ww {h : Nat → Nat → Nat} (hR : ∀ p, p < 124 → h p = kg_R kx_h0 p) (hz : ∀ p, 124 ≤ p → h p = fun _ => 0) : ((125, kx_n h 124 (fun _ => 0)) : kg_W) = kg_w0 kx_h0 := by
  unfold kg_w0
  refine congrArg (Prod.mk 125) (funext fun p => ?_)
  by_cases q2 : p < 124
  · rw [kx_nn (by omega)]; exact hR p q2
  · have e9 : kx_n h 124 (fun _ => 0) p = fun _ => 0 := by
      by_cases q3 : p = 124
      · rw [q3, kx_ns]
      · rw [kx_nn (by omega)]; exact hz p (by omega)
    rw [e9]
    unfold kg_R
    rw [if_neg (by omega), if_neg (by omega), if_neg (by omega), if_neg (by omega), if_neg (by omega)]
/-- what the law holds: the class's state, its invariant, the stamps of the truths in the law's own row -/
def kj_S (c : Nat) (h : Nat → Nat) (M : kg_M) (A : kf_A) : Prop := kf_C c h M A ∧ kj_J A.1 ∧ ∀ k, k < 8 → M 124 k = kf_s A.1 4 k
theorem kj_S0 {M Mx : kg_M} (hS : ∀ p, 1 ≤ p → p < 21 → M p = kx_s 1 Mx p) (h02 : M 0 2 = nI 0) (h04 : M 0 4 = nI 0) (h122 : M 122 1 = nI 0) : kj_S 0 kx_h0 (kg_row M 124 (fun _ => 0)) kx_A0 := by
  have e : ∀ p, p < 124 → kg_row M 124 (fun _ => 0) p = M p := fun p hp => kw_n (by omega)
  obtain ⟨a, b⟩ := kx_C (M := kg_row M 124 (fun _ => 0)) (Mx := Mx) (fun p h1 h2 => (e p (by omega)).trans (hS p h1 h2)) ((congrFun (e 0 (by omega)) 2).trans h02) ((congrFun (e 0 (by omega)) 4).trans h04) ((congrFun (e 122 (by omega)) 1).trans h122)
  refine ⟨a, b, fun k hk => ?_⟩
  rw [kw_s]
  have e4 : kf_s kx_A0.1 4 k = nI 0 := kx_r0_z (i := 187 + 3 * k + 2) (by omega)
  rw [e4]
  rfl
