/-! the class's text: its repairs become the plan; readPlan -/
/-- the first and the second node, the number, the row -/
abbrev kf_DT : Type := Nat × Nat × Nat × (Nat → Int32)
def kf_da (x : Nat → Nat) (r : Nat → Int32) : Nat → kf_DT
  | 0 => (0, 0, 0, r)
  | i + 1 => if kf_dig (x i) = true then ((kf_da x r i).1, (kf_da x r i).2.1, (kf_da x r i).2.2.1 * 10 + (x i - 48), (kf_da x r i).2.2.2)
    else if x i = 45 then ((kf_da x r i).2.2.1, (kf_da x r i).2.1, 0, (kf_da x r i).2.2.2)
    else if x i = 64 then ((kf_da x r i).1, (kf_da x r i).2.2.1, 0, (kf_da x r i).2.2.2)
    else ((kf_da x r i).1, (kf_da x r i).2.1, 0, kf_pla (kf_da x r i).2.2.2 (nI (kf_da x r i).1) (nI (kf_da x r i).2.1) (nI (kf_da x r i).2.2.1))
/-- what the numbers are at a place -/
def kf_iv (p nd : Nat) (D : kf_DT) : Prop :=
  (p = 0 ∧ D.2.2.1 = 0) ∨ (p = 1 ∧ D.2.2.1 < 4 ∧ nd = 48 + D.2.2.1) ∨ (p = 2 ∧ D.2.2.1 = 0 ∧ D.1 < 4 ∧ nd = 48 + D.1) ∨ (p = 3 ∧ D.1 < 4 ∧ D.2.2.1 < 4 ∧ D.1 ≠ D.2.2.1) ∨ (p = 4 ∧ D.2.2.1 = 0 ∧ D.1 < 4 ∧ D.2.1 < 4 ∧ D.1 ≠ D.2.1) ∨ (4 < p ∧ p ≤ 8 ∧ D.2.2.1 < 10 ^ (p - 4) ∧ D.1 < 4 ∧ D.2.1 < 4 ∧ D.1 ≠ D.2.1)
theorem kf_dig_t {c : Nat} (h : kf_dig c = true) : 48 ≤ c ∧ c ≤ 57 := by
  unfold kf_dig at h
  rw [Bool.and_eq_true_iff] at h
  exact ⟨of_decide_eq_true h.1, of_decide_eq_true h.2⟩
theorem kf_nds_t {c : Nat} (h : kf_nds c = true) : 48 ≤ c ∧ c < 52 := by
  unfold kf_nds at h
  rw [Bool.and_eq_true_iff] at h
  exact ⟨of_decide_eq_true h.1, of_decide_eq_true h.2⟩
theorem kf_dig_i {c : Nat} (h1 : 48 ≤ c) (h2 : c ≤ 57) : kf_dig c = true := by
  unfold kf_dig
  rw [decide_eq_true h1, decide_eq_true h2]; rfl
theorem kf_dig_f {c : Nat} (h : c < 48 ∨ 57 < c) : ¬ kf_dig c = true := fun q => by
  have := kf_dig_t q
  omega
theorem kf_pw {n v : Nat} {p : Nat} (hp : p < 8) (h4 : 4 < p) (h : n < 10 ^ (p - 4)) (hv : v < 10) : n * 10 + v < 10 ^ (p + 1 - 4) := by
  have : 10 ^ (p + 1 - 4) = 10 ^ (p - 4) * 10 := by
    rw [show p + 1 - 4 = (p - 4) + 1 by omega, Nat.pow_succ]
  omega
theorem kf_iv_0 {nd : Nat} {D : kf_DT} (h : kf_iv 0 nd D) : D.2.2.1 = 0 := by
  rcases h with ⟨_, h⟩ | ⟨h, _⟩ | ⟨h, _⟩ | ⟨h, _⟩ | ⟨h, _⟩ | ⟨h, _⟩
  · exact h
  all_goals omega
theorem kf_iv_1 {nd : Nat} {D : kf_DT} (h : kf_iv 1 nd D) : D.2.2.1 < 4 ∧ nd = 48 + D.2.2.1 := by
  rcases h with ⟨h, _⟩ | ⟨_, h⟩ | ⟨h, _⟩ | ⟨h, _⟩ | ⟨h, _⟩ | ⟨h, _⟩
  · omega
  · exact h
  all_goals omega
theorem kf_iv_2 {nd : Nat} {D : kf_DT} (h : kf_iv 2 nd D) : D.2.2.1 = 0 ∧ D.1 < 4 ∧ nd = 48 + D.1 := by
  rcases h with ⟨h, _⟩ | ⟨h, _⟩ | ⟨_, h⟩ | ⟨h, _⟩ | ⟨h, _⟩ | ⟨h, _⟩
  · omega
  · omega
  · exact h
  all_goals omega
theorem kf_iv_3 {nd : Nat} {D : kf_DT} (h : kf_iv 3 nd D) : D.1 < 4 ∧ D.2.2.1 < 4 ∧ D.1 ≠ D.2.2.1 := by
  rcases h with ⟨h, _⟩ | ⟨h, _⟩ | ⟨h, _⟩ | ⟨_, h⟩ | ⟨h, _⟩ | ⟨h, _⟩
  · omega
  · omega
  · omega
  · exact h
  all_goals omega
theorem kf_iv_4 {nd : Nat} {D : kf_DT} (h : kf_iv 4 nd D) : D.2.2.1 = 0 ∧ D.1 < 4 ∧ D.2.1 < 4 ∧ D.1 ≠ D.2.1 := by
  rcases h with ⟨h, _⟩ | ⟨h, _⟩ | ⟨h, _⟩ | ⟨h, _⟩ | ⟨_, h⟩ | ⟨h, _⟩
  · omega
  · omega
  · omega
  · omega
  · exact h
  · omega
theorem kf_iv_5 {p nd : Nat} {D : kf_DT} (h5 : 4 < p) (h : kf_iv p nd D) : D.2.2.1 < 10 ^ (p - 4) ∧ D.1 < 4 ∧ D.2.1 < 4 ∧ D.1 ≠ D.2.1 := by
  rcases h with ⟨h, _⟩ | ⟨h, _⟩ | ⟨h, _⟩ | ⟨h, _⟩ | ⟨h, _⟩ | ⟨_, _, h⟩
  · omega
  · omega
  · omega
  · omega
  · omega
  · exact h
theorem kf_iv_n {p nd : Nat} {D : kf_DT} (h : kf_iv p nd D) : D.2.2.1 < 100000 := by
  rcases h with ⟨_, h⟩ | ⟨_, h, _⟩ | ⟨_, h, _⟩ | ⟨_, _, h, _⟩ | ⟨_, h, _⟩ | ⟨_, h8, h, _⟩
  · omega
  · omega
  · omega
  · omega
  · omega
  · have : 10 ^ (p - 4) ≤ 10 ^ 4 := Nat.pow_le_pow_right (by omega) (by omega)
    have e4 : (10 : Nat) ^ 4 = 10000 := by decide
    omega
theorem kf_iv_s {x : Nat → Nat} {r : Nat → Int32} {i p nd q : Nat} (hp : p ≤ 8) (h : kf_iv p nd (kf_da x r i)) (e : kf_sg p (x i) (kf_nd p (x i) nd) = some q) : kf_iv q (kf_nd p (x i) nd) (kf_da x r (i + 1)) := by
  rw [kf_da]
  unfold kf_sg at e
  obtain rfl | rfl | rfl | rfl | rfl | h5 : p = 0 ∨ p = 1 ∨ p = 2 ∨ p = 3 ∨ p = 4 ∨ 4 < p := by omega
  · have iv := kf_iv_0 h
    simp only [reduceIte] at e
    by_cases q1 : kf_nds (x i) = true
    · rw [if_pos q1] at e
      cases e
      have := kf_nds_t q1
      rw [if_pos (kf_dig_i (by omega) (by omega))]
      refine Or.inr (Or.inl ⟨rfl, ?_, ?_⟩)
      · show (kf_da x r i).2.2.1 * 10 + (x i - 48) < 4
        omega
      · show x i = 48 + ((kf_da x r i).2.2.1 * 10 + (x i - 48))
        omega
    · rw [if_neg q1] at e; cases e
  · have iv := kf_iv_1 h
    simp only [reduceIte, Nat.reduceEqDiff] at e
    by_cases q1 : x i = 45
    · rw [if_pos q1] at e
      cases e
      rw [if_neg (kf_dig_f (by omega)), if_pos q1]
      exact Or.inr (Or.inr (Or.inl ⟨rfl, rfl, iv.1, iv.2⟩))
    · rw [if_neg q1] at e; cases e
  · have iv := kf_iv_2 h
    simp only [reduceIte, Nat.reduceEqDiff] at e
    unfold kf_nd at e
    simp only [reduceIte, Nat.reduceEqDiff] at e
    by_cases q1 : kf_nds (x i) = true ∧ x i ≠ nd
    · rw [if_pos q1] at e
      cases e
      have := kf_nds_t q1.1
      rw [if_pos (kf_dig_i (by omega) (by omega))]
      refine Or.inr (Or.inr (Or.inr (Or.inl ⟨rfl, iv.2.1, ?_, ?_⟩)))
      · show (kf_da x r i).2.2.1 * 10 + (x i - 48) < 4
        omega
      · show (kf_da x r i).1 ≠ (kf_da x r i).2.2.1 * 10 + (x i - 48)
        omega
    · rw [if_neg q1] at e; cases e
  · have iv := kf_iv_3 h
    simp only [reduceIte, Nat.reduceEqDiff] at e
    by_cases q1 : x i = 64
    · rw [if_pos q1] at e
      cases e
      rw [if_neg (kf_dig_f (by omega)), if_neg (by omega), if_pos q1]
      exact Or.inr (Or.inr (Or.inr (Or.inr (Or.inl ⟨rfl, rfl, iv.1, iv.2.1, iv.2.2⟩))))
    · rw [if_neg q1] at e; cases e
  · have iv := kf_iv_4 h
    simp only [reduceIte, Nat.reduceEqDiff] at e
    by_cases q1 : x i = 48
    · rw [if_pos q1] at e
      cases e
      rw [if_pos (kf_dig_i (by omega) (by omega))]
      refine Or.inr (Or.inr (Or.inr (Or.inr (Or.inr ⟨by omega, by omega, ?_, iv.2.1, iv.2.2.1, iv.2.2.2⟩))))
      show (kf_da x r i).2.2.1 * 10 + (x i - 48) < 10000
      omega
    · rw [if_neg q1] at e
      by_cases q2 : kf_dig (x i) = true
      · rw [if_pos q2] at e
        cases e
        rw [if_pos q2]
        have := kf_dig_t q2
        refine Or.inr (Or.inr (Or.inr (Or.inr (Or.inr ⟨by omega, by omega, ?_, iv.2.1, iv.2.2.1, iv.2.2.2⟩))))
        show (kf_da x r i).2.2.1 * 10 + (x i - 48) < 10
        omega
      · rw [if_neg q2] at e; cases e
  · have iv := kf_iv_5 h5 h
    rw [if_neg (by omega), if_neg (by omega), if_neg (by omega), if_neg (by omega), if_neg (by omega)] at e
    by_cases q1 : x i = 44
    · rw [if_pos q1] at e
      cases e
      rw [if_neg (kf_dig_f (by omega)), if_neg (by omega), if_neg (by omega)]
      exact Or.inl ⟨rfl, rfl⟩
    · rw [if_neg q1] at e
      by_cases q2 : kf_dig (x i) = true ∧ p < 8
      · rw [if_pos q2] at e
        cases e
        rw [if_pos q2.1]
        have hd := kf_dig_t q2.1
        exact Or.inr (Or.inr (Or.inr (Or.inr (Or.inr ⟨by omega, by omega, kf_pw (v := x i - 48) q2.2 h5 iv.1 (by omega), iv.2.1, iv.2.2.1, iv.2.2.2⟩))))
      · rw [if_neg q2] at e; cases e
theorem kf_sg_x {p c nd q : Nat} (e : kf_sg p c nd = some q) (h1 : ¬ kf_dig c = true) (h2 : c ≠ 45) (h3 : c ≠ 64) : 4 < p ∧ c = 44 := by
  have nd0 : ¬ kf_nds c = true := fun q => by
    have := kf_nds_t q
    exact h1 (kf_dig_i (by omega) (by omega))
  have n48 : c ≠ 48 := fun q => h1 (by rw [q]; rfl)
  unfold kf_sg at e
  by_cases q0 : p = 0
  · rw [if_pos q0, if_neg nd0] at e; cases e
  rw [if_neg q0] at e
  by_cases q1 : p = 1
  · rw [if_pos q1, if_neg h2] at e; cases e
  rw [if_neg q1] at e
  by_cases q2 : p = 2
  · rw [if_pos q2, if_neg (fun q => nd0 q.1)] at e; cases e
  rw [if_neg q2] at e
  by_cases q3 : p = 3
  · rw [if_pos q3, if_neg h3] at e; cases e
  rw [if_neg q3] at e
  by_cases q4 : p = 4
  · rw [if_pos q4, if_neg n48, if_neg h1] at e; cases e
  rw [if_neg q4] at e
  by_cases q5 : c = 44
  · exact ⟨by omega, q5⟩
  · rw [if_neg q5, if_neg (fun q => h1 q.1)] at e; cases e
theorem kf_au_p {x : Nat → Nat} {i : Nat} {z : Nat × Nat} (h : kf_au x (i + 1) = some z) : ∃ p nd, kf_au x i = some (p, nd) ∧ kf_sg p (x i) (kf_nd p (x i) nd) = some z.1 ∧ z.2 = kf_nd p (x i) nd := by
  rw [kf_au] at h
  cases e : kf_au x i with
  | none => rw [e] at h; cases h
  | some pn =>
    obtain ⟨p, nd⟩ := pn
    rw [e] at h
    cases e2 : kf_sg p (x i) (kf_nd p (x i) nd) with
    | none => simp only [e2] at h; cases h
    | some q => simp only [e2] at h; cases h; exact ⟨p, nd, rfl, e2, rfl⟩
theorem kf_iv_a {x : Nat → Nat} {r : Nat → Int32} {L : Nat} (hx : ∀ i, i < L → x i < 65536) : ∀ i p nd : Nat, i ≤ L → kf_au x i = some (p, nd) → kf_iv p nd (kf_da x r i)
  | 0, p, nd, _, h => by cases h; exact Or.inl ⟨rfl, rfl⟩
  | i + 1, p, nd, hi, h => by
    obtain ⟨p0, nd0, h1, h2, h3⟩ := kf_au_p h
    have hb := kf_au_b hx i p0 nd0 (by omega) h1
    have := kf_iv_s (r := r) hb.1 (kf_iv_a (r := r) hx i p0 nd0 (by omega) h1) h2
    have h3' : nd = kf_nd p0 (x i) nd0 := h3
    rw [h3']
    exact this
/-- all places before one that is reached are reached -/
theorem kf_au_m {x : Nat → Nat} {L : Nat} {z : Nat × Nat} (h : kf_au x L = some z) {i : Nat} (hi : i ≤ L) : ∃ p nd, kf_au x i = some (p, nd) := by
  cases e : kf_au x i with
  | none =>
    have := kf_au_n e (L - i)
    rw [show i + (L - i) = L by omega, h] at this
    cases this
  | some pn => exact ⟨pn.1, pn.2, rfl⟩
def kf_rpr (x : Nat → Nat) (L : Nat) (r : Nat → Int32) : Nat → Int32 :=
  kf_pla (kf_da x (upd r 211 (nI 0)) L).2.2.2 (nI (kf_da x (upd r 211 (nI 0)) L).1) (nI (kf_da x (upd r 211 (nI 0)) L).2.1) (nI (kf_da x (upd r 211 (nI 0)) L).2.2.1)
def kf_rpa (A : kf_A) : kf_O := match kf_ff (kf_m2 A.2.2.2.2.2.2) A.2.2.2.2.2.1 with
  | some f => (kg_n 100 - nI f, A)
  | none => if 10 < kf_cm (kf_m2 A.2.2.2.2.2.2) A.2.2.2.2.2.1 + 1 then (kg_n 3, A) else (nI (kf_cm (kf_m2 A.2.2.2.2.2.2) A.2.2.2.2.2.1 + 1), kf_sr (kf_rec A) (kf_rpr (kf_m2 A.2.2.2.2.2.2) A.2.2.2.2.2.1 A.1))
section
variable {G : kg_G} {d c : Nat} {h : Nat → Nat} {A : kf_A} {M : kg_M} {K : kg_Qt} {x : Nat → Nat} {L : Nat} {r : Nat → Int32}
theorem kf_cm_m (i : Nat) : ∀ n, kf_cm x i ≤ kf_cm x (i + n)
  | 0 => Nat.le_refl _
  | n + 1 => by
    have := kf_cm_m i n
    unfold kf_cm at this ⊢
    rw [← Nat.add_assoc, kf_ct]
    omega
theorem kf_pla_2 {a b t : Int32} {q : Nat} (e : r 211 = nI q) : kf_pla r a b t 211 = nI (q + 1) := by
  unfold kf_pla
  rw [upd, if_pos rfl, e, nI_add]
theorem kf_Rel_pa {a b p : Nat} {t : Int32} (hR : kf_Rel c M 1 r) (hp : r 211 = nI p) (hp10 : p < 10) (ha : a < 4) (hb : b < 4) (hab : a ≠ b) : kf_Rel c (kf_pm4 M p (nI a) (nI b) t) 1 (kf_pla r (nI a) (nI b) t) := by
  have em := kf_m2_n (i := 211) (by omega) hp
  refine kf_Rel_P hR (fun q h1 h2 => ?_) (fun i hi => ?_) (kf_PL_add hR.2.2.2.2.2.1 hp hp10 ha hb hab)
  · unfold kf_pm4
    rw [kg_wr_n (by omega), kg_wr_n (by omega), kg_wr_n (by omega), kg_wr_n (by omega)]
  · unfold kf_pla
    rw [em]
    simp (disch := omega) only [upd, if_neg]
theorem kf_m2_u {r : Nat → Int32} {i z : Nat} (hz : z < 65536) (e : r i = nI z) : r i = nI (kf_m2 r i) ∧ kf_m2 r i < 65536 := by
  rw [kf_m2_n (by omega) e]
  exact ⟨e, hz⟩
end
