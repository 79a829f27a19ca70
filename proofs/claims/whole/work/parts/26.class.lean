/-! the class's text and history -/
def kf_tx (A : kf_A) (L : Nat) (x : Nat → Int32) : kf_A := (A.1, A.2.1, A.2.2.1, A.2.2.2.1, A.2.2.2.2.1, L, x)
def kf_typ (A : kf_A) (v : Int32) : kf_O := if A.2.2.2.2.2.1 < 60 then (nI (A.2.2.2.2.2.1 + 1), kf_tx A (A.2.2.2.2.2.1 + 1) (upd A.2.2.2.2.2.2 A.2.2.2.2.2.1 v)) else (kg_n 3, A)
def kf_ctx (A : kf_A) : kf_O := (nI A.2.2.2.2.2.1, kf_tx A 0 A.2.2.2.2.2.2)
def kf_und (A : kf_A) : kf_O := if A.2.1 < 1 then (kg_n 5, A) else (nI (A.2.1 - 1), A.2.2.1 (A.2.1 - 1), A.2.1 - 1, A.2.2)
def kf_kee (A : kf_A) : kf_O := (A.1 0, A.1, A.2.1, A.2.2.1, true, A.1, A.2.2.2.2.2)
def kf_res (A : kf_A) : kf_O := if A.2.2.2.1 = true then (A.2.2.2.2.1 0, kf_sr (kf_rec A) A.2.2.2.2.1) else (kg_n 5, A)
theorem kf_C_tx {c L : Nat} {h : Nat → Nat} {M M' : kg_M} {A : kf_A} {x : Nat → Int32} (hC : kf_C c h M A) (hL : L ≤ 60) (h1 : M' 122 1 = nI L) (h2 : ∀ i, i < L → M' 123 i = x i ∧ ∃ z, z < 65536 ∧ x i = nI z) (hM : ∀ p, p ≠ 122 → p ≠ 123 → M' p = M p) : kf_C c h M' (kf_tx A L x) := by
  obtain ⟨a1, ⟨a2, a3, a4, a5⟩, ⟨a6, a7⟩, a8, a9, b1⟩ := hC
  refine ⟨kf_Rel_g a1 (fun p e1 e2 => hM p (by omega) (by omega)), ⟨a2, (congrFun (hM 0 (by omega) (by omega)) 2).trans a3, a4, fun j hj => ?_⟩, ⟨(congrFun (hM 0 (by omega) (by omega)) 4).trans a6, fun e => kf_Rel_g (a7 e) (fun p e1 e2 => hM p (by omega) (by omega))⟩, hL, h1, h2⟩
  have := kf_hp_at2 a4 (j := j) (by change A.2.1 ≤ 4 at a2; change j < A.2.1 at hj; omega)
  exact kf_Rel_g (a5 j hj) (fun p e1 e2 => hM p (by omega) (by omega))
section
variable {G : kg_G} {d c : Nat} {h : Nat → Nat} {A : kf_A} {M : kg_M} {K : kg_Qt} {r : Nat → Int32}
theorem kc22_u (hL : G.2.2.2.2.2.1 < 2 ^ 31) {t : Nat} (ht : t = 22 ∨ t = 42 ∨ t = 62 ∨ t = 82) (hR : kf_Rel c M t r) (hd : 4 ≤ d) (hK : ∀ M' : kg_M, (∀ p, (p < 1 ∨ 20 < p) → M' p = M p) → kf_Rel c M' 1 r → K none (kg_w0 h) M') : kg_call G d 129 22 [.ref 1, .ref t] (kg_w0 h) M K := by
  obtain rfl | rfl | rfl | rfl := ht
  · exact kc22_1_22 hL hR hd hK
  · exact kc22_1_42 hL hR hd hK
  · exact kc22_1_62 hL hR hd hK
  · exact kc22_1_82 hL hR hd hK

theorem kc73 (hL : G.2.2.2.2.2.1 < 2 ^ 31) {v : Int32} (hv : ∃ z, z < 65536 ∧ v = nI z) (hC : kf_C c h M A) (hd : 2 ≤ d) (hK : ∀ (o : Int32) (A' : kf_A) (h' : Nat → Nat) (M' : kg_M), kf_typ A v = (o, A') → kf_C c h' M' A' → (∀ p, 123 < p → M' p = M p) → K (some (.int o)) (kg_w0 h') M') : kg_call G d 129 73 [.ref 0, .int v] (kg_w0 h) M K := by
  obtain ⟨z, hz, rfl⟩ := hv
  obtain ⟨d, rfl⟩ : ∃ e, d = e + 1 := ⟨d - 1, by omega⟩
  refine kg_m73 (by simp; try exact ⟨z, hz, rfl⟩) (Nat.le_refl _) (kg_v73 hL (by omega) 60 ?_)
  obtain ⟨l1, l2, l3⟩ := hC.2.2.2
  by_cases q1 : A.2.2.2.2.2.1 < 60
  · simp (disch := omega) only [kg_S1, kg_S2, kg_br_T, kg_br_F, kg_br_N, kg_br_t, kg_br_f, kg_at_n, nI_add, pk_mul, kg_sub_n, kg_rem_n, kg_eq_n, kg_lt_n, kg_le_n, kg_nz, kg_01_0, kg_01_1, kg_w0_1, kg_ret0, kg_ret1, kg_ret2, kg_wr_n, kg_wr_s, kg_Skd, kg_Smc, kg_Sob, kg_Srf, kg_Sld, kg_pad, List.map_cons, List.map_nil, List.length_cons, List.length_nil, List.replicate, List.cons_append, List.nil_append, List.append_nil, Nat.reduceAdd, Nat.reduceSub, Nat.reduceMul, Nat.reduceMod, Nat.reduceDiv, Nat.reduceLT, Nat.reduceLeDiff, Nat.reduceEqDiff, ne_eq, not_true_eq_false, not_false_eq_true, reduceIte, true_and, and_true, kg_lk73, kg_ls73, l2]
    refine hK _ _ _ _ (by simp only [kf_typ, if_pos q1]; rfl) (kf_C_tx hC (by omega) ?_ (fun i hi => ?_) (fun p h1 h2 => ?_)) (fun p hp => ?_)
    · simp (disch := omega) only [kg_wr_s, kg_wr_n, reduceIte]
    · simp (disch := omega) only [kg_wr_s, kg_wr_n, upd]
      by_cases e : i = A.2.2.2.2.2.1
      · rw [if_pos e, if_pos e]; exact ⟨rfl, z, hz, rfl⟩
      · rw [if_neg e, if_neg e]; exact l3 i (by omega)
    · simp (disch := omega) only [kg_wr_n]
    · simp (disch := omega) only [kg_wr_n]
  · simp (disch := omega) only [kg_S1, kg_S2, kg_br_T, kg_br_F, kg_br_N, kg_br_t, kg_br_f, kg_at_n, nI_add, pk_mul, kg_sub_n, kg_rem_n, kg_eq_n, kg_lt_n, kg_le_n, kg_nz, kg_01_0, kg_01_1, kg_w0_1, kg_ret0, kg_ret1, kg_ret2, kg_wr_n, kg_wr_s, kg_Skd, kg_Smc, kg_Sob, kg_Srf, kg_Sld, kg_pad, List.map_cons, List.map_nil, List.length_cons, List.length_nil, List.replicate, List.cons_append, List.nil_append, List.append_nil, Nat.reduceAdd, Nat.reduceSub, Nat.reduceMul, Nat.reduceMod, Nat.reduceDiv, Nat.reduceLT, Nat.reduceLeDiff, Nat.reduceEqDiff, ne_eq, not_true_eq_false, not_false_eq_true, reduceIte, true_and, and_true, kg_lk73, kg_ls73, l2]
    exact hK _ _ _ _ (by simp only [kf_typ, if_neg q1]) hC (fun _ _ => rfl)

theorem kc74 (hL : G.2.2.2.2.2.1 < 2 ^ 31) (hC : kf_C c h M A) (hd : 2 ≤ d) (hK : ∀ (o : Int32) (A' : kf_A) (h' : Nat → Nat) (M' : kg_M), kf_ctx A = (o, A') → kf_C c h' M' A' → (∀ p, 123 < p → M' p = M p) → K (some (.int o)) (kg_w0 h') M') : kg_call G d 129 74 [.ref 0] (kg_w0 h) M K := by
  obtain ⟨d, rfl⟩ : ∃ e, d = e + 1 := ⟨d - 1, by omega⟩
  refine kg_m74 (by simp) (Nat.le_refl _) (kg_v74 hL (by omega) 60 ?_)
  obtain ⟨l1, l2, l3⟩ := hC.2.2.2
  simp (disch := omega) only [kg_S1, kg_S2, kg_br_T, kg_br_F, kg_br_N, kg_br_t, kg_br_f, kg_at_n, nI_add, pk_mul, kg_sub_n, kg_rem_n, kg_eq_n, kg_lt_n, kg_le_n, kg_nz, kg_01_0, kg_01_1, kg_w0_1, kg_ret0, kg_ret1, kg_ret2, kg_wr_n, kg_wr_s, kg_Skd, kg_Smc, kg_Sob, kg_Srf, kg_Sld, kg_pad, List.map_cons, List.map_nil, List.length_cons, List.length_nil, List.replicate, List.cons_append, List.nil_append, List.append_nil, Nat.reduceAdd, Nat.reduceSub, Nat.reduceMul, Nat.reduceMod, Nat.reduceDiv, Nat.reduceLT, Nat.reduceLeDiff, Nat.reduceEqDiff, ne_eq, not_true_eq_false, not_false_eq_true, reduceIte, true_and, and_true, kg_lk74, kg_ls74, l2]
  exact hK _ _ _ _ rfl (kf_C_tx hC (by omega) (by simp only [kg_wr_s, if_pos]) (fun i hi => by omega) (fun p h1 h2 => kg_wr_n h1)) (fun p hp => kg_wr_n (by omega))

theorem kc75 (hL : G.2.2.2.2.2.1 < 2 ^ 31) (hC : kf_C c h M A) (hd : 5 ≤ d) (hK : ∀ (o : Int32) (A' : kf_A) (h' : Nat → Nat) (M' : kg_M), kf_und A = (o, A') → kf_C c h' M' A' → (∀ p, 123 < p → M' p = M p) → K (some (.int o)) (kg_w0 h') M') : kg_call G d 129 75 [.ref 0] (kg_w0 h) M K := by
  obtain ⟨d, rfl⟩ : ∃ e, d = e + 1 := ⟨d - 1, by omega⟩
  refine kg_m75 (by simp) (Nat.le_refl _) (kg_v75 hL (by omega) 60 ?_)
  have hC0 := hC
  obtain ⟨a1, ⟨a2, a3, a4, a5⟩, ⟨a6, a7⟩, a8, a9, b1⟩ := hC
  change A.2.1 ≤ 4 at a2
  by_cases q1 : A.2.1 < 1
  · simp (disch := omega) only [kg_S1, kg_S2, kg_br_T, kg_br_F, kg_br_N, kg_br_t, kg_br_f, kg_at_n, nI_add, pk_mul, kg_sub_n, kg_rem_n, kg_eq_n, kg_lt_n, kg_le_n, kg_nz, kg_01_0, kg_01_1, kg_w0_1, kg_ret0, kg_ret1, kg_ret2, kg_wr_n, kg_wr_s, kg_Skd, kg_Smc, kg_Sob, kg_Srf, kg_Sld, kg_pad, List.map_cons, List.map_nil, List.length_cons, List.length_nil, List.replicate, List.cons_append, List.nil_append, List.append_nil, Nat.reduceAdd, Nat.reduceSub, Nat.reduceMul, Nat.reduceMod, Nat.reduceDiv, Nat.reduceLT, Nat.reduceLeDiff, Nat.reduceEqDiff, ne_eq, not_true_eq_false, not_false_eq_true, reduceIte, true_and, and_true, kg_lk75, kg_ls75, a3]
    exact hK _ _ _ _ (by simp only [kf_und, if_pos q1]) hC0 (fun _ _ => rfl)
  · obtain ⟨s, hs⟩ := kf_hp_at a4
    have en := hs (A.2.1 - 1) (by omega)
    have e1 : h (A.2.1 - 1) = 22 ∨ h (A.2.1 - 1) = 42 ∨ h (A.2.1 - 1) = 62 ∨ h (A.2.1 - 1) = 82 := by omega
    have e2 : (h (A.2.1 - 1) ≠ 0) = True := by simp; omega
    have e3 : h (A.2.1 - 1) < 1000 := by omega
    simp (disch := omega) only [kg_S1, kg_S2, kg_br_T, kg_br_F, kg_br_N, kg_br_t, kg_br_f, kg_at_n, nI_add, pk_mul, kg_sub_n, kg_rem_n, kg_eq_n, kg_lt_n, kg_le_n, kg_nz, kg_01_0, kg_01_1, kg_w0_1, kg_ret0, kg_ret1, kg_ret2, kg_wr_n, kg_wr_s, kg_Skd, kg_Smc, kg_Sob, kg_Srf, kg_Sld, kg_pad, List.map_cons, List.map_nil, List.length_cons, List.length_nil, List.replicate, List.cons_append, List.nil_append, List.append_nil, Nat.reduceAdd, Nat.reduceSub, Nat.reduceMul, Nat.reduceMod, Nat.reduceDiv, Nat.reduceLT, Nat.reduceLeDiff, Nat.reduceEqDiff, ne_eq, not_true_eq_false, not_false_eq_true, reduceIte, true_and, and_true, kg_lk75, kg_ls75, a3, e2, e3, ne_eq]
    refine kc22_u hL (r := A.2.2.1 (A.2.1 - 1)) e1 (kf_Rel_g (a5 _ (by omega)) (fun p h1 h2 => kg_wr_n (by omega))) (by omega) ?_
    intro M1 c1 c2
    have z1 : M1 0 2 = nI (A.2.1 - 1) := by rw [c1 0 (by omega), kg_wr_s, if_pos rfl]
    simp (disch := omega) only [kg_S1, kg_S2, kg_br_T, kg_br_F, kg_br_N, kg_br_t, kg_br_f, kg_at_n, nI_add, pk_mul, kg_sub_n, kg_rem_n, kg_eq_n, kg_lt_n, kg_le_n, kg_nz, kg_01_0, kg_01_1, kg_w0_1, kg_ret0, kg_ret1, kg_ret2, kg_wr_n, kg_wr_s, kg_Skd, kg_Smc, kg_Sob, kg_Srf, kg_Sld, kg_pad, List.map_cons, List.map_nil, List.length_cons, List.length_nil, List.replicate, List.cons_append, List.nil_append, List.append_nil, Nat.reduceAdd, Nat.reduceSub, Nat.reduceMul, Nat.reduceMod, Nat.reduceDiv, Nat.reduceLT, Nat.reduceLeDiff, Nat.reduceEqDiff, ne_eq, not_true_eq_false, not_false_eq_true, reduceIte, true_and, and_true, kg_lk75, kg_ls75, z1]
    have fr : ∀ p, p ≠ 0 → (p < 1 ∨ 20 < p) → M1 p = M p := fun p h0 h1 => (c1 p h1).trans (kg_wr_n h0)
    refine hK _ (A.2.2.1 (A.2.1 - 1), A.2.1 - 1, A.2.2) _ _ (by simp only [kf_und, if_neg q1]) ⟨c2, ⟨?_, z1, a4, fun j hj => ?_⟩, ⟨?_, fun e => kf_Rel_g (a7 e) (fun p h1 h2 => fr p (by omega) (by omega))⟩, a8, (congrFun (fr 122 (by omega) (by omega)) 1).trans a9, fun i hi => ?_⟩ (fun p hp => fr p (by omega) (by omega))
    · change A.2.1 - 1 ≤ 4; omega
    · change j < A.2.1 - 1 at hj
      have := kf_hp_at2 a4 (j := j) (by omega)
      exact kf_Rel_g (a5 j (by omega)) (fun p h1 h2 => fr p (by omega) (by omega))
    · rw [c1 0 (by omega), kg_wr_s, if_neg (by omega)]; exact a6
    · rw [fr 123 (by omega) (by omega)]; exact b1 i hi

theorem kc76 (hL : G.2.2.2.2.2.1 < 2 ^ 31) (hC : kf_C c h M A) (hd : 5 ≤ d) (hK : ∀ (o : Int32) (A' : kf_A) (h' : Nat → Nat) (M' : kg_M), kf_kee A = (o, A') → kf_C c h' M' A' → (∀ p, 123 < p → M' p = M p) → K (some (.int o)) (kg_w0 h') M') : kg_call G d 129 76 [.ref 0] (kg_w0 h) M K := by
  obtain ⟨d, rfl⟩ : ∃ e, d = e + 1 := ⟨d - 1, by omega⟩
  refine kg_m76 (by simp) (Nat.le_refl _) (kg_v76 hL (by omega) 60 ?_)
  obtain ⟨a1, ⟨a2, a3, a4, a5⟩, ⟨a6, a7⟩, a8, a9, b1⟩ := hC
  change A.2.1 ≤ 4 at a2
  simp (disch := omega) only [kg_S1, kg_S2, kg_br_T, kg_br_F, kg_br_N, kg_br_t, kg_br_f, kg_at_n, nI_add, pk_mul, kg_sub_n, kg_rem_n, kg_eq_n, kg_lt_n, kg_le_n, kg_nz, kg_01_0, kg_01_1, kg_w0_1, kg_ret0, kg_ret1, kg_ret2, kg_wr_n, kg_wr_s, kg_Skd, kg_Smc, kg_Sob, kg_Srf, kg_Sld, kg_pad, List.map_cons, List.map_nil, List.length_cons, List.length_nil, List.replicate, List.cons_append, List.nil_append, List.append_nil, Nat.reduceAdd, Nat.reduceSub, Nat.reduceMul, Nat.reduceMod, Nat.reduceDiv, Nat.reduceLT, Nat.reduceLeDiff, Nat.reduceEqDiff, ne_eq, not_true_eq_false, not_false_eq_true, reduceIte, true_and, and_true, kg_lk76, kg_ls76]
  refine kc22_102_1 hL a1 (by omega) ?_
  intro M1 c1 c2
  have z1 : M1 1 0 = A.1 0 := by rw [c1 1 (by omega)]; exact a1.1.1
  simp (disch := omega) only [kg_S1, kg_S2, kg_br_T, kg_br_F, kg_br_N, kg_br_t, kg_br_f, kg_at_n, nI_add, pk_mul, kg_sub_n, kg_rem_n, kg_eq_n, kg_lt_n, kg_le_n, kg_nz, kg_01_0, kg_01_1, kg_w0_1, kg_ret0, kg_ret1, kg_ret2, kg_wr_n, kg_wr_s, kg_Skd, kg_Smc, kg_Sob, kg_Srf, kg_Sld, kg_pad, List.map_cons, List.map_nil, List.length_cons, List.length_nil, List.replicate, List.cons_append, List.nil_append, List.append_nil, Nat.reduceAdd, Nat.reduceSub, Nat.reduceMul, Nat.reduceMod, Nat.reduceDiv, Nat.reduceLT, Nat.reduceLeDiff, Nat.reduceEqDiff, ne_eq, not_true_eq_false, not_false_eq_true, reduceIte, true_and, and_true, kg_lk76, kg_ls76, z1]
  have fr : ∀ p, p ≠ 0 → (p < 102 ∨ 121 < p) → kg_wr M1 0 4 (nI 1) p = M p := fun p h0 h1 => (kg_wr_n h0).trans (c1 p (by omega))
  refine hK _ _ _ _ rfl ⟨kf_Rel_g a1 (fun p h1 h2 => fr p (by omega) (by omega)), ⟨a2, ?_, a4, fun j hj => ?_⟩, ⟨?_, fun e => kf_Rel_g c2 (fun p h1 h2 => kg_wr_n (by omega))⟩, a8, (congrFun (fr 122 (by omega) (by omega)) 1).trans a9, fun i hi => ?_⟩ (fun p hp => fr p (by omega) (by omega))
  · rw [kg_wr_s, if_neg (by omega), c1 0 (by omega)]; exact a3
  · change j < A.2.1 at hj
    have := kf_hp_at2 a4 (j := j) (by omega)
    exact kf_Rel_g (a5 j hj) (fun p h1 h2 => fr p (by omega) (by omega))
  · rw [kg_wr_s, if_pos rfl]; rfl
  · rw [fr 123 (by omega) (by omega)]; exact b1 i hi

theorem kc77 (hL : G.2.2.2.2.2.1 < 2 ^ 31) (hC : kf_C c h M A) (hd : 6 ≤ d) (hK : ∀ (o : Int32) (A' : kf_A) (h' : Nat → Nat) (M' : kg_M), kf_res A = (o, A') → kf_C c h' M' A' → (∀ p, 123 < p → M' p = M p) → K (some (.int o)) (kg_w0 h') M') : kg_call G d 129 77 [.ref 0] (kg_w0 h) M K := by
  obtain ⟨d, rfl⟩ : ∃ e, d = e + 1 := ⟨d - 1, by omega⟩
  refine kg_m77 (by simp) (Nat.le_refl _) (kg_v77 hL (by omega) 60 ?_)
  have a6 := hC.2.2.1.1
  cases q1 : A.2.2.2.1 with
  | false =>
    rw [q1] at a6
    have a6' : M 0 4 = nI 0 := a6
    simp (disch := omega) only [kg_S1, kg_S2, kg_br_T, kg_br_F, kg_br_N, kg_br_t, kg_br_f, kg_at_n, nI_add, pk_mul, kg_sub_n, kg_rem_n, kg_eq_n, kg_lt_n, kg_le_n, kg_nz, kg_01_0, kg_01_1, kg_w0_1, kg_ret0, kg_ret1, kg_ret2, kg_wr_n, kg_wr_s, kg_Skd, kg_Smc, kg_Sob, kg_Srf, kg_Sld, kg_pad, List.map_cons, List.map_nil, List.length_cons, List.length_nil, List.replicate, List.cons_append, List.nil_append, List.append_nil, Nat.reduceAdd, Nat.reduceSub, Nat.reduceMul, Nat.reduceMod, Nat.reduceDiv, Nat.reduceLT, Nat.reduceLeDiff, Nat.reduceEqDiff, ne_eq, not_true_eq_false, not_false_eq_true, reduceIte, true_and, and_true, kg_lk77, kg_ls77, a6']
    exact hK _ _ _ _ (by simp [kf_res, q1]) hC (fun _ _ => rfl)
  | true =>
    rw [q1] at a6
    have a6' : M 0 4 = nI 1 := a6
    simp (disch := omega) only [kg_S1, kg_S2, kg_br_T, kg_br_F, kg_br_N, kg_br_t, kg_br_f, kg_at_n, nI_add, pk_mul, kg_sub_n, kg_rem_n, kg_eq_n, kg_lt_n, kg_le_n, kg_nz, kg_01_0, kg_01_1, kg_w0_1, kg_ret0, kg_ret1, kg_ret2, kg_wr_n, kg_wr_s, kg_Skd, kg_Smc, kg_Sob, kg_Srf, kg_Sld, kg_pad, List.map_cons, List.map_nil, List.length_cons, List.length_nil, List.replicate, List.cons_append, List.nil_append, List.append_nil, Nat.reduceAdd, Nat.reduceSub, Nat.reduceMul, Nat.reduceMod, Nat.reduceDiv, Nat.reduceLT, Nat.reduceLeDiff, Nat.reduceEqDiff, ne_eq, not_true_eq_false, not_false_eq_true, reduceIte, true_and, and_true, kg_lk77, kg_ls77, a6']
    refine kcR hL hC (by omega) ?_
    intro h' M1 b1 b2
    simp (disch := omega) only [kg_S1, kg_S2, kg_br_T, kg_br_F, kg_br_N, kg_br_t, kg_br_f, kg_at_n, nI_add, pk_mul, kg_sub_n, kg_rem_n, kg_eq_n, kg_lt_n, kg_le_n, kg_nz, kg_01_0, kg_01_1, kg_w0_1, kg_ret0, kg_ret1, kg_ret2, kg_wr_n, kg_wr_s, kg_Skd, kg_Smc, kg_Sob, kg_Srf, kg_Sld, kg_pad, List.map_cons, List.map_nil, List.length_cons, List.length_nil, List.replicate, List.cons_append, List.nil_append, List.append_nil, Nat.reduceAdd, Nat.reduceSub, Nat.reduceMul, Nat.reduceMod, Nat.reduceDiv, Nat.reduceLT, Nat.reduceLeDiff, Nat.reduceEqDiff, ne_eq, not_true_eq_false, not_false_eq_true, reduceIte, true_and, and_true, kg_lk77, kg_ls77]
    have hS : kf_Rel c M1 102 A.2.2.2.2.1 := b1.2.2.1.2 q1
    refine kc22_1_102 hL hS (by omega) ?_
    intro M2 c1 c2
    have z1 : M2 1 0 = A.2.2.2.2.1 0 := c2.1.1
    simp (disch := omega) only [kg_S1, kg_S2, kg_br_T, kg_br_F, kg_br_N, kg_br_t, kg_br_f, kg_at_n, nI_add, pk_mul, kg_sub_n, kg_rem_n, kg_eq_n, kg_lt_n, kg_le_n, kg_nz, kg_01_0, kg_01_1, kg_w0_1, kg_ret0, kg_ret1, kg_ret2, kg_wr_n, kg_wr_s, kg_Skd, kg_Smc, kg_Sob, kg_Srf, kg_Sld, kg_pad, List.map_cons, List.map_nil, List.length_cons, List.length_nil, List.replicate, List.cons_append, List.nil_append, List.append_nil, Nat.reduceAdd, Nat.reduceSub, Nat.reduceMul, Nat.reduceMod, Nat.reduceDiv, Nat.reduceLT, Nat.reduceLeDiff, Nat.reduceEqDiff, ne_eq, not_true_eq_false, not_false_eq_true, reduceIte, true_and, and_true, kg_lk77, kg_ls77, z1]
    exact hK _ _ _ _ (by simp [kf_res, q1]) (kf_C_st b1 (Nat.le_refl _) c2 (fun p hp => c1 p (by omega))) (fun p hp => (c1 p (by omega)).trans (b2 p hp))

end
