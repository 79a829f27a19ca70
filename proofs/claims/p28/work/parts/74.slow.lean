/-! isSlowestSo -/
/-- the pair f is the best of those in l -/
def kj_be (r : Nat → Int32) (l : List Nat) (f : Nat) : Prop := f ∈ l ∧ ∀ g ∈ l, r (11 + f) ≤ r (11 + g) ∧ (r (11 + g) = r (11 + f) → f ≤ g)
theorem kj_sl {r : Nat → Int32} {l : List Nat} {f a b : Nat} (h : kj_be r l f) (hl : ∀ g ∈ l, g ≤ 4 * a + b) : kj_be r (l ++ [4 * a + b]) (kf_sl r a b f) := by
  have e : 11 + 4 * a + b = 11 + (4 * a + b) := by omega
  unfold kf_sl
  rw [e]
  by_cases q : r (11 + (4 * a + b)) < r (11 + f)
  · rw [if_pos q]
    refine ⟨by simp, fun g hg => ?_⟩
    rcases List.mem_append.mp hg with hg | hg
    · have h1 := Int32.lt_of_lt_of_le q (h.2 g hg).1
      exact ⟨Int32.le_of_lt h1, fun e2 => absurd (e2 ▸ h1) Int32.lt_irrefl⟩
    · have e2 := List.mem_singleton.mp hg
      rw [e2]
      exact ⟨Int32.le_refl _, fun _ => Nat.le_refl _⟩
  · rw [if_neg q]
    refine ⟨List.mem_append_left _ h.1, fun g hg => ?_⟩
    rcases List.mem_append.mp hg with hg | hg
    · exact h.2 g hg
    · have e2 := List.mem_singleton.mp hg
      rw [e2]
      exact ⟨Int32.not_lt.mp q, fun _ => hl f h.1⟩
theorem kj_so (r : Nat → Int32) : kj_be r [1, 1, 2, 3, 6, 7, 11] (kf_so r 4) := by
  have h0 : kj_be r [1] 1 := ⟨by simp, fun g hg => by rw [List.mem_singleton.mp hg]; exact ⟨Int32.le_refl _, fun _ => Nat.le_refl _⟩⟩
  have h1 := kj_sl (a := 0) (b := 1) h0 (by decide)
  have h2 := kj_sl (a := 0) (b := 2) h1 (by decide)
  have h3 := kj_sl (a := 0) (b := 3) h2 (by decide)
  have h4 := kj_sl (a := 1) (b := 2) h3 (by decide)
  have h5 := kj_sl (a := 1) (b := 3) h4 (by decide)
  have h6 := kj_sl (a := 2) (b := 3) h5 (by decide)
  exact h6
theorem kj_fo {f : Nat} (h : f ∈ [1, 1, 2, 3, 6, 7, 11]) : f / 4 < 4 ∧ f % 4 < 4 ∧ f / 4 ≠ f % 4 := by
  have : f = 1 ∨ f = 2 ∨ f = 3 ∨ f = 6 ∨ f = 7 ∨ f = 11 := by simpa using h
  omega
theorem kj_fi {a b : Nat} (hab : a < b) (hb : b < 4) : 4 * a + b ∈ [1, 1, 2, 3, 6, 7, 11] := by
  have : (a = 0 ∧ b = 1) ∨ (a = 0 ∧ b = 2) ∨ (a = 0 ∧ b = 3) ∨ (a = 1 ∧ b = 2) ∨ (a = 1 ∧ b = 3) ∨ (a = 2 ∧ b = 3) := by omega
  rcases this with ⟨rfl, rfl⟩ | ⟨rfl, rfl⟩ | ⟨rfl, rfl⟩ | ⟨rfl, rfl⟩ | ⟨rfl, rfl⟩ | ⟨rfl, rfl⟩ <;> decide
section
variable {G : kg_G} {d c : Nat} {h : Nat → Nat} {A : kf_A} {M : kg_M} {K : kg_Qt}
set_option maxRecDepth 100000 in
theorem kc95_i (hL : G.2.2.2.2.2.1 < 2 ^ 31) {f a : Nat} (hC : kf_C c h M A) (hf : f < 12) (hbe : kj_be A.1 [1, 1, 2, 3, 6, 7, 11] f) (hd : 8 ≤ d) (ha : a < 4)
    (hK : ∀ (b : Nat) (x : Option Value), kg_P G d 95 6 125 125 K 19 [some (.ref 0), some (.int (nI f)), some (.int (A.1 (11 + f))), some (.int (nI (a + 1))), some (.int (nI b)), x] [] (kg_w0 h) M) :
    ∀ (z b : Nat) (x : Option Value), b + z = 4 → a < b → kg_P G d 95 6 125 125 K 29 [some (.ref 0), some (.int (nI f)), some (.int (A.1 (11 + f))), some (.int (nI a)), some (.int (nI b)), x] [] (kg_w0 h) M := by
  intro z
  induction z with
  | zero =>
    intro b x hz hab
    obtain rfl : b = 4 := by omega
    refine kg_v95 hL (by omega) 60 ?_
    simp (disch := omega) only [↓kb_0t, ↓kb_0f, ↓kb_1t, ↓kb_1f, ↓kb_2t, ↓kb_2f, ↓kb_3t, ↓kb_3f, ↓kb_4t, ↓kb_4f, ↓kb_5t, ↓kb_5f, ↓kg_S1, kg_S2, kg_br_T, kg_br_F, kg_br_N, kg_br_t, kg_br_f, ↓kg_at_n, nI_add, pk_mul, kg_sub_n, kg_rem_n, kg_eq_n, kg_lt_n, kg_le_n, kg_nz, kg_01_0, kg_01_1, kg_w0_1, kg_ret0, kg_ret1, kg_ret2, kg_wr_n, kg_wr_s, kg_Skd, kg_Smc, kg_Sob, kg_Srf, kg_Sld, kg_pad, List.map_cons, List.map_nil, List.length_cons, List.length_nil, List.replicate, List.cons_append, List.nil_append, List.append_nil, Nat.reduceAdd, Nat.reduceSub, Nat.reduceMul, Nat.reduceMod, Nat.reduceDiv, Nat.reduceLT, Nat.reduceLeDiff, Nat.reduceEqDiff, ne_eq, not_true_eq_false, not_false_eq_true, reduceIte, true_and, and_true, kg_lk95, kg_ls95]
    exact hK 4 x
  | succ z ih =>
    intro b x hz hab
    have hb : b < 4 := by omega
    have hbe2 := hbe.2 (4 * a + b) (kj_fi hab hb)
    have e : 11 + 4 * a + b = 11 + (4 * a + b) := by omega
    refine kg_v95 hL (by omega) 60 ?_
    simp (disch := omega) only [↓kb_0t, ↓kb_0f, ↓kb_1t, ↓kb_1f, ↓kb_2t, ↓kb_2f, ↓kb_3t, ↓kb_3f, ↓kb_4t, ↓kb_4f, ↓kb_5t, ↓kb_5f, ↓kg_S1, kg_S2, kg_br_T, kg_br_F, kg_br_N, kg_br_t, kg_br_f, ↓kg_at_n, nI_add, pk_mul, kg_sub_n, kg_rem_n, kg_eq_n, kg_lt_n, kg_le_n, kg_nz, kg_01_0, kg_01_1, kg_w0_1, kg_ret0, kg_ret1, kg_ret2, kg_wr_n, kg_wr_s, kg_Skd, kg_Smc, kg_Sob, kg_Srf, kg_Sld, kg_pad, List.map_cons, List.map_nil, List.length_cons, List.length_nil, List.replicate, List.cons_append, List.nil_append, List.append_nil, Nat.reduceAdd, Nat.reduceSub, Nat.reduceMul, Nat.reduceMod, Nat.reduceDiv, Nat.reduceLT, Nat.reduceLeDiff, Nat.reduceEqDiff, ne_eq, not_true_eq_false, not_false_eq_true, reduceIte, true_and, and_true, kg_lk95, kg_ls95]
    refine kc81 hL hC (by omega) ?_
    rw [kj_p0 ha hb (by omega), e]
    have ih2 := ih (b + 1) (some (.int (A.1 (11 + (4 * a + b))))) (by omega) (by omega)
    generalize A.1 (11 + (4 * a + b)) = t at hbe2 ih2 ⊢
    generalize hT : A.1 (11 + f) = T at hbe2 ih2 ⊢
    have e1 : (t < T) = False := eq_false (Int32.not_lt.mpr hbe2.1)
    simp (disch := omega) only [↓kb_0t, ↓kb_0f, ↓kb_1t, ↓kb_1f, ↓kb_2t, ↓kb_2f, ↓kb_3t, ↓kb_3f, ↓kb_4t, ↓kb_4f, ↓kb_5t, ↓kb_5f, ↓kg_S1, kg_S2, kg_br_T, kg_br_F, kg_br_N, kg_br_t, kg_br_f, ↓kg_at_n, nI_add, pk_mul, kg_sub_n, kg_rem_n, kg_eq_n, kg_lt_n, kg_le_n, kg_nz, kg_01_0, kg_01_1, kg_w0_1, kg_ret0, kg_ret1, kg_ret2, kg_wr_n, kg_wr_s, kg_Skd, kg_Smc, kg_Sob, kg_Srf, kg_Sld, kg_pad, List.map_cons, List.map_nil, List.length_cons, List.length_nil, List.replicate, List.cons_append, List.nil_append, List.append_nil, Nat.reduceAdd, Nat.reduceSub, Nat.reduceMul, Nat.reduceMod, Nat.reduceDiv, Nat.reduceLT, Nat.reduceLeDiff, Nat.reduceEqDiff, ne_eq, not_true_eq_false, not_false_eq_true, reduceIte, true_and, and_true, kg_lk95, kg_ls95, e1]
    refine kg_br_i (fun q => ?_) (fun q => ?_)
    · have hfb := hbe2.2 q
      simp (disch := omega) only [↓kb_0t, ↓kb_0f, ↓kb_1t, ↓kb_1f, ↓kb_2t, ↓kb_2f, ↓kb_3t, ↓kb_3f, ↓kb_4t, ↓kb_4f, ↓kb_5t, ↓kb_5f, ↓kg_S1, kg_S2, kg_br_T, kg_br_F, kg_br_N, kg_br_t, kg_br_f, ↓kg_at_n, nI_add, pk_mul, kg_sub_n, kg_rem_n, kg_eq_n, kg_lt_n, kg_le_n, kg_nz, kg_01_0, kg_01_1, kg_w0_1, kg_ret0, kg_ret1, kg_ret2, kg_wr_n, kg_wr_s, kg_Skd, kg_Smc, kg_Sob, kg_Srf, kg_Sld, kg_pad, List.map_cons, List.map_nil, List.length_cons, List.length_nil, List.replicate, List.cons_append, List.nil_append, List.append_nil, Nat.reduceAdd, Nat.reduceSub, Nat.reduceMul, Nat.reduceMod, Nat.reduceDiv, Nat.reduceLT, Nat.reduceLeDiff, Nat.reduceEqDiff, ne_eq, not_true_eq_false, not_false_eq_true, reduceIte, true_and, and_true, kg_lk95, kg_ls95]
      exact ih2
    · exact ih2
set_option maxRecDepth 100000 in
theorem kc95_o (hL : G.2.2.2.2.2.1 < 2 ^ 31) {f : Nat} (hC : kf_C c h M A) (hf : f < 12) (hbe : kj_be A.1 [1, 1, 2, 3, 6, 7, 11] f) (hd : 8 ≤ d) (hK : K (some (.int (nI 1))) (kg_w0 h) M) :
    ∀ (z a : Nat) (y x : Option Value), a + z = 4 → kg_P G d 95 6 125 125 K 19 [some (.ref 0), some (.int (nI f)), some (.int (A.1 (11 + f))), some (.int (nI a)), y, x] [] (kg_w0 h) M := by
  intro z
  induction z with
  | zero =>
    intro a y x hz
    obtain rfl : a = 4 := by omega
    refine kg_v95 hL (by omega) 60 ?_
    simp (disch := omega) only [↓kb_0t, ↓kb_0f, ↓kb_1t, ↓kb_1f, ↓kb_2t, ↓kb_2f, ↓kb_3t, ↓kb_3f, ↓kb_4t, ↓kb_4f, ↓kb_5t, ↓kb_5f, ↓kg_S1, kg_S2, kg_br_T, kg_br_F, kg_br_N, kg_br_t, kg_br_f, ↓kg_at_n, nI_add, pk_mul, kg_sub_n, kg_rem_n, kg_eq_n, kg_lt_n, kg_le_n, kg_nz, kg_01_0, kg_01_1, kg_w0_1, kg_ret0, kg_ret1, kg_ret2, kg_wr_n, kg_wr_s, kg_Skd, kg_Smc, kg_Sob, kg_Srf, kg_Sld, kg_pad, List.map_cons, List.map_nil, List.length_cons, List.length_nil, List.replicate, List.cons_append, List.nil_append, List.append_nil, Nat.reduceAdd, Nat.reduceSub, Nat.reduceMul, Nat.reduceMod, Nat.reduceDiv, Nat.reduceLT, Nat.reduceLeDiff, Nat.reduceEqDiff, ne_eq, not_true_eq_false, not_false_eq_true, reduceIte, true_and, and_true, kg_lk95, kg_ls95]
    exact hK
  | succ z ih =>
    intro a y x hz
    refine kg_v95 hL (by omega) 60 ?_
    simp (disch := omega) only [↓kb_0t, ↓kb_0f, ↓kb_1t, ↓kb_1f, ↓kb_2t, ↓kb_2f, ↓kb_3t, ↓kb_3f, ↓kb_4t, ↓kb_4f, ↓kb_5t, ↓kb_5f, ↓kg_S1, kg_S2, kg_br_T, kg_br_F, kg_br_N, kg_br_t, kg_br_f, ↓kg_at_n, nI_add, pk_mul, kg_sub_n, kg_rem_n, kg_eq_n, kg_lt_n, kg_le_n, kg_nz, kg_01_0, kg_01_1, kg_w0_1, kg_ret0, kg_ret1, kg_ret2, kg_wr_n, kg_wr_s, kg_Skd, kg_Smc, kg_Sob, kg_Srf, kg_Sld, kg_pad, List.map_cons, List.map_nil, List.length_cons, List.length_nil, List.replicate, List.cons_append, List.nil_append, List.append_nil, Nat.reduceAdd, Nat.reduceSub, Nat.reduceMul, Nat.reduceMod, Nat.reduceDiv, Nat.reduceLT, Nat.reduceLeDiff, Nat.reduceEqDiff, ne_eq, not_true_eq_false, not_false_eq_true, reduceIte, true_and, and_true, kg_lk95, kg_ls95]
    exact kc95_i hL hC hf hbe hd (by omega) (fun b x => ih (a + 1) _ x (by omega)) (3 - a) (a + 1) x (by omega) (by omega)
set_option maxRecDepth 100000 in
theorem kc95 (hL : G.2.2.2.2.2.1 < 2 ^ 31) (hC : kf_C c h M A) (hd : 9 ≤ d) (hK : K (some (.int (nI 1))) (kg_w0 h) M) : kg_call G d 125 95 [.ref 0] (kg_w0 h) M K := by
  have hbe := kj_so A.1
  obtain ⟨d, rfl⟩ : ∃ e, d = e + 1 := ⟨d - 1, by omega⟩
  refine kg_m95 (by simp) (Nat.le_refl _) (kg_v95 hL (by omega) 60 ?_)
  simp (disch := omega) only [↓kb_0t, ↓kb_0f, ↓kb_1t, ↓kb_1f, ↓kb_2t, ↓kb_2f, ↓kb_3t, ↓kb_3f, ↓kb_4t, ↓kb_4f, ↓kb_5t, ↓kb_5f, ↓kg_S1, kg_S2, kg_br_T, kg_br_F, kg_br_N, kg_br_t, kg_br_f, ↓kg_at_n, nI_add, pk_mul, kg_sub_n, kg_rem_n, kg_eq_n, kg_lt_n, kg_le_n, kg_nz, kg_01_0, kg_01_1, kg_w0_1, kg_ret0, kg_ret1, kg_ret2, kg_wr_n, kg_wr_s, kg_Skd, kg_Smc, kg_Sob, kg_Srf, kg_Sld, kg_pad, List.map_cons, List.map_nil, List.length_cons, List.length_nil, List.replicate, List.cons_append, List.nil_append, List.append_nil, Nat.reduceAdd, Nat.reduceSub, Nat.reduceMul, Nat.reduceMod, Nat.reduceDiv, Nat.reduceLT, Nat.reduceLeDiff, Nat.reduceEqDiff, ne_eq, not_true_eq_false, not_false_eq_true, reduceIte, true_and, and_true, kg_lk95, kg_ls95]
  refine kc82 hL hC (by omega) ?_
  generalize kf_so A.1 4 = f at hbe ⊢
  have hf : f < 12 := by
    have : f = 1 ∨ f = 2 ∨ f = 3 ∨ f = 6 ∨ f = 7 ∨ f = 11 := by simpa using hbe.1
    omega
  obtain ⟨f1, f2, f3⟩ := kj_fo hbe.1
  have e1 : nI f / nI 4 = nI (f / 4) := pk_div (by omega) (by omega) (by omega)
  have e2 : f - f / 4 * 4 = f % 4 := by omega
  simp (disch := omega) only [↓kb_0t, ↓kb_0f, ↓kb_1t, ↓kb_1f, ↓kb_2t, ↓kb_2f, ↓kb_3t, ↓kb_3f, ↓kb_4t, ↓kb_4f, ↓kb_5t, ↓kb_5f, ↓kg_S1, kg_S2, kg_br_T, kg_br_F, kg_br_N, kg_br_t, kg_br_f, ↓kg_at_n, nI_add, pk_mul, kg_sub_n, kg_rem_n, kg_eq_n, kg_lt_n, kg_le_n, kg_nz, kg_01_0, kg_01_1, kg_w0_1, kg_ret0, kg_ret1, kg_ret2, kg_wr_n, kg_wr_s, kg_Skd, kg_Smc, kg_Sob, kg_Srf, kg_Sld, kg_pad, List.map_cons, List.map_nil, List.length_cons, List.length_nil, List.replicate, List.cons_append, List.nil_append, List.append_nil, Nat.reduceAdd, Nat.reduceSub, Nat.reduceMul, Nat.reduceMod, Nat.reduceDiv, Nat.reduceLT, Nat.reduceLeDiff, Nat.reduceEqDiff, ne_eq, not_true_eq_false, not_false_eq_true, reduceIte, true_and, and_true, kg_lk95, kg_ls95, e1]
  refine kc81 hL hC (by omega) ?_
  have e3 : 11 + 4 * (f / 4) + f % 4 = 11 + f := by omega
  rw [e2, kj_p0 f1 f2 f3, e3]
  simp (disch := omega) only [↓kb_0t, ↓kb_0f, ↓kb_1t, ↓kb_1f, ↓kb_2t, ↓kb_2f, ↓kb_3t, ↓kb_3f, ↓kb_4t, ↓kb_4f, ↓kb_5t, ↓kb_5f, ↓kg_S1, kg_S2, kg_br_T, kg_br_F, kg_br_N, kg_br_t, kg_br_f, ↓kg_at_n, nI_add, pk_mul, kg_sub_n, kg_rem_n, kg_eq_n, kg_lt_n, kg_le_n, kg_nz, kg_01_0, kg_01_1, kg_w0_1, kg_ret0, kg_ret1, kg_ret2, kg_wr_n, kg_wr_s, kg_Skd, kg_Smc, kg_Sob, kg_Srf, kg_Sld, kg_pad, List.map_cons, List.map_nil, List.length_cons, List.length_nil, List.replicate, List.cons_append, List.nil_append, List.append_nil, Nat.reduceAdd, Nat.reduceSub, Nat.reduceMul, Nat.reduceMod, Nat.reduceDiv, Nat.reduceLT, Nat.reduceLeDiff, Nat.reduceEqDiff, ne_eq, not_true_eq_false, not_false_eq_true, reduceIte, true_and, and_true, kg_lk95, kg_ls95]
  exact kc95_o hL hC hf hbe (by omega) hK 4 0 _ _ rfl
end
