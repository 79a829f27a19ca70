/-! the class's text: its first fault, and how many repairs -/
def kf_nd (p c nd : Nat) : Nat := if p = 0 then c else nd
def kf_au (x : Nat → Nat) : Nat → Option (Nat × Nat)
  | 0 => some (0, 32)
  | i + 1 => match kf_au x i with
    | none => none
    | some (p, nd) => match kf_sg p (x i) (kf_nd p (x i) nd) with
      | none => none
      | some q => some (q, kf_nd p (x i) nd)
/-- the last place that is reached before n -/
def kf_fi (x : Nat → Nat) : Nat → Nat
  | 0 => 0
  | n + 1 => match kf_au x n with
    | some _ => n
    | none => kf_fi x n
def kf_ff (x : Nat → Nat) (L : Nat) : Option Nat := match kf_au x L with
  | none => some (kf_fi x L)
  | some (p, _) => if 4 < p then none else some L
theorem kf_nn {q : Nat} (hq : q < 2147483648) : (nI q = kg_n 1) = False := by
  refine propext ⟨fun h => ?_, False.elim⟩
  have e := congrArg Int32.toInt h
  rw [nI_toInt hq] at e
  have : (kg_n 1).toInt = -1 := by decide
  omega
theorem kf_sg_le {p c nd q : Nat} (hp : p ≤ 8) (h : kf_sg p c nd = some q) : q ≤ 8 := by
  unfold kf_sg at h
  repeat' split at h
  all_goals first | (cases h; done) | (cases h; omega)
theorem kf_au_b {x : Nat → Nat} {L : Nat} (hx : ∀ i, i < L → x i < 65536) : ∀ i p nd : Nat, i ≤ L → kf_au x i = some (p, nd) → p ≤ 8 ∧ nd < 65536
  | 0, p, nd, _, h => by cases h; omega
  | i + 1, p, nd, hi, h => by
    rw [kf_au] at h
    cases e : kf_au x i with
    | none => rw [e] at h; cases h
    | some pn =>
      obtain ⟨p0, nd0⟩ := pn
      rw [e] at h
      have ih := kf_au_b hx i p0 nd0 (by omega) e
      have hxi := hx i (by omega)
      cases e2 : kf_sg p0 (x i) (kf_nd p0 (x i) nd0) with
      | none => simp only [e2] at h; cases h
      | some q =>
        simp only [e2] at h
        cases h
        refine ⟨kf_sg_le ih.1 e2, ?_⟩
        unfold kf_nd
        split <;> omega
theorem kf_au_s {x : Nat → Nat} {i p nd q : Nat} (h : kf_au x i = some (p, nd)) (e : kf_sg p (x i) (kf_nd p (x i) nd) = some q) : kf_au x (i + 1) = some (q, kf_nd p (x i) nd) := by
  rw [kf_au, h]; simp only [e]
theorem kf_au_f {x : Nat → Nat} {i p nd : Nat} (h : kf_au x i = some (p, nd)) (e : kf_sg p (x i) (kf_nd p (x i) nd) = none) : kf_au x (i + 1) = none := by
  rw [kf_au, h]; simp only [e]
theorem kf_au_n {x : Nat → Nat} {i : Nat} (h : kf_au x i = none) : ∀ n, kf_au x (i + n) = none
  | 0 => h
  | n + 1 => by rw [← Nat.add_assoc, kf_au, kf_au_n h n]
theorem kf_ff_s {x : Nat → Nat} {i L : Nat} {pn : Nat × Nat} (h : kf_au x i = some pn) (e : kf_au x (i + 1) = none) (hi : i < L) : kf_ff x L = some i := by
  obtain ⟨n, rfl⟩ : ∃ n, L = i + 1 + n := ⟨L - (i + 1), by omega⟩
  have : ∀ n, kf_fi x (i + 1 + n) = i := by
    intro n
    induction n with
    | zero => rw [Nat.add_zero, kf_fi, h]
    | succ n ih => rw [← Nat.add_assoc, kf_fi, kf_au_n e n]; exact ih
  rw [kf_ff, kf_au_n e n]
  show some (kf_fi x (i + 1 + n)) = _
  rw [this n]
theorem kf_ff_e {x : Nat → Nat} {L p nd : Nat} (h : kf_au x L = some (p, nd)) (hp : p ≤ 4) : kf_ff x L = some L := by
  rw [kf_ff, h]; simp only [if_neg (show ¬ 4 < p by omega)]
theorem kf_ff_n {x : Nat → Nat} {L p nd : Nat} (h : kf_au x L = some (p, nd)) (hp : 4 < p) : kf_ff x L = none := by
  rw [kf_ff, h]; simp only [if_pos hp]
section
variable {G : kg_G} {d c : Nat} {h : Nat → Nat} {M : kg_M} {K : kg_Qt} {x : Nat → Nat} {L : Nat}
theorem kc15_l (hL : G.2.2.2.2.2.1 < 2 ^ 31) (hL0 : M 122 1 = nI L) (hL60 : L ≤ 60) (hx : ∀ i, i < L → M 123 i = nI (x i)) (hx2 : ∀ i, i < L → x i < 65536) (hd : 4 ≤ d) (hK : K (some (.int (kf_oi (kf_ff x L)))) (kg_w0 h) M) : ∀ (m i p nd : Nat) (s4 : Option Value), i + m = L → kf_au x i = some (p, nd) → kg_P G d 15 5 129 129 K 7 [some (.ref 122), some (.int (nI p)), some (.int (nI nd)), some (.int (nI i)), s4] [] (kg_w0 h) M := by
  intro m
  induction m with
  | zero =>
    intro i p nd s4 hi ha
    obtain rfl : i = L := by omega
    have hb := kf_au_b hx2 i p nd (Nat.le_refl _) ha
    refine kg_v15 hL (by omega) 40 ?_
    by_cases q : 4 < p
    · rw [kf_ff_n ha q] at hK
      simp (disch := omega) only [kg_S1, kg_S2, kg_br_T, kg_br_F, kg_br_N, kg_br_t, kg_br_f, kg_at_n, nI_add, pk_mul, kg_sub_n, kg_rem_n, kg_eq_n, kg_lt_n, kg_le_n, kg_nz, kg_01_0, kg_01_1, kg_w0_1, kg_ret0, kg_ret1, kg_ret2, kg_wr_n, kg_wr_s, kg_Skd, kg_Smc, kg_Sob, kg_Srf, kg_Sld, kg_pad, List.map_cons, List.map_nil, List.length_cons, List.length_nil, List.replicate, List.cons_append, List.nil_append, List.append_nil, Nat.reduceAdd, Nat.reduceSub, Nat.reduceMul, Nat.reduceMod, Nat.reduceDiv, Nat.reduceLT, Nat.reduceLeDiff, Nat.reduceEqDiff, ne_eq, not_true_eq_false, not_false_eq_true, reduceIte, true_and, and_true, kg_lk15, kg_ls15, hL0]
      exact hK
    · rw [kf_ff_e ha (by omega)] at hK
      simp (disch := omega) only [kg_S1, kg_S2, kg_br_T, kg_br_F, kg_br_N, kg_br_t, kg_br_f, kg_at_n, nI_add, pk_mul, kg_sub_n, kg_rem_n, kg_eq_n, kg_lt_n, kg_le_n, kg_nz, kg_01_0, kg_01_1, kg_w0_1, kg_ret0, kg_ret1, kg_ret2, kg_wr_n, kg_wr_s, kg_Skd, kg_Smc, kg_Sob, kg_Srf, kg_Sld, kg_pad, List.map_cons, List.map_nil, List.length_cons, List.length_nil, List.replicate, List.cons_append, List.nil_append, List.append_nil, Nat.reduceAdd, Nat.reduceSub, Nat.reduceMul, Nat.reduceMod, Nat.reduceDiv, Nat.reduceLT, Nat.reduceLeDiff, Nat.reduceEqDiff, ne_eq, not_true_eq_false, not_false_eq_true, reduceIte, true_and, and_true, kg_lk15, kg_ls15, hL0]
      exact hK
  | succ m ih =>
    intro i p nd s4 hi ha
    have hb := kf_au_b hx2 i p nd (by omega) ha
    have e1 := hx i (by omega)
    have e2 := hx2 i (by omega)
    have key : kg_call G d 129 16 [.int (nI p), .int (nI (x i)), .int (nI (kf_nd p (x i) nd))] (kg_w0 h) M (kg_kont (kg_gs G 129 (kg_call G d 129) (kg_ret 1 129 K) kg_cd15 kg_sp15 (kg_P G d 15 5 129 129 K) 26) 37 [some (.ref 122), some (.int (nI p)), some (.int (nI (kf_nd p (x i) nd))), some (.int (nI i)), some (.int (nI (x i)))] []) := by
      refine kc16 hL hb.1 e2 (by unfold kf_nd; split <;> omega) (by omega) ?_
      cases e3 : kf_sg p (x i) (kf_nd p (x i) nd) with
      | none =>
        rw [kf_ff_s ha (kf_au_f ha e3) (by omega)] at hK
        simp (disch := omega) only [kg_S1, kg_S2, kg_br_T, kg_br_F, kg_br_N, kg_br_t, kg_br_f, kg_at_n, nI_add, pk_mul, kg_sub_n, kg_rem_n, kg_eq_n, kg_lt_n, kg_le_n, kg_nz, kg_01_0, kg_01_1, kg_w0_1, kg_ret0, kg_ret1, kg_ret2, kg_wr_n, kg_wr_s, kg_Skd, kg_Smc, kg_Sob, kg_Srf, kg_Sld, kg_pad, List.map_cons, List.map_nil, List.length_cons, List.length_nil, List.replicate, List.cons_append, List.nil_append, List.append_nil, Nat.reduceAdd, Nat.reduceSub, Nat.reduceMul, Nat.reduceMod, Nat.reduceDiv, Nat.reduceLT, Nat.reduceLeDiff, Nat.reduceEqDiff, ne_eq, not_true_eq_false, not_false_eq_true, reduceIte, true_and, and_true, kg_lk15, kg_ls15, kf_oi, eq_self]
        exact hK
      | some q =>
        have hq := kf_sg_le hb.1 e3
        simp (disch := omega) only [kg_S1, kg_S2, kg_br_T, kg_br_F, kg_br_N, kg_br_t, kg_br_f, kg_at_n, nI_add, pk_mul, kg_sub_n, kg_rem_n, kg_eq_n, kg_lt_n, kg_le_n, kg_nz, kg_01_0, kg_01_1, kg_w0_1, kg_ret0, kg_ret1, kg_ret2, kg_wr_n, kg_wr_s, kg_Skd, kg_Smc, kg_Sob, kg_Srf, kg_Sld, kg_pad, List.map_cons, List.map_nil, List.length_cons, List.length_nil, List.replicate, List.cons_append, List.nil_append, List.append_nil, Nat.reduceAdd, Nat.reduceSub, Nat.reduceMul, Nat.reduceMod, Nat.reduceDiv, Nat.reduceLT, Nat.reduceLeDiff, Nat.reduceEqDiff, ne_eq, not_true_eq_false, not_false_eq_true, reduceIte, true_and, and_true, kg_lk15, kg_ls15, kf_oi, kf_nn]
        exact ih (i + 1) q _ _ (by omega) (kf_au_s ha e3)
    by_cases q0 : p = 0
    · subst q0
      refine kg_v15 hL (by omega) 42 ?_
      simp (disch := omega) only [kg_S1, kg_S2, kg_br_T, kg_br_F, kg_br_N, kg_br_t, kg_br_f, kg_at_n, nI_add, pk_mul, kg_sub_n, kg_rem_n, kg_eq_n, kg_lt_n, kg_le_n, kg_nz, kg_01_0, kg_01_1, kg_w0_1, kg_ret0, kg_ret1, kg_ret2, kg_wr_n, kg_wr_s, kg_Skd, kg_Smc, kg_Sob, kg_Srf, kg_Sld, kg_pad, List.map_cons, List.map_nil, List.length_cons, List.length_nil, List.replicate, List.cons_append, List.nil_append, List.append_nil, Nat.reduceAdd, Nat.reduceSub, Nat.reduceMul, Nat.reduceMod, Nat.reduceDiv, Nat.reduceLT, Nat.reduceLeDiff, Nat.reduceEqDiff, ne_eq, not_true_eq_false, not_false_eq_true, reduceIte, true_and, and_true, kg_lk15, kg_ls15, hL0, e1]
      exact key
    · rw [kf_nd, if_neg q0] at key
      refine kg_v15 hL (by omega) 40 ?_
      simp (disch := omega) only [kg_S1, kg_S2, kg_br_T, kg_br_F, kg_br_N, kg_br_t, kg_br_f, kg_at_n, nI_add, pk_mul, kg_sub_n, kg_rem_n, kg_eq_n, kg_lt_n, kg_le_n, kg_nz, kg_01_0, kg_01_1, kg_w0_1, kg_ret0, kg_ret1, kg_ret2, kg_wr_n, kg_wr_s, kg_Skd, kg_Smc, kg_Sob, kg_Srf, kg_Sld, kg_pad, List.map_cons, List.map_nil, List.length_cons, List.length_nil, List.replicate, List.cons_append, List.nil_append, List.append_nil, Nat.reduceAdd, Nat.reduceSub, Nat.reduceMul, Nat.reduceMod, Nat.reduceDiv, Nat.reduceLT, Nat.reduceLeDiff, Nat.reduceEqDiff, ne_eq, not_true_eq_false, not_false_eq_true, reduceIte, true_and, and_true, kg_lk15, kg_ls15, hL0, e1]
      exact key
theorem kc15 (hL : G.2.2.2.2.2.1 < 2 ^ 31) (hL0 : M 122 1 = nI L) (hL60 : L ≤ 60) (hx : ∀ i, i < L → M 123 i = nI (x i)) (hx2 : ∀ i, i < L → x i < 65536) (hd : 5 ≤ d) (hK : K (some (.int (kf_oi (kf_ff x L)))) (kg_w0 h) M) : kg_call G d 129 15 [.ref 122] (kg_w0 h) M K := by
  obtain ⟨d, rfl⟩ : ∃ e, d = e + 1 := ⟨d - 1, by omega⟩
  refine kg_m15 (by simp) (Nat.le_refl _) (kg_v15 hL (by omega) 40 ?_)
  simp (disch := omega) only [kg_S1, kg_S2, kg_br_T, kg_br_F, kg_br_N, kg_br_t, kg_br_f, kg_at_n, nI_add, pk_mul, kg_sub_n, kg_rem_n, kg_eq_n, kg_lt_n, kg_le_n, kg_nz, kg_01_0, kg_01_1, kg_w0_1, kg_ret0, kg_ret1, kg_ret2, kg_wr_n, kg_wr_s, kg_Skd, kg_Smc, kg_Sob, kg_Srf, kg_Sld, kg_pad, List.map_cons, List.map_nil, List.length_cons, List.length_nil, List.replicate, List.cons_append, List.nil_append, List.append_nil, Nat.reduceAdd, Nat.reduceSub, Nat.reduceMul, Nat.reduceMod, Nat.reduceDiv, Nat.reduceLT, Nat.reduceLeDiff, Nat.reduceEqDiff, ne_eq, not_true_eq_false, not_false_eq_true, reduceIte, true_and, and_true, kg_lk15, kg_ls15]
  exact kc15_l hL hL0 hL60 hx hx2 (by omega) hK L 0 0 32 _ (by omega) rfl
def kf_cm (x : Nat → Nat) (i : Nat) : Nat := kf_ct (fun i => decide (x i = 44)) i
theorem kc19_l (hL : G.2.2.2.2.2.1 < 2 ^ 31) (hL0 : M 122 1 = nI L) (hL60 : L ≤ 60) (hx : ∀ i, i < L → M 123 i = nI (x i)) (hx2 : ∀ i, i < L → x i < 65536) (hd : 3 ≤ d) (hK : K (some (.int (nI (kf_cm x L + 1)))) (kg_w0 h) M) : ∀ m i : Nat, i + m = L → kg_P G d 19 3 129 129 K 4 [some (.ref 122), some (.int (nI (kf_cm x i + 1))), some (.int (nI i))] [] (kg_w0 h) M := by
  intro m
  induction m with
  | zero =>
    intro i hi
    obtain rfl : i = L := by omega
    refine kg_v19 hL (by omega) 40 ?_
    simp (disch := omega) only [kg_S1, kg_S2, kg_br_T, kg_br_F, kg_br_N, kg_br_t, kg_br_f, kg_at_n, nI_add, pk_mul, kg_sub_n, kg_rem_n, kg_eq_n, kg_lt_n, kg_le_n, kg_nz, kg_01_0, kg_01_1, kg_w0_1, kg_ret0, kg_ret1, kg_ret2, kg_wr_n, kg_wr_s, kg_Skd, kg_Smc, kg_Sob, kg_Srf, kg_Sld, kg_pad, List.map_cons, List.map_nil, List.length_cons, List.length_nil, List.replicate, List.cons_append, List.nil_append, List.append_nil, Nat.reduceAdd, Nat.reduceSub, Nat.reduceMul, Nat.reduceMod, Nat.reduceDiv, Nat.reduceLT, Nat.reduceLeDiff, Nat.reduceEqDiff, ne_eq, not_true_eq_false, not_false_eq_true, reduceIte, true_and, and_true, kg_lk19, kg_ls19, hL0]
    exact hK
  | succ m ih =>
    intro i hi
    have e1 := hx i (by omega)
    have e2 := hx2 i (by omega)
    have := ih (i + 1) (by omega)
    refine kg_v19 hL (by omega) 40 ?_
    by_cases q : x i = 44
    · rw [kf_cm, kf_ct_t (by simpa using q)] at this
      simp (disch := omega) only [kg_S1, kg_S2, kg_br_T, kg_br_F, kg_br_N, kg_br_t, kg_br_f, kg_at_n, nI_add, pk_mul, kg_sub_n, kg_rem_n, kg_eq_n, kg_lt_n, kg_le_n, kg_nz, kg_01_0, kg_01_1, kg_w0_1, kg_ret0, kg_ret1, kg_ret2, kg_wr_n, kg_wr_s, kg_Skd, kg_Smc, kg_Sob, kg_Srf, kg_Sld, kg_pad, List.map_cons, List.map_nil, List.length_cons, List.length_nil, List.replicate, List.cons_append, List.nil_append, List.append_nil, Nat.reduceAdd, Nat.reduceSub, Nat.reduceMul, Nat.reduceMod, Nat.reduceDiv, Nat.reduceLT, Nat.reduceLeDiff, Nat.reduceEqDiff, ne_eq, not_true_eq_false, not_false_eq_true, reduceIte, true_and, and_true, kg_lk19, kg_ls19, hL0, e1]
      exact this
    · rw [kf_cm, kf_ct_f (by simpa using q)] at this
      simp (disch := omega) only [kg_S1, kg_S2, kg_br_T, kg_br_F, kg_br_N, kg_br_t, kg_br_f, kg_at_n, nI_add, pk_mul, kg_sub_n, kg_rem_n, kg_eq_n, kg_lt_n, kg_le_n, kg_nz, kg_01_0, kg_01_1, kg_w0_1, kg_ret0, kg_ret1, kg_ret2, kg_wr_n, kg_wr_s, kg_Skd, kg_Smc, kg_Sob, kg_Srf, kg_Sld, kg_pad, List.map_cons, List.map_nil, List.length_cons, List.length_nil, List.replicate, List.cons_append, List.nil_append, List.append_nil, Nat.reduceAdd, Nat.reduceSub, Nat.reduceMul, Nat.reduceMod, Nat.reduceDiv, Nat.reduceLT, Nat.reduceLeDiff, Nat.reduceEqDiff, ne_eq, not_true_eq_false, not_false_eq_true, reduceIte, true_and, and_true, kg_lk19, kg_ls19, hL0, e1]
      exact this
theorem kc19 (hL : G.2.2.2.2.2.1 < 2 ^ 31) (hL0 : M 122 1 = nI L) (hL60 : L ≤ 60) (hx : ∀ i, i < L → M 123 i = nI (x i)) (hx2 : ∀ i, i < L → x i < 65536) (hd : 4 ≤ d) (hK : K (some (.int (nI (kf_cm x L + 1)))) (kg_w0 h) M) : kg_call G d 129 19 [.ref 122] (kg_w0 h) M K := by
  obtain ⟨d, rfl⟩ : ∃ e, d = e + 1 := ⟨d - 1, by omega⟩
  refine kg_m19 (by simp) (Nat.le_refl _) (kg_v19 hL (by omega) 40 ?_)
  simp (disch := omega) only [kg_S1, kg_S2, kg_br_T, kg_br_F, kg_br_N, kg_br_t, kg_br_f, kg_at_n, nI_add, pk_mul, kg_sub_n, kg_rem_n, kg_eq_n, kg_lt_n, kg_le_n, kg_nz, kg_01_0, kg_01_1, kg_w0_1, kg_ret0, kg_ret1, kg_ret2, kg_wr_n, kg_wr_s, kg_Skd, kg_Smc, kg_Sob, kg_Srf, kg_Sld, kg_pad, List.map_cons, List.map_nil, List.length_cons, List.length_nil, List.replicate, List.cons_append, List.nil_append, List.append_nil, Nat.reduceAdd, Nat.reduceSub, Nat.reduceMul, Nat.reduceMod, Nat.reduceDiv, Nat.reduceLT, Nat.reduceLeDiff, Nat.reduceEqDiff, ne_eq, not_true_eq_false, not_false_eq_true, reduceIte, true_and, and_true, kg_lk19, kg_ls19]
  exact kc19_l hL hL0 hL60 hx hx2 (by omega) hK L 0 (by omega)
end
