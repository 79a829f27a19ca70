/-! THE ROW of numbers, and how the class's rows stand to it -/
def kf_b (c : Bool) : Int32 := if c = true then nI 1 else nI 0
def kf_w (r : Nat → Int32) (n k : Nat) : Int32 := if n < 4 then r (27 + 40 * n + 5 * k) else r (187 + 3 * k)
def kf_v (r : Nat → Int32) (n k : Nat) : Int32 := if n < 4 then r (27 + 40 * n + 5 * k + 1) else r (187 + 3 * k + 1)
def kf_s (r : Nat → Int32) (n k : Nat) : Int32 := if n < 4 then r (27 + 40 * n + 5 * k + 2) else r (187 + 3 * k + 2)
def kf_t (r : Nat → Int32) (n k : Nat) : Int32 := r (27 + 40 * n + 5 * k + 3)
def kf_c (r : Nat → Int32) (n k : Nat) : Int32 := r (27 + 40 * n + 5 * k + 4)
def kf_pp (a b : Nat) : Nat := (if b < a then b else a) * 4 + (if a < b then b else a)
theorem kf_pp_lt {a b : Nat} (ha : a < 4) (hb : b < 4) : kf_pp a b < 16 := by
  unfold kf_pp
  split <;> split <;> omega
def kf_ct (P : Nat → Bool) : Nat → Nat
  | 0 => 0
  | n + 1 => kf_ct P n + if P n = true then 1 else 0
def kf_al (P : Nat → Bool) : Nat → Bool
  | 0 => true
  | n + 1 => kf_al P n && P n
def kf_gr (r : Nat → Int32) (n k : Nat) : Bool := decide (kf_w r n k = nI 2)
def kf_hn (r : Nat → Int32) (n k : Nat) : Bool := decide (kf_w r n k = nI 1) && decide (kf_w r 4 k = nI 2)
def kf_rp (r : Nat → Int32) (n k : Nat) : Bool := kf_gr r n k && decide (r 4 ≤ r 0 - kf_t r n k)
def kf_rs (r : Nat → Int32) (n : Nat) (x : Int32) : Bool := kf_al (fun m => decide (m = n) || decide (x < r (11 + 4 * n + m))) 4
def kf_cl (r : Nat → Int32) (n k : Nat) : Bool := kf_rp r n k && (decide (r 5 = nI 0) || kf_rs r n (kf_c r n k))
def kf_se (r : Nat → Int32) (k : Nat) (s : Int32) : Bool := kf_al (fun n => decide (s ≤ kf_s r n k)) 4
def kf_op (r : Nat → Int32) (n k : Nat) : Bool := kf_gr r n k && !(kf_se r k (kf_s r n k))
/-- what, value, stamp; the class's content -/
def kf_fact (wh v s c : Int32) : Prop := (wh = nI 0 ∧ s = nI 0) ∨ (∃ x y : Nat, wh = nI 1 ∧ s = nI x ∧ 0 < x ∧ x < 1048576 ∧ v = nI y ∧ y ≤ 99 ∧ c = v) ∨ (∃ x : Nat, wh = nI 2 ∧ s = nI x ∧ 0 < x ∧ x < 1048576 ∧ c = kg_n 1)
def kf_F (S C T L r : Nat → Int32) : Prop :=
  (∀ n k, n < 5 → k < 8 → S (n * 8 + k) = kf_s r n k ∧ kf_fact (kf_w r n k) (kf_v r n k) (kf_s r n k) (C (n * 8 + k))) ∧
  (∀ n k, n < 4 → k < 8 → kf_w r n k ≠ nI 0 → T (n * 8 + k) = kf_t r n k ∧ L (n * 8 + k) = kf_c r n k)
def kf_lm (x : Int32) : Int32 := if x = kg_n 5 then kg_n 1 else x
/-- latest repairs -/
def kf_LR (L r : Nat → Int32) : Prop := ∀ i j, i < j → j < 4 → L (i * 4 + j) = kf_lm (r (11 + 4 * i + j))
def kf_PL (z : Int32) (A B T r : Nat → Int32) : Prop := ∃ p : Nat, p ≤ 10 ∧ z = nI p ∧ r 211 = nI p ∧ ∀ i, i < p → A i = r (212 + 3 * i) ∧ B i = r (213 + 3 * i) ∧ T i = r (214 + 3 * i) ∧ ∃ a b : Nat, a < 4 ∧ b < 4 ∧ a ≠ b ∧ r (212 + 3 * i) = nI a ∧ r (213 + 3 * i) = nI b
def kf_EV (z nw : Int32) (N A T B C r : Nat → Int32) : Prop := ∃ p q : Nat, p ≤ 10 ∧ q < 10 ∧ z = nI p ∧ nw = nI q ∧ r 246 = nI p ∧ (∀ i, i < 4 → N i = r (242 + i)) ∧ ∀ i, i < p → A ((q + 10 - i) % 10) = r (247 + 4 * (p - 1 - i)) ∧ T ((q + 10 - i) % 10) = r (248 + 4 * (p - 1 - i)) ∧ B ((q + 10 - i) % 10) = r (249 + 4 * (p - 1 - i)) ∧ C ((q + 10 - i) % 10) = r (250 + 4 * (p - 1 - i))
/-- what is true of every row; at most c stamps were given -/
def kf_I (c : Nat) (r : Nat → Int32) : Prop :=
  (∃ t : Nat, t ≤ 99999 ∧ r 0 = nI t) ∧ (∃ s : Nat, s ≤ c ∧ r 1 = nI s ∧ ∀ n k, n < 5 → k < 8 → ∃ x : Nat, x ≤ s ∧ kf_s r n k = nI x) ∧
  (∃ a : Nat, 1 ≤ a ∧ a ≤ 4 ∧ r 2 = nI a) ∧ (∃ a : Nat, 1 ≤ a ∧ a ≤ 4 ∧ r 3 = nI a) ∧ (∃ a : Nat, 1 ≤ a ∧ a ≤ 500 ∧ r 4 = nI a) ∧ kg_01 (r 5) ∧ kg_01 (r 6) ∧ (∀ n, n < 4 → kg_01 (r (7 + n))) ∧
  (∀ n k, n < 4 → k < 8 → (∃ x : Nat, x ≤ 99999 ∧ kf_t r n k = nI x) ∧ ∃ x : Nat, x ≤ 99999 ∧ kf_c r n k = nI x) ∧
  (∀ i j, i < 4 → j < 4 → r (11 + 4 * i + j) = r (11 + 4 * j + i) ∧ (r (11 + 4 * i + j) = kg_n 5 ∨ ∃ x : Nat, x ≤ 99999 ∧ r (11 + 4 * i + j) = nI x))
/-- the state whose object is at place b says what the row r says -/
def kf_Rel (c : Nat) (M : kg_M) (b : Nat) (r : Nat → Int32) : Prop :=
  (M b 0 = r 0 ∧ M b 1 = r 1) ∧ (∀ i, i < 5 → M (b + 1) i = r (2 + i)) ∧ (∀ n, n < 4 → M (b + 2) n = r (7 + n)) ∧ kf_F (M (b + 4)) (M (b + 5)) (M (b + 6)) (M (b + 7)) r ∧ kf_LR (M (b + 8)) r ∧ kf_PL (M (b + 9) 0) (M (b + 10)) (M (b + 11)) (M (b + 12)) r ∧ kf_EV (M (b + 13) 0) (M (b + 13) 1) (M (b + 14)) (M (b + 15)) (M (b + 16)) (M (b + 17)) (M (b + 18)) r ∧ kf_I c r
theorem kf_toI {n : Nat} (h : n < 2147483648) : (nI n).toInt = (n : Int) := nI_toInt h
theorem kf_ne {n m : Nat} (h : n < 2147483648) (hm : 0 < m) (hm2 : m < 100000) : (nI n = kg_n m) = False := by
  refine propext ⟨fun e => ?_, False.elim⟩
  have h1 := congrArg Int32.toInt e
  rw [nI_toInt h] at h1
  have h2 : (kg_n m).toInt = -(m : Int) := by
    unfold kg_n
    rw [Int32.toInt_ofInt_of_le (by omega) (by omega)]
  omega
theorem kf_nI0 {c : Bool} : (kf_b c = nI 0) = (c = false) := by cases c <;> simp [kf_b] <;> decide
theorem kf_01b (c : Bool) : kg_01 (kf_b c) = True := by cases c <;> simp [kf_b, kg_01]
theorem kf_i4 (n : Nat) (x : Int32) (hn : n < 2147483648) (h : ∀ j, j < n → x ≠ nI j) : x < nI 0 ∨ nI n ≤ x := by
  rcases pk_ix x (n := n) hn with h1 | h1 | ⟨j, h1, h2⟩
  · exact Or.inl h1
  · exact Or.inr h1
  · exact absurd h2 (h j h1)
/-! LEAVES of the class -/
section
variable {G : kg_G} {d : Nat} {h : Nat → Nat} {M : kg_M} {K : kg_Qt}
theorem kc64 (hL : G.2.2.2.2.2.1 < 2 ^ 31) {n k : Nat} (hd : 2 ≤ d) (hK : K (some (.int (nI (n * 8 + k)))) (kg_w0 h) M) : kg_call G d 125 64 [.int (nI n), .int (nI k)] (kg_w0 h) M K := by
  obtain ⟨d, rfl⟩ : ∃ e, d = e + 1 := ⟨d - 1, by omega⟩
  refine kg_m64 (by simp) (Nat.le_refl _) (kg_v64 hL (by omega) 10 ?_)
  simp (disch := omega) only [kg_S1, kg_S2, kg_br_T, kg_br_F, kg_br_N, kg_br_t, kg_br_f, kg_at_n, nI_add, pk_mul, kg_sub_n, kg_rem_n, kg_eq_n, kg_lt_n, kg_le_n, kg_nz, kg_01_0, kg_01_1, kg_w0_1, kg_ret0, kg_ret1, kg_ret2, kg_wr_n, kg_wr_s, kg_Skd, kg_Smc, kg_Sob, kg_Srf, kg_Sld, kg_pad, List.map_cons, List.map_nil, List.length_cons, List.length_nil, List.replicate, List.cons_append, List.nil_append, List.append_nil, Nat.reduceAdd, Nat.reduceSub, Nat.reduceMul, Nat.reduceMod, Nat.reduceDiv, Nat.reduceLT, Nat.reduceLeDiff, Nat.reduceEqDiff, ne_eq, not_true_eq_false, not_false_eq_true, reduceIte, true_and, and_true, kg_lk64, kg_ls64]
  exact hK
theorem kc61 (hL : G.2.2.2.2.2.1 < 2 ^ 31) {n : Nat} (hd : 2 ≤ d) (hn : n < 4) (hK : K (some (.int (nI 1))) (kg_w0 h) M) : kg_call G d 125 61 [.int (nI n)] (kg_w0 h) M K := by
  obtain ⟨d, rfl⟩ : ∃ e, d = e + 1 := ⟨d - 1, by omega⟩
  refine kg_m61 (by simp) (Nat.le_refl _) (kg_v61 hL (by omega) 10 ?_)
  simp (disch := omega) only [kg_S1, kg_S2, kg_br_T, kg_br_F, kg_br_N, kg_br_t, kg_br_f, kg_at_n, nI_add, pk_mul, kg_sub_n, kg_rem_n, kg_eq_n, kg_lt_n, kg_le_n, kg_nz, kg_01_0, kg_01_1, kg_w0_1, kg_ret0, kg_ret1, kg_ret2, kg_wr_n, kg_wr_s, kg_Skd, kg_Smc, kg_Sob, kg_Srf, kg_Sld, kg_pad, List.map_cons, List.map_nil, List.length_cons, List.length_nil, List.replicate, List.cons_append, List.nil_append, List.append_nil, Nat.reduceAdd, Nat.reduceSub, Nat.reduceMul, Nat.reduceMod, Nat.reduceDiv, Nat.reduceLT, Nat.reduceLeDiff, Nat.reduceEqDiff, ne_eq, not_true_eq_false, not_false_eq_true, reduceIte, true_and, and_true, kg_lk61, kg_ls61]
  exact hK
theorem kc61b (hL : G.2.2.2.2.2.1 < 2 ^ 31) {x : Int32} (hd : 2 ≤ d) (hn : ∀ j, j < 4 → x ≠ nI j) (hK : K (some (.int (nI 0))) (kg_w0 h) M) : kg_call G d 125 61 [.int x] (kg_w0 h) M K := by
  obtain ⟨d, rfl⟩ : ∃ e, d = e + 1 := ⟨d - 1, by omega⟩
  refine kg_m61 (by simp) (Nat.le_refl _) (kg_v61 hL (by omega) 10 ?_)
  simp (disch := omega) only [kg_S1, kg_S2, kg_br_T, kg_br_F, kg_br_N, kg_br_t, kg_br_f, kg_at_n, nI_add, pk_mul, kg_sub_n, kg_rem_n, kg_eq_n, kg_lt_n, kg_le_n, kg_nz, kg_01_0, kg_01_1, kg_w0_1, kg_ret0, kg_ret1, kg_ret2, kg_wr_n, kg_wr_s, kg_Skd, kg_Smc, kg_Sob, kg_Srf, kg_Sld, kg_pad, List.map_cons, List.map_nil, List.length_cons, List.length_nil, List.replicate, List.cons_append, List.nil_append, List.append_nil, Nat.reduceAdd, Nat.reduceSub, Nat.reduceMul, Nat.reduceMod, Nat.reduceDiv, Nat.reduceLT, Nat.reduceLeDiff, Nat.reduceEqDiff, ne_eq, not_true_eq_false, not_false_eq_true, reduceIte, true_and, and_true, kg_lk61, kg_ls61]
  rcases kf_i4 4 x (by omega) hn with q | q
  · simp only [q, kg_br_T]; exact hK
  · exact kg_br_i (fun _ => hK) (fun _ => by simp only [q, kg_br_T]; exact hK)
theorem kc63 (hL : G.2.2.2.2.2.1 < 2 ^ 31) {n : Nat} (hd : 2 ≤ d) (hn : n < 8) (hK : K (some (.int (nI 1))) (kg_w0 h) M) : kg_call G d 125 63 [.int (nI n)] (kg_w0 h) M K := by
  obtain ⟨d, rfl⟩ : ∃ e, d = e + 1 := ⟨d - 1, by omega⟩
  refine kg_m63 (by simp) (Nat.le_refl _) (kg_v63 hL (by omega) 10 ?_)
  simp (disch := omega) only [kg_S1, kg_S2, kg_br_T, kg_br_F, kg_br_N, kg_br_t, kg_br_f, kg_at_n, nI_add, pk_mul, kg_sub_n, kg_rem_n, kg_eq_n, kg_lt_n, kg_le_n, kg_nz, kg_01_0, kg_01_1, kg_w0_1, kg_ret0, kg_ret1, kg_ret2, kg_wr_n, kg_wr_s, kg_Skd, kg_Smc, kg_Sob, kg_Srf, kg_Sld, kg_pad, List.map_cons, List.map_nil, List.length_cons, List.length_nil, List.replicate, List.cons_append, List.nil_append, List.append_nil, Nat.reduceAdd, Nat.reduceSub, Nat.reduceMul, Nat.reduceMod, Nat.reduceDiv, Nat.reduceLT, Nat.reduceLeDiff, Nat.reduceEqDiff, ne_eq, not_true_eq_false, not_false_eq_true, reduceIte, true_and, and_true, kg_lk63, kg_ls63]
  exact hK
theorem kc63b (hL : G.2.2.2.2.2.1 < 2 ^ 31) {x : Int32} (hd : 2 ≤ d) (hn : ∀ j, j < 8 → x ≠ nI j) (hK : K (some (.int (nI 0))) (kg_w0 h) M) : kg_call G d 125 63 [.int x] (kg_w0 h) M K := by
  obtain ⟨d, rfl⟩ : ∃ e, d = e + 1 := ⟨d - 1, by omega⟩
  refine kg_m63 (by simp) (Nat.le_refl _) (kg_v63 hL (by omega) 10 ?_)
  simp (disch := omega) only [kg_S1, kg_S2, kg_br_T, kg_br_F, kg_br_N, kg_br_t, kg_br_f, kg_at_n, nI_add, pk_mul, kg_sub_n, kg_rem_n, kg_eq_n, kg_lt_n, kg_le_n, kg_nz, kg_01_0, kg_01_1, kg_w0_1, kg_ret0, kg_ret1, kg_ret2, kg_wr_n, kg_wr_s, kg_Skd, kg_Smc, kg_Sob, kg_Srf, kg_Sld, kg_pad, List.map_cons, List.map_nil, List.length_cons, List.length_nil, List.replicate, List.cons_append, List.nil_append, List.append_nil, Nat.reduceAdd, Nat.reduceSub, Nat.reduceMul, Nat.reduceMod, Nat.reduceDiv, Nat.reduceLT, Nat.reduceLeDiff, Nat.reduceEqDiff, ne_eq, not_true_eq_false, not_false_eq_true, reduceIte, true_and, and_true, kg_lk63, kg_ls63]
  rcases kf_i4 8 x (by omega) hn with q | q
  · simp only [q, kg_br_T]; exact hK
  · exact kg_br_i (fun _ => hK) (fun _ => by simp only [q, kg_br_T]; exact hK)
theorem kc58 (hL : G.2.2.2.2.2.1 < 2 ^ 31) {n : Nat} (hd : 2 ≤ d) (hn : n < 5) (hK : K (some (.int (nI 1))) (kg_w0 h) M) : kg_call G d 125 58 [.int (nI n)] (kg_w0 h) M K := by
  obtain ⟨d, rfl⟩ : ∃ e, d = e + 1 := ⟨d - 1, by omega⟩
  refine kg_m58 (by simp) (Nat.le_refl _) (kg_v58 hL (by omega) 10 ?_)
  simp (disch := omega) only [kg_S1, kg_S2, kg_br_T, kg_br_F, kg_br_N, kg_br_t, kg_br_f, kg_at_n, nI_add, pk_mul, kg_sub_n, kg_rem_n, kg_eq_n, kg_lt_n, kg_le_n, kg_nz, kg_01_0, kg_01_1, kg_w0_1, kg_ret0, kg_ret1, kg_ret2, kg_wr_n, kg_wr_s, kg_Skd, kg_Smc, kg_Sob, kg_Srf, kg_Sld, kg_pad, List.map_cons, List.map_nil, List.length_cons, List.length_nil, List.replicate, List.cons_append, List.nil_append, List.append_nil, Nat.reduceAdd, Nat.reduceSub, Nat.reduceMul, Nat.reduceMod, Nat.reduceDiv, Nat.reduceLT, Nat.reduceLeDiff, Nat.reduceEqDiff, ne_eq, not_true_eq_false, not_false_eq_true, reduceIte, true_and, and_true, kg_lk58, kg_ls58]
  exact hK
theorem kc58b (hL : G.2.2.2.2.2.1 < 2 ^ 31) {x : Int32} (hd : 2 ≤ d) (hn : ∀ j, j < 5 → x ≠ nI j) (hK : K (some (.int (nI 0))) (kg_w0 h) M) : kg_call G d 125 58 [.int x] (kg_w0 h) M K := by
  obtain ⟨d, rfl⟩ : ∃ e, d = e + 1 := ⟨d - 1, by omega⟩
  refine kg_m58 (by simp) (Nat.le_refl _) (kg_v58 hL (by omega) 10 ?_)
  simp (disch := omega) only [kg_S1, kg_S2, kg_br_T, kg_br_F, kg_br_N, kg_br_t, kg_br_f, kg_at_n, nI_add, pk_mul, kg_sub_n, kg_rem_n, kg_eq_n, kg_lt_n, kg_le_n, kg_nz, kg_01_0, kg_01_1, kg_w0_1, kg_ret0, kg_ret1, kg_ret2, kg_wr_n, kg_wr_s, kg_Skd, kg_Smc, kg_Sob, kg_Srf, kg_Sld, kg_pad, List.map_cons, List.map_nil, List.length_cons, List.length_nil, List.replicate, List.cons_append, List.nil_append, List.append_nil, Nat.reduceAdd, Nat.reduceSub, Nat.reduceMul, Nat.reduceMod, Nat.reduceDiv, Nat.reduceLT, Nat.reduceLeDiff, Nat.reduceEqDiff, ne_eq, not_true_eq_false, not_false_eq_true, reduceIte, true_and, and_true, kg_lk58, kg_ls58]
  rcases kf_i4 5 x (by omega) hn with q | q
  · simp only [q, kg_br_T]; exact hK
  · exact kg_br_i (fun _ => hK) (fun _ => by simp only [q, kg_br_T]; exact hK)
theorem kc68 (hL : G.2.2.2.2.2.1 < 2 ^ 31) {a b : Nat} (hd : 2 ≤ d) (ha : a < 4) (hb : b < 4) (hK : K (some (.int (nI (kf_pp a b)))) (kg_w0 h) M) : kg_call G d 125 68 [.int (nI a), .int (nI b)] (kg_w0 h) M K := by
  obtain ⟨d, rfl⟩ : ∃ e, d = e + 1 := ⟨d - 1, by omega⟩
  refine kg_m68 (by simp) (Nat.le_refl _) (kg_v68 hL (by omega) 12 ?_)
  simp (disch := omega) only [kg_S1, kg_S2, kg_br_T, kg_br_F, kg_br_N, kg_br_t, kg_br_f, kg_at_n, nI_add, pk_mul, kg_sub_n, kg_rem_n, kg_eq_n, kg_lt_n, kg_le_n, kg_nz, kg_01_0, kg_01_1, kg_w0_1, kg_ret0, kg_ret1, kg_ret2, kg_wr_n, kg_wr_s, kg_Skd, kg_Smc, kg_Sob, kg_Srf, kg_Sld, kg_pad, List.map_cons, List.map_nil, List.length_cons, List.length_nil, List.replicate, List.cons_append, List.nil_append, List.append_nil, Nat.reduceAdd, Nat.reduceSub, Nat.reduceMul, Nat.reduceMod, Nat.reduceDiv, Nat.reduceLT, Nat.reduceLeDiff, Nat.reduceEqDiff, ne_eq, not_true_eq_false, not_false_eq_true, reduceIte, true_and, and_true, kg_lk68, kg_ls68]
  rcases Nat.lt_trichotomy a b with q | rfl | q
  · simp only [kf_pp, q, reduceIte, Nat.lt_asymm q, nI_add, pk_mul] at hK ⊢; exact hK
  · simp only [kf_pp, Nat.lt_irrefl, reduceIte, nI_add, pk_mul] at hK ⊢; exact hK
  · simp only [kf_pp, q, reduceIte, Nat.lt_asymm q, nI_add, pk_mul] at hK ⊢; exact hK
theorem kc7 (hL : G.2.2.2.2.2.1 < 2 ^ 31) {p : Nat} {wh v s : Int32} (hd : 2 ≤ d) (hp : p < 40) (hS : M 5 p = s) (hf : kf_fact wh v s (M 6 p)) (hK : K (some (.int wh)) (kg_w0 h) M) : kg_call G d 125 7 [.ref 4, .int (nI p)] (kg_w0 h) M K := by
  obtain ⟨d, rfl⟩ : ∃ e, d = e + 1 := ⟨d - 1, by omega⟩
  refine kg_m7 (by simp) (Nat.le_refl _) (kg_v7 hL (by omega) 20 ?_)
  simp (disch := omega) only [kg_S1, kg_S2, kg_br_T, kg_br_F, kg_br_N, kg_br_t, kg_br_f, kg_at_n, nI_add, pk_mul, kg_sub_n, kg_rem_n, kg_eq_n, kg_lt_n, kg_le_n, kg_nz, kg_01_0, kg_01_1, kg_w0_1, kg_ret0, kg_ret1, kg_ret2, kg_wr_n, kg_wr_s, kg_Skd, kg_Smc, kg_Sob, kg_Srf, kg_Sld, kg_pad, List.map_cons, List.map_nil, List.length_cons, List.length_nil, List.replicate, List.cons_append, List.nil_append, List.append_nil, Nat.reduceAdd, Nat.reduceSub, Nat.reduceMul, Nat.reduceMod, Nat.reduceDiv, Nat.reduceLT, Nat.reduceLeDiff, Nat.reduceEqDiff, ne_eq, not_true_eq_false, not_false_eq_true, reduceIte, true_and, and_true, kg_lk7, kg_ls7]
  rcases hf with ⟨rfl, e⟩ | ⟨x, y, rfl, e, h0, h1, e2, h2, e3⟩ | ⟨x, rfl, e, h0, h1, e2⟩
  · simp only [hS, e, kg_br_T]
    exact hK
  · simp (disch := omega) only [hS, e, e3, e2, kg_eq_n, kf_ne, kg_br_f, kg_br_F]
    exact hK
  · simp (disch := omega) only [hS, e, e2, kg_eq_n, kg_br_f, kg_br_T]
    exact hK
theorem kc9 (hL : G.2.2.2.2.2.1 < 2 ^ 31) {p : Nat} {wh v s : Int32} (hd : 3 ≤ d) (hp : p < 40) (hS : M 5 p = s) (hf : kf_fact wh v s (M 6 p)) (hK : K (some (.int (if wh = nI 1 then v else kg_n 5))) (kg_w0 h) M) : kg_call G d 125 9 [.ref 4, .int (nI p)] (kg_w0 h) M K := by
  obtain ⟨d, rfl⟩ : ∃ e, d = e + 1 := ⟨d - 1, by omega⟩
  refine kg_m9 (by simp) (Nat.le_refl _) (kg_v9 hL (by omega) 20 ?_)
  simp (disch := omega) only [kg_S1, kg_S2, kg_br_T, kg_br_F, kg_br_N, kg_br_t, kg_br_f, kg_at_n, nI_add, pk_mul, kg_sub_n, kg_rem_n, kg_eq_n, kg_lt_n, kg_le_n, kg_nz, kg_01_0, kg_01_1, kg_w0_1, kg_ret0, kg_ret1, kg_ret2, kg_wr_n, kg_wr_s, kg_Skd, kg_Smc, kg_Sob, kg_Srf, kg_Sld, kg_pad, List.map_cons, List.map_nil, List.length_cons, List.length_nil, List.replicate, List.cons_append, List.nil_append, List.append_nil, Nat.reduceAdd, Nat.reduceSub, Nat.reduceMul, Nat.reduceMod, Nat.reduceDiv, Nat.reduceLT, Nat.reduceLeDiff, Nat.reduceEqDiff, ne_eq, not_true_eq_false, not_false_eq_true, reduceIte, true_and, and_true, kg_lk9, kg_ls9]
  refine kc7 hL (by omega) hp hS hf ?_
  simp (disch := omega) only [kg_S1, kg_S2, kg_br_T, kg_br_F, kg_br_N, kg_br_t, kg_br_f, kg_at_n, nI_add, pk_mul, kg_sub_n, kg_rem_n, kg_eq_n, kg_lt_n, kg_le_n, kg_nz, kg_01_0, kg_01_1, kg_w0_1, kg_ret0, kg_ret1, kg_ret2, kg_wr_n, kg_wr_s, kg_Skd, kg_Smc, kg_Sob, kg_Srf, kg_Sld, kg_pad, List.map_cons, List.map_nil, List.length_cons, List.length_nil, List.replicate, List.cons_append, List.nil_append, List.append_nil, Nat.reduceAdd, Nat.reduceSub, Nat.reduceMul, Nat.reduceMod, Nat.reduceDiv, Nat.reduceLT, Nat.reduceLeDiff, Nat.reduceEqDiff, ne_eq, not_true_eq_false, not_false_eq_true, reduceIte, true_and, and_true, kg_lk9, kg_ls9]
  rcases hf with ⟨rfl, e⟩ | ⟨x, y, rfl, e, h0, h1, e2, h2, e3⟩ | ⟨x, rfl, e, h0, h1, e2⟩
  · simp (disch := omega) only [kg_eq_n, kg_br_T, kg_br_F, Nat.reduceEqDiff, reduceIte] at hK ⊢
    exact hK
  · simp (disch := omega) only [e3, kg_eq_n, kg_br_T, kg_br_F, Nat.reduceEqDiff, reduceIte] at hK ⊢
    exact hK
  · simp (disch := omega) only [kg_eq_n, kg_br_T, kg_br_F, Nat.reduceEqDiff, reduceIte] at hK ⊢
    exact hK
end
