/-! the model's whole state, know, set, setUp -/
def kf_D (M : kg_M) (A : kf_A) : Prop :=
  (∀ i, i < 287 → M 125 i = A.1 i) ∧ (A.2.1 ≤ 4 ∧ M 124 2 = nI A.2.1 ∧ ∀ j, j < A.2.1 → ∀ i, i < 287 → M 126 (287 * j + i) = A.2.2.1 j i) ∧ (M 124 4 = kf_b A.2.2.2.1 ∧ (A.2.2.2.1 = true → ∀ i, i < 287 → M 127 i = A.2.2.2.2.1 i)) ∧ A.2.2.2.2.2.1 ≤ 60 ∧ M 124 6 = nI A.2.2.2.2.2.1 ∧ ∀ i, i < A.2.2.2.2.2.1 → M 128 i = A.2.2.2.2.2.2 i ∧ ∃ z, z < 65536 ∧ A.2.2.2.2.2.2 i = nI z
/-- the rows of a state, as the model reads them -/
def kf_J (c : Nat) (r : Nat → Int32) : Prop := kf_IE c r ∧ ∃ p : Nat, p ≤ 10 ∧ r 211 = nI p ∧ ∀ i, i < p → ∃ a b : Nat, a < 4 ∧ b < 4 ∧ a ≠ b ∧ r (212 + 3 * i) = nI a ∧ r (213 + 3 * i) = nI b
theorem kf_J_R {c b : Nat} {M : kg_M} {r : Nat → Int32} (hR : kf_Rel c M b r) : kf_J c r := by
  obtain ⟨-, -, -, -, -, ⟨p, h1, -, h3, h4⟩, ⟨q, -, h5, -, -, -, h6, -⟩, h8⟩ := hR
  exact ⟨⟨h8, q, h5, h6⟩, p, h1, h3, fun i hi => (h4 i hi).2.2.2⟩
theorem kf_D_sr {M : kg_M} {A : kf_A} {r : Nat → Int32} (hD : kf_D M A) : kf_D (kg_row M 125 r) (kf_sr A r) := by
  obtain ⟨-, ⟨a2, a3, a4⟩, ⟨a5, a6⟩, a7, a8, a9⟩ := hD
  refine ⟨fun i hi => by rw [kw_s]; rfl, ⟨a2, ?_, fun j hj i hi => ?_⟩, ⟨?_, fun e i hi => ?_⟩, a7, ?_, fun i hi => ?_⟩
  · rw [kw_n (by omega)]; exact a3
  · rw [kw_n (by omega)]; exact a4 j hj i hi
  · rw [kw_n (by omega)]; exact a5
  · rw [kw_n (by omega)]; exact a6 e i hi
  · rw [kw_n (by omega)]; exact a8
  · rw [kw_n (by omega)]; exact a9 i hi
def kf_sk (b : Nat → Int32) (k : Nat) : Nat → Int32 := fun i => if i < k then b (287 + i) else b i
theorem kf_sk_s (b : Nat → Int32) (k : Nat) : upd (kf_sk b k) k (kf_sk b k (287 + k)) = kf_sk b (k + 1) := by
  funext i
  by_cases e : i = k
  · subst e
    rw [ku_s, kf_sk, if_neg (by omega), kf_sk, if_pos (by omega)]
  · rw [ku_n e]
    simp only [kf_sk]
    by_cases e2 : i < k
    · rw [if_pos e2, if_pos (by omega)]
    · rw [if_neg e2, if_neg (by omega)]
theorem kf_sk_z (b : Nat → Int32) : kf_sk b 0 = b := by
  funext i
  rw [kf_sk, if_neg (by omega)]
def kf_ch (b s : Nat → Int32) (q k : Nat) : Nat → Int32 := fun i => if 287 * q ≤ i ∧ i < 287 * q + k then s (i - 287 * q) else b i
theorem kf_ch_s (b s : Nat → Int32) (q k : Nat) : upd (kf_ch b s q k) (287 * q + k) (s k) = kf_ch b s q (k + 1) := by
  funext i
  by_cases e : i = 287 * q + k
  · subst e
    rw [ku_s, kf_ch, if_pos (by omega)]
    exact congrArg s (by omega)
  · rw [ku_n e]
    simp only [kf_ch]
    by_cases e2 : 287 * q ≤ i ∧ i < 287 * q + k
    · rw [if_pos e2, if_pos (by omega)]
    · rw [if_neg e2, if_neg (by omega)]
theorem kf_ch_z (b s : Nat → Int32) (q : Nat) : kf_ch b s q 0 = b := by
  funext i
  rw [kf_ch, if_neg (by omega)]
section
variable {G : kg_G} {d c : Nat} {h : Nat → Nat} {A : kf_A} {M : kg_M} {K : kg_Qt} {r : Nat → Int32}

set_option maxRecDepth 100000 in
theorem kc91_2 (hL : G.2.2.2.2.2.1 < 2 ^ 31) {q : Nat} {b : Nat → Int32} (hq : q < 4) (e : M 124 2 = nI q) (hd : 1 ≤ d) (hK : K none (kg_w0 h) (kg_row (kg_wr M 124 2 (nI (q + 1))) 126 (kf_ch b (M 125) q 287))) : ∀ m k : Nat, k + m = 287 → kg_P G d 91 2 129 129 K 51 [some (.ref 124), some (.int (nI k))] [] (kg_w0 h) (kg_row M 126 (kf_ch b (M 125) q k)) := by
  intro m
  induction m with
  | zero =>
    intro k hk
    obtain rfl : k = 287 := by omega
    refine kg_v91 hL (by omega) 60 ?_
    simp (disch := omega) only [kg_S1, kg_S2, kg_br_T, kg_br_F, kg_br_N, kg_br_t, kg_br_f, kg_at_n, nI_add, pk_mul, kg_sub_n, kg_rem_n, kg_eq_n, kg_lt_n, kg_le_n, kg_nz, kg_01_0, kg_01_1, kg_w0_1, kg_ret0, kg_ret1, kg_ret2, kg_wr_n, kg_Skd, kg_Smc, kg_Sob, kg_Srf, kg_Sld, kg_pad, List.map_cons, List.map_nil, List.length_cons, List.length_nil, List.replicate, List.cons_append, List.nil_append, List.append_nil, Nat.reduceAdd, Nat.reduceSub, Nat.reduceMul, Nat.reduceMod, Nat.reduceDiv, Nat.reduceLT, Nat.reduceLeDiff, Nat.reduceEqDiff, ne_eq, not_true_eq_false, not_false_eq_true, reduceIte, true_and, and_true, kw_n, kw_s, kw_w, kw_o, kw_ws, kw_wn, ku_s, ku_n, kg_lk91, kg_ls91, e]
    exact hK
  | succ m ih =>
    intro k hk
    have := ih (k + 1) (by omega)
    rw [← kf_ch_s] at this
    refine kg_v91 hL (by omega) 60 ?_
    simp (disch := omega) only [kg_S1, kg_S2, kg_br_T, kg_br_F, kg_br_N, kg_br_t, kg_br_f, kg_at_n, nI_add, pk_mul, kg_sub_n, kg_rem_n, kg_eq_n, kg_lt_n, kg_le_n, kg_nz, kg_01_0, kg_01_1, kg_w0_1, kg_ret0, kg_ret1, kg_ret2, kg_wr_n, kg_Skd, kg_Smc, kg_Sob, kg_Srf, kg_Sld, kg_pad, List.map_cons, List.map_nil, List.length_cons, List.length_nil, List.replicate, List.cons_append, List.nil_append, List.append_nil, Nat.reduceAdd, Nat.reduceSub, Nat.reduceMul, Nat.reduceMod, Nat.reduceDiv, Nat.reduceLT, Nat.reduceLeDiff, Nat.reduceEqDiff, ne_eq, not_true_eq_false, not_false_eq_true, reduceIte, true_and, and_true, kw_n, kw_s, kw_w, kw_o, kw_ws, kw_wn, ku_s, ku_n, kg_lk91, kg_ls91, e]
    exact this
set_option maxRecDepth 100000 in
theorem kc91_3 (hL : G.2.2.2.2.2.1 < 2 ^ 31) {b : Nat → Int32} (e : M 124 2 = nI 4) (hd : 1 ≤ d) (hK : K none (kg_w0 h) (kg_row (kg_wr (kg_wr M 124 2 (nI 3)) 124 2 (nI (3 + 1))) 126 (kf_ch (kf_sk b 861) (M 125) 3 287))) : ∀ m k : Nat, k + m = 861 → kg_P G d 91 2 129 129 K 10 [some (.ref 124), some (.int (nI k))] [] (kg_w0 h) (kg_row M 126 (kf_sk b k)) := by
  intro m
  induction m with
  | zero =>
    intro k hk
    obtain rfl : k = 861 := by omega
    refine kg_v91 hL (by omega) 60 ?_
    simp (disch := omega) only [kg_S1, kg_S2, kg_br_T, kg_br_F, kg_br_N, kg_br_t, kg_br_f, kg_at_n, nI_add, pk_mul, kg_sub_n, kg_rem_n, kg_eq_n, kg_lt_n, kg_le_n, kg_nz, kg_01_0, kg_01_1, kg_w0_1, kg_ret0, kg_ret1, kg_ret2, kg_wr_n, kg_Skd, kg_Smc, kg_Sob, kg_Srf, kg_Sld, kg_pad, List.map_cons, List.map_nil, List.length_cons, List.length_nil, List.replicate, List.cons_append, List.nil_append, List.append_nil, Nat.reduceAdd, Nat.reduceSub, Nat.reduceMul, Nat.reduceMod, Nat.reduceDiv, Nat.reduceLT, Nat.reduceLeDiff, Nat.reduceEqDiff, ne_eq, not_true_eq_false, not_false_eq_true, reduceIte, true_and, and_true, kw_n, kw_s, kw_w, kw_o, kw_ws, kw_wn, ku_s, ku_n, kg_lk91, kg_ls91, e]
    have e3 : kg_wr M 124 2 (nI 3) 125 = M 125 := kg_wr_n (by omega)
    have := kc91_2 (M := kg_wr M 124 2 (nI 3)) (b := kf_sk b 861) (q := 3) (K := K) (h := h) hL (by omega) (by rw [kg_wr_s, if_pos rfl]) hd (by rw [e3]; exact hK) 287 0 rfl
    rw [kf_ch_z] at this
    exact this
  | succ m ih =>
    intro k hk
    have := ih (k + 1) (by omega)
    rw [← kf_sk_s] at this
    refine kg_v91 hL (by omega) 60 ?_
    simp (disch := omega) only [kg_S1, kg_S2, kg_br_T, kg_br_F, kg_br_N, kg_br_t, kg_br_f, kg_at_n, nI_add, pk_mul, kg_sub_n, kg_rem_n, kg_eq_n, kg_lt_n, kg_le_n, kg_nz, kg_01_0, kg_01_1, kg_w0_1, kg_ret0, kg_ret1, kg_ret2, kg_wr_n, kg_Skd, kg_Smc, kg_Sob, kg_Srf, kg_Sld, kg_pad, List.map_cons, List.map_nil, List.length_cons, List.length_nil, List.replicate, List.cons_append, List.nil_append, List.append_nil, Nat.reduceAdd, Nat.reduceSub, Nat.reduceMul, Nat.reduceMod, Nat.reduceDiv, Nat.reduceLT, Nat.reduceLeDiff, Nat.reduceEqDiff, ne_eq, not_true_eq_false, not_false_eq_true, reduceIte, true_and, and_true, kw_n, kw_s, kw_w, kw_o, kw_ws, kw_wn, ku_s, ku_n, kg_lk91, kg_ls91, e]
    exact this
set_option maxRecDepth 100000 in
theorem kc91 (hL : G.2.2.2.2.2.1 < 2 ^ 31) (hD : kf_D M A) (hd : 2 ≤ d) (hK : ∀ M' : kg_M, kf_D M' (kf_rec A) → M' 125 = M 125 → (∀ p, p < 124 → M' p = M p) → K none (kg_w0 h) M') : kg_call G d 129 91 [.ref 124] (kg_w0 h) M K := by
  obtain ⟨a1, ⟨a2, a3, a4⟩, ⟨a5, a6⟩, a7, a8, a9⟩ := hD
  obtain ⟨d, rfl⟩ : ∃ e, d = e + 1 := ⟨d - 1, by omega⟩
  refine kg_m91 (by simp) (Nat.le_refl _) (kg_v91 hL (by omega) 60 ?_)
  by_cases q : A.2.1 = 4
  · rw [q] at a3
    simp (disch := omega) only [kg_S1, kg_S2, kg_br_T, kg_br_F, kg_br_N, kg_br_t, kg_br_f, kg_at_n, nI_add, pk_mul, kg_sub_n, kg_rem_n, kg_eq_n, kg_lt_n, kg_le_n, kg_nz, kg_01_0, kg_01_1, kg_w0_1, kg_ret0, kg_ret1, kg_ret2, kg_wr_n, kg_wr_s, kg_Skd, kg_Smc, kg_Sob, kg_Srf, kg_Sld, kg_pad, List.map_cons, List.map_nil, List.length_cons, List.length_nil, List.replicate, List.cons_append, List.nil_append, List.append_nil, Nat.reduceAdd, Nat.reduceSub, Nat.reduceMul, Nat.reduceMod, Nat.reduceDiv, Nat.reduceLT, Nat.reduceLeDiff, Nat.reduceEqDiff, ne_eq, not_true_eq_false, not_false_eq_true, reduceIte, true_and, and_true, kg_lk91, kg_ls91, a3]
    have := kc91_3 (M := M) (b := M 126) (K := K) (h := h) hL a3 (by omega) (hK _ ?_ ?_ ?_) 861 0 rfl (d := d)
    · rw [kf_sk_z, kw_i] at this
      exact this
    · refine ⟨fun i hi => ?_, ⟨?_, ?_, fun j hj i hi => ?_⟩, ⟨?_, fun e i hi => ?_⟩, a7, ?_, fun i hi => ?_⟩
      · rw [kw_n (by omega), kg_wr_n (by omega), kg_wr_n (by omega)]; exact a1 i hi
      · show kf_n A.2.1 ≤ 4
        unfold kf_n; split <;> omega
      · show _ = nI (kf_n A.2.1)
        rw [kw_n (by omega), kg_wr_s, if_pos rfl, q]; rfl
      · change j < kf_n A.2.1 at hj
        rw [q, kf_n, if_neg (by omega)] at hj
        show _ = kf_R A.2.1 A.2.2.1 A.1 j i
        rw [q, kf_R, if_neg (by omega), kw_s]
        by_cases e3 : j = 3
        · subst e3
          rw [if_pos rfl, kf_ch, if_pos (by omega), ← a1 i hi]
          exact congrArg _ (by omega)
        · rw [if_neg e3, kf_ch, if_neg (by omega), kf_sk, if_pos (by omega), ← a4 (j + 1) (by omega) i hi]
          exact congrArg _ (by omega)
      · rw [kw_n (by omega), kg_wr_s, if_neg (by omega), kg_wr_s, if_neg (by omega)]; exact a5
      · rw [kw_n (by omega), kg_wr_n (by omega), kg_wr_n (by omega)]; exact a6 e i hi
      · rw [kw_n (by omega), kg_wr_s, if_neg (by omega), kg_wr_s, if_neg (by omega)]; exact a8
      · rw [kw_n (by omega), kg_wr_n (by omega), kg_wr_n (by omega)]; exact a9 i hi
    · rw [kw_n (by omega), kg_wr_n (by omega), kg_wr_n (by omega)]
    · intro p hp
      rw [kw_n (by omega), kg_wr_n (by omega), kg_wr_n (by omega)]
  · simp (disch := omega) only [kg_S1, kg_S2, kg_br_T, kg_br_F, kg_br_N, kg_br_t, kg_br_f, kg_at_n, nI_add, pk_mul, kg_sub_n, kg_rem_n, kg_eq_n, kg_lt_n, kg_le_n, kg_nz, kg_01_0, kg_01_1, kg_w0_1, kg_ret0, kg_ret1, kg_ret2, kg_wr_n, kg_wr_s, kg_Skd, kg_Smc, kg_Sob, kg_Srf, kg_Sld, kg_pad, List.map_cons, List.map_nil, List.length_cons, List.length_nil, List.replicate, List.cons_append, List.nil_append, List.append_nil, Nat.reduceAdd, Nat.reduceSub, Nat.reduceMul, Nat.reduceMod, Nat.reduceDiv, Nat.reduceLT, Nat.reduceLeDiff, Nat.reduceEqDiff, ne_eq, not_true_eq_false, not_false_eq_true, reduceIte, true_and, and_true, kg_lk91, kg_ls91, a3]
    have := kc91_2 (M := M) (b := M 126) (K := K) (h := h) hL (show A.2.1 < 4 by omega) a3 (by omega) (hK _ ?_ ?_ ?_) 287 0 rfl (d := d)
    · rw [kf_ch_z, kw_i] at this
      exact this
    · refine ⟨fun i hi => ?_, ⟨?_, ?_, fun j hj i hi => ?_⟩, ⟨?_, fun e i hi => ?_⟩, a7, ?_, fun i hi => ?_⟩
      · rw [kw_n (by omega), kg_wr_n (by omega)]; exact a1 i hi
      · show kf_n A.2.1 ≤ 4
        unfold kf_n; split <;> omega
      · show _ = nI (kf_n A.2.1)
        rw [kw_n (by omega), kg_wr_s, if_pos rfl, kf_n, if_pos (by omega)]
      · change j < kf_n A.2.1 at hj
        rw [kf_n, if_pos (by omega)] at hj
        show _ = kf_R A.2.1 A.2.2.1 A.1 j i
        rw [kf_R, if_pos (by omega), kw_s]
        by_cases e3 : j = A.2.1
        · rw [if_pos e3, kf_ch, if_pos (by omega), ← a1 i hi]
          exact congrArg _ (by omega)
        · rw [if_neg e3, kf_ch, if_neg (by omega)]
          exact a4 j (by omega) i hi
      · rw [kw_n (by omega), kg_wr_s, if_neg (by omega)]; exact a5
      · rw [kw_n (by omega), kg_wr_n (by omega)]; exact a6 e i hi
      · rw [kw_n (by omega), kg_wr_s, if_neg (by omega)]; exact a8
      · rw [kw_n (by omega), kg_wr_n (by omega)]; exact a9 i hi
    · rw [kw_n (by omega), kg_wr_n (by omega)]
    · intro p hp
      rw [kw_n (by omega), kg_wr_n (by omega)]

set_option maxRecDepth 100000 in
theorem kc91r (hL : G.2.2.2.2.2.1 < 2 ^ 31) (hD : kf_D M A) (hr : M 125 = A.1) (hd : 2 ≤ d) (hK : ∀ M' : kg_M, kf_D (kg_row M' 125 A.1) (kf_rec A) → (∀ r : Nat → Int32, kf_D (kg_row M' 125 r) (kf_sr (kf_rec A) r)) → (∀ p, p < 124 → M' p = M p) → K none (kg_w0 h) (kg_row M' 125 A.1)) : kg_call G d 129 91 [.ref 124] (kg_w0 h) M K := by
  refine kc91 hL hD hd ?_
  intro M' a1 a2 a3
  have e : kg_row M' 125 A.1 = M' := by rw [← hr, ← a2]; exact kw_i _ _
  have := hK M' (by rw [e]; exact a1) (fun r => kf_D_sr a1) a3
  rw [e] at this
  exact this
theorem kf_DK {M M' : kg_M} {r : Nat → Int32} (h : ∀ p, p < 124 → M' p = M p) : ∀ p, p < 124 → kg_row M' 125 r p = M p := fun p hp => (kw_n (by omega)).trans (h p hp)
end

section
variable {G : kg_G} {d c : Nat} {h : Nat → Nat} {A : kf_A} {M : kg_M} {K : kg_Qt} {r : Nat → Int32}
set_option maxRecDepth 100000 in
theorem kc89 (hL : G.2.2.2.2.2.1 < 2 ^ 31) {i v : Int32} (hD : kf_D M A) (hr : M 125 = A.1) (hd : 4 ≤ d) (hK : ∀ (o : Int32) (A' : kf_A) (M' : kg_M), kf_set A i v = (o, A') → kf_D M' A' → (∀ p, p < 124 → M' p = M p) → K (some (.int o)) (kg_w0 h) M') : kg_call G d 129 89 [.ref 124, .int i, .int v] (kg_w0 h) M K := by
  obtain ⟨d, rfl⟩ : ∃ e, d = e + 1 := ⟨d - 1, by omega⟩
  refine kg_m89 (by simp) (Nat.le_refl _) (kg_v89 hL (by omega) 60 ?_)
  simp (disch := omega) only [kg_S1, kg_S2, kg_br_T, kg_br_F, kg_br_N, kg_br_t, kg_br_f, kg_at_n, nI_add, pk_mul, kg_sub_n, kg_rem_n, kg_eq_n, kg_lt_n, kg_le_n, kg_nz, kg_01_0, kg_01_1, kg_w0_1, kg_ret0, kg_ret1, kg_ret2, kg_wr_n, kg_wr_s, kg_Skd, kg_Smc, kg_Sob, kg_Srf, kg_Sld, kg_pad, List.map_cons, List.map_nil, List.length_cons, List.length_nil, List.replicate, List.cons_append, List.nil_append, List.append_nil, Nat.reduceAdd, Nat.reduceSub, Nat.reduceMul, Nat.reduceMod, Nat.reduceDiv, Nat.reduceLT, Nat.reduceLeDiff, Nat.reduceEqDiff, ne_eq, not_true_eq_false, not_false_eq_true, reduceIte, true_and, and_true, kg_lk89, kg_ls89]
  refine kc90 hL (by omega) ?_
  rw [kf_iy (by omega)]
  have b0 : kf_b false = nI 0 := rfl
  have b1 : kf_b true = nI 1 := rfl
  cases ei : kf_ix (4 + 1) i with
  | none =>
    have e : kf_set A i v = (kg_n 1, A) := by simp only [kf_set, ei]
    rw [Option.isSome_none, b0]
    simp (disch := omega) only [kg_S1, kg_S2, kg_br_T, kg_br_F, kg_br_N, kg_br_t, kg_br_f, kg_at_n, nI_add, pk_mul, kg_sub_n, kg_rem_n, kg_eq_n, kg_lt_n, kg_le_n, kg_nz, kg_01_0, kg_01_1, kg_w0_1, kg_ret0, kg_ret1, kg_ret2, kg_wr_n, kg_wr_s, kg_Skd, kg_Smc, kg_Sob, kg_Srf, kg_Sld, kg_pad, List.map_cons, List.map_nil, List.length_cons, List.length_nil, List.replicate, List.cons_append, List.nil_append, List.append_nil, Nat.reduceAdd, Nat.reduceSub, Nat.reduceMul, Nat.reduceMod, Nat.reduceDiv, Nat.reduceLT, Nat.reduceLeDiff, Nat.reduceEqDiff, ne_eq, not_true_eq_false, not_false_eq_true, reduceIte, true_and, and_true, kg_lk89, kg_ls89]
    exact hK _ _ _ e hD (fun _ _ => rfl)
  | some j =>
    obtain ⟨hj, rfl⟩ := kf_ix_s (by omega) ei
    have e : kf_set A (nI j) v = if v < kg_sv 1001 j ∨ kg_sv 1002 j < v then (kg_n 2, A) else if A.1 (2 + j) = v then (kg_n 5, A) else (A.1 (2 + j), kf_sr (kf_rec A) (upd A.1 (2 + j) v)) := by simp only [kf_set, ei]
    rw [Option.isSome_some, b1]
    obtain rfl | rfl | rfl | rfl | rfl : j = 0 ∨ j = 1 ∨ j = 2 ∨ j = 3 ∨ j = 4 := by omega
    · have l0 : kg_sv 1001 0 = nI 1 := rfl
      have l1 : kg_sv 1002 0 = nI 4 := rfl
      rw [l0, l1] at e
      simp (disch := omega) only [kg_S1, kg_S2, kg_br_T, kg_br_F, kg_br_N, kg_br_t, kg_br_f, kg_at_n, nI_add, pk_mul, kg_sub_n, kg_rem_n, kg_eq_n, kg_lt_n, kg_le_n, kg_nz, kg_01_0, kg_01_1, kg_w0_1, kg_ret0, kg_ret1, kg_ret2, kg_wr_n, kg_wr_s, kg_Skd, kg_Smc, kg_Sob, kg_Srf, kg_Sld, kg_pad, List.map_cons, List.map_nil, List.length_cons, List.length_nil, List.replicate, List.cons_append, List.nil_append, List.append_nil, Nat.reduceAdd, Nat.reduceSub, Nat.reduceMul, Nat.reduceMod, Nat.reduceDiv, Nat.reduceLT, Nat.reduceLeDiff, Nat.reduceEqDiff, ne_eq, not_true_eq_false, not_false_eq_true, reduceIte, true_and, and_true, kg_lk89, kg_ls89, hr]
      refine kc90 hL (by omega) ?_
      by_cases q : v < nI 1 ∨ nI 4 < v
      · rw [if_pos q] at e
        have eb : (decide (nI 1 ≤ v) && decide (v ≤ nI 4)) = false := by
          rw [← Bool.decide_and]
          exact decide_eq_false (fun qq => q.elim (Int32.not_lt.mpr qq.1) (Int32.not_lt.mpr qq.2))
        rw [eb, b0]
        simp (disch := omega) only [kg_S1, kg_S2, kg_br_T, kg_br_F, kg_br_N, kg_br_t, kg_br_f, kg_at_n, nI_add, pk_mul, kg_sub_n, kg_rem_n, kg_eq_n, kg_lt_n, kg_le_n, kg_nz, kg_01_0, kg_01_1, kg_w0_1, kg_ret0, kg_ret1, kg_ret2, kg_wr_n, kg_wr_s, kg_Skd, kg_Smc, kg_Sob, kg_Srf, kg_Sld, kg_pad, List.map_cons, List.map_nil, List.length_cons, List.length_nil, List.replicate, List.cons_append, List.nil_append, List.append_nil, Nat.reduceAdd, Nat.reduceSub, Nat.reduceMul, Nat.reduceMod, Nat.reduceDiv, Nat.reduceLT, Nat.reduceLeDiff, Nat.reduceEqDiff, ne_eq, not_true_eq_false, not_false_eq_true, reduceIte, true_and, and_true, kg_lk89, kg_ls89, hr]
        exact hK _ _ _ e hD (fun _ _ => rfl)
      · rw [if_neg q] at e
        have eb : (decide (nI 1 ≤ v) && decide (v ≤ nI 4)) = true := by
          rw [← Bool.decide_and]
          exact decide_eq_true ⟨Int32.not_lt.mp (fun qq => q (Or.inl qq)), Int32.not_lt.mp (fun qq => q (Or.inr qq))⟩
        rw [eb, b1]
        simp (disch := omega) only [kg_S1, kg_S2, kg_br_T, kg_br_F, kg_br_N, kg_br_t, kg_br_f, kg_at_n, nI_add, pk_mul, kg_sub_n, kg_rem_n, kg_eq_n, kg_lt_n, kg_le_n, kg_nz, kg_01_0, kg_01_1, kg_w0_1, kg_ret0, kg_ret1, kg_ret2, kg_wr_n, kg_wr_s, kg_Skd, kg_Smc, kg_Sob, kg_Srf, kg_Sld, kg_pad, List.map_cons, List.map_nil, List.length_cons, List.length_nil, List.replicate, List.cons_append, List.nil_append, List.append_nil, Nat.reduceAdd, Nat.reduceSub, Nat.reduceMul, Nat.reduceMod, Nat.reduceDiv, Nat.reduceLT, Nat.reduceLeDiff, Nat.reduceEqDiff, ne_eq, not_true_eq_false, not_false_eq_true, reduceIte, true_and, and_true, kg_lk89, kg_ls89, hr]
        refine kg_br_i (fun q2 => ?_) (fun q2 => ?_)
        · rw [if_pos q2] at e
          exact hK _ _ _ e hD (fun _ _ => rfl)
        · rw [if_neg q2] at e
          refine kc91r hL hD hr (by omega) ?_
          intro M1 a1 a2 a3
          simp (disch := omega) only [kg_S1, kg_S2, kg_br_T, kg_br_F, kg_br_N, kg_br_t, kg_br_f, kg_at_n, nI_add, pk_mul, kg_sub_n, kg_rem_n, kg_eq_n, kg_lt_n, kg_le_n, kg_nz, kg_01_0, kg_01_1, kg_w0_1, kg_ret0, kg_ret1, kg_ret2, kg_wr_n, kg_Skd, kg_Smc, kg_Sob, kg_Srf, kg_Sld, kg_pad, List.map_cons, List.map_nil, List.length_cons, List.length_nil, List.replicate, List.cons_append, List.nil_append, List.append_nil, Nat.reduceAdd, Nat.reduceSub, Nat.reduceMul, Nat.reduceMod, Nat.reduceDiv, Nat.reduceLT, Nat.reduceLeDiff, Nat.reduceEqDiff, ne_eq, not_true_eq_false, not_false_eq_true, reduceIte, true_and, and_true, kw_n, kw_s, kw_w, kw_o, kw_ws, kw_wn, ku_s, ku_n, kg_lk89, kg_ls89]
          exact hK _ _ _ e (a2 _) (kf_DK a3)
    · have l0 : kg_sv 1001 1 = nI 1 := rfl
      have l1 : kg_sv 1002 1 = nI 4 := rfl
      rw [l0, l1] at e
      simp (disch := omega) only [kg_S1, kg_S2, kg_br_T, kg_br_F, kg_br_N, kg_br_t, kg_br_f, kg_at_n, nI_add, pk_mul, kg_sub_n, kg_rem_n, kg_eq_n, kg_lt_n, kg_le_n, kg_nz, kg_01_0, kg_01_1, kg_w0_1, kg_ret0, kg_ret1, kg_ret2, kg_wr_n, kg_wr_s, kg_Skd, kg_Smc, kg_Sob, kg_Srf, kg_Sld, kg_pad, List.map_cons, List.map_nil, List.length_cons, List.length_nil, List.replicate, List.cons_append, List.nil_append, List.append_nil, Nat.reduceAdd, Nat.reduceSub, Nat.reduceMul, Nat.reduceMod, Nat.reduceDiv, Nat.reduceLT, Nat.reduceLeDiff, Nat.reduceEqDiff, ne_eq, not_true_eq_false, not_false_eq_true, reduceIte, true_and, and_true, kg_lk89, kg_ls89, hr]
      refine kc90 hL (by omega) ?_
      by_cases q : v < nI 1 ∨ nI 4 < v
      · rw [if_pos q] at e
        have eb : (decide (nI 1 ≤ v) && decide (v ≤ nI 4)) = false := by
          rw [← Bool.decide_and]
          exact decide_eq_false (fun qq => q.elim (Int32.not_lt.mpr qq.1) (Int32.not_lt.mpr qq.2))
        rw [eb, b0]
        simp (disch := omega) only [kg_S1, kg_S2, kg_br_T, kg_br_F, kg_br_N, kg_br_t, kg_br_f, kg_at_n, nI_add, pk_mul, kg_sub_n, kg_rem_n, kg_eq_n, kg_lt_n, kg_le_n, kg_nz, kg_01_0, kg_01_1, kg_w0_1, kg_ret0, kg_ret1, kg_ret2, kg_wr_n, kg_wr_s, kg_Skd, kg_Smc, kg_Sob, kg_Srf, kg_Sld, kg_pad, List.map_cons, List.map_nil, List.length_cons, List.length_nil, List.replicate, List.cons_append, List.nil_append, List.append_nil, Nat.reduceAdd, Nat.reduceSub, Nat.reduceMul, Nat.reduceMod, Nat.reduceDiv, Nat.reduceLT, Nat.reduceLeDiff, Nat.reduceEqDiff, ne_eq, not_true_eq_false, not_false_eq_true, reduceIte, true_and, and_true, kg_lk89, kg_ls89, hr]
        exact hK _ _ _ e hD (fun _ _ => rfl)
      · rw [if_neg q] at e
        have eb : (decide (nI 1 ≤ v) && decide (v ≤ nI 4)) = true := by
          rw [← Bool.decide_and]
          exact decide_eq_true ⟨Int32.not_lt.mp (fun qq => q (Or.inl qq)), Int32.not_lt.mp (fun qq => q (Or.inr qq))⟩
        rw [eb, b1]
        simp (disch := omega) only [kg_S1, kg_S2, kg_br_T, kg_br_F, kg_br_N, kg_br_t, kg_br_f, kg_at_n, nI_add, pk_mul, kg_sub_n, kg_rem_n, kg_eq_n, kg_lt_n, kg_le_n, kg_nz, kg_01_0, kg_01_1, kg_w0_1, kg_ret0, kg_ret1, kg_ret2, kg_wr_n, kg_wr_s, kg_Skd, kg_Smc, kg_Sob, kg_Srf, kg_Sld, kg_pad, List.map_cons, List.map_nil, List.length_cons, List.length_nil, List.replicate, List.cons_append, List.nil_append, List.append_nil, Nat.reduceAdd, Nat.reduceSub, Nat.reduceMul, Nat.reduceMod, Nat.reduceDiv, Nat.reduceLT, Nat.reduceLeDiff, Nat.reduceEqDiff, ne_eq, not_true_eq_false, not_false_eq_true, reduceIte, true_and, and_true, kg_lk89, kg_ls89, hr]
        refine kg_br_i (fun q2 => ?_) (fun q2 => ?_)
        · rw [if_pos q2] at e
          exact hK _ _ _ e hD (fun _ _ => rfl)
        · rw [if_neg q2] at e
          refine kc91r hL hD hr (by omega) ?_
          intro M1 a1 a2 a3
          simp (disch := omega) only [kg_S1, kg_S2, kg_br_T, kg_br_F, kg_br_N, kg_br_t, kg_br_f, kg_at_n, nI_add, pk_mul, kg_sub_n, kg_rem_n, kg_eq_n, kg_lt_n, kg_le_n, kg_nz, kg_01_0, kg_01_1, kg_w0_1, kg_ret0, kg_ret1, kg_ret2, kg_wr_n, kg_Skd, kg_Smc, kg_Sob, kg_Srf, kg_Sld, kg_pad, List.map_cons, List.map_nil, List.length_cons, List.length_nil, List.replicate, List.cons_append, List.nil_append, List.append_nil, Nat.reduceAdd, Nat.reduceSub, Nat.reduceMul, Nat.reduceMod, Nat.reduceDiv, Nat.reduceLT, Nat.reduceLeDiff, Nat.reduceEqDiff, ne_eq, not_true_eq_false, not_false_eq_true, reduceIte, true_and, and_true, kw_n, kw_s, kw_w, kw_o, kw_ws, kw_wn, ku_s, ku_n, kg_lk89, kg_ls89]
          exact hK _ _ _ e (a2 _) (kf_DK a3)
    · have l0 : kg_sv 1001 2 = nI 1 := rfl
      have l1 : kg_sv 1002 2 = nI 500 := rfl
      rw [l0, l1] at e
      simp (disch := omega) only [kg_S1, kg_S2, kg_br_T, kg_br_F, kg_br_N, kg_br_t, kg_br_f, kg_at_n, nI_add, pk_mul, kg_sub_n, kg_rem_n, kg_eq_n, kg_lt_n, kg_le_n, kg_nz, kg_01_0, kg_01_1, kg_w0_1, kg_ret0, kg_ret1, kg_ret2, kg_wr_n, kg_wr_s, kg_Skd, kg_Smc, kg_Sob, kg_Srf, kg_Sld, kg_pad, List.map_cons, List.map_nil, List.length_cons, List.length_nil, List.replicate, List.cons_append, List.nil_append, List.append_nil, Nat.reduceAdd, Nat.reduceSub, Nat.reduceMul, Nat.reduceMod, Nat.reduceDiv, Nat.reduceLT, Nat.reduceLeDiff, Nat.reduceEqDiff, ne_eq, not_true_eq_false, not_false_eq_true, reduceIte, true_and, and_true, kg_lk89, kg_ls89, hr]
      refine kc90 hL (by omega) ?_
      by_cases q : v < nI 1 ∨ nI 500 < v
      · rw [if_pos q] at e
        have eb : (decide (nI 1 ≤ v) && decide (v ≤ nI 500)) = false := by
          rw [← Bool.decide_and]
          exact decide_eq_false (fun qq => q.elim (Int32.not_lt.mpr qq.1) (Int32.not_lt.mpr qq.2))
        rw [eb, b0]
        simp (disch := omega) only [kg_S1, kg_S2, kg_br_T, kg_br_F, kg_br_N, kg_br_t, kg_br_f, kg_at_n, nI_add, pk_mul, kg_sub_n, kg_rem_n, kg_eq_n, kg_lt_n, kg_le_n, kg_nz, kg_01_0, kg_01_1, kg_w0_1, kg_ret0, kg_ret1, kg_ret2, kg_wr_n, kg_wr_s, kg_Skd, kg_Smc, kg_Sob, kg_Srf, kg_Sld, kg_pad, List.map_cons, List.map_nil, List.length_cons, List.length_nil, List.replicate, List.cons_append, List.nil_append, List.append_nil, Nat.reduceAdd, Nat.reduceSub, Nat.reduceMul, Nat.reduceMod, Nat.reduceDiv, Nat.reduceLT, Nat.reduceLeDiff, Nat.reduceEqDiff, ne_eq, not_true_eq_false, not_false_eq_true, reduceIte, true_and, and_true, kg_lk89, kg_ls89, hr]
        exact hK _ _ _ e hD (fun _ _ => rfl)
      · rw [if_neg q] at e
        have eb : (decide (nI 1 ≤ v) && decide (v ≤ nI 500)) = true := by
          rw [← Bool.decide_and]
          exact decide_eq_true ⟨Int32.not_lt.mp (fun qq => q (Or.inl qq)), Int32.not_lt.mp (fun qq => q (Or.inr qq))⟩
        rw [eb, b1]
        simp (disch := omega) only [kg_S1, kg_S2, kg_br_T, kg_br_F, kg_br_N, kg_br_t, kg_br_f, kg_at_n, nI_add, pk_mul, kg_sub_n, kg_rem_n, kg_eq_n, kg_lt_n, kg_le_n, kg_nz, kg_01_0, kg_01_1, kg_w0_1, kg_ret0, kg_ret1, kg_ret2, kg_wr_n, kg_wr_s, kg_Skd, kg_Smc, kg_Sob, kg_Srf, kg_Sld, kg_pad, List.map_cons, List.map_nil, List.length_cons, List.length_nil, List.replicate, List.cons_append, List.nil_append, List.append_nil, Nat.reduceAdd, Nat.reduceSub, Nat.reduceMul, Nat.reduceMod, Nat.reduceDiv, Nat.reduceLT, Nat.reduceLeDiff, Nat.reduceEqDiff, ne_eq, not_true_eq_false, not_false_eq_true, reduceIte, true_and, and_true, kg_lk89, kg_ls89, hr]
        refine kg_br_i (fun q2 => ?_) (fun q2 => ?_)
        · rw [if_pos q2] at e
          exact hK _ _ _ e hD (fun _ _ => rfl)
        · rw [if_neg q2] at e
          refine kc91r hL hD hr (by omega) ?_
          intro M1 a1 a2 a3
          simp (disch := omega) only [kg_S1, kg_S2, kg_br_T, kg_br_F, kg_br_N, kg_br_t, kg_br_f, kg_at_n, nI_add, pk_mul, kg_sub_n, kg_rem_n, kg_eq_n, kg_lt_n, kg_le_n, kg_nz, kg_01_0, kg_01_1, kg_w0_1, kg_ret0, kg_ret1, kg_ret2, kg_wr_n, kg_Skd, kg_Smc, kg_Sob, kg_Srf, kg_Sld, kg_pad, List.map_cons, List.map_nil, List.length_cons, List.length_nil, List.replicate, List.cons_append, List.nil_append, List.append_nil, Nat.reduceAdd, Nat.reduceSub, Nat.reduceMul, Nat.reduceMod, Nat.reduceDiv, Nat.reduceLT, Nat.reduceLeDiff, Nat.reduceEqDiff, ne_eq, not_true_eq_false, not_false_eq_true, reduceIte, true_and, and_true, kw_n, kw_s, kw_w, kw_o, kw_ws, kw_wn, ku_s, ku_n, kg_lk89, kg_ls89]
          exact hK _ _ _ e (a2 _) (kf_DK a3)
    · have l0 : kg_sv 1001 3 = nI 0 := rfl
      have l1 : kg_sv 1002 3 = nI 1 := rfl
      rw [l0, l1] at e
      simp (disch := omega) only [kg_S1, kg_S2, kg_br_T, kg_br_F, kg_br_N, kg_br_t, kg_br_f, kg_at_n, nI_add, pk_mul, kg_sub_n, kg_rem_n, kg_eq_n, kg_lt_n, kg_le_n, kg_nz, kg_01_0, kg_01_1, kg_w0_1, kg_ret0, kg_ret1, kg_ret2, kg_wr_n, kg_wr_s, kg_Skd, kg_Smc, kg_Sob, kg_Srf, kg_Sld, kg_pad, List.map_cons, List.map_nil, List.length_cons, List.length_nil, List.replicate, List.cons_append, List.nil_append, List.append_nil, Nat.reduceAdd, Nat.reduceSub, Nat.reduceMul, Nat.reduceMod, Nat.reduceDiv, Nat.reduceLT, Nat.reduceLeDiff, Nat.reduceEqDiff, ne_eq, not_true_eq_false, not_false_eq_true, reduceIte, true_and, and_true, kg_lk89, kg_ls89, hr]
      refine kc90 hL (by omega) ?_
      by_cases q : v < nI 0 ∨ nI 1 < v
      · rw [if_pos q] at e
        have eb : (decide (nI 0 ≤ v) && decide (v ≤ nI 1)) = false := by
          rw [← Bool.decide_and]
          exact decide_eq_false (fun qq => q.elim (Int32.not_lt.mpr qq.1) (Int32.not_lt.mpr qq.2))
        rw [eb, b0]
        simp (disch := omega) only [kg_S1, kg_S2, kg_br_T, kg_br_F, kg_br_N, kg_br_t, kg_br_f, kg_at_n, nI_add, pk_mul, kg_sub_n, kg_rem_n, kg_eq_n, kg_lt_n, kg_le_n, kg_nz, kg_01_0, kg_01_1, kg_w0_1, kg_ret0, kg_ret1, kg_ret2, kg_wr_n, kg_wr_s, kg_Skd, kg_Smc, kg_Sob, kg_Srf, kg_Sld, kg_pad, List.map_cons, List.map_nil, List.length_cons, List.length_nil, List.replicate, List.cons_append, List.nil_append, List.append_nil, Nat.reduceAdd, Nat.reduceSub, Nat.reduceMul, Nat.reduceMod, Nat.reduceDiv, Nat.reduceLT, Nat.reduceLeDiff, Nat.reduceEqDiff, ne_eq, not_true_eq_false, not_false_eq_true, reduceIte, true_and, and_true, kg_lk89, kg_ls89, hr]
        exact hK _ _ _ e hD (fun _ _ => rfl)
      · rw [if_neg q] at e
        have eb : (decide (nI 0 ≤ v) && decide (v ≤ nI 1)) = true := by
          rw [← Bool.decide_and]
          exact decide_eq_true ⟨Int32.not_lt.mp (fun qq => q (Or.inl qq)), Int32.not_lt.mp (fun qq => q (Or.inr qq))⟩
        rw [eb, b1]
        simp (disch := omega) only [kg_S1, kg_S2, kg_br_T, kg_br_F, kg_br_N, kg_br_t, kg_br_f, kg_at_n, nI_add, pk_mul, kg_sub_n, kg_rem_n, kg_eq_n, kg_lt_n, kg_le_n, kg_nz, kg_01_0, kg_01_1, kg_w0_1, kg_ret0, kg_ret1, kg_ret2, kg_wr_n, kg_wr_s, kg_Skd, kg_Smc, kg_Sob, kg_Srf, kg_Sld, kg_pad, List.map_cons, List.map_nil, List.length_cons, List.length_nil, List.replicate, List.cons_append, List.nil_append, List.append_nil, Nat.reduceAdd, Nat.reduceSub, Nat.reduceMul, Nat.reduceMod, Nat.reduceDiv, Nat.reduceLT, Nat.reduceLeDiff, Nat.reduceEqDiff, ne_eq, not_true_eq_false, not_false_eq_true, reduceIte, true_and, and_true, kg_lk89, kg_ls89, hr]
        refine kg_br_i (fun q2 => ?_) (fun q2 => ?_)
        · rw [if_pos q2] at e
          exact hK _ _ _ e hD (fun _ _ => rfl)
        · rw [if_neg q2] at e
          refine kc91r hL hD hr (by omega) ?_
          intro M1 a1 a2 a3
          simp (disch := omega) only [kg_S1, kg_S2, kg_br_T, kg_br_F, kg_br_N, kg_br_t, kg_br_f, kg_at_n, nI_add, pk_mul, kg_sub_n, kg_rem_n, kg_eq_n, kg_lt_n, kg_le_n, kg_nz, kg_01_0, kg_01_1, kg_w0_1, kg_ret0, kg_ret1, kg_ret2, kg_wr_n, kg_Skd, kg_Smc, kg_Sob, kg_Srf, kg_Sld, kg_pad, List.map_cons, List.map_nil, List.length_cons, List.length_nil, List.replicate, List.cons_append, List.nil_append, List.append_nil, Nat.reduceAdd, Nat.reduceSub, Nat.reduceMul, Nat.reduceMod, Nat.reduceDiv, Nat.reduceLT, Nat.reduceLeDiff, Nat.reduceEqDiff, ne_eq, not_true_eq_false, not_false_eq_true, reduceIte, true_and, and_true, kw_n, kw_s, kw_w, kw_o, kw_ws, kw_wn, ku_s, ku_n, kg_lk89, kg_ls89]
          exact hK _ _ _ e (a2 _) (kf_DK a3)
    · have l0 : kg_sv 1001 4 = nI 0 := rfl
      have l1 : kg_sv 1002 4 = nI 1 := rfl
      rw [l0, l1] at e
      simp (disch := omega) only [kg_S1, kg_S2, kg_br_T, kg_br_F, kg_br_N, kg_br_t, kg_br_f, kg_at_n, nI_add, pk_mul, kg_sub_n, kg_rem_n, kg_eq_n, kg_lt_n, kg_le_n, kg_nz, kg_01_0, kg_01_1, kg_w0_1, kg_ret0, kg_ret1, kg_ret2, kg_wr_n, kg_wr_s, kg_Skd, kg_Smc, kg_Sob, kg_Srf, kg_Sld, kg_pad, List.map_cons, List.map_nil, List.length_cons, List.length_nil, List.replicate, List.cons_append, List.nil_append, List.append_nil, Nat.reduceAdd, Nat.reduceSub, Nat.reduceMul, Nat.reduceMod, Nat.reduceDiv, Nat.reduceLT, Nat.reduceLeDiff, Nat.reduceEqDiff, ne_eq, not_true_eq_false, not_false_eq_true, reduceIte, true_and, and_true, kg_lk89, kg_ls89, hr]
      refine kc90 hL (by omega) ?_
      by_cases q : v < nI 0 ∨ nI 1 < v
      · rw [if_pos q] at e
        have eb : (decide (nI 0 ≤ v) && decide (v ≤ nI 1)) = false := by
          rw [← Bool.decide_and]
          exact decide_eq_false (fun qq => q.elim (Int32.not_lt.mpr qq.1) (Int32.not_lt.mpr qq.2))
        rw [eb, b0]
        simp (disch := omega) only [kg_S1, kg_S2, kg_br_T, kg_br_F, kg_br_N, kg_br_t, kg_br_f, kg_at_n, nI_add, pk_mul, kg_sub_n, kg_rem_n, kg_eq_n, kg_lt_n, kg_le_n, kg_nz, kg_01_0, kg_01_1, kg_w0_1, kg_ret0, kg_ret1, kg_ret2, kg_wr_n, kg_wr_s, kg_Skd, kg_Smc, kg_Sob, kg_Srf, kg_Sld, kg_pad, List.map_cons, List.map_nil, List.length_cons, List.length_nil, List.replicate, List.cons_append, List.nil_append, List.append_nil, Nat.reduceAdd, Nat.reduceSub, Nat.reduceMul, Nat.reduceMod, Nat.reduceDiv, Nat.reduceLT, Nat.reduceLeDiff, Nat.reduceEqDiff, ne_eq, not_true_eq_false, not_false_eq_true, reduceIte, true_and, and_true, kg_lk89, kg_ls89, hr]
        exact hK _ _ _ e hD (fun _ _ => rfl)
      · rw [if_neg q] at e
        have eb : (decide (nI 0 ≤ v) && decide (v ≤ nI 1)) = true := by
          rw [← Bool.decide_and]
          exact decide_eq_true ⟨Int32.not_lt.mp (fun qq => q (Or.inl qq)), Int32.not_lt.mp (fun qq => q (Or.inr qq))⟩
        rw [eb, b1]
        simp (disch := omega) only [kg_S1, kg_S2, kg_br_T, kg_br_F, kg_br_N, kg_br_t, kg_br_f, kg_at_n, nI_add, pk_mul, kg_sub_n, kg_rem_n, kg_eq_n, kg_lt_n, kg_le_n, kg_nz, kg_01_0, kg_01_1, kg_w0_1, kg_ret0, kg_ret1, kg_ret2, kg_wr_n, kg_wr_s, kg_Skd, kg_Smc, kg_Sob, kg_Srf, kg_Sld, kg_pad, List.map_cons, List.map_nil, List.length_cons, List.length_nil, List.replicate, List.cons_append, List.nil_append, List.append_nil, Nat.reduceAdd, Nat.reduceSub, Nat.reduceMul, Nat.reduceMod, Nat.reduceDiv, Nat.reduceLT, Nat.reduceLeDiff, Nat.reduceEqDiff, ne_eq, not_true_eq_false, not_false_eq_true, reduceIte, true_and, and_true, kg_lk89, kg_ls89, hr]
        refine kg_br_i (fun q2 => ?_) (fun q2 => ?_)
        · rw [if_pos q2] at e
          exact hK _ _ _ e hD (fun _ _ => rfl)
        · rw [if_neg q2] at e
          refine kc91r hL hD hr (by omega) ?_
          intro M1 a1 a2 a3
          simp (disch := omega) only [kg_S1, kg_S2, kg_br_T, kg_br_F, kg_br_N, kg_br_t, kg_br_f, kg_at_n, nI_add, pk_mul, kg_sub_n, kg_rem_n, kg_eq_n, kg_lt_n, kg_le_n, kg_nz, kg_01_0, kg_01_1, kg_w0_1, kg_ret0, kg_ret1, kg_ret2, kg_wr_n, kg_Skd, kg_Smc, kg_Sob, kg_Srf, kg_Sld, kg_pad, List.map_cons, List.map_nil, List.length_cons, List.length_nil, List.replicate, List.cons_append, List.nil_append, List.append_nil, Nat.reduceAdd, Nat.reduceSub, Nat.reduceMul, Nat.reduceMod, Nat.reduceDiv, Nat.reduceLT, Nat.reduceLeDiff, Nat.reduceEqDiff, ne_eq, not_true_eq_false, not_false_eq_true, reduceIte, true_and, and_true, kw_n, kw_s, kw_w, kw_o, kw_ws, kw_wn, ku_s, ku_n, kg_lk89, kg_ls89]
          exact hK _ _ _ e (a2 _) (kf_DK a3)
end

section
variable {G : kg_G} {d c : Nat} {h : Nat → Nat} {A : kf_A} {M : kg_M} {K : kg_Qt} {r : Nat → Int32}
set_option maxRecDepth 100000 in
theorem kc92 (hL : G.2.2.2.2.2.1 < 2 ^ 31) {i u : Int32} (hu : kg_01 u) (hJ : kf_J c A.1) (hD : kf_D M A) (hr : M 125 = A.1) (hd : 4 ≤ d) (hK : ∀ (o : Int32) (A' : kf_A) (M' : kg_M), kf_sup A i u = (o, A') → kf_D M' A' → (∀ p, p < 124 → M' p = M p) → K (some (.int o)) (kg_w0 h) M') : kg_call G d 129 92 [.ref 124, .int i, .int u] (kg_w0 h) M K := by
  obtain ⟨d, rfl⟩ : ∃ e, d = e + 1 := ⟨d - 1, by omega⟩
  refine kg_m92 (by simp) (Nat.le_refl _) (kg_v92 hL (by omega) 60 ?_)
  simp (disch := omega) only [kg_S1, kg_S2, kg_br_T, kg_br_F, kg_br_N, kg_br_t, kg_br_f, kg_at_n, nI_add, pk_mul, kg_sub_n, kg_rem_n, kg_eq_n, kg_lt_n, kg_le_n, kg_nz, kg_01_0, kg_01_1, kg_w0_1, kg_ret0, kg_ret1, kg_ret2, kg_wr_n, kg_wr_s, kg_Skd, kg_Smc, kg_Sob, kg_Srf, kg_Sld, kg_pad, List.map_cons, List.map_nil, List.length_cons, List.length_nil, List.replicate, List.cons_append, List.nil_append, List.append_nil, Nat.reduceAdd, Nat.reduceSub, Nat.reduceMul, Nat.reduceMod, Nat.reduceDiv, Nat.reduceLT, Nat.reduceLeDiff, Nat.reduceEqDiff, ne_eq, not_true_eq_false, not_false_eq_true, reduceIte, true_and, and_true, kg_lk92, kg_ls92]
  cases ei : kf_ix 4 i with
  | none =>
    have e : kf_sup A i u = (kg_n 1, A) := by simp only [kf_sup, ei]
    refine kc93b hL (by omega) (kf_ix_n (by omega) ei) ?_
    simp (disch := omega) only [kg_S1, kg_S2, kg_br_T, kg_br_F, kg_br_N, kg_br_t, kg_br_f, kg_at_n, nI_add, pk_mul, kg_sub_n, kg_rem_n, kg_eq_n, kg_lt_n, kg_le_n, kg_nz, kg_01_0, kg_01_1, kg_w0_1, kg_ret0, kg_ret1, kg_ret2, kg_wr_n, kg_wr_s, kg_Skd, kg_Smc, kg_Sob, kg_Srf, kg_Sld, kg_pad, List.map_cons, List.map_nil, List.length_cons, List.length_nil, List.replicate, List.cons_append, List.nil_append, List.append_nil, Nat.reduceAdd, Nat.reduceSub, Nat.reduceMul, Nat.reduceMod, Nat.reduceDiv, Nat.reduceLT, Nat.reduceLeDiff, Nat.reduceEqDiff, ne_eq, not_true_eq_false, not_false_eq_true, reduceIte, true_and, and_true, kg_lk92, kg_ls92]
    exact hK _ _ _ e hD (fun _ _ => rfl)
  | some j =>
    obtain ⟨hj, rfl⟩ := kf_ix_s (by omega) ei
    have e : kf_sup A (nI j) u = if A.1 (7 + j) = u then (kg_n 5, A) else (nI (kf_up4 (upd A.1 (7 + j) u)), kf_sr (kf_rec A) (upd A.1 (7 + j) u)) := by simp only [kf_sup, ei]
    have hup := hJ.1.1.2.2.2.2.2.2.2.1
    have hun : ∀ n, n < 4 → kg_01 (upd A.1 (7 + j) u (7 + n)) := by
      intro n hn
      by_cases q : n = j
      · subst q; rw [ku_s]; exact hu
      · rw [ku_n (by omega)]; exact hup n hn
    refine kc93 hL (by omega) hj ?_
    have n01 : ¬ nI 0 = nI 1 := by decide
    rcases hup j hj with e1 | e1 <;> rcases hu with rfl | rfl
    · rw [if_pos e1] at e
      simp (disch := omega) only [kg_S1, kg_S2, kg_br_T, kg_br_F, kg_br_N, kg_br_t, kg_br_f, kg_at_n, nI_add, pk_mul, kg_sub_n, kg_rem_n, kg_eq_n, kg_lt_n, kg_le_n, kg_nz, kg_01_0, kg_01_1, kg_w0_1, kg_ret0, kg_ret1, kg_ret2, kg_wr_n, kg_wr_s, kg_Skd, kg_Smc, kg_Sob, kg_Srf, kg_Sld, kg_pad, List.map_cons, List.map_nil, List.length_cons, List.length_nil, List.replicate, List.cons_append, List.nil_append, List.append_nil, Nat.reduceAdd, Nat.reduceSub, Nat.reduceMul, Nat.reduceMod, Nat.reduceDiv, Nat.reduceLT, Nat.reduceLeDiff, Nat.reduceEqDiff, ne_eq, not_true_eq_false, not_false_eq_true, reduceIte, true_and, and_true, kg_lk92, kg_ls92, hr, e1]
      exact hK _ _ _ e hD (fun _ _ => rfl)
    · rw [e1, if_neg n01] at e
      simp (disch := omega) only [kg_S1, kg_S2, kg_br_T, kg_br_F, kg_br_N, kg_br_t, kg_br_f, kg_at_n, nI_add, pk_mul, kg_sub_n, kg_rem_n, kg_eq_n, kg_lt_n, kg_le_n, kg_nz, kg_01_0, kg_01_1, kg_w0_1, kg_ret0, kg_ret1, kg_ret2, kg_wr_n, kg_wr_s, kg_Skd, kg_Smc, kg_Sob, kg_Srf, kg_Sld, kg_pad, List.map_cons, List.map_nil, List.length_cons, List.length_nil, List.replicate, List.cons_append, List.nil_append, List.append_nil, Nat.reduceAdd, Nat.reduceSub, Nat.reduceMul, Nat.reduceMod, Nat.reduceDiv, Nat.reduceLT, Nat.reduceLeDiff, Nat.reduceEqDiff, ne_eq, not_true_eq_false, not_false_eq_true, reduceIte, true_and, and_true, kg_lk92, kg_ls92, hr, e1]
      refine kc91r hL hD hr (by omega) ?_
      intro M1 a1 a2 a3
      simp (disch := omega) only [kg_S1, kg_S2, kg_br_T, kg_br_F, kg_br_N, kg_br_t, kg_br_f, kg_at_n, nI_add, pk_mul, kg_sub_n, kg_rem_n, kg_eq_n, kg_lt_n, kg_le_n, kg_nz, kg_01_0, kg_01_1, kg_w0_1, kg_ret0, kg_ret1, kg_ret2, kg_wr_n, kg_Skd, kg_Smc, kg_Sob, kg_Srf, kg_Sld, kg_pad, List.map_cons, List.map_nil, List.length_cons, List.length_nil, List.replicate, List.cons_append, List.nil_append, List.append_nil, Nat.reduceAdd, Nat.reduceSub, Nat.reduceMul, Nat.reduceMod, Nat.reduceDiv, Nat.reduceLT, Nat.reduceLeDiff, Nat.reduceEqDiff, ne_eq, not_true_eq_false, not_false_eq_true, reduceIte, true_and, and_true, kw_n, kw_s, kw_w, kw_o, kw_ws, kw_wn, ku_s, ku_n, kg_lk92, kg_ls92]
      refine kc94 hL (by omega) hun ?_
      simp (disch := omega) only [kg_S1, kg_S2, kg_br_T, kg_br_F, kg_br_N, kg_br_t, kg_br_f, kg_at_n, nI_add, pk_mul, kg_sub_n, kg_rem_n, kg_eq_n, kg_lt_n, kg_le_n, kg_nz, kg_01_0, kg_01_1, kg_w0_1, kg_ret0, kg_ret1, kg_ret2, kg_wr_n, kg_Skd, kg_Smc, kg_Sob, kg_Srf, kg_Sld, kg_pad, List.map_cons, List.map_nil, List.length_cons, List.length_nil, List.replicate, List.cons_append, List.nil_append, List.append_nil, Nat.reduceAdd, Nat.reduceSub, Nat.reduceMul, Nat.reduceMod, Nat.reduceDiv, Nat.reduceLT, Nat.reduceLeDiff, Nat.reduceEqDiff, ne_eq, not_true_eq_false, not_false_eq_true, reduceIte, true_and, and_true, kw_n, kw_s, kw_w, kw_o, kw_ws, kw_wn, ku_s, ku_n, kg_lk92, kg_ls92]
      exact hK _ _ _ e (a2 _) (kf_DK a3)
    · rw [e1, if_neg (fun q => n01 q.symm)] at e
      simp (disch := omega) only [kg_S1, kg_S2, kg_br_T, kg_br_F, kg_br_N, kg_br_t, kg_br_f, kg_at_n, nI_add, pk_mul, kg_sub_n, kg_rem_n, kg_eq_n, kg_lt_n, kg_le_n, kg_nz, kg_01_0, kg_01_1, kg_w0_1, kg_ret0, kg_ret1, kg_ret2, kg_wr_n, kg_wr_s, kg_Skd, kg_Smc, kg_Sob, kg_Srf, kg_Sld, kg_pad, List.map_cons, List.map_nil, List.length_cons, List.length_nil, List.replicate, List.cons_append, List.nil_append, List.append_nil, Nat.reduceAdd, Nat.reduceSub, Nat.reduceMul, Nat.reduceMod, Nat.reduceDiv, Nat.reduceLT, Nat.reduceLeDiff, Nat.reduceEqDiff, ne_eq, not_true_eq_false, not_false_eq_true, reduceIte, true_and, and_true, kg_lk92, kg_ls92, hr, e1]
      refine kc91r hL hD hr (by omega) ?_
      intro M1 a1 a2 a3
      simp (disch := omega) only [kg_S1, kg_S2, kg_br_T, kg_br_F, kg_br_N, kg_br_t, kg_br_f, kg_at_n, nI_add, pk_mul, kg_sub_n, kg_rem_n, kg_eq_n, kg_lt_n, kg_le_n, kg_nz, kg_01_0, kg_01_1, kg_w0_1, kg_ret0, kg_ret1, kg_ret2, kg_wr_n, kg_Skd, kg_Smc, kg_Sob, kg_Srf, kg_Sld, kg_pad, List.map_cons, List.map_nil, List.length_cons, List.length_nil, List.replicate, List.cons_append, List.nil_append, List.append_nil, Nat.reduceAdd, Nat.reduceSub, Nat.reduceMul, Nat.reduceMod, Nat.reduceDiv, Nat.reduceLT, Nat.reduceLeDiff, Nat.reduceEqDiff, ne_eq, not_true_eq_false, not_false_eq_true, reduceIte, true_and, and_true, kw_n, kw_s, kw_w, kw_o, kw_ws, kw_wn, ku_s, ku_n, kg_lk92, kg_ls92]
      refine kc94 hL (by omega) hun ?_
      simp (disch := omega) only [kg_S1, kg_S2, kg_br_T, kg_br_F, kg_br_N, kg_br_t, kg_br_f, kg_at_n, nI_add, pk_mul, kg_sub_n, kg_rem_n, kg_eq_n, kg_lt_n, kg_le_n, kg_nz, kg_01_0, kg_01_1, kg_w0_1, kg_ret0, kg_ret1, kg_ret2, kg_wr_n, kg_Skd, kg_Smc, kg_Sob, kg_Srf, kg_Sld, kg_pad, List.map_cons, List.map_nil, List.length_cons, List.length_nil, List.replicate, List.cons_append, List.nil_append, List.append_nil, Nat.reduceAdd, Nat.reduceSub, Nat.reduceMul, Nat.reduceMod, Nat.reduceDiv, Nat.reduceLT, Nat.reduceLeDiff, Nat.reduceEqDiff, ne_eq, not_true_eq_false, not_false_eq_true, reduceIte, true_and, and_true, kw_n, kw_s, kw_w, kw_o, kw_ws, kw_wn, ku_s, ku_n, kg_lk92, kg_ls92]
      exact hK _ _ _ e (a2 _) (kf_DK a3)
    · rw [if_pos e1] at e
      simp (disch := omega) only [kg_S1, kg_S2, kg_br_T, kg_br_F, kg_br_N, kg_br_t, kg_br_f, kg_at_n, nI_add, pk_mul, kg_sub_n, kg_rem_n, kg_eq_n, kg_lt_n, kg_le_n, kg_nz, kg_01_0, kg_01_1, kg_w0_1, kg_ret0, kg_ret1, kg_ret2, kg_wr_n, kg_wr_s, kg_Skd, kg_Smc, kg_Sob, kg_Srf, kg_Sld, kg_pad, List.map_cons, List.map_nil, List.length_cons, List.length_nil, List.replicate, List.cons_append, List.nil_append, List.append_nil, Nat.reduceAdd, Nat.reduceSub, Nat.reduceMul, Nat.reduceMod, Nat.reduceDiv, Nat.reduceLT, Nat.reduceLeDiff, Nat.reduceEqDiff, ne_eq, not_true_eq_false, not_false_eq_true, reduceIte, true_and, and_true, kg_lk92, kg_ls92, hr, e1]
      exact hK _ _ _ e hD (fun _ _ => rfl)
end
