/-! THE CONSTRUCTORS, in the phase in which places are made -/
theorem kg_call_up {G : kg_G} {d N NX i : Nat} {args : List Value} {w : kg_W} {M : kg_M} {K : kg_Qt} (h : kg_call G d N i args w M K) (hN : N ≤ NX) : kg_call G d NX i args w M K := by
  obtain ⟨d', N1, h1, h2, h3, h4⟩ := h
  exact ⟨d', N1, h1, h2, Nat.le_trans h3 hN, h4⟩
def kx_n (R : Nat → Nat → Nat) (N : Nat) (f : Nat → Nat) : Nat → Nat → Nat := fun q => if q = N then f else R q
def kx_w (R : Nat → Nat → Nat) (p j r : Nat) : Nat → Nat → Nat := fun q => if q = p then (fun i => if i = j then r else R p i) else R q
theorem kx_new (N : Nat) (R : Nat → Nat → Nat) (f : Nat → Nat) : kg_new (N, R) f = (N + 1, kx_n R N f) := rfl
theorem kx_wrr (N p j r : Nat) (R : Nat → Nat → Nat) : kg_wrr (N, R) p j r = (N, kx_w R p j r) := rfl
theorem kx_ret (N : Nat) (K : kg_Qt) (R : Nat → Nat → Nat) (M : kg_M) : kg_ret 0 N K none (N, R) M = K none (N, R) M := by simp [kg_ret, kg_rk]
theorem kx_ws (R : Nat → Nat → Nat) (p j r i : Nat) : kx_w R p j r p i = if i = j then r else R p i := by simp [kx_w]
theorem kx_wn {R : Nat → Nat → Nat} {p j r q : Nat} (h : q ≠ p) : kx_w R p j r q = R q := if_neg h
theorem kx_ns (R : Nat → Nat → Nat) (N : Nat) (f : Nat → Nat) : kx_n R N f N = f := if_pos rfl
theorem kx_nn {R : Nat → Nat → Nat} {N q : Nat} {f : Nat → Nat} (h : q ≠ N) : kx_n R N f q = R q := if_neg h
theorem kx_ld (G : kg_G) (N : Nat) (R : Nat → Nat → Nat) (M : kg_M) (i : Int32) (K : Int32 → Prop) : kg_ld G (N, R) M i 1003 K = kg_at 5 i (fun j => K (kg_sv 1003 j)) := by
  simp [kg_ld]
def kx_b (lo hi : Nat) (R : Nat → Nat → Nat) : Nat → Nat → Nat := fun p => if lo ≤ p ∧ p < hi then kg_R (fun _ => 0) p else R p
def kx_z (lo hi : Nat) (M : kg_M) : kg_M := fun p => if lo ≤ p ∧ p < hi then (fun _ => 0) else M p
theorem kx_bi {lo hi p : Nat} {R : Nat → Nat → Nat} (h : lo ≤ p ∧ p < hi) : kx_b lo hi R p = kg_R (fun _ => 0) p := if_pos h
theorem kx_bo {lo hi p : Nat} {R : Nat → Nat → Nat} (h : ¬ (lo ≤ p ∧ p < hi)) : kx_b lo hi R p = R p := if_neg h
theorem kx_zi {lo hi p : Nat} {M : kg_M} (h : lo ≤ p ∧ p < hi) : kx_z lo hi M p = fun _ => 0 := if_pos h
theorem kx_zo {lo hi p : Nat} {M : kg_M} (h : ¬ (lo ≤ p ∧ p < hi)) : kx_z lo hi M p = M p := if_neg h
theorem kx_fin {K : kg_Qt} {N : Nat} {R R' : Nat → Nat → Nat} {M M' : kg_M} (h : K none (N, R) M) (e1 : R' = R) (e2 : M' = M) : K none (N, R') M' := by
  rw [e1, e2]; exact h
theorem kx_u0 (j : Nat) : upd (fun _ => (0 : Int32)) j (nI 0) = fun _ => 0 := by
  funext i
  unfold upd
  split <;> rfl
def kx_fl (f : Nat → Int32) (i : Nat) : Nat → Int32 := fun j => if j < i then f j else 0
theorem kx_fl_s (f : Nat → Int32) (i : Nat) : upd (kx_fl f i) i (f i) = kx_fl f (i + 1) := by
  funext j
  unfold upd kx_fl
  by_cases e : j = i
  · rw [if_pos e, if_pos (by omega), e]
  · rw [if_neg e]
    by_cases e2 : j < i
    · rw [if_pos e2, if_pos (by omega)]
    · rw [if_neg e2, if_neg (by omega)]
theorem kx_fl_z (f : Nat → Int32) : kx_fl f 0 = fun _ => 0 := by
  funext j
  exact if_neg (by omega)
def kx_s (b : Nat) (M : kg_M) : kg_M := fun p => if p = b + 1 then kx_fl (kg_sv 1003) 5 else if p = b + 2 then kx_fl (fun _ => nI 1) 4 else if p = b + 8 then kx_fl (fun _ => kg_n 1) 16 else kx_z b (b + 20) M p
section
variable {G : kg_G} {d : Nat} {R : Nat → Nat → Nat} {M : kg_M} {K : kg_Qt}

set_option maxRecDepth 100000 in
theorem kc4_4 (hL : G.2.2.2.2.2.1 < 2 ^ 31) (hd : 2 ≤ d) (hK : K none (9, kx_b 4 9 R) (kx_z 4 9 M)) : kg_call G d 9 4 [.ref 4] (5, kx_n R 4 (fun _ => 0)) (kg_row M 4 (fun _ => 0)) K := by
  obtain ⟨d, rfl⟩ : ∃ e, d = e + 1 := ⟨d - 1, by omega⟩
  refine kg_m4 (by simp) (by show 5 ≤ 9; omega) (kg_v4 hL (by omega) 60 ?_)
  simp (disch := omega) only [↓kb_0t, ↓kb_0f, ↓kb_1t, ↓kb_1f, ↓kb_2t, ↓kb_2f, ↓kb_3t, ↓kb_3f, ↓kb_4t, ↓kb_4f, ↓kb_5t, ↓kb_5f, ↓kg_S1, kg_S2, kg_br_T, kg_br_F, kg_br_N, kg_br_t, kg_br_f, ↓kg_at_n, nI_add, pk_mul, kg_sub_n, kg_rem_n, kg_eq_n, kg_lt_n, kg_le_n, kg_nz, kg_01_0, kg_01_1, kg_w0_1, kg_ret0, kg_ret1, kg_ret2, kg_wr_n, kg_Skd, kg_Smc, kg_Sob, kg_Srf, kg_Sld, kg_pad, List.map_cons, List.map_nil, List.length_cons, List.length_nil, List.replicate, List.cons_append, List.nil_append, List.append_nil, Nat.reduceAdd, Nat.reduceSub, Nat.reduceMul, Nat.reduceMod, Nat.reduceDiv, Nat.reduceLT, Nat.reduceLeDiff, Nat.reduceEqDiff, ne_eq, not_true_eq_false, not_false_eq_true, reduceIte, true_and, and_true, kx_new, kx_wrr, kx_ret, kx_ld, kg_obj, eq_self, kx_ws, kx_wn, kx_ns, kx_nn, kg_wr_n, kw_n, kw_s, kw_w, kg_lk4, kg_ls4, kx_u0]
  refine kx_fin hK ?_ ?_
  · funext p
    by_cases hp : 4 ≤ p ∧ p < 9
    · rw [kx_bi hp]
      obtain rfl | rfl | rfl | rfl | rfl : p = 4 ∨ p = 5 ∨ p = 6 ∨ p = 7 ∨ p = 8 := by omega
      · funext k
        obtain rfl | rfl | rfl | rfl | ⟨n, rfl⟩ : k = 0 ∨ k = 1 ∨ k = 2 ∨ k = 3 ∨ ∃ n, k = n + 4 := by
          by_cases h : k < 4
          · omega
          · exact Or.inr (Or.inr (Or.inr (Or.inr (⟨k - 4, by omega⟩))))
        all_goals first | rfl | (simp (disch := omega) only [kx_ws, kx_wn, kx_ns, kx_nn, kx_bi, kx_bo, if_neg]; rfl)
      · first | rfl | (simp (disch := omega) only [kx_wn, kx_ns, kx_nn, kx_bi, kx_bo]; rfl)
      · first | rfl | (simp (disch := omega) only [kx_wn, kx_ns, kx_nn, kx_bi, kx_bo]; rfl)
      · first | rfl | (simp (disch := omega) only [kx_wn, kx_ns, kx_nn, kx_bi, kx_bo]; rfl)
      · first | rfl | (simp (disch := omega) only [kx_wn, kx_ns, kx_nn, kx_bi, kx_bo]; rfl)
    · rw [kx_bo hp]
      simp (disch := omega) only [kx_wn, kx_nn, kx_bo]
  · funext p
    by_cases hp : 4 ≤ p ∧ p < 9
    · rw [kx_zi hp]
      obtain rfl | rfl | rfl | rfl | rfl : p = 4 ∨ p = 5 ∨ p = 6 ∨ p = 7 ∨ p = 8 := by omega
      all_goals (simp (disch := omega) only [kw_o, kw_w, kw_n, kw_s, kx_u0])
    · rw [kx_zo hp]
      simp (disch := omega) only [kw_o, kw_w, kw_n]

set_option maxRecDepth 100000 in
theorem kc11_10 (hL : G.2.2.2.2.2.1 < 2 ^ 31) (hd : 2 ≤ d) (hK : K none (14, kx_b 10 14 R) (kx_z 10 14 M)) : kg_call G d 14 11 [.ref 10] (11, kx_n R 10 (fun _ => 0)) (kg_row M 10 (fun _ => 0)) K := by
  obtain ⟨d, rfl⟩ : ∃ e, d = e + 1 := ⟨d - 1, by omega⟩
  refine kg_m11 (by simp) (by show 11 ≤ 14; omega) (kg_v11 hL (by omega) 60 ?_)
  simp (disch := omega) only [↓kb_0t, ↓kb_0f, ↓kb_1t, ↓kb_1f, ↓kb_2t, ↓kb_2f, ↓kb_3t, ↓kb_3f, ↓kb_4t, ↓kb_4f, ↓kb_5t, ↓kb_5f, ↓kg_S1, kg_S2, kg_br_T, kg_br_F, kg_br_N, kg_br_t, kg_br_f, ↓kg_at_n, nI_add, pk_mul, kg_sub_n, kg_rem_n, kg_eq_n, kg_lt_n, kg_le_n, kg_nz, kg_01_0, kg_01_1, kg_w0_1, kg_ret0, kg_ret1, kg_ret2, kg_wr_n, kg_Skd, kg_Smc, kg_Sob, kg_Srf, kg_Sld, kg_pad, List.map_cons, List.map_nil, List.length_cons, List.length_nil, List.replicate, List.cons_append, List.nil_append, List.append_nil, Nat.reduceAdd, Nat.reduceSub, Nat.reduceMul, Nat.reduceMod, Nat.reduceDiv, Nat.reduceLT, Nat.reduceLeDiff, Nat.reduceEqDiff, ne_eq, not_true_eq_false, not_false_eq_true, reduceIte, true_and, and_true, kx_new, kx_wrr, kx_ret, kx_ld, kg_obj, eq_self, kx_ws, kx_wn, kx_ns, kx_nn, kg_wr_n, kw_n, kw_s, kw_w, kg_lk11, kg_ls11, kx_u0]
  refine kx_fin hK ?_ ?_
  · funext p
    by_cases hp : 10 ≤ p ∧ p < 14
    · rw [kx_bi hp]
      obtain rfl | rfl | rfl | rfl : p = 10 ∨ p = 11 ∨ p = 12 ∨ p = 13 := by omega
      · funext k
        obtain rfl | rfl | rfl | rfl | ⟨n, rfl⟩ : k = 0 ∨ k = 1 ∨ k = 2 ∨ k = 3 ∨ ∃ n, k = n + 4 := by
          by_cases h : k < 4
          · omega
          · exact Or.inr (Or.inr (Or.inr (Or.inr (⟨k - 4, by omega⟩))))
        all_goals first | rfl | (simp (disch := omega) only [kx_ws, kx_wn, kx_ns, kx_nn, kx_bi, kx_bo, if_neg]; rfl)
      · first | rfl | (simp (disch := omega) only [kx_wn, kx_ns, kx_nn, kx_bi, kx_bo]; rfl)
      · first | rfl | (simp (disch := omega) only [kx_wn, kx_ns, kx_nn, kx_bi, kx_bo]; rfl)
      · first | rfl | (simp (disch := omega) only [kx_wn, kx_ns, kx_nn, kx_bi, kx_bo]; rfl)
    · rw [kx_bo hp]
      simp (disch := omega) only [kx_wn, kx_nn, kx_bo]
  · funext p
    by_cases hp : 10 ≤ p ∧ p < 14
    · rw [kx_zi hp]
      obtain rfl | rfl | rfl | rfl : p = 10 ∨ p = 11 ∨ p = 12 ∨ p = 13 := by omega
      all_goals (simp (disch := omega) only [kw_o, kw_w, kw_n, kw_s, kx_u0])
    · rw [kx_zo hp]
      simp (disch := omega) only [kw_o, kw_w, kw_n]

set_option maxRecDepth 100000 in
theorem kc0_14 (hL : G.2.2.2.2.2.1 < 2 ^ 31) (hd : 2 ≤ d) (hK : K none (20, kx_b 14 20 R) (kx_z 14 20 M)) : kg_call G d 20 0 [.ref 14] (15, kx_n R 14 (fun _ => 0)) (kg_row M 14 (fun _ => 0)) K := by
  obtain ⟨d, rfl⟩ : ∃ e, d = e + 1 := ⟨d - 1, by omega⟩
  refine kg_m0 (by simp) (by show 15 ≤ 20; omega) (kg_v0 hL (by omega) 60 ?_)
  simp (disch := omega) only [↓kb_0t, ↓kb_0f, ↓kb_1t, ↓kb_1f, ↓kb_2t, ↓kb_2f, ↓kb_3t, ↓kb_3f, ↓kb_4t, ↓kb_4f, ↓kb_5t, ↓kb_5f, ↓kg_S1, kg_S2, kg_br_T, kg_br_F, kg_br_N, kg_br_t, kg_br_f, ↓kg_at_n, nI_add, pk_mul, kg_sub_n, kg_rem_n, kg_eq_n, kg_lt_n, kg_le_n, kg_nz, kg_01_0, kg_01_1, kg_w0_1, kg_ret0, kg_ret1, kg_ret2, kg_wr_n, kg_Skd, kg_Smc, kg_Sob, kg_Srf, kg_Sld, kg_pad, List.map_cons, List.map_nil, List.length_cons, List.length_nil, List.replicate, List.cons_append, List.nil_append, List.append_nil, Nat.reduceAdd, Nat.reduceSub, Nat.reduceMul, Nat.reduceMod, Nat.reduceDiv, Nat.reduceLT, Nat.reduceLeDiff, Nat.reduceEqDiff, ne_eq, not_true_eq_false, not_false_eq_true, reduceIte, true_and, and_true, kx_new, kx_wrr, kx_ret, kx_ld, kg_obj, eq_self, kx_ws, kx_wn, kx_ns, kx_nn, kg_wr_n, kw_n, kw_s, kw_w, kg_lk0, kg_ls0, kx_u0]
  refine kx_fin hK ?_ ?_
  · funext p
    by_cases hp : 14 ≤ p ∧ p < 20
    · rw [kx_bi hp]
      obtain rfl | rfl | rfl | rfl | rfl | rfl : p = 14 ∨ p = 15 ∨ p = 16 ∨ p = 17 ∨ p = 18 ∨ p = 19 := by omega
      · funext k
        obtain rfl | rfl | rfl | rfl | rfl | rfl | rfl | ⟨n, rfl⟩ : k = 0 ∨ k = 1 ∨ k = 2 ∨ k = 3 ∨ k = 4 ∨ k = 5 ∨ k = 6 ∨ ∃ n, k = n + 7 := by
          by_cases h : k < 7
          · omega
          · exact Or.inr (Or.inr (Or.inr (Or.inr (Or.inr (Or.inr (Or.inr (⟨k - 7, by omega⟩)))))))
        all_goals first | rfl | (simp (disch := omega) only [kx_ws, kx_wn, kx_ns, kx_nn, kx_bi, kx_bo, if_neg]; rfl)
      · first | rfl | (simp (disch := omega) only [kx_wn, kx_ns, kx_nn, kx_bi, kx_bo]; rfl)
      · first | rfl | (simp (disch := omega) only [kx_wn, kx_ns, kx_nn, kx_bi, kx_bo]; rfl)
      · first | rfl | (simp (disch := omega) only [kx_wn, kx_ns, kx_nn, kx_bi, kx_bo]; rfl)
      · first | rfl | (simp (disch := omega) only [kx_wn, kx_ns, kx_nn, kx_bi, kx_bo]; rfl)
      · first | rfl | (simp (disch := omega) only [kx_wn, kx_ns, kx_nn, kx_bi, kx_bo]; rfl)
    · rw [kx_bo hp]
      simp (disch := omega) only [kx_wn, kx_nn, kx_bo]
  · funext p
    by_cases hp : 14 ≤ p ∧ p < 20
    · rw [kx_zi hp]
      obtain rfl | rfl | rfl | rfl | rfl | rfl : p = 14 ∨ p = 15 ∨ p = 16 ∨ p = 17 ∨ p = 18 ∨ p = 19 := by omega
      all_goals (simp (disch := omega) only [kw_o, kw_w, kw_n, kw_s, kx_u0])
    · rw [kx_zo hp]
      simp (disch := omega) only [kw_o, kw_w, kw_n]

set_option maxRecDepth 100000 in
theorem kc4_25 (hL : G.2.2.2.2.2.1 < 2 ^ 31) (hd : 2 ≤ d) (hK : K none (30, kx_b 25 30 R) (kx_z 25 30 M)) : kg_call G d 30 4 [.ref 25] (26, kx_n R 25 (fun _ => 0)) (kg_row M 25 (fun _ => 0)) K := by
  obtain ⟨d, rfl⟩ : ∃ e, d = e + 1 := ⟨d - 1, by omega⟩
  refine kg_m4 (by simp) (by show 26 ≤ 30; omega) (kg_v4 hL (by omega) 60 ?_)
  simp (disch := omega) only [↓kb_0t, ↓kb_0f, ↓kb_1t, ↓kb_1f, ↓kb_2t, ↓kb_2f, ↓kb_3t, ↓kb_3f, ↓kb_4t, ↓kb_4f, ↓kb_5t, ↓kb_5f, ↓kg_S1, kg_S2, kg_br_T, kg_br_F, kg_br_N, kg_br_t, kg_br_f, ↓kg_at_n, nI_add, pk_mul, kg_sub_n, kg_rem_n, kg_eq_n, kg_lt_n, kg_le_n, kg_nz, kg_01_0, kg_01_1, kg_w0_1, kg_ret0, kg_ret1, kg_ret2, kg_wr_n, kg_Skd, kg_Smc, kg_Sob, kg_Srf, kg_Sld, kg_pad, List.map_cons, List.map_nil, List.length_cons, List.length_nil, List.replicate, List.cons_append, List.nil_append, List.append_nil, Nat.reduceAdd, Nat.reduceSub, Nat.reduceMul, Nat.reduceMod, Nat.reduceDiv, Nat.reduceLT, Nat.reduceLeDiff, Nat.reduceEqDiff, ne_eq, not_true_eq_false, not_false_eq_true, reduceIte, true_and, and_true, kx_new, kx_wrr, kx_ret, kx_ld, kg_obj, eq_self, kx_ws, kx_wn, kx_ns, kx_nn, kg_wr_n, kw_n, kw_s, kw_w, kg_lk4, kg_ls4, kx_u0]
  refine kx_fin hK ?_ ?_
  · funext p
    by_cases hp : 25 ≤ p ∧ p < 30
    · rw [kx_bi hp]
      obtain rfl | rfl | rfl | rfl | rfl : p = 25 ∨ p = 26 ∨ p = 27 ∨ p = 28 ∨ p = 29 := by omega
      · funext k
        obtain rfl | rfl | rfl | rfl | ⟨n, rfl⟩ : k = 0 ∨ k = 1 ∨ k = 2 ∨ k = 3 ∨ ∃ n, k = n + 4 := by
          by_cases h : k < 4
          · omega
          · exact Or.inr (Or.inr (Or.inr (Or.inr (⟨k - 4, by omega⟩))))
        all_goals first | rfl | (simp (disch := omega) only [kx_ws, kx_wn, kx_ns, kx_nn, kx_bi, kx_bo, if_neg]; rfl)
      · first | rfl | (simp (disch := omega) only [kx_wn, kx_ns, kx_nn, kx_bi, kx_bo]; rfl)
      · first | rfl | (simp (disch := omega) only [kx_wn, kx_ns, kx_nn, kx_bi, kx_bo]; rfl)
      · first | rfl | (simp (disch := omega) only [kx_wn, kx_ns, kx_nn, kx_bi, kx_bo]; rfl)
      · first | rfl | (simp (disch := omega) only [kx_wn, kx_ns, kx_nn, kx_bi, kx_bo]; rfl)
    · rw [kx_bo hp]
      simp (disch := omega) only [kx_wn, kx_nn, kx_bo]
  · funext p
    by_cases hp : 25 ≤ p ∧ p < 30
    · rw [kx_zi hp]
      obtain rfl | rfl | rfl | rfl | rfl : p = 25 ∨ p = 26 ∨ p = 27 ∨ p = 28 ∨ p = 29 := by omega
      all_goals (simp (disch := omega) only [kw_o, kw_w, kw_n, kw_s, kx_u0])
    · rw [kx_zo hp]
      simp (disch := omega) only [kw_o, kw_w, kw_n]

set_option maxRecDepth 100000 in
theorem kc11_31 (hL : G.2.2.2.2.2.1 < 2 ^ 31) (hd : 2 ≤ d) (hK : K none (35, kx_b 31 35 R) (kx_z 31 35 M)) : kg_call G d 35 11 [.ref 31] (32, kx_n R 31 (fun _ => 0)) (kg_row M 31 (fun _ => 0)) K := by
  obtain ⟨d, rfl⟩ : ∃ e, d = e + 1 := ⟨d - 1, by omega⟩
  refine kg_m11 (by simp) (by show 32 ≤ 35; omega) (kg_v11 hL (by omega) 60 ?_)
  simp (disch := omega) only [↓kb_0t, ↓kb_0f, ↓kb_1t, ↓kb_1f, ↓kb_2t, ↓kb_2f, ↓kb_3t, ↓kb_3f, ↓kb_4t, ↓kb_4f, ↓kb_5t, ↓kb_5f, ↓kg_S1, kg_S2, kg_br_T, kg_br_F, kg_br_N, kg_br_t, kg_br_f, ↓kg_at_n, nI_add, pk_mul, kg_sub_n, kg_rem_n, kg_eq_n, kg_lt_n, kg_le_n, kg_nz, kg_01_0, kg_01_1, kg_w0_1, kg_ret0, kg_ret1, kg_ret2, kg_wr_n, kg_Skd, kg_Smc, kg_Sob, kg_Srf, kg_Sld, kg_pad, List.map_cons, List.map_nil, List.length_cons, List.length_nil, List.replicate, List.cons_append, List.nil_append, List.append_nil, Nat.reduceAdd, Nat.reduceSub, Nat.reduceMul, Nat.reduceMod, Nat.reduceDiv, Nat.reduceLT, Nat.reduceLeDiff, Nat.reduceEqDiff, ne_eq, not_true_eq_false, not_false_eq_true, reduceIte, true_and, and_true, kx_new, kx_wrr, kx_ret, kx_ld, kg_obj, eq_self, kx_ws, kx_wn, kx_ns, kx_nn, kg_wr_n, kw_n, kw_s, kw_w, kg_lk11, kg_ls11, kx_u0]
  refine kx_fin hK ?_ ?_
  · funext p
    by_cases hp : 31 ≤ p ∧ p < 35
    · rw [kx_bi hp]
      obtain rfl | rfl | rfl | rfl : p = 31 ∨ p = 32 ∨ p = 33 ∨ p = 34 := by omega
      · funext k
        obtain rfl | rfl | rfl | rfl | ⟨n, rfl⟩ : k = 0 ∨ k = 1 ∨ k = 2 ∨ k = 3 ∨ ∃ n, k = n + 4 := by
          by_cases h : k < 4
          · omega
          · exact Or.inr (Or.inr (Or.inr (Or.inr (⟨k - 4, by omega⟩))))
        all_goals first | rfl | (simp (disch := omega) only [kx_ws, kx_wn, kx_ns, kx_nn, kx_bi, kx_bo, if_neg]; rfl)
      · first | rfl | (simp (disch := omega) only [kx_wn, kx_ns, kx_nn, kx_bi, kx_bo]; rfl)
      · first | rfl | (simp (disch := omega) only [kx_wn, kx_ns, kx_nn, kx_bi, kx_bo]; rfl)
      · first | rfl | (simp (disch := omega) only [kx_wn, kx_ns, kx_nn, kx_bi, kx_bo]; rfl)
    · rw [kx_bo hp]
      simp (disch := omega) only [kx_wn, kx_nn, kx_bo]
  · funext p
    by_cases hp : 31 ≤ p ∧ p < 35
    · rw [kx_zi hp]
      obtain rfl | rfl | rfl | rfl : p = 31 ∨ p = 32 ∨ p = 33 ∨ p = 34 := by omega
      all_goals (simp (disch := omega) only [kw_o, kw_w, kw_n, kw_s, kx_u0])
    · rw [kx_zo hp]
      simp (disch := omega) only [kw_o, kw_w, kw_n]

set_option maxRecDepth 100000 in
theorem kc0_35 (hL : G.2.2.2.2.2.1 < 2 ^ 31) (hd : 2 ≤ d) (hK : K none (41, kx_b 35 41 R) (kx_z 35 41 M)) : kg_call G d 41 0 [.ref 35] (36, kx_n R 35 (fun _ => 0)) (kg_row M 35 (fun _ => 0)) K := by
  obtain ⟨d, rfl⟩ : ∃ e, d = e + 1 := ⟨d - 1, by omega⟩
  refine kg_m0 (by simp) (by show 36 ≤ 41; omega) (kg_v0 hL (by omega) 60 ?_)
  simp (disch := omega) only [↓kb_0t, ↓kb_0f, ↓kb_1t, ↓kb_1f, ↓kb_2t, ↓kb_2f, ↓kb_3t, ↓kb_3f, ↓kb_4t, ↓kb_4f, ↓kb_5t, ↓kb_5f, ↓kg_S1, kg_S2, kg_br_T, kg_br_F, kg_br_N, kg_br_t, kg_br_f, ↓kg_at_n, nI_add, pk_mul, kg_sub_n, kg_rem_n, kg_eq_n, kg_lt_n, kg_le_n, kg_nz, kg_01_0, kg_01_1, kg_w0_1, kg_ret0, kg_ret1, kg_ret2, kg_wr_n, kg_Skd, kg_Smc, kg_Sob, kg_Srf, kg_Sld, kg_pad, List.map_cons, List.map_nil, List.length_cons, List.length_nil, List.replicate, List.cons_append, List.nil_append, List.append_nil, Nat.reduceAdd, Nat.reduceSub, Nat.reduceMul, Nat.reduceMod, Nat.reduceDiv, Nat.reduceLT, Nat.reduceLeDiff, Nat.reduceEqDiff, ne_eq, not_true_eq_false, not_false_eq_true, reduceIte, true_and, and_true, kx_new, kx_wrr, kx_ret, kx_ld, kg_obj, eq_self, kx_ws, kx_wn, kx_ns, kx_nn, kg_wr_n, kw_n, kw_s, kw_w, kg_lk0, kg_ls0, kx_u0]
  refine kx_fin hK ?_ ?_
  · funext p
    by_cases hp : 35 ≤ p ∧ p < 41
    · rw [kx_bi hp]
      obtain rfl | rfl | rfl | rfl | rfl | rfl : p = 35 ∨ p = 36 ∨ p = 37 ∨ p = 38 ∨ p = 39 ∨ p = 40 := by omega
      · funext k
        obtain rfl | rfl | rfl | rfl | rfl | rfl | rfl | ⟨n, rfl⟩ : k = 0 ∨ k = 1 ∨ k = 2 ∨ k = 3 ∨ k = 4 ∨ k = 5 ∨ k = 6 ∨ ∃ n, k = n + 7 := by
          by_cases h : k < 7
          · omega
          · exact Or.inr (Or.inr (Or.inr (Or.inr (Or.inr (Or.inr (Or.inr (⟨k - 7, by omega⟩)))))))
        all_goals first | rfl | (simp (disch := omega) only [kx_ws, kx_wn, kx_ns, kx_nn, kx_bi, kx_bo, if_neg]; rfl)
      · first | rfl | (simp (disch := omega) only [kx_wn, kx_ns, kx_nn, kx_bi, kx_bo]; rfl)
      · first | rfl | (simp (disch := omega) only [kx_wn, kx_ns, kx_nn, kx_bi, kx_bo]; rfl)
      · first | rfl | (simp (disch := omega) only [kx_wn, kx_ns, kx_nn, kx_bi, kx_bo]; rfl)
      · first | rfl | (simp (disch := omega) only [kx_wn, kx_ns, kx_nn, kx_bi, kx_bo]; rfl)
      · first | rfl | (simp (disch := omega) only [kx_wn, kx_ns, kx_nn, kx_bi, kx_bo]; rfl)
    · rw [kx_bo hp]
      simp (disch := omega) only [kx_wn, kx_nn, kx_bo]
  · funext p
    by_cases hp : 35 ≤ p ∧ p < 41
    · rw [kx_zi hp]
      obtain rfl | rfl | rfl | rfl | rfl | rfl : p = 35 ∨ p = 36 ∨ p = 37 ∨ p = 38 ∨ p = 39 ∨ p = 40 := by omega
      all_goals (simp (disch := omega) only [kw_o, kw_w, kw_n, kw_s, kx_u0])
    · rw [kx_zo hp]
      simp (disch := omega) only [kw_o, kw_w, kw_n]

set_option maxRecDepth 100000 in
theorem kc4_45 (hL : G.2.2.2.2.2.1 < 2 ^ 31) (hd : 2 ≤ d) (hK : K none (50, kx_b 45 50 R) (kx_z 45 50 M)) : kg_call G d 50 4 [.ref 45] (46, kx_n R 45 (fun _ => 0)) (kg_row M 45 (fun _ => 0)) K := by
  obtain ⟨d, rfl⟩ : ∃ e, d = e + 1 := ⟨d - 1, by omega⟩
  refine kg_m4 (by simp) (by show 46 ≤ 50; omega) (kg_v4 hL (by omega) 60 ?_)
  simp (disch := omega) only [↓kb_0t, ↓kb_0f, ↓kb_1t, ↓kb_1f, ↓kb_2t, ↓kb_2f, ↓kb_3t, ↓kb_3f, ↓kb_4t, ↓kb_4f, ↓kb_5t, ↓kb_5f, ↓kg_S1, kg_S2, kg_br_T, kg_br_F, kg_br_N, kg_br_t, kg_br_f, ↓kg_at_n, nI_add, pk_mul, kg_sub_n, kg_rem_n, kg_eq_n, kg_lt_n, kg_le_n, kg_nz, kg_01_0, kg_01_1, kg_w0_1, kg_ret0, kg_ret1, kg_ret2, kg_wr_n, kg_Skd, kg_Smc, kg_Sob, kg_Srf, kg_Sld, kg_pad, List.map_cons, List.map_nil, List.length_cons, List.length_nil, List.replicate, List.cons_append, List.nil_append, List.append_nil, Nat.reduceAdd, Nat.reduceSub, Nat.reduceMul, Nat.reduceMod, Nat.reduceDiv, Nat.reduceLT, Nat.reduceLeDiff, Nat.reduceEqDiff, ne_eq, not_true_eq_false, not_false_eq_true, reduceIte, true_and, and_true, kx_new, kx_wrr, kx_ret, kx_ld, kg_obj, eq_self, kx_ws, kx_wn, kx_ns, kx_nn, kg_wr_n, kw_n, kw_s, kw_w, kg_lk4, kg_ls4, kx_u0]
  refine kx_fin hK ?_ ?_
  · funext p
    by_cases hp : 45 ≤ p ∧ p < 50
    · rw [kx_bi hp]
      obtain rfl | rfl | rfl | rfl | rfl : p = 45 ∨ p = 46 ∨ p = 47 ∨ p = 48 ∨ p = 49 := by omega
      · funext k
        obtain rfl | rfl | rfl | rfl | ⟨n, rfl⟩ : k = 0 ∨ k = 1 ∨ k = 2 ∨ k = 3 ∨ ∃ n, k = n + 4 := by
          by_cases h : k < 4
          · omega
          · exact Or.inr (Or.inr (Or.inr (Or.inr (⟨k - 4, by omega⟩))))
        all_goals first | rfl | (simp (disch := omega) only [kx_ws, kx_wn, kx_ns, kx_nn, kx_bi, kx_bo, if_neg]; rfl)
      · first | rfl | (simp (disch := omega) only [kx_wn, kx_ns, kx_nn, kx_bi, kx_bo]; rfl)
      · first | rfl | (simp (disch := omega) only [kx_wn, kx_ns, kx_nn, kx_bi, kx_bo]; rfl)
      · first | rfl | (simp (disch := omega) only [kx_wn, kx_ns, kx_nn, kx_bi, kx_bo]; rfl)
      · first | rfl | (simp (disch := omega) only [kx_wn, kx_ns, kx_nn, kx_bi, kx_bo]; rfl)
    · rw [kx_bo hp]
      simp (disch := omega) only [kx_wn, kx_nn, kx_bo]
  · funext p
    by_cases hp : 45 ≤ p ∧ p < 50
    · rw [kx_zi hp]
      obtain rfl | rfl | rfl | rfl | rfl : p = 45 ∨ p = 46 ∨ p = 47 ∨ p = 48 ∨ p = 49 := by omega
      all_goals (simp (disch := omega) only [kw_o, kw_w, kw_n, kw_s, kx_u0])
    · rw [kx_zo hp]
      simp (disch := omega) only [kw_o, kw_w, kw_n]

set_option maxRecDepth 100000 in
theorem kc11_51 (hL : G.2.2.2.2.2.1 < 2 ^ 31) (hd : 2 ≤ d) (hK : K none (55, kx_b 51 55 R) (kx_z 51 55 M)) : kg_call G d 55 11 [.ref 51] (52, kx_n R 51 (fun _ => 0)) (kg_row M 51 (fun _ => 0)) K := by
  obtain ⟨d, rfl⟩ : ∃ e, d = e + 1 := ⟨d - 1, by omega⟩
  refine kg_m11 (by simp) (by show 52 ≤ 55; omega) (kg_v11 hL (by omega) 60 ?_)
  simp (disch := omega) only [↓kb_0t, ↓kb_0f, ↓kb_1t, ↓kb_1f, ↓kb_2t, ↓kb_2f, ↓kb_3t, ↓kb_3f, ↓kb_4t, ↓kb_4f, ↓kb_5t, ↓kb_5f, ↓kg_S1, kg_S2, kg_br_T, kg_br_F, kg_br_N, kg_br_t, kg_br_f, ↓kg_at_n, nI_add, pk_mul, kg_sub_n, kg_rem_n, kg_eq_n, kg_lt_n, kg_le_n, kg_nz, kg_01_0, kg_01_1, kg_w0_1, kg_ret0, kg_ret1, kg_ret2, kg_wr_n, kg_Skd, kg_Smc, kg_Sob, kg_Srf, kg_Sld, kg_pad, List.map_cons, List.map_nil, List.length_cons, List.length_nil, List.replicate, List.cons_append, List.nil_append, List.append_nil, Nat.reduceAdd, Nat.reduceSub, Nat.reduceMul, Nat.reduceMod, Nat.reduceDiv, Nat.reduceLT, Nat.reduceLeDiff, Nat.reduceEqDiff, ne_eq, not_true_eq_false, not_false_eq_true, reduceIte, true_and, and_true, kx_new, kx_wrr, kx_ret, kx_ld, kg_obj, eq_self, kx_ws, kx_wn, kx_ns, kx_nn, kg_wr_n, kw_n, kw_s, kw_w, kg_lk11, kg_ls11, kx_u0]
  refine kx_fin hK ?_ ?_
  · funext p
    by_cases hp : 51 ≤ p ∧ p < 55
    · rw [kx_bi hp]
      obtain rfl | rfl | rfl | rfl : p = 51 ∨ p = 52 ∨ p = 53 ∨ p = 54 := by omega
      · funext k
        obtain rfl | rfl | rfl | rfl | ⟨n, rfl⟩ : k = 0 ∨ k = 1 ∨ k = 2 ∨ k = 3 ∨ ∃ n, k = n + 4 := by
          by_cases h : k < 4
          · omega
          · exact Or.inr (Or.inr (Or.inr (Or.inr (⟨k - 4, by omega⟩))))
        all_goals first | rfl | (simp (disch := omega) only [kx_ws, kx_wn, kx_ns, kx_nn, kx_bi, kx_bo, if_neg]; rfl)
      · first | rfl | (simp (disch := omega) only [kx_wn, kx_ns, kx_nn, kx_bi, kx_bo]; rfl)
      · first | rfl | (simp (disch := omega) only [kx_wn, kx_ns, kx_nn, kx_bi, kx_bo]; rfl)
      · first | rfl | (simp (disch := omega) only [kx_wn, kx_ns, kx_nn, kx_bi, kx_bo]; rfl)
    · rw [kx_bo hp]
      simp (disch := omega) only [kx_wn, kx_nn, kx_bo]
  · funext p
    by_cases hp : 51 ≤ p ∧ p < 55
    · rw [kx_zi hp]
      obtain rfl | rfl | rfl | rfl : p = 51 ∨ p = 52 ∨ p = 53 ∨ p = 54 := by omega
      all_goals (simp (disch := omega) only [kw_o, kw_w, kw_n, kw_s, kx_u0])
    · rw [kx_zo hp]
      simp (disch := omega) only [kw_o, kw_w, kw_n]

set_option maxRecDepth 100000 in
theorem kc0_55 (hL : G.2.2.2.2.2.1 < 2 ^ 31) (hd : 2 ≤ d) (hK : K none (61, kx_b 55 61 R) (kx_z 55 61 M)) : kg_call G d 61 0 [.ref 55] (56, kx_n R 55 (fun _ => 0)) (kg_row M 55 (fun _ => 0)) K := by
  obtain ⟨d, rfl⟩ : ∃ e, d = e + 1 := ⟨d - 1, by omega⟩
  refine kg_m0 (by simp) (by show 56 ≤ 61; omega) (kg_v0 hL (by omega) 60 ?_)
  simp (disch := omega) only [↓kb_0t, ↓kb_0f, ↓kb_1t, ↓kb_1f, ↓kb_2t, ↓kb_2f, ↓kb_3t, ↓kb_3f, ↓kb_4t, ↓kb_4f, ↓kb_5t, ↓kb_5f, ↓kg_S1, kg_S2, kg_br_T, kg_br_F, kg_br_N, kg_br_t, kg_br_f, ↓kg_at_n, nI_add, pk_mul, kg_sub_n, kg_rem_n, kg_eq_n, kg_lt_n, kg_le_n, kg_nz, kg_01_0, kg_01_1, kg_w0_1, kg_ret0, kg_ret1, kg_ret2, kg_wr_n, kg_Skd, kg_Smc, kg_Sob, kg_Srf, kg_Sld, kg_pad, List.map_cons, List.map_nil, List.length_cons, List.length_nil, List.replicate, List.cons_append, List.nil_append, List.append_nil, Nat.reduceAdd, Nat.reduceSub, Nat.reduceMul, Nat.reduceMod, Nat.reduceDiv, Nat.reduceLT, Nat.reduceLeDiff, Nat.reduceEqDiff, ne_eq, not_true_eq_false, not_false_eq_true, reduceIte, true_and, and_true, kx_new, kx_wrr, kx_ret, kx_ld, kg_obj, eq_self, kx_ws, kx_wn, kx_ns, kx_nn, kg_wr_n, kw_n, kw_s, kw_w, kg_lk0, kg_ls0, kx_u0]
  refine kx_fin hK ?_ ?_
  · funext p
    by_cases hp : 55 ≤ p ∧ p < 61
    · rw [kx_bi hp]
      obtain rfl | rfl | rfl | rfl | rfl | rfl : p = 55 ∨ p = 56 ∨ p = 57 ∨ p = 58 ∨ p = 59 ∨ p = 60 := by omega
      · funext k
        obtain rfl | rfl | rfl | rfl | rfl | rfl | rfl | ⟨n, rfl⟩ : k = 0 ∨ k = 1 ∨ k = 2 ∨ k = 3 ∨ k = 4 ∨ k = 5 ∨ k = 6 ∨ ∃ n, k = n + 7 := by
          by_cases h : k < 7
          · omega
          · exact Or.inr (Or.inr (Or.inr (Or.inr (Or.inr (Or.inr (Or.inr (⟨k - 7, by omega⟩)))))))
        all_goals first | rfl | (simp (disch := omega) only [kx_ws, kx_wn, kx_ns, kx_nn, kx_bi, kx_bo, if_neg]; rfl)
      · first | rfl | (simp (disch := omega) only [kx_wn, kx_ns, kx_nn, kx_bi, kx_bo]; rfl)
      · first | rfl | (simp (disch := omega) only [kx_wn, kx_ns, kx_nn, kx_bi, kx_bo]; rfl)
      · first | rfl | (simp (disch := omega) only [kx_wn, kx_ns, kx_nn, kx_bi, kx_bo]; rfl)
      · first | rfl | (simp (disch := omega) only [kx_wn, kx_ns, kx_nn, kx_bi, kx_bo]; rfl)
      · first | rfl | (simp (disch := omega) only [kx_wn, kx_ns, kx_nn, kx_bi, kx_bo]; rfl)
    · rw [kx_bo hp]
      simp (disch := omega) only [kx_wn, kx_nn, kx_bo]
  · funext p
    by_cases hp : 55 ≤ p ∧ p < 61
    · rw [kx_zi hp]
      obtain rfl | rfl | rfl | rfl | rfl | rfl : p = 55 ∨ p = 56 ∨ p = 57 ∨ p = 58 ∨ p = 59 ∨ p = 60 := by omega
      all_goals (simp (disch := omega) only [kw_o, kw_w, kw_n, kw_s, kx_u0])
    · rw [kx_zo hp]
      simp (disch := omega) only [kw_o, kw_w, kw_n]

set_option maxRecDepth 100000 in
theorem kc4_65 (hL : G.2.2.2.2.2.1 < 2 ^ 31) (hd : 2 ≤ d) (hK : K none (70, kx_b 65 70 R) (kx_z 65 70 M)) : kg_call G d 70 4 [.ref 65] (66, kx_n R 65 (fun _ => 0)) (kg_row M 65 (fun _ => 0)) K := by
  obtain ⟨d, rfl⟩ : ∃ e, d = e + 1 := ⟨d - 1, by omega⟩
  refine kg_m4 (by simp) (by show 66 ≤ 70; omega) (kg_v4 hL (by omega) 60 ?_)
  simp (disch := omega) only [↓kb_0t, ↓kb_0f, ↓kb_1t, ↓kb_1f, ↓kb_2t, ↓kb_2f, ↓kb_3t, ↓kb_3f, ↓kb_4t, ↓kb_4f, ↓kb_5t, ↓kb_5f, ↓kg_S1, kg_S2, kg_br_T, kg_br_F, kg_br_N, kg_br_t, kg_br_f, ↓kg_at_n, nI_add, pk_mul, kg_sub_n, kg_rem_n, kg_eq_n, kg_lt_n, kg_le_n, kg_nz, kg_01_0, kg_01_1, kg_w0_1, kg_ret0, kg_ret1, kg_ret2, kg_wr_n, kg_Skd, kg_Smc, kg_Sob, kg_Srf, kg_Sld, kg_pad, List.map_cons, List.map_nil, List.length_cons, List.length_nil, List.replicate, List.cons_append, List.nil_append, List.append_nil, Nat.reduceAdd, Nat.reduceSub, Nat.reduceMul, Nat.reduceMod, Nat.reduceDiv, Nat.reduceLT, Nat.reduceLeDiff, Nat.reduceEqDiff, ne_eq, not_true_eq_false, not_false_eq_true, reduceIte, true_and, and_true, kx_new, kx_wrr, kx_ret, kx_ld, kg_obj, eq_self, kx_ws, kx_wn, kx_ns, kx_nn, kg_wr_n, kw_n, kw_s, kw_w, kg_lk4, kg_ls4, kx_u0]
  refine kx_fin hK ?_ ?_
  · funext p
    by_cases hp : 65 ≤ p ∧ p < 70
    · rw [kx_bi hp]
      obtain rfl | rfl | rfl | rfl | rfl : p = 65 ∨ p = 66 ∨ p = 67 ∨ p = 68 ∨ p = 69 := by omega
      · funext k
        obtain rfl | rfl | rfl | rfl | ⟨n, rfl⟩ : k = 0 ∨ k = 1 ∨ k = 2 ∨ k = 3 ∨ ∃ n, k = n + 4 := by
          by_cases h : k < 4
          · omega
          · exact Or.inr (Or.inr (Or.inr (Or.inr (⟨k - 4, by omega⟩))))
        all_goals first | rfl | (simp (disch := omega) only [kx_ws, kx_wn, kx_ns, kx_nn, kx_bi, kx_bo, if_neg]; rfl)
      · first | rfl | (simp (disch := omega) only [kx_wn, kx_ns, kx_nn, kx_bi, kx_bo]; rfl)
      · first | rfl | (simp (disch := omega) only [kx_wn, kx_ns, kx_nn, kx_bi, kx_bo]; rfl)
      · first | rfl | (simp (disch := omega) only [kx_wn, kx_ns, kx_nn, kx_bi, kx_bo]; rfl)
      · first | rfl | (simp (disch := omega) only [kx_wn, kx_ns, kx_nn, kx_bi, kx_bo]; rfl)
    · rw [kx_bo hp]
      simp (disch := omega) only [kx_wn, kx_nn, kx_bo]
  · funext p
    by_cases hp : 65 ≤ p ∧ p < 70
    · rw [kx_zi hp]
      obtain rfl | rfl | rfl | rfl | rfl : p = 65 ∨ p = 66 ∨ p = 67 ∨ p = 68 ∨ p = 69 := by omega
      all_goals (simp (disch := omega) only [kw_o, kw_w, kw_n, kw_s, kx_u0])
    · rw [kx_zo hp]
      simp (disch := omega) only [kw_o, kw_w, kw_n]

set_option maxRecDepth 100000 in
theorem kc11_71 (hL : G.2.2.2.2.2.1 < 2 ^ 31) (hd : 2 ≤ d) (hK : K none (75, kx_b 71 75 R) (kx_z 71 75 M)) : kg_call G d 75 11 [.ref 71] (72, kx_n R 71 (fun _ => 0)) (kg_row M 71 (fun _ => 0)) K := by
  obtain ⟨d, rfl⟩ : ∃ e, d = e + 1 := ⟨d - 1, by omega⟩
  refine kg_m11 (by simp) (by show 72 ≤ 75; omega) (kg_v11 hL (by omega) 60 ?_)
  simp (disch := omega) only [↓kb_0t, ↓kb_0f, ↓kb_1t, ↓kb_1f, ↓kb_2t, ↓kb_2f, ↓kb_3t, ↓kb_3f, ↓kb_4t, ↓kb_4f, ↓kb_5t, ↓kb_5f, ↓kg_S1, kg_S2, kg_br_T, kg_br_F, kg_br_N, kg_br_t, kg_br_f, ↓kg_at_n, nI_add, pk_mul, kg_sub_n, kg_rem_n, kg_eq_n, kg_lt_n, kg_le_n, kg_nz, kg_01_0, kg_01_1, kg_w0_1, kg_ret0, kg_ret1, kg_ret2, kg_wr_n, kg_Skd, kg_Smc, kg_Sob, kg_Srf, kg_Sld, kg_pad, List.map_cons, List.map_nil, List.length_cons, List.length_nil, List.replicate, List.cons_append, List.nil_append, List.append_nil, Nat.reduceAdd, Nat.reduceSub, Nat.reduceMul, Nat.reduceMod, Nat.reduceDiv, Nat.reduceLT, Nat.reduceLeDiff, Nat.reduceEqDiff, ne_eq, not_true_eq_false, not_false_eq_true, reduceIte, true_and, and_true, kx_new, kx_wrr, kx_ret, kx_ld, kg_obj, eq_self, kx_ws, kx_wn, kx_ns, kx_nn, kg_wr_n, kw_n, kw_s, kw_w, kg_lk11, kg_ls11, kx_u0]
  refine kx_fin hK ?_ ?_
  · funext p
    by_cases hp : 71 ≤ p ∧ p < 75
    · rw [kx_bi hp]
      obtain rfl | rfl | rfl | rfl : p = 71 ∨ p = 72 ∨ p = 73 ∨ p = 74 := by omega
      · funext k
        obtain rfl | rfl | rfl | rfl | ⟨n, rfl⟩ : k = 0 ∨ k = 1 ∨ k = 2 ∨ k = 3 ∨ ∃ n, k = n + 4 := by
          by_cases h : k < 4
          · omega
          · exact Or.inr (Or.inr (Or.inr (Or.inr (⟨k - 4, by omega⟩))))
        all_goals first | rfl | (simp (disch := omega) only [kx_ws, kx_wn, kx_ns, kx_nn, kx_bi, kx_bo, if_neg]; rfl)
      · first | rfl | (simp (disch := omega) only [kx_wn, kx_ns, kx_nn, kx_bi, kx_bo]; rfl)
      · first | rfl | (simp (disch := omega) only [kx_wn, kx_ns, kx_nn, kx_bi, kx_bo]; rfl)
      · first | rfl | (simp (disch := omega) only [kx_wn, kx_ns, kx_nn, kx_bi, kx_bo]; rfl)
    · rw [kx_bo hp]
      simp (disch := omega) only [kx_wn, kx_nn, kx_bo]
  · funext p
    by_cases hp : 71 ≤ p ∧ p < 75
    · rw [kx_zi hp]
      obtain rfl | rfl | rfl | rfl : p = 71 ∨ p = 72 ∨ p = 73 ∨ p = 74 := by omega
      all_goals (simp (disch := omega) only [kw_o, kw_w, kw_n, kw_s, kx_u0])
    · rw [kx_zo hp]
      simp (disch := omega) only [kw_o, kw_w, kw_n]

set_option maxRecDepth 100000 in
theorem kc0_75 (hL : G.2.2.2.2.2.1 < 2 ^ 31) (hd : 2 ≤ d) (hK : K none (81, kx_b 75 81 R) (kx_z 75 81 M)) : kg_call G d 81 0 [.ref 75] (76, kx_n R 75 (fun _ => 0)) (kg_row M 75 (fun _ => 0)) K := by
  obtain ⟨d, rfl⟩ : ∃ e, d = e + 1 := ⟨d - 1, by omega⟩
  refine kg_m0 (by simp) (by show 76 ≤ 81; omega) (kg_v0 hL (by omega) 60 ?_)
  simp (disch := omega) only [↓kb_0t, ↓kb_0f, ↓kb_1t, ↓kb_1f, ↓kb_2t, ↓kb_2f, ↓kb_3t, ↓kb_3f, ↓kb_4t, ↓kb_4f, ↓kb_5t, ↓kb_5f, ↓kg_S1, kg_S2, kg_br_T, kg_br_F, kg_br_N, kg_br_t, kg_br_f, ↓kg_at_n, nI_add, pk_mul, kg_sub_n, kg_rem_n, kg_eq_n, kg_lt_n, kg_le_n, kg_nz, kg_01_0, kg_01_1, kg_w0_1, kg_ret0, kg_ret1, kg_ret2, kg_wr_n, kg_Skd, kg_Smc, kg_Sob, kg_Srf, kg_Sld, kg_pad, List.map_cons, List.map_nil, List.length_cons, List.length_nil, List.replicate, List.cons_append, List.nil_append, List.append_nil, Nat.reduceAdd, Nat.reduceSub, Nat.reduceMul, Nat.reduceMod, Nat.reduceDiv, Nat.reduceLT, Nat.reduceLeDiff, Nat.reduceEqDiff, ne_eq, not_true_eq_false, not_false_eq_true, reduceIte, true_and, and_true, kx_new, kx_wrr, kx_ret, kx_ld, kg_obj, eq_self, kx_ws, kx_wn, kx_ns, kx_nn, kg_wr_n, kw_n, kw_s, kw_w, kg_lk0, kg_ls0, kx_u0]
  refine kx_fin hK ?_ ?_
  · funext p
    by_cases hp : 75 ≤ p ∧ p < 81
    · rw [kx_bi hp]
      obtain rfl | rfl | rfl | rfl | rfl | rfl : p = 75 ∨ p = 76 ∨ p = 77 ∨ p = 78 ∨ p = 79 ∨ p = 80 := by omega
      · funext k
        obtain rfl | rfl | rfl | rfl | rfl | rfl | rfl | ⟨n, rfl⟩ : k = 0 ∨ k = 1 ∨ k = 2 ∨ k = 3 ∨ k = 4 ∨ k = 5 ∨ k = 6 ∨ ∃ n, k = n + 7 := by
          by_cases h : k < 7
          · omega
          · exact Or.inr (Or.inr (Or.inr (Or.inr (Or.inr (Or.inr (Or.inr (⟨k - 7, by omega⟩)))))))
        all_goals first | rfl | (simp (disch := omega) only [kx_ws, kx_wn, kx_ns, kx_nn, kx_bi, kx_bo, if_neg]; rfl)
      · first | rfl | (simp (disch := omega) only [kx_wn, kx_ns, kx_nn, kx_bi, kx_bo]; rfl)
      · first | rfl | (simp (disch := omega) only [kx_wn, kx_ns, kx_nn, kx_bi, kx_bo]; rfl)
      · first | rfl | (simp (disch := omega) only [kx_wn, kx_ns, kx_nn, kx_bi, kx_bo]; rfl)
      · first | rfl | (simp (disch := omega) only [kx_wn, kx_ns, kx_nn, kx_bi, kx_bo]; rfl)
      · first | rfl | (simp (disch := omega) only [kx_wn, kx_ns, kx_nn, kx_bi, kx_bo]; rfl)
    · rw [kx_bo hp]
      simp (disch := omega) only [kx_wn, kx_nn, kx_bo]
  · funext p
    by_cases hp : 75 ≤ p ∧ p < 81
    · rw [kx_zi hp]
      obtain rfl | rfl | rfl | rfl | rfl | rfl : p = 75 ∨ p = 76 ∨ p = 77 ∨ p = 78 ∨ p = 79 ∨ p = 80 := by omega
      all_goals (simp (disch := omega) only [kw_o, kw_w, kw_n, kw_s, kx_u0])
    · rw [kx_zo hp]
      simp (disch := omega) only [kw_o, kw_w, kw_n]

set_option maxRecDepth 100000 in
theorem kc4_85 (hL : G.2.2.2.2.2.1 < 2 ^ 31) (hd : 2 ≤ d) (hK : K none (90, kx_b 85 90 R) (kx_z 85 90 M)) : kg_call G d 90 4 [.ref 85] (86, kx_n R 85 (fun _ => 0)) (kg_row M 85 (fun _ => 0)) K := by
  obtain ⟨d, rfl⟩ : ∃ e, d = e + 1 := ⟨d - 1, by omega⟩
  refine kg_m4 (by simp) (by show 86 ≤ 90; omega) (kg_v4 hL (by omega) 60 ?_)
  simp (disch := omega) only [↓kb_0t, ↓kb_0f, ↓kb_1t, ↓kb_1f, ↓kb_2t, ↓kb_2f, ↓kb_3t, ↓kb_3f, ↓kb_4t, ↓kb_4f, ↓kb_5t, ↓kb_5f, ↓kg_S1, kg_S2, kg_br_T, kg_br_F, kg_br_N, kg_br_t, kg_br_f, ↓kg_at_n, nI_add, pk_mul, kg_sub_n, kg_rem_n, kg_eq_n, kg_lt_n, kg_le_n, kg_nz, kg_01_0, kg_01_1, kg_w0_1, kg_ret0, kg_ret1, kg_ret2, kg_wr_n, kg_Skd, kg_Smc, kg_Sob, kg_Srf, kg_Sld, kg_pad, List.map_cons, List.map_nil, List.length_cons, List.length_nil, List.replicate, List.cons_append, List.nil_append, List.append_nil, Nat.reduceAdd, Nat.reduceSub, Nat.reduceMul, Nat.reduceMod, Nat.reduceDiv, Nat.reduceLT, Nat.reduceLeDiff, Nat.reduceEqDiff, ne_eq, not_true_eq_false, not_false_eq_true, reduceIte, true_and, and_true, kx_new, kx_wrr, kx_ret, kx_ld, kg_obj, eq_self, kx_ws, kx_wn, kx_ns, kx_nn, kg_wr_n, kw_n, kw_s, kw_w, kg_lk4, kg_ls4, kx_u0]
  refine kx_fin hK ?_ ?_
  · funext p
    by_cases hp : 85 ≤ p ∧ p < 90
    · rw [kx_bi hp]
      obtain rfl | rfl | rfl | rfl | rfl : p = 85 ∨ p = 86 ∨ p = 87 ∨ p = 88 ∨ p = 89 := by omega
      · funext k
        obtain rfl | rfl | rfl | rfl | ⟨n, rfl⟩ : k = 0 ∨ k = 1 ∨ k = 2 ∨ k = 3 ∨ ∃ n, k = n + 4 := by
          by_cases h : k < 4
          · omega
          · exact Or.inr (Or.inr (Or.inr (Or.inr (⟨k - 4, by omega⟩))))
        all_goals first | rfl | (simp (disch := omega) only [kx_ws, kx_wn, kx_ns, kx_nn, kx_bi, kx_bo, if_neg]; rfl)
      · first | rfl | (simp (disch := omega) only [kx_wn, kx_ns, kx_nn, kx_bi, kx_bo]; rfl)
      · first | rfl | (simp (disch := omega) only [kx_wn, kx_ns, kx_nn, kx_bi, kx_bo]; rfl)
      · first | rfl | (simp (disch := omega) only [kx_wn, kx_ns, kx_nn, kx_bi, kx_bo]; rfl)
      · first | rfl | (simp (disch := omega) only [kx_wn, kx_ns, kx_nn, kx_bi, kx_bo]; rfl)
    · rw [kx_bo hp]
      simp (disch := omega) only [kx_wn, kx_nn, kx_bo]
  · funext p
    by_cases hp : 85 ≤ p ∧ p < 90
    · rw [kx_zi hp]
      obtain rfl | rfl | rfl | rfl | rfl : p = 85 ∨ p = 86 ∨ p = 87 ∨ p = 88 ∨ p = 89 := by omega
      all_goals (simp (disch := omega) only [kw_o, kw_w, kw_n, kw_s, kx_u0])
    · rw [kx_zo hp]
      simp (disch := omega) only [kw_o, kw_w, kw_n]

set_option maxRecDepth 100000 in
theorem kc11_91 (hL : G.2.2.2.2.2.1 < 2 ^ 31) (hd : 2 ≤ d) (hK : K none (95, kx_b 91 95 R) (kx_z 91 95 M)) : kg_call G d 95 11 [.ref 91] (92, kx_n R 91 (fun _ => 0)) (kg_row M 91 (fun _ => 0)) K := by
  obtain ⟨d, rfl⟩ : ∃ e, d = e + 1 := ⟨d - 1, by omega⟩
  refine kg_m11 (by simp) (by show 92 ≤ 95; omega) (kg_v11 hL (by omega) 60 ?_)
  simp (disch := omega) only [↓kb_0t, ↓kb_0f, ↓kb_1t, ↓kb_1f, ↓kb_2t, ↓kb_2f, ↓kb_3t, ↓kb_3f, ↓kb_4t, ↓kb_4f, ↓kb_5t, ↓kb_5f, ↓kg_S1, kg_S2, kg_br_T, kg_br_F, kg_br_N, kg_br_t, kg_br_f, ↓kg_at_n, nI_add, pk_mul, kg_sub_n, kg_rem_n, kg_eq_n, kg_lt_n, kg_le_n, kg_nz, kg_01_0, kg_01_1, kg_w0_1, kg_ret0, kg_ret1, kg_ret2, kg_wr_n, kg_Skd, kg_Smc, kg_Sob, kg_Srf, kg_Sld, kg_pad, List.map_cons, List.map_nil, List.length_cons, List.length_nil, List.replicate, List.cons_append, List.nil_append, List.append_nil, Nat.reduceAdd, Nat.reduceSub, Nat.reduceMul, Nat.reduceMod, Nat.reduceDiv, Nat.reduceLT, Nat.reduceLeDiff, Nat.reduceEqDiff, ne_eq, not_true_eq_false, not_false_eq_true, reduceIte, true_and, and_true, kx_new, kx_wrr, kx_ret, kx_ld, kg_obj, eq_self, kx_ws, kx_wn, kx_ns, kx_nn, kg_wr_n, kw_n, kw_s, kw_w, kg_lk11, kg_ls11, kx_u0]
  refine kx_fin hK ?_ ?_
  · funext p
    by_cases hp : 91 ≤ p ∧ p < 95
    · rw [kx_bi hp]
      obtain rfl | rfl | rfl | rfl : p = 91 ∨ p = 92 ∨ p = 93 ∨ p = 94 := by omega
      · funext k
        obtain rfl | rfl | rfl | rfl | ⟨n, rfl⟩ : k = 0 ∨ k = 1 ∨ k = 2 ∨ k = 3 ∨ ∃ n, k = n + 4 := by
          by_cases h : k < 4
          · omega
          · exact Or.inr (Or.inr (Or.inr (Or.inr (⟨k - 4, by omega⟩))))
        all_goals first | rfl | (simp (disch := omega) only [kx_ws, kx_wn, kx_ns, kx_nn, kx_bi, kx_bo, if_neg]; rfl)
      · first | rfl | (simp (disch := omega) only [kx_wn, kx_ns, kx_nn, kx_bi, kx_bo]; rfl)
      · first | rfl | (simp (disch := omega) only [kx_wn, kx_ns, kx_nn, kx_bi, kx_bo]; rfl)
      · first | rfl | (simp (disch := omega) only [kx_wn, kx_ns, kx_nn, kx_bi, kx_bo]; rfl)
    · rw [kx_bo hp]
      simp (disch := omega) only [kx_wn, kx_nn, kx_bo]
  · funext p
    by_cases hp : 91 ≤ p ∧ p < 95
    · rw [kx_zi hp]
      obtain rfl | rfl | rfl | rfl : p = 91 ∨ p = 92 ∨ p = 93 ∨ p = 94 := by omega
      all_goals (simp (disch := omega) only [kw_o, kw_w, kw_n, kw_s, kx_u0])
    · rw [kx_zo hp]
      simp (disch := omega) only [kw_o, kw_w, kw_n]

set_option maxRecDepth 100000 in
theorem kc0_95 (hL : G.2.2.2.2.2.1 < 2 ^ 31) (hd : 2 ≤ d) (hK : K none (101, kx_b 95 101 R) (kx_z 95 101 M)) : kg_call G d 101 0 [.ref 95] (96, kx_n R 95 (fun _ => 0)) (kg_row M 95 (fun _ => 0)) K := by
  obtain ⟨d, rfl⟩ : ∃ e, d = e + 1 := ⟨d - 1, by omega⟩
  refine kg_m0 (by simp) (by show 96 ≤ 101; omega) (kg_v0 hL (by omega) 60 ?_)
  simp (disch := omega) only [↓kb_0t, ↓kb_0f, ↓kb_1t, ↓kb_1f, ↓kb_2t, ↓kb_2f, ↓kb_3t, ↓kb_3f, ↓kb_4t, ↓kb_4f, ↓kb_5t, ↓kb_5f, ↓kg_S1, kg_S2, kg_br_T, kg_br_F, kg_br_N, kg_br_t, kg_br_f, ↓kg_at_n, nI_add, pk_mul, kg_sub_n, kg_rem_n, kg_eq_n, kg_lt_n, kg_le_n, kg_nz, kg_01_0, kg_01_1, kg_w0_1, kg_ret0, kg_ret1, kg_ret2, kg_wr_n, kg_Skd, kg_Smc, kg_Sob, kg_Srf, kg_Sld, kg_pad, List.map_cons, List.map_nil, List.length_cons, List.length_nil, List.replicate, List.cons_append, List.nil_append, List.append_nil, Nat.reduceAdd, Nat.reduceSub, Nat.reduceMul, Nat.reduceMod, Nat.reduceDiv, Nat.reduceLT, Nat.reduceLeDiff, Nat.reduceEqDiff, ne_eq, not_true_eq_false, not_false_eq_true, reduceIte, true_and, and_true, kx_new, kx_wrr, kx_ret, kx_ld, kg_obj, eq_self, kx_ws, kx_wn, kx_ns, kx_nn, kg_wr_n, kw_n, kw_s, kw_w, kg_lk0, kg_ls0, kx_u0]
  refine kx_fin hK ?_ ?_
  · funext p
    by_cases hp : 95 ≤ p ∧ p < 101
    · rw [kx_bi hp]
      obtain rfl | rfl | rfl | rfl | rfl | rfl : p = 95 ∨ p = 96 ∨ p = 97 ∨ p = 98 ∨ p = 99 ∨ p = 100 := by omega
      · funext k
        obtain rfl | rfl | rfl | rfl | rfl | rfl | rfl | ⟨n, rfl⟩ : k = 0 ∨ k = 1 ∨ k = 2 ∨ k = 3 ∨ k = 4 ∨ k = 5 ∨ k = 6 ∨ ∃ n, k = n + 7 := by
          by_cases h : k < 7
          · omega
          · exact Or.inr (Or.inr (Or.inr (Or.inr (Or.inr (Or.inr (Or.inr (⟨k - 7, by omega⟩)))))))
        all_goals first | rfl | (simp (disch := omega) only [kx_ws, kx_wn, kx_ns, kx_nn, kx_bi, kx_bo, if_neg]; rfl)
      · first | rfl | (simp (disch := omega) only [kx_wn, kx_ns, kx_nn, kx_bi, kx_bo]; rfl)
      · first | rfl | (simp (disch := omega) only [kx_wn, kx_ns, kx_nn, kx_bi, kx_bo]; rfl)
      · first | rfl | (simp (disch := omega) only [kx_wn, kx_ns, kx_nn, kx_bi, kx_bo]; rfl)
      · first | rfl | (simp (disch := omega) only [kx_wn, kx_ns, kx_nn, kx_bi, kx_bo]; rfl)
      · first | rfl | (simp (disch := omega) only [kx_wn, kx_ns, kx_nn, kx_bi, kx_bo]; rfl)
    · rw [kx_bo hp]
      simp (disch := omega) only [kx_wn, kx_nn, kx_bo]
  · funext p
    by_cases hp : 95 ≤ p ∧ p < 101
    · rw [kx_zi hp]
      obtain rfl | rfl | rfl | rfl | rfl | rfl : p = 95 ∨ p = 96 ∨ p = 97 ∨ p = 98 ∨ p = 99 ∨ p = 100 := by omega
      all_goals (simp (disch := omega) only [kw_o, kw_w, kw_n, kw_s, kx_u0])
    · rw [kx_zo hp]
      simp (disch := omega) only [kw_o, kw_w, kw_n]

set_option maxRecDepth 100000 in
theorem kc4_105 (hL : G.2.2.2.2.2.1 < 2 ^ 31) (hd : 2 ≤ d) (hK : K none (110, kx_b 105 110 R) (kx_z 105 110 M)) : kg_call G d 110 4 [.ref 105] (106, kx_n R 105 (fun _ => 0)) (kg_row M 105 (fun _ => 0)) K := by
  obtain ⟨d, rfl⟩ : ∃ e, d = e + 1 := ⟨d - 1, by omega⟩
  refine kg_m4 (by simp) (by show 106 ≤ 110; omega) (kg_v4 hL (by omega) 60 ?_)
  simp (disch := omega) only [↓kb_0t, ↓kb_0f, ↓kb_1t, ↓kb_1f, ↓kb_2t, ↓kb_2f, ↓kb_3t, ↓kb_3f, ↓kb_4t, ↓kb_4f, ↓kb_5t, ↓kb_5f, ↓kg_S1, kg_S2, kg_br_T, kg_br_F, kg_br_N, kg_br_t, kg_br_f, ↓kg_at_n, nI_add, pk_mul, kg_sub_n, kg_rem_n, kg_eq_n, kg_lt_n, kg_le_n, kg_nz, kg_01_0, kg_01_1, kg_w0_1, kg_ret0, kg_ret1, kg_ret2, kg_wr_n, kg_Skd, kg_Smc, kg_Sob, kg_Srf, kg_Sld, kg_pad, List.map_cons, List.map_nil, List.length_cons, List.length_nil, List.replicate, List.cons_append, List.nil_append, List.append_nil, Nat.reduceAdd, Nat.reduceSub, Nat.reduceMul, Nat.reduceMod, Nat.reduceDiv, Nat.reduceLT, Nat.reduceLeDiff, Nat.reduceEqDiff, ne_eq, not_true_eq_false, not_false_eq_true, reduceIte, true_and, and_true, kx_new, kx_wrr, kx_ret, kx_ld, kg_obj, eq_self, kx_ws, kx_wn, kx_ns, kx_nn, kg_wr_n, kw_n, kw_s, kw_w, kg_lk4, kg_ls4, kx_u0]
  refine kx_fin hK ?_ ?_
  · funext p
    by_cases hp : 105 ≤ p ∧ p < 110
    · rw [kx_bi hp]
      obtain rfl | rfl | rfl | rfl | rfl : p = 105 ∨ p = 106 ∨ p = 107 ∨ p = 108 ∨ p = 109 := by omega
      · funext k
        obtain rfl | rfl | rfl | rfl | ⟨n, rfl⟩ : k = 0 ∨ k = 1 ∨ k = 2 ∨ k = 3 ∨ ∃ n, k = n + 4 := by
          by_cases h : k < 4
          · omega
          · exact Or.inr (Or.inr (Or.inr (Or.inr (⟨k - 4, by omega⟩))))
        all_goals first | rfl | (simp (disch := omega) only [kx_ws, kx_wn, kx_ns, kx_nn, kx_bi, kx_bo, if_neg]; rfl)
      · first | rfl | (simp (disch := omega) only [kx_wn, kx_ns, kx_nn, kx_bi, kx_bo]; rfl)
      · first | rfl | (simp (disch := omega) only [kx_wn, kx_ns, kx_nn, kx_bi, kx_bo]; rfl)
      · first | rfl | (simp (disch := omega) only [kx_wn, kx_ns, kx_nn, kx_bi, kx_bo]; rfl)
      · first | rfl | (simp (disch := omega) only [kx_wn, kx_ns, kx_nn, kx_bi, kx_bo]; rfl)
    · rw [kx_bo hp]
      simp (disch := omega) only [kx_wn, kx_nn, kx_bo]
  · funext p
    by_cases hp : 105 ≤ p ∧ p < 110
    · rw [kx_zi hp]
      obtain rfl | rfl | rfl | rfl | rfl : p = 105 ∨ p = 106 ∨ p = 107 ∨ p = 108 ∨ p = 109 := by omega
      all_goals (simp (disch := omega) only [kw_o, kw_w, kw_n, kw_s, kx_u0])
    · rw [kx_zo hp]
      simp (disch := omega) only [kw_o, kw_w, kw_n]

set_option maxRecDepth 100000 in
theorem kc11_111 (hL : G.2.2.2.2.2.1 < 2 ^ 31) (hd : 2 ≤ d) (hK : K none (115, kx_b 111 115 R) (kx_z 111 115 M)) : kg_call G d 115 11 [.ref 111] (112, kx_n R 111 (fun _ => 0)) (kg_row M 111 (fun _ => 0)) K := by
  obtain ⟨d, rfl⟩ : ∃ e, d = e + 1 := ⟨d - 1, by omega⟩
  refine kg_m11 (by simp) (by show 112 ≤ 115; omega) (kg_v11 hL (by omega) 60 ?_)
  simp (disch := omega) only [↓kb_0t, ↓kb_0f, ↓kb_1t, ↓kb_1f, ↓kb_2t, ↓kb_2f, ↓kb_3t, ↓kb_3f, ↓kb_4t, ↓kb_4f, ↓kb_5t, ↓kb_5f, ↓kg_S1, kg_S2, kg_br_T, kg_br_F, kg_br_N, kg_br_t, kg_br_f, ↓kg_at_n, nI_add, pk_mul, kg_sub_n, kg_rem_n, kg_eq_n, kg_lt_n, kg_le_n, kg_nz, kg_01_0, kg_01_1, kg_w0_1, kg_ret0, kg_ret1, kg_ret2, kg_wr_n, kg_Skd, kg_Smc, kg_Sob, kg_Srf, kg_Sld, kg_pad, List.map_cons, List.map_nil, List.length_cons, List.length_nil, List.replicate, List.cons_append, List.nil_append, List.append_nil, Nat.reduceAdd, Nat.reduceSub, Nat.reduceMul, Nat.reduceMod, Nat.reduceDiv, Nat.reduceLT, Nat.reduceLeDiff, Nat.reduceEqDiff, ne_eq, not_true_eq_false, not_false_eq_true, reduceIte, true_and, and_true, kx_new, kx_wrr, kx_ret, kx_ld, kg_obj, eq_self, kx_ws, kx_wn, kx_ns, kx_nn, kg_wr_n, kw_n, kw_s, kw_w, kg_lk11, kg_ls11, kx_u0]
  refine kx_fin hK ?_ ?_
  · funext p
    by_cases hp : 111 ≤ p ∧ p < 115
    · rw [kx_bi hp]
      obtain rfl | rfl | rfl | rfl : p = 111 ∨ p = 112 ∨ p = 113 ∨ p = 114 := by omega
      · funext k
        obtain rfl | rfl | rfl | rfl | ⟨n, rfl⟩ : k = 0 ∨ k = 1 ∨ k = 2 ∨ k = 3 ∨ ∃ n, k = n + 4 := by
          by_cases h : k < 4
          · omega
          · exact Or.inr (Or.inr (Or.inr (Or.inr (⟨k - 4, by omega⟩))))
        all_goals first | rfl | (simp (disch := omega) only [kx_ws, kx_wn, kx_ns, kx_nn, kx_bi, kx_bo, if_neg]; rfl)
      · first | rfl | (simp (disch := omega) only [kx_wn, kx_ns, kx_nn, kx_bi, kx_bo]; rfl)
      · first | rfl | (simp (disch := omega) only [kx_wn, kx_ns, kx_nn, kx_bi, kx_bo]; rfl)
      · first | rfl | (simp (disch := omega) only [kx_wn, kx_ns, kx_nn, kx_bi, kx_bo]; rfl)
    · rw [kx_bo hp]
      simp (disch := omega) only [kx_wn, kx_nn, kx_bo]
  · funext p
    by_cases hp : 111 ≤ p ∧ p < 115
    · rw [kx_zi hp]
      obtain rfl | rfl | rfl | rfl : p = 111 ∨ p = 112 ∨ p = 113 ∨ p = 114 := by omega
      all_goals (simp (disch := omega) only [kw_o, kw_w, kw_n, kw_s, kx_u0])
    · rw [kx_zo hp]
      simp (disch := omega) only [kw_o, kw_w, kw_n]

set_option maxRecDepth 100000 in
theorem kc0_115 (hL : G.2.2.2.2.2.1 < 2 ^ 31) (hd : 2 ≤ d) (hK : K none (121, kx_b 115 121 R) (kx_z 115 121 M)) : kg_call G d 121 0 [.ref 115] (116, kx_n R 115 (fun _ => 0)) (kg_row M 115 (fun _ => 0)) K := by
  obtain ⟨d, rfl⟩ : ∃ e, d = e + 1 := ⟨d - 1, by omega⟩
  refine kg_m0 (by simp) (by show 116 ≤ 121; omega) (kg_v0 hL (by omega) 60 ?_)
  simp (disch := omega) only [↓kb_0t, ↓kb_0f, ↓kb_1t, ↓kb_1f, ↓kb_2t, ↓kb_2f, ↓kb_3t, ↓kb_3f, ↓kb_4t, ↓kb_4f, ↓kb_5t, ↓kb_5f, ↓kg_S1, kg_S2, kg_br_T, kg_br_F, kg_br_N, kg_br_t, kg_br_f, ↓kg_at_n, nI_add, pk_mul, kg_sub_n, kg_rem_n, kg_eq_n, kg_lt_n, kg_le_n, kg_nz, kg_01_0, kg_01_1, kg_w0_1, kg_ret0, kg_ret1, kg_ret2, kg_wr_n, kg_Skd, kg_Smc, kg_Sob, kg_Srf, kg_Sld, kg_pad, List.map_cons, List.map_nil, List.length_cons, List.length_nil, List.replicate, List.cons_append, List.nil_append, List.append_nil, Nat.reduceAdd, Nat.reduceSub, Nat.reduceMul, Nat.reduceMod, Nat.reduceDiv, Nat.reduceLT, Nat.reduceLeDiff, Nat.reduceEqDiff, ne_eq, not_true_eq_false, not_false_eq_true, reduceIte, true_and, and_true, kx_new, kx_wrr, kx_ret, kx_ld, kg_obj, eq_self, kx_ws, kx_wn, kx_ns, kx_nn, kg_wr_n, kw_n, kw_s, kw_w, kg_lk0, kg_ls0, kx_u0]
  refine kx_fin hK ?_ ?_
  · funext p
    by_cases hp : 115 ≤ p ∧ p < 121
    · rw [kx_bi hp]
      obtain rfl | rfl | rfl | rfl | rfl | rfl : p = 115 ∨ p = 116 ∨ p = 117 ∨ p = 118 ∨ p = 119 ∨ p = 120 := by omega
      · funext k
        obtain rfl | rfl | rfl | rfl | rfl | rfl | rfl | ⟨n, rfl⟩ : k = 0 ∨ k = 1 ∨ k = 2 ∨ k = 3 ∨ k = 4 ∨ k = 5 ∨ k = 6 ∨ ∃ n, k = n + 7 := by
          by_cases h : k < 7
          · omega
          · exact Or.inr (Or.inr (Or.inr (Or.inr (Or.inr (Or.inr (Or.inr (⟨k - 7, by omega⟩)))))))
        all_goals first | rfl | (simp (disch := omega) only [kx_ws, kx_wn, kx_ns, kx_nn, kx_bi, kx_bo, if_neg]; rfl)
      · first | rfl | (simp (disch := omega) only [kx_wn, kx_ns, kx_nn, kx_bi, kx_bo]; rfl)
      · first | rfl | (simp (disch := omega) only [kx_wn, kx_ns, kx_nn, kx_bi, kx_bo]; rfl)
      · first | rfl | (simp (disch := omega) only [kx_wn, kx_ns, kx_nn, kx_bi, kx_bo]; rfl)
      · first | rfl | (simp (disch := omega) only [kx_wn, kx_ns, kx_nn, kx_bi, kx_bo]; rfl)
      · first | rfl | (simp (disch := omega) only [kx_wn, kx_ns, kx_nn, kx_bi, kx_bo]; rfl)
    · rw [kx_bo hp]
      simp (disch := omega) only [kx_wn, kx_nn, kx_bo]
  · funext p
    by_cases hp : 115 ≤ p ∧ p < 121
    · rw [kx_zi hp]
      obtain rfl | rfl | rfl | rfl | rfl | rfl : p = 115 ∨ p = 116 ∨ p = 117 ∨ p = 118 ∨ p = 119 ∨ p = 120 := by omega
      all_goals (simp (disch := omega) only [kw_o, kw_w, kw_n, kw_s, kx_u0])
    · rw [kx_zo hp]
      simp (disch := omega) only [kw_o, kw_w, kw_n]

set_option maxRecDepth 100000 in
theorem kc14_122 (hL : G.2.2.2.2.2.1 < 2 ^ 31) (hd : 2 ≤ d) (hK : K none (124, kx_b 122 124 R) (kx_z 122 124 M)) : kg_call G d 124 14 [.ref 122] (123, kx_n R 122 (fun _ => 0)) (kg_row M 122 (fun _ => 0)) K := by
  obtain ⟨d, rfl⟩ : ∃ e, d = e + 1 := ⟨d - 1, by omega⟩
  refine kg_m14 (by simp) (by show 123 ≤ 124; omega) (kg_v14 hL (by omega) 60 ?_)
  simp (disch := omega) only [↓kb_0t, ↓kb_0f, ↓kb_1t, ↓kb_1f, ↓kb_2t, ↓kb_2f, ↓kb_3t, ↓kb_3f, ↓kb_4t, ↓kb_4f, ↓kb_5t, ↓kb_5f, ↓kg_S1, kg_S2, kg_br_T, kg_br_F, kg_br_N, kg_br_t, kg_br_f, ↓kg_at_n, nI_add, pk_mul, kg_sub_n, kg_rem_n, kg_eq_n, kg_lt_n, kg_le_n, kg_nz, kg_01_0, kg_01_1, kg_w0_1, kg_ret0, kg_ret1, kg_ret2, kg_wr_n, kg_Skd, kg_Smc, kg_Sob, kg_Srf, kg_Sld, kg_pad, List.map_cons, List.map_nil, List.length_cons, List.length_nil, List.replicate, List.cons_append, List.nil_append, List.append_nil, Nat.reduceAdd, Nat.reduceSub, Nat.reduceMul, Nat.reduceMod, Nat.reduceDiv, Nat.reduceLT, Nat.reduceLeDiff, Nat.reduceEqDiff, ne_eq, not_true_eq_false, not_false_eq_true, reduceIte, true_and, and_true, kx_new, kx_wrr, kx_ret, kx_ld, kg_obj, eq_self, kx_ws, kx_wn, kx_ns, kx_nn, kg_wr_n, kw_n, kw_s, kw_w, kg_lk14, kg_ls14, kx_u0]
  refine kx_fin hK ?_ ?_
  · funext p
    by_cases hp : 122 ≤ p ∧ p < 124
    · rw [kx_bi hp]
      obtain rfl | rfl : p = 122 ∨ p = 123 := by omega
      · funext k
        obtain rfl | ⟨n, rfl⟩ : k = 0 ∨ ∃ n, k = n + 1 := by
          by_cases h : k < 1
          · omega
          · exact Or.inr (⟨k - 1, by omega⟩)
        all_goals first | rfl | (simp (disch := omega) only [kx_ws, kx_wn, kx_ns, kx_nn, kx_bi, kx_bo, if_neg]; rfl)
      · first | rfl | (simp (disch := omega) only [kx_wn, kx_ns, kx_nn, kx_bi, kx_bo]; rfl)
    · rw [kx_bo hp]
      simp (disch := omega) only [kx_wn, kx_nn, kx_bo]
  · funext p
    by_cases hp : 122 ≤ p ∧ p < 124
    · rw [kx_zi hp]
      obtain rfl | rfl : p = 122 ∨ p = 123 := by omega
      all_goals (simp (disch := omega) only [kw_o, kw_w, kw_n, kw_s, kx_u0])
    · rw [kx_zo hp]
      simp (disch := omega) only [kw_o, kw_w, kw_n]

end
