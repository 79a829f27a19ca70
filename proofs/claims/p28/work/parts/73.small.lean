/-! THE LAW'S SMALL METHODS: masks, what the queries answer, cell, low, stamp -/
theorem kl_ld (G : kg_G) (w : kg_W) (M : kg_M) (i : Int32) (K : Int32 → Prop) : kg_ld G w M i 1000 K = kg_at G.2.2.2.2.2.1 i (fun j => K (G.2.2.2.2.2.2 j)) := by
  simp [kg_ld]
theorem kj_mk (x : Int32) (j : Nat) (hj : j < 2147483648) : ∃ k : Nat, k ≤ j ∧ x &&& nI j = nI k := by
  have e : (nI j).toBitVec.toNat = j := by
    unfold nI
    simp
    omega
  refine ⟨(x &&& nI j).toBitVec.toNat, ?_, ?_⟩
  · rw [Int32.toBitVec_and, BitVec.toNat_and, e]
    exact Nat.and_le_right
  · apply Int32.toBitVec_inj.mp
    apply BitVec.eq_of_toNat_eq
    unfold nI
    simp
section
variable {A : kf_A} {n k a b : Nat}
theorem kj_k0 (hn : n < 4) (hk : k < 8) : kf_kno A (nI n) (nI k) (nI 0) = kf_w A.1 n k := by
  unfold kf_kno; rw [kj_ix hn (by omega), kj_ix hk (by omega), kj_ix (n := 7) (j := 0) (by omega) (by omega)]; rfl
theorem kj_k1 (hn : n < 4) (hk : k < 8) : kf_kno A (nI n) (nI k) (nI 1) = if kf_w A.1 n k = nI 1 then kf_v A.1 n k else kg_n 5 := by
  unfold kf_kno; rw [kj_ix hn (by omega), kj_ix hk (by omega), kj_ix (n := 7) (j := 1) (by omega) (by omega)]; rfl
theorem kj_k2 (hn : n < 4) (hk : k < 8) : kf_kno A (nI n) (nI k) (nI 2) = if kf_w A.1 n k = nI 0 then kg_n 5 else kf_s A.1 n k := by
  unfold kf_kno; rw [kj_ix hn (by omega), kj_ix hk (by omega), kj_ix (n := 7) (j := 2) (by omega) (by omega)]; rfl
theorem kj_k3 (hn : n < 4) (hk : k < 8) : kf_kno A (nI n) (nI k) (nI 3) = if kf_w A.1 n k = nI 0 then kg_n 5 else kf_t A.1 n k := by
  unfold kf_kno; rw [kj_ix hn (by omega), kj_ix hk (by omega), kj_ix (n := 7) (j := 3) (by omega) (by omega)]; rfl
theorem kj_k5 (hn : n < 4) (hk : k < 8) : kf_kno A (nI n) (nI k) (nI 5) = kf_b (kf_hn A.1 n k) := by
  unfold kf_kno; rw [kj_ix hn (by omega), kj_ix hk (by omega), kj_ix (n := 7) (j := 5) (by omega) (by omega)]; rfl
theorem kj_k6 (hn : n < 4) (hk : k < 8) : kf_kno A (nI n) (nI k) (nI 6) = if kf_w A.1 n k = nI 0 then kg_n 5 else kf_c A.1 n k := by
  unfold kf_kno; rw [kj_ix hn (by omega), kj_ix hk (by omega), kj_ix (n := 7) (j := 6) (by omega) (by omega)]; rfl
theorem kj_t0 (hk : k < 8) : kf_tru A (nI k) (nI 0) = kf_w A.1 4 k := by
  unfold kf_tru; rw [kj_ix hk (by omega), kj_ix (n := 5) (j := 0) (by omega) (by omega)]; rfl
theorem kj_t1 (hk : k < 8) : kf_tru A (nI k) (nI 1) = if kf_w A.1 4 k = nI 1 then kf_v A.1 4 k else kg_n 5 := by
  unfold kf_tru; rw [kj_ix hk (by omega), kj_ix (n := 5) (j := 1) (by omega) (by omega)]; rfl
theorem kj_t2 (hk : k < 8) : kf_tru A (nI k) (nI 2) = nI (kf_ct (fun n => decide (kf_s A.1 n k = kf_s A.1 4 k)) 4) := by
  unfold kf_tru; rw [kj_ix hk (by omega), kj_ix (n := 5) (j := 2) (by omega) (by omega)]; rfl
theorem kj_n0 (hn : n < 4) : kf_nod A (nI n) (nI 0) = A.1 (7 + n) := by
  unfold kf_nod; rw [kj_ix hn (by omega), kj_ix (n := 6) (j := 0) (by omega) (by omega)]; rfl
theorem kj_n1 (hn : n < 4) : kf_nod A (nI n) (nI 1) = nI (kf_ct (fun k => decide (kf_w A.1 n k = nI 1)) 8) := by
  unfold kf_nod; rw [kj_ix hn (by omega), kj_ix (n := 6) (j := 1) (by omega) (by omega)]; rfl
theorem kj_n2 (hn : n < 4) : kf_nod A (nI n) (nI 2) = nI (kf_ct (fun k => decide (kf_w A.1 n k = nI 2)) 8) := by
  unfold kf_nod; rw [kj_ix hn (by omega), kj_ix (n := 6) (j := 2) (by omega) (by omega)]; rfl
theorem kj_n3 (hn : n < 4) : kf_nod A (nI n) (nI 3) = nI (kf_ct (fun k => kf_rp A.1 n k) 8) := by
  unfold kf_nod; rw [kj_ix hn (by omega), kj_ix (n := 6) (j := 3) (by omega) (by omega)]; rfl
theorem kj_n4 (hn : n < 4) : kf_nod A (nI n) (nI 4) = nI (kf_ct (fun k => kf_cl A.1 n k) 8) := by
  unfold kf_nod; rw [kj_ix hn (by omega), kj_ix (n := 6) (j := 4) (by omega) (by omega)]; rfl
theorem kj_n5 (hn : n < 4) : kf_nod A (nI n) (nI 5) = nI (kf_ct (fun k => kf_hn A.1 n k) 8) := by
  unfold kf_nod; rw [kj_ix hn (by omega), kj_ix (n := 6) (j := 5) (by omega) (by omega)]; rfl
theorem kj_c0 : kf_cnt A (nI 0) = A.1 0 := by
  unfold kf_cnt; rw [kj_ix (n := 13) (j := 0) (by omega) (by omega)]; rfl
theorem kj_c1 : kf_cnt A (nI 1) = A.1 1 := by
  unfold kf_cnt; rw [kj_ix (n := 13) (j := 1) (by omega) (by omega)]; rfl
theorem kj_c6 : kf_cnt A (nI 6) = nI (kf_sm (fun n => kf_ct (fun k => decide (kf_w A.1 n k = nI 2)) 8) 4) := by
  unfold kf_cnt; rw [kj_ix (n := 13) (j := 6) (by omega) (by omega)]; rfl
theorem kj_c9 : kf_cnt A (nI 9) = nI (kf_up4 A.1) := by
  unfold kf_cnt; rw [kj_ix (n := 13) (j := 9) (by omega) (by omega)]; rfl
theorem kj_c10 : kf_cnt A (nI 10) = nI (kf_sm (fun n => kf_ct (kf_on A.1 n) 8) 4) := by
  unfold kf_cnt; rw [kj_ix (n := 13) (j := 10) (by omega) (by omega)]; rfl
theorem kj_p0 (ha : a < 4) (hb : b < 4) (hab : a ≠ b) : kf_par A (nI a) (nI b) (nI 0) = A.1 (11 + 4 * a + b) := by
  unfold kf_par; rw [kj_ix ha (by omega), kj_ix hb (by omega), kj_ix (n := 2) (j := 0) (by omega) (by omega)]; dsimp only; rw [if_neg hab, if_pos rfl]
theorem kj_pd (ha : a < 4) (hb : b < 4) (hab : a ≠ b) : kf_par A (nI a) (nI b) (nI 1) = nI (kf_dn A.1 a b) := by
  unfold kf_par; rw [kj_ix ha (by omega), kj_ix hb (by omega), kj_ix (n := 2) (j := 1) (by omega) (by omega)]; dsimp only; rw [if_neg hab, if_neg (by omega)]
theorem kj_s1 : kf_sti A (nI 1) = A.1 3 := by
  unfold kf_sti; rw [kj_ix (n := 5) (j := 1) (by omega) (by omega)]
end
theorem kj_I {c : Nat} {h : Nat → Nat} {M : kg_M} {A : kf_A} (hC : kf_C c h M A) : kf_I c A.1 := hC.1.2.2.2.2.2.2.2
theorem kj_sn {c n k : Nat} {r : Nat → Int32} (hI : kf_I c r) (hn : n < 5) (hk : k < 8) : ∃ x : Nat, x ≤ c ∧ kf_s r n k = nI x := by
  obtain ⟨-, ⟨s, hs, -, hst⟩, -⟩ := hI
  obtain ⟨x, hx, ex⟩ := hst n k hn hk
  exact ⟨x, by omega, ex⟩
theorem kj_wn {c n k : Nat} {h : Nat → Nat} {M : kg_M} {A : kf_A} (hC : kf_C c h M A) (hn : n < 5) (hk : k < 8) : kf_w A.1 n k = nI 0 ∨ kf_w A.1 n k = nI 1 ∨ kf_w A.1 n k = nI 2 := by
  rcases (hC.1.2.2.2.1.1 n k hn hk).2 with ⟨q, -⟩ | ⟨x, y, q, -⟩ | ⟨x, q, -⟩
  · exact Or.inl q
  · exact Or.inr (Or.inl q)
  · exact Or.inr (Or.inr q)
section
variable {G : kg_G} {d c : Nat} {h : Nat → Nat} {A : kf_A} {M : kg_M} {K : kg_Qt}
set_option maxRecDepth 100000 in
theorem kc88 (hL : G.2.2.2.2.2.1 < 2 ^ 31) {k : Nat} (hk : k < 56) (hd : 2 ≤ d) (hK : ∀ x : Int32, K (some (.int x)) (kg_w0 h) M) : kg_call G d 125 88 [.ref 1000, .int (nI k)] (kg_w0 h) M K := by
  obtain ⟨d, rfl⟩ : ∃ e, d = e + 1 := ⟨d - 1, by omega⟩
  refine kg_m88 (by simp) (Nat.le_refl _) (kg_v88 hL (by omega) 60 ?_)
  by_cases q : k < G.2.2.2.2.2.1
  · simp (disch := omega) only [↓kb_0t, ↓kb_0f, ↓kb_1t, ↓kb_1f, ↓kb_2t, ↓kb_2f, ↓kb_3t, ↓kb_3f, ↓kb_4t, ↓kb_4f, ↓kb_5t, ↓kb_5f, ↓kg_S1, kg_S2, kg_br_T, kg_br_F, kg_br_N, kg_br_t, kg_br_f, ↓kg_at_n, nI_add, pk_mul, kg_sub_n, kg_rem_n, kg_eq_n, kg_lt_n, kg_le_n, kg_nz, kg_01_0, kg_01_1, kg_w0_1, kg_ret0, kg_ret1, kg_ret2, kg_wr_n, kg_wr_s, kg_Skd, kg_Smc, kg_Sob, kg_Srf, kg_Sld, kg_pad, List.map_cons, List.map_nil, List.length_cons, List.length_nil, List.replicate, List.cons_append, List.nil_append, List.append_nil, Nat.reduceAdd, Nat.reduceSub, Nat.reduceMul, Nat.reduceMod, Nat.reduceDiv, Nat.reduceLT, Nat.reduceLeDiff, Nat.reduceEqDiff, ne_eq, not_true_eq_false, not_false_eq_true, reduceIte, true_and, and_true, kg_lk88, kg_ls88, kl_ld]
    exact hK _
  · simp (disch := omega) only [↓kb_0t, ↓kb_0f, ↓kb_1t, ↓kb_1f, ↓kb_2t, ↓kb_2f, ↓kb_3t, ↓kb_3f, ↓kb_4t, ↓kb_4f, ↓kb_5t, ↓kb_5f, ↓kg_S1, kg_S2, kg_br_T, kg_br_F, kg_br_N, kg_br_t, kg_br_f, ↓kg_at_n, nI_add, pk_mul, kg_sub_n, kg_rem_n, kg_eq_n, kg_lt_n, kg_le_n, kg_nz, kg_01_0, kg_01_1, kg_w0_1, kg_ret0, kg_ret1, kg_ret2, kg_wr_n, kg_wr_s, kg_Skd, kg_Smc, kg_Sob, kg_Srf, kg_Sld, kg_pad, List.map_cons, List.map_nil, List.length_cons, List.length_nil, List.replicate, List.cons_append, List.nil_append, List.append_nil, Nat.reduceAdd, Nat.reduceSub, Nat.reduceMul, Nat.reduceMod, Nat.reduceDiv, Nat.reduceLT, Nat.reduceLeDiff, Nat.reduceEqDiff, ne_eq, not_true_eq_false, not_false_eq_true, reduceIte, true_and, and_true, kg_lk88, kg_ls88, kl_ld]
    exact hK _
set_option maxRecDepth 100000 in
theorem kc89 (hL : G.2.2.2.2.2.1 < 2 ^ 31) {x : Int32} {n : Nat} (hn : 0 < n) (hn2 : n < 2147483648) (hd : 2 ≤ d) (hK : ∀ y : Nat, y < n → K (some (.int (nI y))) (kg_w0 h) M) : kg_call G d 125 89 [.int x, .int (nI n)] (kg_w0 h) M K := by
  obtain ⟨m, hm, em⟩ := kj_mk x 2147483647 (by omega)
  obtain ⟨d, rfl⟩ : ∃ e, d = e + 1 := ⟨d - 1, by omega⟩
  refine kg_m89 (by simp) (Nat.le_refl _) (kg_v89 hL (by omega) 60 ?_)
  simp (disch := omega) only [↓kb_0t, ↓kb_0f, ↓kb_1t, ↓kb_1f, ↓kb_2t, ↓kb_2f, ↓kb_3t, ↓kb_3f, ↓kb_4t, ↓kb_4f, ↓kb_5t, ↓kb_5f, ↓kg_S1, kg_S2, kg_br_T, kg_br_F, kg_br_N, kg_br_t, kg_br_f, ↓kg_at_n, nI_add, pk_mul, kg_sub_n, kg_rem_n, kg_eq_n, kg_lt_n, kg_le_n, kg_nz, kg_01_0, kg_01_1, kg_w0_1, kg_ret0, kg_ret1, kg_ret2, kg_wr_n, kg_wr_s, kg_Skd, kg_Smc, kg_Sob, kg_Srf, kg_Sld, kg_pad, List.map_cons, List.map_nil, List.length_cons, List.length_nil, List.replicate, List.cons_append, List.nil_append, List.append_nil, Nat.reduceAdd, Nat.reduceSub, Nat.reduceMul, Nat.reduceMod, Nat.reduceDiv, Nat.reduceLT, Nat.reduceLeDiff, Nat.reduceEqDiff, ne_eq, not_true_eq_false, not_false_eq_true, reduceIte, true_and, and_true, kg_lk89, kg_ls89, em]
  exact hK _ (Nat.mod_lt _ hn)
set_option maxRecDepth 100000 in
theorem kc90 (hL : G.2.2.2.2.2.1 < 2 ^ 31) {n k : Nat} (hC : kf_C c h M A) (hJ : kj_J A.1) (hc : c < 1048576) (hn : n < 4) (hk : k < 8) (hd : 7 ≤ d) (hK : K (some (.int (kf_s A.1 n k))) (kg_w0 h) M) : kg_call G d 125 90 [.ref 0, .int (nI n), .int (nI k)] (kg_w0 h) M K := by
  obtain ⟨d, rfl⟩ : ∃ e, d = e + 1 := ⟨d - 1, by omega⟩
  refine kg_m90 (by simp) (Nat.le_refl _) (kg_v90 hL (by omega) 60 ?_)
  simp (disch := omega) only [↓kb_0t, ↓kb_0f, ↓kb_1t, ↓kb_1f, ↓kb_2t, ↓kb_2f, ↓kb_3t, ↓kb_3f, ↓kb_4t, ↓kb_4f, ↓kb_5t, ↓kb_5f, ↓kg_S1, kg_S2, kg_br_T, kg_br_F, kg_br_N, kg_br_t, kg_br_f, ↓kg_at_n, nI_add, pk_mul, kg_sub_n, kg_rem_n, kg_eq_n, kg_lt_n, kg_le_n, kg_nz, kg_01_0, kg_01_1, kg_w0_1, kg_ret0, kg_ret1, kg_ret2, kg_wr_n, kg_wr_s, kg_Skd, kg_Smc, kg_Sob, kg_Srf, kg_Sld, kg_pad, List.map_cons, List.map_nil, List.length_cons, List.length_nil, List.replicate, List.cons_append, List.nil_append, List.append_nil, Nat.reduceAdd, Nat.reduceSub, Nat.reduceMul, Nat.reduceMod, Nat.reduceDiv, Nat.reduceLT, Nat.reduceLeDiff, Nat.reduceEqDiff, ne_eq, not_true_eq_false, not_false_eq_true, reduceIte, true_and, and_true, kg_lk90, kg_ls90]
  refine kc78 hL hC (by omega) ?_
  rw [kj_k2 hn hk]
  by_cases q : kf_w A.1 n k = nI 0
  · rw [if_pos q]
    rw [(hJ.2.1 n k (by omega) hk).mpr q] at hK
    simp (disch := omega) only [↓kb_0t, ↓kb_0f, ↓kb_1t, ↓kb_1f, ↓kb_2t, ↓kb_2f, ↓kb_3t, ↓kb_3f, ↓kb_4t, ↓kb_4f, ↓kb_5t, ↓kb_5f, ↓kg_S1, kg_S2, kg_br_T, kg_br_F, kg_br_N, kg_br_t, kg_br_f, ↓kg_at_n, nI_add, pk_mul, kg_sub_n, kg_rem_n, kg_eq_n, kg_lt_n, kg_le_n, kg_nz, kg_01_0, kg_01_1, kg_w0_1, kg_ret0, kg_ret1, kg_ret2, kg_wr_n, kg_wr_s, kg_Skd, kg_Smc, kg_Sob, kg_Srf, kg_Sld, kg_pad, List.map_cons, List.map_nil, List.length_cons, List.length_nil, List.replicate, List.cons_append, List.nil_append, List.append_nil, Nat.reduceAdd, Nat.reduceSub, Nat.reduceMul, Nat.reduceMod, Nat.reduceDiv, Nat.reduceLT, Nat.reduceLeDiff, Nat.reduceEqDiff, ne_eq, not_true_eq_false, not_false_eq_true, reduceIte, true_and, and_true, kg_lk90, kg_ls90, eq_self]
    exact hK
  · rw [if_neg q]
    obtain ⟨x, hx, ex⟩ := kj_sn (kj_I hC) (n := n) (by omega) hk
    have e5 : (nI x = kg_n 5) = False := kf_ne (by omega) (by omega) (by omega)
    rw [ex] at hK ⊢
    simp (disch := omega) only [↓kb_0t, ↓kb_0f, ↓kb_1t, ↓kb_1f, ↓kb_2t, ↓kb_2f, ↓kb_3t, ↓kb_3f, ↓kb_4t, ↓kb_4f, ↓kb_5t, ↓kb_5f, ↓kg_S1, kg_S2, kg_br_T, kg_br_F, kg_br_N, kg_br_t, kg_br_f, ↓kg_at_n, nI_add, pk_mul, kg_sub_n, kg_rem_n, kg_eq_n, kg_lt_n, kg_le_n, kg_nz, kg_01_0, kg_01_1, kg_w0_1, kg_ret0, kg_ret1, kg_ret2, kg_wr_n, kg_wr_s, kg_Skd, kg_Smc, kg_Sob, kg_Srf, kg_Sld, kg_pad, List.map_cons, List.map_nil, List.length_cons, List.length_nil, List.replicate, List.cons_append, List.nil_append, List.append_nil, Nat.reduceAdd, Nat.reduceSub, Nat.reduceMul, Nat.reduceMod, Nat.reduceDiv, Nat.reduceLT, Nat.reduceLeDiff, Nat.reduceEqDiff, ne_eq, not_true_eq_false, not_false_eq_true, reduceIte, true_and, and_true, kg_lk90, kg_ls90, e5]
    exact hK
end
