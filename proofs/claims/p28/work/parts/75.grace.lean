/-! isGraceSo -/
theorem kj_al_f {P : Nat → Bool} : ∀ {n : Nat}, kf_al P n = false → ∃ i, i < n ∧ P i = false
  | 0, h => by cases h
  | n + 1, h => by
    rw [kf_al, Bool.and_eq_false_iff] at h
    rcases h with h | h
    · obtain ⟨i, hi, e⟩ := kj_al_f h
      exact ⟨i, by omega, e⟩
    · exact ⟨n, by omega, h⟩
theorem kj_ct_0 {P : Nat → Bool} : ∀ {n : Nat}, kf_ct P n = 0 → ∀ i, i < n → P i = false
  | 0, _, i, hi => by omega
  | n + 1, h, i, hi => by
    rw [kf_ct] at h
    by_cases q : P n = true
    · rw [if_pos q] at h; omega
    · rw [if_neg q] at h
      by_cases e : i = n
      · rw [e]; exact Bool.eq_false_iff.mpr q
      · exact kj_ct_0 (by omega) i (by omega)
theorem kj_sm_0 {f : Nat → Nat} : ∀ {n : Nat}, kf_sm f n = 0 → ∀ i, i < n → f i = 0
  | 0, _, i, hi => by omega
  | n + 1, h, i, hi => by
    rw [kf_sm] at h
    by_cases e : i = n
    · rw [e]; omega
    · exact kj_sm_0 (n := n) (by omega) i (by omega)
theorem kj_sm_le {f : Nat → Nat} {b : Nat} (hf : ∀ i, f i ≤ b) : ∀ n, kf_sm f n ≤ n * b
  | 0 => by rw [kf_sm]; omega
  | n + 1 => by
    have := kj_sm_le hf n
    have := hf n
    rw [kf_sm, Nat.succ_mul]
    omega
theorem kj_on0 {r : Nat → Int32} (hJ : kj_J r) (h : kf_sm (fun n => kf_ct (kf_on r n) 8) 4 = 0) : ∀ n, n < 4 → ∀ k, k < 8 → kf_op r n k = false := by
  intro n
  induction n using Nat.strongRecOn with
  | _ n ih =>
    intro hn k hk
    have h1 := kj_ct_0 (kj_sm_0 h n hn) k hk
    cases q : kf_op r n k with
    | false => rfl
    | true =>
      exfalso
      unfold kf_on at h1
      rw [q, Bool.true_and] at h1
      unfold kf_lo at h1
      obtain ⟨m, hm, e⟩ := kj_al_f h1
      have e1 : kf_s r m k = kf_s r n k := by simpa using e
      have e2 := (hJ.2.2.1 m n k (by omega) (by omega) hk e1).1
      have e3 := ih m hm (by omega) k hk
      unfold kf_op kf_gr at e3 q
      rw [e1, e2, q] at e3
      cases e3
theorem kj_fo_id {f : Nat → Int32 → Int32} : ∀ {m : Nat}, (∀ k, k < m → ∀ y, f k y = y) → ∀ y, kf_fo f m y = y
  | 0, _, y => rfl
  | m + 1, h, y => by
    rw [kf_fo, h m (by omega)]
    exact kj_fo_id (fun k hk y => h k (by omega) y) y
theorem kj_gn1 {r : Nat → Int32} (h : ∀ n, n < 4 → ∀ k, k < 8 → kf_op r n k = false) : kf_gn r 4 = nI 1 := by
  unfold kf_gn
  refine kj_fo_id (fun n hn y => kj_fo_id (fun k hk y => ?_) y) _
  unfold kf_g1
  rw [h n hn k hk, if_neg (by decide)]
theorem kj_g1_le {r : Nat → Int32} {n k : Nat} {y : Int32} (hy : nI 1 ≤ y) : nI 1 ≤ kf_g1 r n k y := by
  unfold kf_g1
  split
  · split
    · exact Int32.le_trans hy (Int32.le_of_lt ‹_›)
    · exact hy
  · exact hy
theorem kj_fo_le {r : Nat → Int32} {n : Nat} : ∀ (k : Nat) {y : Int32}, nI 1 ≤ y → nI 1 ≤ kf_fo (kf_g1 r n) k y
  | 0, _, hy => hy
  | k + 1, _, hy => kj_g1_le (kj_fo_le k hy)
theorem kj_gn_le {r : Nat → Int32} : ∀ n, nI 1 ≤ kf_gn r n
  | 0 => Int32.le_refl _
  | n + 1 => kj_fo_le (r := r) (n := n) 8 (kj_gn_le (r := r) n)
section
variable {G : kg_G} {d c : Nat} {h : Nat → Nat} {A : kf_A} {M : kg_M} {K : kg_Qt}
set_option maxRecDepth 100000 in
theorem kc94_e (hL : G.2.2.2.2.2.1 < 2 ^ 31) {g y tk y' : Int32} {n k : Nat} {o b : Option Value} (hk : k < 8) (hd : 1 ≤ d) (hy : y' = if y < tk then tk else y)
    (hK : kg_P G d 94 8 125 125 K 17 [some (.ref 0), some (.int g), some (.int y'), some (.int (nI n)), some (.int (nI (k + 1))), o, b, some (.int tk)] [] (kg_w0 h) M) :
    kg_P G d 94 8 125 125 K 123 [some (.ref 0), some (.int g), some (.int y), some (.int (nI n)), some (.int (nI k)), o, b, some (.int tk)] [] (kg_w0 h) M := by
  refine kg_v94 hL (by omega) 60 ?_
  simp (disch := omega) only [↓kb_0t, ↓kb_0f, ↓kb_1t, ↓kb_1f, ↓kb_2t, ↓kb_2f, ↓kb_3t, ↓kb_3f, ↓kb_4t, ↓kb_4f, ↓kb_5t, ↓kb_5f, ↓kg_S1, kg_S2, kg_br_T, kg_br_F, kg_br_N, kg_br_t, kg_br_f, ↓kg_at_n, nI_add, pk_mul, kg_sub_n, kg_rem_n, kg_eq_n, kg_lt_n, kg_le_n, kg_nz, kg_01_0, kg_01_1, kg_w0_1, kg_ret0, kg_ret1, kg_ret2, kg_wr_n, kg_wr_s, kg_Skd, kg_Smc, kg_Sob, kg_Srf, kg_Sld, kg_pad, List.map_cons, List.map_nil, List.length_cons, List.length_nil, List.replicate, List.cons_append, List.nil_append, List.append_nil, Nat.reduceAdd, Nat.reduceSub, Nat.reduceMul, Nat.reduceMod, Nat.reduceDiv, Nat.reduceLT, Nat.reduceLeDiff, Nat.reduceEqDiff, ne_eq, not_true_eq_false, not_false_eq_true, reduceIte, true_and, and_true, kg_lk94, kg_ls94]
  refine kg_br_i (fun q => ?_) (fun q => ?_)
  · rw [if_neg (Int32.not_lt.mpr q)] at hy
    rw [hy] at hK
    exact hK
  · rw [if_pos (Int32.not_le.mp q)] at hy
    rw [hy] at hK
    exact hK
set_option maxRecDepth 100000 in
theorem kc94_u (hL : G.2.2.2.2.2.1 < 2 ^ 31) {g y o : Int32} {n k : Nat} (hC : kf_C c h M A) (hJ : kj_J A.1) (hc : c < 1048576) (hn : n < 4) (hk : k < 8) (hd : 8 ≤ d)
    (hK : kg_P G d 94 8 125 125 K 91 [some (.ref 0), some (.int g), some (.int y), some (.int (nI n)), some (.int (nI k)), some (.int o), some (.int (kf_b (!kf_se A.1 k (kf_s A.1 n k)))), some (.int (nI 4))] [] (kg_w0 h) M) :
    ∀ z u : Nat, u + z = 4 → kg_P G d 94 8 125 125 K 49 [some (.ref 0), some (.int g), some (.int y), some (.int (nI n)), some (.int (nI k)), some (.int o), some (.int (kf_b (!kf_al (fun m => decide (kf_s A.1 n k ≤ kf_s A.1 m k)) u))), some (.int (nI u))] [] (kg_w0 h) M := by
  intro z
  induction z with
  | zero =>
    intro u hz
    obtain rfl : u = 4 := by omega
    refine kg_v94 hL (by omega) 60 ?_
    simp (disch := omega) only [↓kb_0t, ↓kb_0f, ↓kb_1t, ↓kb_1f, ↓kb_2t, ↓kb_2f, ↓kb_3t, ↓kb_3f, ↓kb_4t, ↓kb_4f, ↓kb_5t, ↓kb_5f, ↓kg_S1, kg_S2, kg_br_T, kg_br_F, kg_br_N, kg_br_t, kg_br_f, ↓kg_at_n, nI_add, pk_mul, kg_sub_n, kg_rem_n, kg_eq_n, kg_lt_n, kg_le_n, kg_nz, kg_01_0, kg_01_1, kg_w0_1, kg_ret0, kg_ret1, kg_ret2, kg_wr_n, kg_wr_s, kg_Skd, kg_Smc, kg_Sob, kg_Srf, kg_Sld, kg_pad, List.map_cons, List.map_nil, List.length_cons, List.length_nil, List.replicate, List.cons_append, List.nil_append, List.append_nil, Nat.reduceAdd, Nat.reduceSub, Nat.reduceMul, Nat.reduceMod, Nat.reduceDiv, Nat.reduceLT, Nat.reduceLeDiff, Nat.reduceEqDiff, ne_eq, not_true_eq_false, not_false_eq_true, reduceIte, true_and, and_true, kg_lk94, kg_ls94]
    exact hK
  | succ z ih =>
    intro u hz
    have ih2 := ih (u + 1) (by omega)
    rw [kf_al] at ih2
    cases hb : kf_al (fun m => decide (kf_s A.1 n k ≤ kf_s A.1 m k)) u with
    | false =>
      have e1 : kf_b (!false) = nI 1 := rfl
      rw [hb, Bool.false_and, e1] at ih2
      rw [e1]
      refine kg_v94 hL (by omega) 60 ?_
      simp (disch := omega) only [↓kb_0t, ↓kb_0f, ↓kb_1t, ↓kb_1f, ↓kb_2t, ↓kb_2f, ↓kb_3t, ↓kb_3f, ↓kb_4t, ↓kb_4f, ↓kb_5t, ↓kb_5f, ↓kg_S1, kg_S2, kg_br_T, kg_br_F, kg_br_N, kg_br_t, kg_br_f, ↓kg_at_n, nI_add, pk_mul, kg_sub_n, kg_rem_n, kg_eq_n, kg_lt_n, kg_le_n, kg_nz, kg_01_0, kg_01_1, kg_w0_1, kg_ret0, kg_ret1, kg_ret2, kg_wr_n, kg_wr_s, kg_Skd, kg_Smc, kg_Sob, kg_Srf, kg_Sld, kg_pad, List.map_cons, List.map_nil, List.length_cons, List.length_nil, List.replicate, List.cons_append, List.nil_append, List.append_nil, Nat.reduceAdd, Nat.reduceSub, Nat.reduceMul, Nat.reduceMod, Nat.reduceDiv, Nat.reduceLT, Nat.reduceLeDiff, Nat.reduceEqDiff, ne_eq, not_true_eq_false, not_false_eq_true, reduceIte, true_and, and_true, kg_lk94, kg_ls94]
      exact ih2
    | true =>
      have e0 : kf_b (!true) = nI 0 := rfl
      rw [hb, Bool.true_and] at ih2
      rw [e0]
      refine kg_v94 hL (by omega) 60 ?_
      simp (disch := omega) only [↓kb_0t, ↓kb_0f, ↓kb_1t, ↓kb_1f, ↓kb_2t, ↓kb_2f, ↓kb_3t, ↓kb_3f, ↓kb_4t, ↓kb_4f, ↓kb_5t, ↓kb_5f, ↓kg_S1, kg_S2, kg_br_T, kg_br_F, kg_br_N, kg_br_t, kg_br_f, ↓kg_at_n, nI_add, pk_mul, kg_sub_n, kg_rem_n, kg_eq_n, kg_lt_n, kg_le_n, kg_nz, kg_01_0, kg_01_1, kg_w0_1, kg_ret0, kg_ret1, kg_ret2, kg_wr_n, kg_wr_s, kg_Skd, kg_Smc, kg_Sob, kg_Srf, kg_Sld, kg_pad, List.map_cons, List.map_nil, List.length_cons, List.length_nil, List.replicate, List.cons_append, List.nil_append, List.append_nil, Nat.reduceAdd, Nat.reduceSub, Nat.reduceMul, Nat.reduceMod, Nat.reduceDiv, Nat.reduceLT, Nat.reduceLeDiff, Nat.reduceEqDiff, ne_eq, not_true_eq_false, not_false_eq_true, reduceIte, true_and, and_true, kg_lk94, kg_ls94]
      refine kc90 hL hC hJ hc (by omega) hk (by omega) ?_
      simp (disch := omega) only [↓kb_0t, ↓kb_0f, ↓kb_1t, ↓kb_1f, ↓kb_2t, ↓kb_2f, ↓kb_3t, ↓kb_3f, ↓kb_4t, ↓kb_4f, ↓kb_5t, ↓kb_5f, ↓kg_S1, kg_S2, kg_br_T, kg_br_F, kg_br_N, kg_br_t, kg_br_f, ↓kg_at_n, nI_add, pk_mul, kg_sub_n, kg_rem_n, kg_eq_n, kg_lt_n, kg_le_n, kg_nz, kg_01_0, kg_01_1, kg_w0_1, kg_ret0, kg_ret1, kg_ret2, kg_wr_n, kg_wr_s, kg_Skd, kg_Smc, kg_Sob, kg_Srf, kg_Sld, kg_pad, List.map_cons, List.map_nil, List.length_cons, List.length_nil, List.replicate, List.cons_append, List.nil_append, List.append_nil, Nat.reduceAdd, Nat.reduceSub, Nat.reduceMul, Nat.reduceMod, Nat.reduceDiv, Nat.reduceLT, Nat.reduceLeDiff, Nat.reduceEqDiff, ne_eq, not_true_eq_false, not_false_eq_true, reduceIte, true_and, and_true, kg_lk94, kg_ls94]
      refine kc90 hL hC hJ hc hn hk (by omega) ?_
      simp (disch := omega) only [↓kb_0t, ↓kb_0f, ↓kb_1t, ↓kb_1f, ↓kb_2t, ↓kb_2f, ↓kb_3t, ↓kb_3f, ↓kb_4t, ↓kb_4f, ↓kb_5t, ↓kb_5f, ↓kg_S1, kg_S2, kg_br_T, kg_br_F, kg_br_N, kg_br_t, kg_br_f, ↓kg_at_n, nI_add, pk_mul, kg_sub_n, kg_rem_n, kg_eq_n, kg_lt_n, kg_le_n, kg_nz, kg_01_0, kg_01_1, kg_w0_1, kg_ret0, kg_ret1, kg_ret2, kg_wr_n, kg_wr_s, kg_Skd, kg_Smc, kg_Sob, kg_Srf, kg_Sld, kg_pad, List.map_cons, List.map_nil, List.length_cons, List.length_nil, List.replicate, List.cons_append, List.nil_append, List.append_nil, Nat.reduceAdd, Nat.reduceSub, Nat.reduceMul, Nat.reduceMod, Nat.reduceDiv, Nat.reduceLT, Nat.reduceLeDiff, Nat.reduceEqDiff, ne_eq, not_true_eq_false, not_false_eq_true, reduceIte, true_and, and_true, kg_lk94, kg_ls94]
      refine kg_br_i (fun q => ?_) (fun q => ?_)
      · have e2 : kf_b (!decide (kf_s A.1 n k ≤ kf_s A.1 u k)) = nI 0 := by rw [decide_eq_true q]; rfl
        rw [e2] at ih2
        exact ih2
      · have e2 : kf_b (!decide (kf_s A.1 n k ≤ kf_s A.1 u k)) = nI 1 := by rw [decide_eq_false q]; rfl
        rw [e2] at ih2
        exact ih2
set_option maxRecDepth 100000 in
theorem kc94_k (hL : G.2.2.2.2.2.1 < 2 ^ 31) {g : Int32} {n : Nat} (hC : kf_C c h M A) (hJ : kj_J A.1) (hc : c < 1048576) (hn : n < 4) (hd : 8 ≤ d)
    (hK : ∀ x5 x6 x7 : Option Value, kg_P G d 94 8 125 125 K 9 [some (.ref 0), some (.int g), some (.int (kf_gn A.1 (n + 1))), some (.int (nI (n + 1))), some (.int (nI 8)), x5, x6, x7] [] (kg_w0 h) M) :
    ∀ (z k : Nat) (x5 x6 x7 : Option Value), k + z = 8 → kg_P G d 94 8 125 125 K 17 [some (.ref 0), some (.int g), some (.int (kf_fo (kf_g1 A.1 n) k (kf_gn A.1 n))), some (.int (nI n)), some (.int (nI k)), x5, x6, x7] [] (kg_w0 h) M := by
  intro z
  induction z with
  | zero =>
    intro k x5 x6 x7 hz
    obtain rfl : k = 8 := by omega
    refine kg_v94 hL (by omega) 60 ?_
    simp (disch := omega) only [↓kb_0t, ↓kb_0f, ↓kb_1t, ↓kb_1f, ↓kb_2t, ↓kb_2f, ↓kb_3t, ↓kb_3f, ↓kb_4t, ↓kb_4f, ↓kb_5t, ↓kb_5f, ↓kg_S1, kg_S2, kg_br_T, kg_br_F, kg_br_N, kg_br_t, kg_br_f, ↓kg_at_n, nI_add, pk_mul, kg_sub_n, kg_rem_n, kg_eq_n, kg_lt_n, kg_le_n, kg_nz, kg_01_0, kg_01_1, kg_w0_1, kg_ret0, kg_ret1, kg_ret2, kg_wr_n, kg_wr_s, kg_Skd, kg_Smc, kg_Sob, kg_Srf, kg_Sld, kg_pad, List.map_cons, List.map_nil, List.length_cons, List.length_nil, List.replicate, List.cons_append, List.nil_append, List.append_nil, Nat.reduceAdd, Nat.reduceSub, Nat.reduceMul, Nat.reduceMod, Nat.reduceDiv, Nat.reduceLT, Nat.reduceLeDiff, Nat.reduceEqDiff, ne_eq, not_true_eq_false, not_false_eq_true, reduceIte, true_and, and_true, kg_lk94, kg_ls94]
    exact hK x5 x6 x7
  | succ z ih =>
    intro k x5 x6 x7 hz
    have hk : k < 8 := by omega
    have y1 := kj_fo_le (r := A.1) (n := n) k (kj_gn_le (r := A.1) n)
    have ih2 := fun x5 x6 x7 => ih (k + 1) x5 x6 x7 (by omega)
    rw [kf_fo] at ih2
    generalize kf_fo (kf_g1 A.1 n) k (kf_gn A.1 n) = y at y1 ih2 ⊢
    refine kg_v94 hL (by omega) 60 ?_
    simp (disch := omega) only [↓kb_0t, ↓kb_0f, ↓kb_1t, ↓kb_1f, ↓kb_2t, ↓kb_2f, ↓kb_3t, ↓kb_3f, ↓kb_4t, ↓kb_4f, ↓kb_5t, ↓kb_5f, ↓kg_S1, kg_S2, kg_br_T, kg_br_F, kg_br_N, kg_br_t, kg_br_f, ↓kg_at_n, nI_add, pk_mul, kg_sub_n, kg_rem_n, kg_eq_n, kg_lt_n, kg_le_n, kg_nz, kg_01_0, kg_01_1, kg_w0_1, kg_ret0, kg_ret1, kg_ret2, kg_wr_n, kg_wr_s, kg_Skd, kg_Smc, kg_Sob, kg_Srf, kg_Sld, kg_pad, List.map_cons, List.map_nil, List.length_cons, List.length_nil, List.replicate, List.cons_append, List.nil_append, List.append_nil, Nat.reduceAdd, Nat.reduceSub, Nat.reduceMul, Nat.reduceMod, Nat.reduceDiv, Nat.reduceLT, Nat.reduceLeDiff, Nat.reduceEqDiff, ne_eq, not_true_eq_false, not_false_eq_true, reduceIte, true_and, and_true, kg_lk94, kg_ls94]
    refine kc78 hL hC (by omega) ?_
    rw [kj_k0 hn hk]
    by_cases hw : kf_w A.1 n k = nI 2
    · rw [hw]
      simp (disch := omega) only [↓kb_0t, ↓kb_0f, ↓kb_1t, ↓kb_1f, ↓kb_2t, ↓kb_2f, ↓kb_3t, ↓kb_3f, ↓kb_4t, ↓kb_4f, ↓kb_5t, ↓kb_5f, ↓kg_S1, kg_S2, kg_br_T, kg_br_F, kg_br_N, kg_br_t, kg_br_f, ↓kg_at_n, nI_add, pk_mul, kg_sub_n, kg_rem_n, kg_eq_n, kg_lt_n, kg_le_n, kg_nz, kg_01_0, kg_01_1, kg_w0_1, kg_ret0, kg_ret1, kg_ret2, kg_wr_n, kg_wr_s, kg_Skd, kg_Smc, kg_Sob, kg_Srf, kg_Sld, kg_pad, List.map_cons, List.map_nil, List.length_cons, List.length_nil, List.replicate, List.cons_append, List.nil_append, List.append_nil, Nat.reduceAdd, Nat.reduceSub, Nat.reduceMul, Nat.reduceMod, Nat.reduceDiv, Nat.reduceLT, Nat.reduceLeDiff, Nat.reduceEqDiff, ne_eq, not_true_eq_false, not_false_eq_true, reduceIte, true_and, and_true, kg_lk94, kg_ls94, eq_self]
      refine kg_v94 hL (by omega) 60 ?_
      simp (disch := omega) only [↓kb_0t, ↓kb_0f, ↓kb_1t, ↓kb_1f, ↓kb_2t, ↓kb_2f, ↓kb_3t, ↓kb_3f, ↓kb_4t, ↓kb_4f, ↓kb_5t, ↓kb_5f, ↓kg_S1, kg_S2, kg_br_T, kg_br_F, kg_br_N, kg_br_t, kg_br_f, ↓kg_at_n, nI_add, pk_mul, kg_sub_n, kg_rem_n, kg_eq_n, kg_lt_n, kg_le_n, kg_nz, kg_01_0, kg_01_1, kg_w0_1, kg_ret0, kg_ret1, kg_ret2, kg_wr_n, kg_wr_s, kg_Skd, kg_Smc, kg_Sob, kg_Srf, kg_Sld, kg_pad, List.map_cons, List.map_nil, List.length_cons, List.length_nil, List.replicate, List.cons_append, List.nil_append, List.append_nil, Nat.reduceAdd, Nat.reduceSub, Nat.reduceMul, Nat.reduceMod, Nat.reduceDiv, Nat.reduceLT, Nat.reduceLeDiff, Nat.reduceEqDiff, ne_eq, not_true_eq_false, not_false_eq_true, reduceIte, true_and, and_true, kg_lk94, kg_ls94]
      refine kc94_u hL hC hJ hc hn hk hd ?_ 4 0 rfl
      cases hs : kf_se A.1 k (kf_s A.1 n k) with
      | true =>
        have e0 : kf_b (!true) = nI 0 := rfl
        rw [e0]
        refine kg_v94 hL (by omega) 60 ?_
        simp (disch := omega) only [↓kb_0t, ↓kb_0f, ↓kb_1t, ↓kb_1f, ↓kb_2t, ↓kb_2f, ↓kb_3t, ↓kb_3f, ↓kb_4t, ↓kb_4f, ↓kb_5t, ↓kb_5f, ↓kg_S1, kg_S2, kg_br_T, kg_br_F, kg_br_N, kg_br_t, kg_br_f, ↓kg_at_n, nI_add, pk_mul, kg_sub_n, kg_rem_n, kg_eq_n, kg_lt_n, kg_le_n, kg_nz, kg_01_0, kg_01_1, kg_w0_1, kg_ret0, kg_ret1, kg_ret2, kg_wr_n, kg_wr_s, kg_Skd, kg_Smc, kg_Sob, kg_Srf, kg_Sld, kg_pad, List.map_cons, List.map_nil, List.length_cons, List.length_nil, List.replicate, List.cons_append, List.nil_append, List.append_nil, Nat.reduceAdd, Nat.reduceSub, Nat.reduceMul, Nat.reduceMod, Nat.reduceDiv, Nat.reduceLT, Nat.reduceLeDiff, Nat.reduceEqDiff, ne_eq, not_true_eq_false, not_false_eq_true, reduceIte, true_and, and_true, kg_lk94, kg_ls94]
        refine kc94_e hL hk (by omega) ?_ (ih2 _ _ _)
        unfold kf_g1 kf_op
        rw [hs, if_neg (by simp), if_neg (Int32.not_lt.mpr y1)]
      | false =>
        have e1 : kf_b (!false) = nI 1 := rfl
        rw [e1]
        refine kg_v94 hL (by omega) 60 ?_
        simp (disch := omega) only [↓kb_0t, ↓kb_0f, ↓kb_1t, ↓kb_1f, ↓kb_2t, ↓kb_2f, ↓kb_3t, ↓kb_3f, ↓kb_4t, ↓kb_4f, ↓kb_5t, ↓kb_5f, ↓kg_S1, kg_S2, kg_br_T, kg_br_F, kg_br_N, kg_br_t, kg_br_f, ↓kg_at_n, nI_add, pk_mul, kg_sub_n, kg_rem_n, kg_eq_n, kg_lt_n, kg_le_n, kg_nz, kg_01_0, kg_01_1, kg_w0_1, kg_ret0, kg_ret1, kg_ret2, kg_wr_n, kg_wr_s, kg_Skd, kg_Smc, kg_Sob, kg_Srf, kg_Sld, kg_pad, List.map_cons, List.map_nil, List.length_cons, List.length_nil, List.replicate, List.cons_append, List.nil_append, List.append_nil, Nat.reduceAdd, Nat.reduceSub, Nat.reduceMul, Nat.reduceMod, Nat.reduceDiv, Nat.reduceLT, Nat.reduceLeDiff, Nat.reduceEqDiff, ne_eq, not_true_eq_false, not_false_eq_true, reduceIte, true_and, and_true, kg_lk94, kg_ls94]
        refine kc86 hL hC (by omega) ?_
        rw [kj_c0]
        simp (disch := omega) only [↓kb_0t, ↓kb_0f, ↓kb_1t, ↓kb_1f, ↓kb_2t, ↓kb_2f, ↓kb_3t, ↓kb_3f, ↓kb_4t, ↓kb_4f, ↓kb_5t, ↓kb_5f, ↓kg_S1, kg_S2, kg_br_T, kg_br_F, kg_br_N, kg_br_t, kg_br_f, ↓kg_at_n, nI_add, pk_mul, kg_sub_n, kg_rem_n, kg_eq_n, kg_lt_n, kg_le_n, kg_nz, kg_01_0, kg_01_1, kg_w0_1, kg_ret0, kg_ret1, kg_ret2, kg_wr_n, kg_wr_s, kg_Skd, kg_Smc, kg_Sob, kg_Srf, kg_Sld, kg_pad, List.map_cons, List.map_nil, List.length_cons, List.length_nil, List.replicate, List.cons_append, List.nil_append, List.append_nil, Nat.reduceAdd, Nat.reduceSub, Nat.reduceMul, Nat.reduceMod, Nat.reduceDiv, Nat.reduceLT, Nat.reduceLeDiff, Nat.reduceEqDiff, ne_eq, not_true_eq_false, not_false_eq_true, reduceIte, true_and, and_true, kg_lk94, kg_ls94]
        refine kc78 hL hC (by omega) ?_
        rw [kj_k3 hn hk, hw, if_neg (by decide)]
        simp (disch := omega) only [↓kb_0t, ↓kb_0f, ↓kb_1t, ↓kb_1f, ↓kb_2t, ↓kb_2f, ↓kb_3t, ↓kb_3f, ↓kb_4t, ↓kb_4f, ↓kb_5t, ↓kb_5f, ↓kg_S1, kg_S2, kg_br_T, kg_br_F, kg_br_N, kg_br_t, kg_br_f, ↓kg_at_n, nI_add, pk_mul, kg_sub_n, kg_rem_n, kg_eq_n, kg_lt_n, kg_le_n, kg_nz, kg_01_0, kg_01_1, kg_w0_1, kg_ret0, kg_ret1, kg_ret2, kg_wr_n, kg_wr_s, kg_Skd, kg_Smc, kg_Sob, kg_Srf, kg_Sld, kg_pad, List.map_cons, List.map_nil, List.length_cons, List.length_nil, List.replicate, List.cons_append, List.nil_append, List.append_nil, Nat.reduceAdd, Nat.reduceSub, Nat.reduceMul, Nat.reduceMod, Nat.reduceDiv, Nat.reduceLT, Nat.reduceLeDiff, Nat.reduceEqDiff, ne_eq, not_true_eq_false, not_false_eq_true, reduceIte, true_and, and_true, kg_lk94, kg_ls94]
        refine kc94_e hL hk (by omega) ?_ (ih2 _ _ _)
        unfold kf_g1 kf_op kf_gr
        rw [hs, hw, if_pos (by decide)]
    · have hw2 : (kf_w A.1 n k = nI 2) = False := eq_false hw
      simp (disch := omega) only [↓kb_0t, ↓kb_0f, ↓kb_1t, ↓kb_1f, ↓kb_2t, ↓kb_2f, ↓kb_3t, ↓kb_3f, ↓kb_4t, ↓kb_4f, ↓kb_5t, ↓kb_5f, ↓kg_S1, kg_S2, kg_br_T, kg_br_F, kg_br_N, kg_br_t, kg_br_f, ↓kg_at_n, nI_add, pk_mul, kg_sub_n, kg_rem_n, kg_eq_n, kg_lt_n, kg_le_n, kg_nz, kg_01_0, kg_01_1, kg_w0_1, kg_ret0, kg_ret1, kg_ret2, kg_wr_n, kg_wr_s, kg_Skd, kg_Smc, kg_Sob, kg_Srf, kg_Sld, kg_pad, List.map_cons, List.map_nil, List.length_cons, List.length_nil, List.replicate, List.cons_append, List.nil_append, List.append_nil, Nat.reduceAdd, Nat.reduceSub, Nat.reduceMul, Nat.reduceMod, Nat.reduceDiv, Nat.reduceLT, Nat.reduceLeDiff, Nat.reduceEqDiff, ne_eq, not_true_eq_false, not_false_eq_true, reduceIte, true_and, and_true, kg_lk94, kg_ls94, hw2]
      refine kg_v94 hL (by omega) 60 ?_
      simp (disch := omega) only [↓kb_0t, ↓kb_0f, ↓kb_1t, ↓kb_1f, ↓kb_2t, ↓kb_2f, ↓kb_3t, ↓kb_3f, ↓kb_4t, ↓kb_4f, ↓kb_5t, ↓kb_5f, ↓kg_S1, kg_S2, kg_br_T, kg_br_F, kg_br_N, kg_br_t, kg_br_f, ↓kg_at_n, nI_add, pk_mul, kg_sub_n, kg_rem_n, kg_eq_n, kg_lt_n, kg_le_n, kg_nz, kg_01_0, kg_01_1, kg_w0_1, kg_ret0, kg_ret1, kg_ret2, kg_wr_n, kg_wr_s, kg_Skd, kg_Smc, kg_Sob, kg_Srf, kg_Sld, kg_pad, List.map_cons, List.map_nil, List.length_cons, List.length_nil, List.replicate, List.cons_append, List.nil_append, List.append_nil, Nat.reduceAdd, Nat.reduceSub, Nat.reduceMul, Nat.reduceMod, Nat.reduceDiv, Nat.reduceLT, Nat.reduceLeDiff, Nat.reduceEqDiff, ne_eq, not_true_eq_false, not_false_eq_true, reduceIte, true_and, and_true, kg_lk94, kg_ls94]
      refine kc94_u hL hC hJ hc hn hk hd ?_ 4 0 rfl
      refine kg_v94 hL (by omega) 60 ?_
      simp (disch := omega) only [↓kb_0t, ↓kb_0f, ↓kb_1t, ↓kb_1f, ↓kb_2t, ↓kb_2f, ↓kb_3t, ↓kb_3f, ↓kb_4t, ↓kb_4f, ↓kb_5t, ↓kb_5f, ↓kg_S1, kg_S2, kg_br_T, kg_br_F, kg_br_N, kg_br_t, kg_br_f, ↓kg_at_n, nI_add, pk_mul, kg_sub_n, kg_rem_n, kg_eq_n, kg_lt_n, kg_le_n, kg_nz, kg_01_0, kg_01_1, kg_w0_1, kg_ret0, kg_ret1, kg_ret2, kg_wr_n, kg_wr_s, kg_Skd, kg_Smc, kg_Sob, kg_Srf, kg_Sld, kg_pad, List.map_cons, List.map_nil, List.length_cons, List.length_nil, List.replicate, List.cons_append, List.nil_append, List.append_nil, Nat.reduceAdd, Nat.reduceSub, Nat.reduceMul, Nat.reduceMod, Nat.reduceDiv, Nat.reduceLT, Nat.reduceLeDiff, Nat.reduceEqDiff, ne_eq, not_true_eq_false, not_false_eq_true, reduceIte, true_and, and_true, kg_lk94, kg_ls94]
      refine kc94_e hL hk (by omega) ?_ (ih2 _ _ _)
      unfold kf_g1 kf_op kf_gr
      rw [decide_eq_false hw, if_neg (by simp), if_neg (Int32.not_lt.mpr y1)]
set_option maxRecDepth 100000 in
theorem kc94_n (hL : G.2.2.2.2.2.1 < 2 ^ 31) {g : Int32} (hC : kf_C c h M A) (hJ : kj_J A.1) (hc : c < 1048576) (hd : 8 ≤ d) (hg : g = kf_gn A.1 4) (hK : K (some (.int (nI 1))) (kg_w0 h) M) :
    ∀ (z n : Nat) (x4 x5 x6 x7 : Option Value), n + z = 4 → kg_P G d 94 8 125 125 K 9 [some (.ref 0), some (.int g), some (.int (kf_gn A.1 n)), some (.int (nI n)), x4, x5, x6, x7] [] (kg_w0 h) M := by
  intro z
  induction z with
  | zero =>
    intro n x4 x5 x6 x7 hz
    obtain rfl : n = 4 := by omega
    rw [← hg]
    refine kg_v94 hL (by omega) 60 ?_
    simp (disch := omega) only [↓kb_0t, ↓kb_0f, ↓kb_1t, ↓kb_1f, ↓kb_2t, ↓kb_2f, ↓kb_3t, ↓kb_3f, ↓kb_4t, ↓kb_4f, ↓kb_5t, ↓kb_5f, ↓kg_S1, kg_S2, kg_br_T, kg_br_F, kg_br_N, kg_br_t, kg_br_f, ↓kg_at_n, nI_add, pk_mul, kg_sub_n, kg_rem_n, kg_eq_n, kg_lt_n, kg_le_n, kg_nz, kg_01_0, kg_01_1, kg_w0_1, kg_ret0, kg_ret1, kg_ret2, kg_wr_n, kg_wr_s, kg_Skd, kg_Smc, kg_Sob, kg_Srf, kg_Sld, kg_pad, List.map_cons, List.map_nil, List.length_cons, List.length_nil, List.replicate, List.cons_append, List.nil_append, List.append_nil, Nat.reduceAdd, Nat.reduceSub, Nat.reduceMul, Nat.reduceMod, Nat.reduceDiv, Nat.reduceLT, Nat.reduceLeDiff, Nat.reduceEqDiff, ne_eq, not_true_eq_false, not_false_eq_true, reduceIte, true_and, and_true, kg_lk94, kg_ls94, eq_self]
    refine kc86 hL hC (by omega) ?_
    rw [kj_c10]
    have hz1 : kf_sm (fun n => kf_ct (kf_on A.1 n) 8) 4 ≤ 4 * 8 := kj_sm_le (fun i => kf_ct_le _ 8) 4
    by_cases q : kf_sm (fun n => kf_ct (kf_on A.1 n) 8) 4 = 0
    · rw [kj_gn1 (kj_on0 hJ q)] at hg
      rw [q, hg]
      simp (disch := omega) only [↓kb_0t, ↓kb_0f, ↓kb_1t, ↓kb_1f, ↓kb_2t, ↓kb_2f, ↓kb_3t, ↓kb_3f, ↓kb_4t, ↓kb_4f, ↓kb_5t, ↓kb_5f, ↓kg_S1, kg_S2, kg_br_T, kg_br_F, kg_br_N, kg_br_t, kg_br_f, ↓kg_at_n, nI_add, pk_mul, kg_sub_n, kg_rem_n, kg_eq_n, kg_lt_n, kg_le_n, kg_nz, kg_01_0, kg_01_1, kg_w0_1, kg_ret0, kg_ret1, kg_ret2, kg_wr_n, kg_wr_s, kg_Skd, kg_Smc, kg_Sob, kg_Srf, kg_Sld, kg_pad, List.map_cons, List.map_nil, List.length_cons, List.length_nil, List.replicate, List.cons_append, List.nil_append, List.append_nil, Nat.reduceAdd, Nat.reduceSub, Nat.reduceMul, Nat.reduceMod, Nat.reduceDiv, Nat.reduceLT, Nat.reduceLeDiff, Nat.reduceEqDiff, ne_eq, not_true_eq_false, not_false_eq_true, reduceIte, true_and, and_true, kg_lk94, kg_ls94, eq_self]
      exact hK
    · generalize kf_sm (fun n => kf_ct (kf_on A.1 n) 8) 4 = Z at q hz1 ⊢
      simp (disch := omega) only [↓kb_0t, ↓kb_0f, ↓kb_1t, ↓kb_1f, ↓kb_2t, ↓kb_2f, ↓kb_3t, ↓kb_3f, ↓kb_4t, ↓kb_4f, ↓kb_5t, ↓kb_5f, ↓kg_S1, kg_S2, kg_br_T, kg_br_F, kg_br_N, kg_br_t, kg_br_f, ↓kg_at_n, nI_add, pk_mul, kg_sub_n, kg_rem_n, kg_eq_n, kg_lt_n, kg_le_n, kg_nz, kg_01_0, kg_01_1, kg_w0_1, kg_ret0, kg_ret1, kg_ret2, kg_wr_n, kg_wr_s, kg_Skd, kg_Smc, kg_Sob, kg_Srf, kg_Sld, kg_pad, List.map_cons, List.map_nil, List.length_cons, List.length_nil, List.replicate, List.cons_append, List.nil_append, List.append_nil, Nat.reduceAdd, Nat.reduceSub, Nat.reduceMul, Nat.reduceMod, Nat.reduceDiv, Nat.reduceLT, Nat.reduceLeDiff, Nat.reduceEqDiff, ne_eq, not_true_eq_false, not_false_eq_true, reduceIte, true_and, and_true, kg_lk94, kg_ls94]
      exact hK
  | succ z ih =>
    intro n x4 x5 x6 x7 hz
    refine kg_v94 hL (by omega) 60 ?_
    simp (disch := omega) only [↓kb_0t, ↓kb_0f, ↓kb_1t, ↓kb_1f, ↓kb_2t, ↓kb_2f, ↓kb_3t, ↓kb_3f, ↓kb_4t, ↓kb_4f, ↓kb_5t, ↓kb_5f, ↓kg_S1, kg_S2, kg_br_T, kg_br_F, kg_br_N, kg_br_t, kg_br_f, ↓kg_at_n, nI_add, pk_mul, kg_sub_n, kg_rem_n, kg_eq_n, kg_lt_n, kg_le_n, kg_nz, kg_01_0, kg_01_1, kg_w0_1, kg_ret0, kg_ret1, kg_ret2, kg_wr_n, kg_wr_s, kg_Skd, kg_Smc, kg_Sob, kg_Srf, kg_Sld, kg_pad, List.map_cons, List.map_nil, List.length_cons, List.length_nil, List.replicate, List.cons_append, List.nil_append, List.append_nil, Nat.reduceAdd, Nat.reduceSub, Nat.reduceMul, Nat.reduceMod, Nat.reduceDiv, Nat.reduceLT, Nat.reduceLeDiff, Nat.reduceEqDiff, ne_eq, not_true_eq_false, not_false_eq_true, reduceIte, true_and, and_true, kg_lk94, kg_ls94]
    exact kc94_k hL hC hJ hc (by omega) hd (fun x5 x6 x7 => ih (n + 1) _ x5 x6 x7 (by omega)) 8 0 x5 x6 x7 rfl
set_option maxRecDepth 100000 in
theorem kc94 (hL : G.2.2.2.2.2.1 < 2 ^ 31) (hC : kf_C c h M A) (hJ : kj_J A.1) (hc : c < 1048576) (hd : 9 ≤ d) (hK : K (some (.int (nI 1))) (kg_w0 h) M) : kg_call G d 125 94 [.ref 0] (kg_w0 h) M K := by
  obtain ⟨d, rfl⟩ : ∃ e, d = e + 1 := ⟨d - 1, by omega⟩
  refine kg_m94 (by simp) (Nat.le_refl _) (kg_v94 hL (by omega) 60 ?_)
  simp (disch := omega) only [↓kb_0t, ↓kb_0f, ↓kb_1t, ↓kb_1f, ↓kb_2t, ↓kb_2f, ↓kb_3t, ↓kb_3f, ↓kb_4t, ↓kb_4f, ↓kb_5t, ↓kb_5f, ↓kg_S1, kg_S2, kg_br_T, kg_br_F, kg_br_N, kg_br_t, kg_br_f, ↓kg_at_n, nI_add, pk_mul, kg_sub_n, kg_rem_n, kg_eq_n, kg_lt_n, kg_le_n, kg_nz, kg_01_0, kg_01_1, kg_w0_1, kg_ret0, kg_ret1, kg_ret2, kg_wr_n, kg_wr_s, kg_Skd, kg_Smc, kg_Sob, kg_Srf, kg_Sld, kg_pad, List.map_cons, List.map_nil, List.length_cons, List.length_nil, List.replicate, List.cons_append, List.nil_append, List.append_nil, Nat.reduceAdd, Nat.reduceSub, Nat.reduceMul, Nat.reduceMod, Nat.reduceDiv, Nat.reduceLT, Nat.reduceLeDiff, Nat.reduceEqDiff, ne_eq, not_true_eq_false, not_false_eq_true, reduceIte, true_and, and_true, kg_lk94, kg_ls94]
  refine kc83 hL hC (by omega) ?_
  simp (disch := omega) only [↓kb_0t, ↓kb_0f, ↓kb_1t, ↓kb_1f, ↓kb_2t, ↓kb_2f, ↓kb_3t, ↓kb_3f, ↓kb_4t, ↓kb_4f, ↓kb_5t, ↓kb_5f, ↓kg_S1, kg_S2, kg_br_T, kg_br_F, kg_br_N, kg_br_t, kg_br_f, ↓kg_at_n, nI_add, pk_mul, kg_sub_n, kg_rem_n, kg_eq_n, kg_lt_n, kg_le_n, kg_nz, kg_01_0, kg_01_1, kg_w0_1, kg_ret0, kg_ret1, kg_ret2, kg_wr_n, kg_wr_s, kg_Skd, kg_Smc, kg_Sob, kg_Srf, kg_Sld, kg_pad, List.map_cons, List.map_nil, List.length_cons, List.length_nil, List.replicate, List.cons_append, List.nil_append, List.append_nil, Nat.reduceAdd, Nat.reduceSub, Nat.reduceMul, Nat.reduceMod, Nat.reduceDiv, Nat.reduceLT, Nat.reduceLeDiff, Nat.reduceEqDiff, ne_eq, not_true_eq_false, not_false_eq_true, reduceIte, true_and, and_true, kg_lk94, kg_ls94]
  exact kc94_n hL hC hJ hc (by omega) rfl hK 4 0 _ _ _ _ rfl
end
