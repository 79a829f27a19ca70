/-! isRepairSo -/
def kj_mx (r : Nat → Int32) (a b k : Nat) : Int32 := if kf_s r a k ≤ kf_s r b k then kf_s r b k else kf_s r a k
def kj_su (f : Nat → Int32) : Nat → Int32
  | 0 => nI 0
  | n + 1 => kj_su f n + f n
theorem kj_ss (x y z : Int32) : x - y - z = x - (y + z) := by
  apply Int32.toBitVec_inj.mp
  simp only [Int32.toBitVec_sub, Int32.toBitVec_add]
  exact BitVec.sub_sub _ _ _
theorem kj_nt_s {r : Nat → Int32} {kd n k : Nat} {a b : Int32} (hn : n < 5) (hk : k < 8) : kf_s (kf_nt r kd a b) n k = kf_s r n k := by
  unfold kf_s; split <;> exact kf_nt_o (by omega)
theorem kj_ln_s {r : Nat → Int32} {n s k n' k' : Nat} (hn : n < 4) (hs : s < 4) (hk : k < 8) (hn' : n' < 5) (hk' : k' < 8) : kf_s (kf_ln r n s k) n' k' = if n' = n ∧ k' = k then kf_s r s k else kf_s r n' k' := by
  rw [← kf_ta_s hn hs hk hn' hk']
  unfold kf_ln
  split
  · exact kj_nt_s hn' hk'
  · rfl
theorem kj_j0_s {r : Nat → Int32} {a b n k : Nat} (ha : a < 4) (hb : b < 4) (hn : n < 5) (hk : k < 8) : kf_s (kf_j0 r a b) n k = kf_s r n k := by
  have o : ∀ i, 27 ≤ i → i < 242 → kf_j0 r a b i = r i := by
    intro i h1 h2
    unfold kf_j0
    rw [kf_sl2_o ha hb (by omega), kf_nt_o h2]
  unfold kf_s; split <;> exact o _ (by omega) (by omega)
theorem kj_jf_s {r : Nat → Int32} {a b : Nat} (ha : a < 4) (hb : b < 4) (hab : a ≠ b) : ∀ i, i ≤ 8 → ∀ k, k < 8 →
    (k < i → kf_s (kf_jf a b r i) a k = kj_mx r a b k ∧ kf_s (kf_jf a b r i) b k = kj_mx r a b k) ∧ (i ≤ k → kf_s (kf_jf a b r i) a k = kf_s r a k ∧ kf_s (kf_jf a b r i) b k = kf_s r b k)
  | 0, _, k, hk => ⟨fun h => by omega, fun _ => ⟨rfl, rfl⟩⟩
  | i + 1, hi, k, hk => by
    have ih := kj_jf_s (r := r) ha hb hab i (by omega)
    obtain ⟨e1, e2⟩ := (ih i (by omega)).2 (Nat.le_refl _)
    rw [kf_jf, kf_jk, e1, e2]
    by_cases q1 : kf_s r b i < kf_s r a i
    · rw [if_pos q1, kj_ln_s hb ha (by omega) (by omega) hk, kj_ln_s hb ha (by omega) (by omega) hk, e1, if_neg (by omega)]
      by_cases qk : k = i
      · subst qk
        rw [if_pos ⟨rfl, rfl⟩]
        refine ⟨fun _ => ?_, fun h => by omega⟩
        unfold kj_mx
        rw [if_neg (Int32.not_le.mpr q1)]
        exact ⟨e1, rfl⟩
      · rw [if_neg (by omega)]
        exact ⟨fun h => (ih k hk).1 (by omega), fun h => (ih k hk).2 (by omega)⟩
    · rw [if_neg q1]
      by_cases q2 : kf_s r a i = kf_s r b i
      · rw [if_pos q2]
        by_cases qk : k = i
        · subst qk
          refine ⟨fun _ => ?_, fun h => by omega⟩
          unfold kj_mx
          rw [if_pos (Int32.not_lt.mp q1), e1, e2]
          exact ⟨q2, rfl⟩
        · exact ⟨fun h => (ih k hk).1 (by omega), fun h => (ih k hk).2 (by omega)⟩
      · rw [if_neg q2, kj_ln_s ha hb (by omega) (by omega) hk, kj_ln_s ha hb (by omega) (by omega) hk, e2]
        by_cases qk : k = i
        · subst qk
          rw [if_pos ⟨rfl, rfl⟩, if_neg (by omega)]
          refine ⟨fun _ => ?_, fun h => by omega⟩
          unfold kj_mx
          rw [if_pos (Int32.not_lt.mp q1)]
          exact ⟨rfl, e2⟩
        · rw [if_neg (by omega), if_neg (by omega)]
          exact ⟨fun h => (ih k hk).1 (by omega), fun h => (ih k hk).2 (by omega)⟩
theorem kj_jn_s {r : Nat → Int32} {a b k : Nat} (ha : a < 4) (hb : b < 4) (hab : a ≠ b) (hk : k < 8) : kf_s (kf_jn r a b) a k = kj_mx r a b k ∧ kf_s (kf_jn r a b) b k = kj_mx r a b k := by
  have h := (kj_jf_s (r := kf_j0 r a b) ha hb hab 8 (Nat.le_refl _) k hk).1 hk
  have e : kj_mx (kf_j0 r a b) a b k = kj_mx r a b k := by
    unfold kj_mx
    rw [kj_j0_s ha hb (by omega) hk, kj_j0_s ha hb (by omega) hk]
  rw [e] at h
  exact h
theorem kj_dn0 {r : Nat → Int32} {a b : Nat} (ha : a < 4) (hb : b < 4) : kf_dn (kf_j0 r a b) a b = kf_dn r a b := by
  unfold kf_dn
  exact kf_ct_c (fun k hk => by rw [kj_j0_s ha hb (by omega) hk, kj_j0_s ha hb (by omega) hk])
theorem kj_ct_z {P : Nat → Bool} : ∀ {n : Nat}, (∀ i, i < n → P i = false) → kf_ct P n = 0
  | 0, _ => rfl
  | n + 1, h => by rw [kf_ct_f (by rw [h n (by omega)]; decide)]; exact kj_ct_z (fun i hi => h i (by omega))
theorem kj_dn1 {r : Nat → Int32} {a b : Nat} (ha : a < 4) (hb : b < 4) (hab : a ≠ b) : kf_dn (kf_jn r a b) a b = 0 := by
  unfold kf_dn
  refine kj_ct_z (fun k hk => ?_)
  obtain ⟨e1, e2⟩ := kj_jn_s (r := r) ha hb hab hk
  rw [e1, e2]
  simp
theorem kj_jn_p {r : Nat → Int32} {a b : Nat} (ha : a < 4) (hb : b < 4) : kf_jn r a b (11 + 4 * b + a) = r 0 := by
  unfold kf_jn kf_j0
  rw [kf_jf_o ha hb (by omega) 8 (Nat.le_refl _)]
  unfold kf_sl2
  rw [if_pos (Or.inr rfl), kf_nt_o (by omega)]
section
variable {G : kg_G} {d c : Nat} {h : Nat → Nat} {A : kf_A} {M : kg_M} {K : kg_Qt} {a b : Nat}
set_option maxRecDepth 100000 in
theorem kc93_1 (hL : G.2.2.2.2.2.1 < 2 ^ 31) (hC : kf_C c h M A) (hJ : kj_J A.1) (hc : c < 1048576) (ha : a < 4) (hb : b < 4) (hd : 8 ≤ d) {df : Int32}
    (hK : ∀ x7 x8 : Option Value, kg_P G d 93 9 125 125 K 84 [some (.ref 0), some (.int (nI a)), some (.int (nI b)), some (.int df), some (.int (kj_su (kj_mx A.1 a b) 8)), some (.int (nI (kf_dn A.1 a b))), some (.int (nI 8)), x7, x8] [] (kg_w0 h) M) :
    ∀ (z k : Nat) (x7 x8 : Option Value), k + z = 8 → kg_P G d 93 9 125 125 K 17 [some (.ref 0), some (.int (nI a)), some (.int (nI b)), some (.int df), some (.int (kj_su (kj_mx A.1 a b) k)), some (.int (nI (kf_ct (fun k => !decide (kf_s A.1 a k = kf_s A.1 b k)) k))), some (.int (nI k)), x7, x8] [] (kg_w0 h) M := by
  intro z
  induction z with
  | zero =>
    intro k x7 x8 hz
    obtain rfl : k = 8 := by omega
    refine kg_v93 hL (by omega) 60 ?_
    simp (disch := omega) only [↓kb_0t, ↓kb_0f, ↓kb_1t, ↓kb_1f, ↓kb_2t, ↓kb_2f, ↓kb_3t, ↓kb_3f, ↓kb_4t, ↓kb_4f, ↓kb_5t, ↓kb_5f, ↓kg_S1, kg_S2, kg_br_T, kg_br_F, kg_br_N, kg_br_t, kg_br_f, ↓kg_at_n, nI_add, pk_mul, kg_sub_n, kg_rem_n, kg_eq_n, kg_lt_n, kg_le_n, kg_nz, kg_01_0, kg_01_1, kg_w0_1, kg_ret0, kg_ret1, kg_ret2, kg_wr_n, kg_wr_s, kg_Skd, kg_Smc, kg_Sob, kg_Srf, kg_Sld, kg_pad, List.map_cons, List.map_nil, List.length_cons, List.length_nil, List.replicate, List.cons_append, List.nil_append, List.append_nil, Nat.reduceAdd, Nat.reduceSub, Nat.reduceMul, Nat.reduceMod, Nat.reduceDiv, Nat.reduceLT, Nat.reduceLeDiff, Nat.reduceEqDiff, ne_eq, not_true_eq_false, not_false_eq_true, reduceIte, true_and, and_true, kg_lk93, kg_ls93]
    exact hK x7 x8
  | succ z ih =>
    intro k x7 x8 hz
    have ih2 := ih (k + 1) (some (.int (kf_s A.1 a k))) (some (.int (kf_s A.1 b k))) (by omega)
    rw [kj_su, kj_mx] at ih2
    refine kg_v93 hL (by omega) 60 ?_
    simp (disch := omega) only [↓kb_0t, ↓kb_0f, ↓kb_1t, ↓kb_1f, ↓kb_2t, ↓kb_2f, ↓kb_3t, ↓kb_3f, ↓kb_4t, ↓kb_4f, ↓kb_5t, ↓kb_5f, ↓kg_S1, kg_S2, kg_br_T, kg_br_F, kg_br_N, kg_br_t, kg_br_f, ↓kg_at_n, nI_add, pk_mul, kg_sub_n, kg_rem_n, kg_eq_n, kg_lt_n, kg_le_n, kg_nz, kg_01_0, kg_01_1, kg_w0_1, kg_ret0, kg_ret1, kg_ret2, kg_wr_n, kg_wr_s, kg_Skd, kg_Smc, kg_Sob, kg_Srf, kg_Sld, kg_pad, List.map_cons, List.map_nil, List.length_cons, List.length_nil, List.replicate, List.cons_append, List.nil_append, List.append_nil, Nat.reduceAdd, Nat.reduceSub, Nat.reduceMul, Nat.reduceMod, Nat.reduceDiv, Nat.reduceLT, Nat.reduceLeDiff, Nat.reduceEqDiff, ne_eq, not_true_eq_false, not_false_eq_true, reduceIte, true_and, and_true, kg_lk93, kg_ls93]
    refine kc90 hL hC hJ hc ha (by omega) (by omega) ?_
    simp (disch := omega) only [↓kb_0t, ↓kb_0f, ↓kb_1t, ↓kb_1f, ↓kb_2t, ↓kb_2f, ↓kb_3t, ↓kb_3f, ↓kb_4t, ↓kb_4f, ↓kb_5t, ↓kb_5f, ↓kg_S1, kg_S2, kg_br_T, kg_br_F, kg_br_N, kg_br_t, kg_br_f, ↓kg_at_n, nI_add, pk_mul, kg_sub_n, kg_rem_n, kg_eq_n, kg_lt_n, kg_le_n, kg_nz, kg_01_0, kg_01_1, kg_w0_1, kg_ret0, kg_ret1, kg_ret2, kg_wr_n, kg_wr_s, kg_Skd, kg_Smc, kg_Sob, kg_Srf, kg_Sld, kg_pad, List.map_cons, List.map_nil, List.length_cons, List.length_nil, List.replicate, List.cons_append, List.nil_append, List.append_nil, Nat.reduceAdd, Nat.reduceSub, Nat.reduceMul, Nat.reduceMod, Nat.reduceDiv, Nat.reduceLT, Nat.reduceLeDiff, Nat.reduceEqDiff, ne_eq, not_true_eq_false, not_false_eq_true, reduceIte, true_and, and_true, kg_lk93, kg_ls93]
    refine kc90 hL hC hJ hc hb (by omega) (by omega) ?_
    by_cases q2 : kf_s A.1 a k = kf_s A.1 b k
    · have q1 : kf_s A.1 a k ≤ kf_s A.1 b k := by rw [q2]; exact Int32.le_refl _
      have e1 : (kf_s A.1 a k ≤ kf_s A.1 b k) = True := eq_true q1
      have e2 : (kf_s A.1 a k = kf_s A.1 b k) = True := eq_true q2
      rw [if_pos q1, kf_ct_f (by simp [q2])] at ih2
      simp (disch := omega) only [↓kb_0t, ↓kb_0f, ↓kb_1t, ↓kb_1f, ↓kb_2t, ↓kb_2f, ↓kb_3t, ↓kb_3f, ↓kb_4t, ↓kb_4f, ↓kb_5t, ↓kb_5f, ↓kg_S1, kg_S2, kg_br_T, kg_br_F, kg_br_N, kg_br_t, kg_br_f, ↓kg_at_n, nI_add, pk_mul, kg_sub_n, kg_rem_n, kg_eq_n, kg_lt_n, kg_le_n, kg_nz, kg_01_0, kg_01_1, kg_w0_1, kg_ret0, kg_ret1, kg_ret2, kg_wr_n, kg_wr_s, kg_Skd, kg_Smc, kg_Sob, kg_Srf, kg_Sld, kg_pad, List.map_cons, List.map_nil, List.length_cons, List.length_nil, List.replicate, List.cons_append, List.nil_append, List.append_nil, Nat.reduceAdd, Nat.reduceSub, Nat.reduceMul, Nat.reduceMod, Nat.reduceDiv, Nat.reduceLT, Nat.reduceLeDiff, Nat.reduceEqDiff, ne_eq, not_true_eq_false, not_false_eq_true, reduceIte, true_and, and_true, kg_lk93, kg_ls93, e1, e2, Nat.add_zero]
      exact ih2
    · have e2 : (kf_s A.1 a k = kf_s A.1 b k) = False := eq_false q2
      rw [kf_ct_t (by simp [q2])] at ih2
      by_cases q1 : kf_s A.1 a k ≤ kf_s A.1 b k
      · have e1 : (kf_s A.1 a k ≤ kf_s A.1 b k) = True := eq_true q1
        rw [if_pos q1] at ih2
        simp (disch := omega) only [↓kb_0t, ↓kb_0f, ↓kb_1t, ↓kb_1f, ↓kb_2t, ↓kb_2f, ↓kb_3t, ↓kb_3f, ↓kb_4t, ↓kb_4f, ↓kb_5t, ↓kb_5f, ↓kg_S1, kg_S2, kg_br_T, kg_br_F, kg_br_N, kg_br_t, kg_br_f, ↓kg_at_n, nI_add, pk_mul, kg_sub_n, kg_rem_n, kg_eq_n, kg_lt_n, kg_le_n, kg_nz, kg_01_0, kg_01_1, kg_w0_1, kg_ret0, kg_ret1, kg_ret2, kg_wr_n, kg_wr_s, kg_Skd, kg_Smc, kg_Sob, kg_Srf, kg_Sld, kg_pad, List.map_cons, List.map_nil, List.length_cons, List.length_nil, List.replicate, List.cons_append, List.nil_append, List.append_nil, Nat.reduceAdd, Nat.reduceSub, Nat.reduceMul, Nat.reduceMod, Nat.reduceDiv, Nat.reduceLT, Nat.reduceLeDiff, Nat.reduceEqDiff, ne_eq, not_true_eq_false, not_false_eq_true, reduceIte, true_and, and_true, kg_lk93, kg_ls93, e1, e2]
        exact ih2
      · have e1 : (kf_s A.1 a k ≤ kf_s A.1 b k) = False := eq_false q1
        rw [if_neg q1] at ih2
        simp (disch := omega) only [↓kb_0t, ↓kb_0f, ↓kb_1t, ↓kb_1f, ↓kb_2t, ↓kb_2f, ↓kb_3t, ↓kb_3f, ↓kb_4t, ↓kb_4f, ↓kb_5t, ↓kb_5f, ↓kg_S1, kg_S2, kg_br_T, kg_br_F, kg_br_N, kg_br_t, kg_br_f, ↓kg_at_n, nI_add, pk_mul, kg_sub_n, kg_rem_n, kg_eq_n, kg_lt_n, kg_le_n, kg_nz, kg_01_0, kg_01_1, kg_w0_1, kg_ret0, kg_ret1, kg_ret2, kg_wr_n, kg_wr_s, kg_Skd, kg_Smc, kg_Sob, kg_Srf, kg_Sld, kg_pad, List.map_cons, List.map_nil, List.length_cons, List.length_nil, List.replicate, List.cons_append, List.nil_append, List.append_nil, Nat.reduceAdd, Nat.reduceSub, Nat.reduceMul, Nat.reduceMod, Nat.reduceDiv, Nat.reduceLT, Nat.reduceLeDiff, Nat.reduceEqDiff, ne_eq, not_true_eq_false, not_false_eq_true, reduceIte, true_and, and_true, kg_lk93, kg_ls93, e1, e2]
        exact ih2
set_option maxRecDepth 100000 in
theorem kc93_2 (hL : G.2.2.2.2.2.1 < 2 ^ 31) {X df mo : Int32} {f : Nat → Int32} (hC : kf_C c h M A) (hJ : kj_J A.1) (hc : c < 1048576) (ha : a < 4) (hb : b < 4) (hd : 8 ≤ d) (hf : ∀ k, k < 8 → kf_s A.1 a k = f k ∧ kf_s A.1 b k = f k) (hX : X = kj_su f 8) (hK : K (some (.int (nI 1))) (kg_w0 h) M) :
    ∀ (z k : Nat) (x8 : Option Value), k + z = 8 → kg_P G d 93 9 125 125 K 176 [some (.ref 0), some (.int (nI a)), some (.int (nI b)), some (.int df), some (.int (X - kj_su f k)), some (.int mo), some (.int (nI 1)), some (.int (nI k)), x8] [] (kg_w0 h) M := by
  intro z
  induction z with
  | zero =>
    intro k x8 hz
    obtain rfl : k = 8 := by omega
    have e0 : X - kj_su f 8 = nI 0 := by rw [hX, Int32.sub_self]; rfl
    rw [e0]
    refine kg_v93 hL (by omega) 60 ?_
    simp (disch := omega) only [↓kb_0t, ↓kb_0f, ↓kb_1t, ↓kb_1f, ↓kb_2t, ↓kb_2f, ↓kb_3t, ↓kb_3f, ↓kb_4t, ↓kb_4f, ↓kb_5t, ↓kb_5f, ↓kg_S1, kg_S2, kg_br_T, kg_br_F, kg_br_N, kg_br_t, kg_br_f, ↓kg_at_n, nI_add, pk_mul, kg_sub_n, kg_rem_n, kg_eq_n, kg_lt_n, kg_le_n, kg_nz, kg_01_0, kg_01_1, kg_w0_1, kg_ret0, kg_ret1, kg_ret2, kg_wr_n, kg_wr_s, kg_Skd, kg_Smc, kg_Sob, kg_Srf, kg_Sld, kg_pad, List.map_cons, List.map_nil, List.length_cons, List.length_nil, List.replicate, List.cons_append, List.nil_append, List.append_nil, Nat.reduceAdd, Nat.reduceSub, Nat.reduceMul, Nat.reduceMod, Nat.reduceDiv, Nat.reduceLT, Nat.reduceLeDiff, Nat.reduceEqDiff, ne_eq, not_true_eq_false, not_false_eq_true, reduceIte, true_and, and_true, kg_lk93, kg_ls93]
    refine kg_v93 hL (by omega) 60 ?_
    simp (disch := omega) only [↓kb_0t, ↓kb_0f, ↓kb_1t, ↓kb_1f, ↓kb_2t, ↓kb_2f, ↓kb_3t, ↓kb_3f, ↓kb_4t, ↓kb_4f, ↓kb_5t, ↓kb_5f, ↓kg_S1, kg_S2, kg_br_T, kg_br_F, kg_br_N, kg_br_t, kg_br_f, ↓kg_at_n, nI_add, pk_mul, kg_sub_n, kg_rem_n, kg_eq_n, kg_lt_n, kg_le_n, kg_nz, kg_01_0, kg_01_1, kg_w0_1, kg_ret0, kg_ret1, kg_ret2, kg_wr_n, kg_wr_s, kg_Skd, kg_Smc, kg_Sob, kg_Srf, kg_Sld, kg_pad, List.map_cons, List.map_nil, List.length_cons, List.length_nil, List.replicate, List.cons_append, List.nil_append, List.append_nil, Nat.reduceAdd, Nat.reduceSub, Nat.reduceMul, Nat.reduceMod, Nat.reduceDiv, Nat.reduceLT, Nat.reduceLeDiff, Nat.reduceEqDiff, ne_eq, not_true_eq_false, not_false_eq_true, reduceIte, true_and, and_true, kg_lk93, kg_ls93]
    exact hK
  | succ z ih =>
    intro k x8 hz
    have ih2 := ih (k + 1) x8 (by omega)
    obtain ⟨f1, f2⟩ := hf k (by omega)
    obtain ⟨j1, j2⟩ := hJ.2.2.1 a b k (by omega) (by omega) (by omega) (f1.trans f2.symm)
    rw [kj_su, ← kj_ss] at ih2
    refine kg_v93 hL (by omega) 60 ?_
    simp (disch := omega) only [↓kb_0t, ↓kb_0f, ↓kb_1t, ↓kb_1f, ↓kb_2t, ↓kb_2f, ↓kb_3t, ↓kb_3f, ↓kb_4t, ↓kb_4f, ↓kb_5t, ↓kb_5f, ↓kg_S1, kg_S2, kg_br_T, kg_br_F, kg_br_N, kg_br_t, kg_br_f, ↓kg_at_n, nI_add, pk_mul, kg_sub_n, kg_rem_n, kg_eq_n, kg_lt_n, kg_le_n, kg_nz, kg_01_0, kg_01_1, kg_w0_1, kg_ret0, kg_ret1, kg_ret2, kg_wr_n, kg_wr_s, kg_Skd, kg_Smc, kg_Sob, kg_Srf, kg_Sld, kg_pad, List.map_cons, List.map_nil, List.length_cons, List.length_nil, List.replicate, List.cons_append, List.nil_append, List.append_nil, Nat.reduceAdd, Nat.reduceSub, Nat.reduceMul, Nat.reduceMod, Nat.reduceDiv, Nat.reduceLT, Nat.reduceLeDiff, Nat.reduceEqDiff, ne_eq, not_true_eq_false, not_false_eq_true, reduceIte, true_and, and_true, kg_lk93, kg_ls93]
    refine kc90 hL hC hJ hc ha (by omega) (by omega) ?_
    rw [f1]
    simp (disch := omega) only [↓kb_0t, ↓kb_0f, ↓kb_1t, ↓kb_1f, ↓kb_2t, ↓kb_2f, ↓kb_3t, ↓kb_3f, ↓kb_4t, ↓kb_4f, ↓kb_5t, ↓kb_5f, ↓kg_S1, kg_S2, kg_br_T, kg_br_F, kg_br_N, kg_br_t, kg_br_f, ↓kg_at_n, nI_add, pk_mul, kg_sub_n, kg_rem_n, kg_eq_n, kg_lt_n, kg_le_n, kg_nz, kg_01_0, kg_01_1, kg_w0_1, kg_ret0, kg_ret1, kg_ret2, kg_wr_n, kg_wr_s, kg_Skd, kg_Smc, kg_Sob, kg_Srf, kg_Sld, kg_pad, List.map_cons, List.map_nil, List.length_cons, List.length_nil, List.replicate, List.cons_append, List.nil_append, List.append_nil, Nat.reduceAdd, Nat.reduceSub, Nat.reduceMul, Nat.reduceMod, Nat.reduceDiv, Nat.reduceLT, Nat.reduceLeDiff, Nat.reduceEqDiff, ne_eq, not_true_eq_false, not_false_eq_true, reduceIte, true_and, and_true, kg_lk93, kg_ls93]
    refine kc78 hL hC (by omega) ?_
    rw [kj_k0 ha (by omega), j1]
    simp (disch := omega) only [↓kb_0t, ↓kb_0f, ↓kb_1t, ↓kb_1f, ↓kb_2t, ↓kb_2f, ↓kb_3t, ↓kb_3f, ↓kb_4t, ↓kb_4f, ↓kb_5t, ↓kb_5f, ↓kg_S1, kg_S2, kg_br_T, kg_br_F, kg_br_N, kg_br_t, kg_br_f, ↓kg_at_n, nI_add, pk_mul, kg_sub_n, kg_rem_n, kg_eq_n, kg_lt_n, kg_le_n, kg_nz, kg_01_0, kg_01_1, kg_w0_1, kg_ret0, kg_ret1, kg_ret2, kg_wr_n, kg_wr_s, kg_Skd, kg_Smc, kg_Sob, kg_Srf, kg_Sld, kg_pad, List.map_cons, List.map_nil, List.length_cons, List.length_nil, List.replicate, List.cons_append, List.nil_append, List.append_nil, Nat.reduceAdd, Nat.reduceSub, Nat.reduceMul, Nat.reduceMod, Nat.reduceDiv, Nat.reduceLT, Nat.reduceLeDiff, Nat.reduceEqDiff, ne_eq, not_true_eq_false, not_false_eq_true, reduceIte, true_and, and_true, kg_lk93, kg_ls93]
    refine kc78 hL hC (by omega) ?_
    rw [kj_k0 hb (by omega)]
    simp (disch := omega) only [↓kb_0t, ↓kb_0f, ↓kb_1t, ↓kb_1f, ↓kb_2t, ↓kb_2f, ↓kb_3t, ↓kb_3f, ↓kb_4t, ↓kb_4f, ↓kb_5t, ↓kb_5f, ↓kg_S1, kg_S2, kg_br_T, kg_br_F, kg_br_N, kg_br_t, kg_br_f, ↓kg_at_n, nI_add, pk_mul, kg_sub_n, kg_rem_n, kg_eq_n, kg_lt_n, kg_le_n, kg_nz, kg_01_0, kg_01_1, kg_w0_1, kg_ret0, kg_ret1, kg_ret2, kg_wr_n, kg_wr_s, kg_Skd, kg_Smc, kg_Sob, kg_Srf, kg_Sld, kg_pad, List.map_cons, List.map_nil, List.length_cons, List.length_nil, List.replicate, List.cons_append, List.nil_append, List.append_nil, Nat.reduceAdd, Nat.reduceSub, Nat.reduceMul, Nat.reduceMod, Nat.reduceDiv, Nat.reduceLT, Nat.reduceLeDiff, Nat.reduceEqDiff, ne_eq, not_true_eq_false, not_false_eq_true, reduceIte, true_and, and_true, kg_lk93, kg_ls93, eq_self]
    refine kc78 hL hC (by omega) ?_
    have ev : (if kf_w A.1 a k = nI 1 then kf_v A.1 a k else kg_n 5) = (if kf_w A.1 b k = nI 1 then kf_v A.1 b k else kg_n 5) := by
      by_cases q : kf_w A.1 a k = nI 1
      · rw [if_pos q, if_pos (j1 ▸ q), j2 q]
      · rw [if_neg q, if_neg (j1 ▸ q)]
    rw [kj_k1 ha (by omega), ev]
    simp (disch := omega) only [↓kb_0t, ↓kb_0f, ↓kb_1t, ↓kb_1f, ↓kb_2t, ↓kb_2f, ↓kb_3t, ↓kb_3f, ↓kb_4t, ↓kb_4f, ↓kb_5t, ↓kb_5f, ↓kg_S1, kg_S2, kg_br_T, kg_br_F, kg_br_N, kg_br_t, kg_br_f, ↓kg_at_n, nI_add, pk_mul, kg_sub_n, kg_rem_n, kg_eq_n, kg_lt_n, kg_le_n, kg_nz, kg_01_0, kg_01_1, kg_w0_1, kg_ret0, kg_ret1, kg_ret2, kg_wr_n, kg_wr_s, kg_Skd, kg_Smc, kg_Sob, kg_Srf, kg_Sld, kg_pad, List.map_cons, List.map_nil, List.length_cons, List.length_nil, List.replicate, List.cons_append, List.nil_append, List.append_nil, Nat.reduceAdd, Nat.reduceSub, Nat.reduceMul, Nat.reduceMod, Nat.reduceDiv, Nat.reduceLT, Nat.reduceLeDiff, Nat.reduceEqDiff, ne_eq, not_true_eq_false, not_false_eq_true, reduceIte, true_and, and_true, kg_lk93, kg_ls93]
    refine kc78 hL hC (by omega) ?_
    rw [kj_k1 hb (by omega)]
    simp (disch := omega) only [↓kb_0t, ↓kb_0f, ↓kb_1t, ↓kb_1f, ↓kb_2t, ↓kb_2f, ↓kb_3t, ↓kb_3f, ↓kb_4t, ↓kb_4f, ↓kb_5t, ↓kb_5f, ↓kg_S1, kg_S2, kg_br_T, kg_br_F, kg_br_N, kg_br_t, kg_br_f, ↓kg_at_n, nI_add, pk_mul, kg_sub_n, kg_rem_n, kg_eq_n, kg_lt_n, kg_le_n, kg_nz, kg_01_0, kg_01_1, kg_w0_1, kg_ret0, kg_ret1, kg_ret2, kg_wr_n, kg_wr_s, kg_Skd, kg_Smc, kg_Sob, kg_Srf, kg_Sld, kg_pad, List.map_cons, List.map_nil, List.length_cons, List.length_nil, List.replicate, List.cons_append, List.nil_append, List.append_nil, Nat.reduceAdd, Nat.reduceSub, Nat.reduceMul, Nat.reduceMod, Nat.reduceDiv, Nat.reduceLT, Nat.reduceLeDiff, Nat.reduceEqDiff, ne_eq, not_true_eq_false, not_false_eq_true, reduceIte, true_and, and_true, kg_lk93, kg_ls93, eq_self]
    exact ih2
set_option maxRecDepth 100000 in
theorem kc93 (hL : G.2.2.2.2.2.1 < 2 ^ 31) (hC : kf_C c h M A) (hJ : kj_J A.1) (hT : ∀ k, k < 8 → M 124 k = kf_s A.1 4 k) (hc : c < 1048576) (ha : a < 4) (hb : b < 4) (hab : a ≠ b) (hd : 9 ≤ d)
    (hK : ∀ (A' : kf_A) (h' : Nat → Nat) (M' : kg_M), kf_C c h' M' A' → kj_J A'.1 → (∀ k, k < 8 → M' 124 k = kf_s A'.1 4 k) → K (some (.int (nI 1))) (kg_w0 h') M') : kg_call G d 125 93 [.ref 0, .int (nI a), .int (nI b)] (kg_w0 h) M K := by
  obtain ⟨d, rfl⟩ : ∃ e, d = e + 1 := ⟨d - 1, by omega⟩
  refine kg_m93 (by simp) (Nat.le_refl _) (kg_v93 hL (by omega) 60 ?_)
  simp (disch := omega) only [↓kb_0t, ↓kb_0f, ↓kb_1t, ↓kb_1f, ↓kb_2t, ↓kb_2f, ↓kb_3t, ↓kb_3f, ↓kb_4t, ↓kb_4f, ↓kb_5t, ↓kb_5f, ↓kg_S1, kg_S2, kg_br_T, kg_br_F, kg_br_N, kg_br_t, kg_br_f, ↓kg_at_n, nI_add, pk_mul, kg_sub_n, kg_rem_n, kg_eq_n, kg_lt_n, kg_le_n, kg_nz, kg_01_0, kg_01_1, kg_w0_1, kg_ret0, kg_ret1, kg_ret2, kg_wr_n, kg_wr_s, kg_Skd, kg_Smc, kg_Sob, kg_Srf, kg_Sld, kg_pad, List.map_cons, List.map_nil, List.length_cons, List.length_nil, List.replicate, List.cons_append, List.nil_append, List.append_nil, Nat.reduceAdd, Nat.reduceSub, Nat.reduceMul, Nat.reduceMod, Nat.reduceDiv, Nat.reduceLT, Nat.reduceLeDiff, Nat.reduceEqDiff, ne_eq, not_true_eq_false, not_false_eq_true, reduceIte, true_and, and_true, kg_lk93, kg_ls93]
  refine kc81 hL hC (by omega) ?_
  rw [kj_pd ha hb hab]
  simp (disch := omega) only [↓kb_0t, ↓kb_0f, ↓kb_1t, ↓kb_1f, ↓kb_2t, ↓kb_2f, ↓kb_3t, ↓kb_3f, ↓kb_4t, ↓kb_4f, ↓kb_5t, ↓kb_5f, ↓kg_S1, kg_S2, kg_br_T, kg_br_F, kg_br_N, kg_br_t, kg_br_f, ↓kg_at_n, nI_add, pk_mul, kg_sub_n, kg_rem_n, kg_eq_n, kg_lt_n, kg_le_n, kg_nz, kg_01_0, kg_01_1, kg_w0_1, kg_ret0, kg_ret1, kg_ret2, kg_wr_n, kg_wr_s, kg_Skd, kg_Smc, kg_Sob, kg_Srf, kg_Sld, kg_pad, List.map_cons, List.map_nil, List.length_cons, List.length_nil, List.replicate, List.cons_append, List.nil_append, List.append_nil, Nat.reduceAdd, Nat.reduceSub, Nat.reduceMul, Nat.reduceMod, Nat.reduceDiv, Nat.reduceLT, Nat.reduceLeDiff, Nat.reduceEqDiff, ne_eq, not_true_eq_false, not_false_eq_true, reduceIte, true_and, and_true, kg_lk93, kg_ls93]
  refine kc93_1 hL hC hJ hc ha hb (by omega) (fun x7 x8 => ?_) 8 0 none none rfl
  have ldn : kf_dn A.1 a b ≤ 8 := kf_ct_le _ 8
  have down : (A.1 (7 + a) = nI 0 ∨ A.1 (7 + b) = nI 0) → kf_rep A (nI a) (nI b) = (kg_n 4, A) := by
    intro q
    unfold kf_rep
    rw [kj_ix ha (by omega), kj_ix hb (by omega)]
    dsimp only
    rw [if_neg hab, if_pos q]
  have fin : ∀ (o : Int32) (A' : kf_A) (h' : Nat → Nat) (M' : kg_M), kf_rep A (nI a) (nI b) = (o, A') → kf_C c h' M' A' → (∀ p, 123 < p → M' p = M p) → K (some (.int (nI 1))) (kg_w0 h') M' := by
    intro o A' h' M' e1 e2 e3
    have q := kj_rep hJ e1
    exact hK A' h' M' e2 q.1 (fun k hk => by rw [e3 124 (by omega), hT k hk, kj_Qs q hk])
  have hneg : (kg_n 4 = kg_n 4) = True := eq_self _
  by_cases qa : A.1 (7 + a) = nI 0
  · refine kg_v93 hL (by omega) 60 ?_
    simp (disch := omega) only [↓kb_0t, ↓kb_0f, ↓kb_1t, ↓kb_1f, ↓kb_2t, ↓kb_2f, ↓kb_3t, ↓kb_3f, ↓kb_4t, ↓kb_4f, ↓kb_5t, ↓kb_5f, ↓kg_S1, kg_S2, kg_br_T, kg_br_F, kg_br_N, kg_br_t, kg_br_f, ↓kg_at_n, nI_add, pk_mul, kg_sub_n, kg_rem_n, kg_eq_n, kg_lt_n, kg_le_n, kg_nz, kg_01_0, kg_01_1, kg_w0_1, kg_ret0, kg_ret1, kg_ret2, kg_wr_n, kg_wr_s, kg_Skd, kg_Smc, kg_Sob, kg_Srf, kg_Sld, kg_pad, List.map_cons, List.map_nil, List.length_cons, List.length_nil, List.replicate, List.cons_append, List.nil_append, List.append_nil, Nat.reduceAdd, Nat.reduceSub, Nat.reduceMul, Nat.reduceMod, Nat.reduceDiv, Nat.reduceLT, Nat.reduceLeDiff, Nat.reduceEqDiff, ne_eq, not_true_eq_false, not_false_eq_true, reduceIte, true_and, and_true, kg_lk93, kg_ls93]
    refine kc80 hL hC (by omega) ?_
    rw [kj_n0 ha, qa]
    simp (disch := omega) only [↓kb_0t, ↓kb_0f, ↓kb_1t, ↓kb_1f, ↓kb_2t, ↓kb_2f, ↓kb_3t, ↓kb_3f, ↓kb_4t, ↓kb_4f, ↓kb_5t, ↓kb_5f, ↓kg_S1, kg_S2, kg_br_T, kg_br_F, kg_br_N, kg_br_t, kg_br_f, ↓kg_at_n, nI_add, pk_mul, kg_sub_n, kg_rem_n, kg_eq_n, kg_lt_n, kg_le_n, kg_nz, kg_01_0, kg_01_1, kg_w0_1, kg_ret0, kg_ret1, kg_ret2, kg_wr_n, kg_wr_s, kg_Skd, kg_Smc, kg_Sob, kg_Srf, kg_Sld, kg_pad, List.map_cons, List.map_nil, List.length_cons, List.length_nil, List.replicate, List.cons_append, List.nil_append, List.append_nil, Nat.reduceAdd, Nat.reduceSub, Nat.reduceMul, Nat.reduceMod, Nat.reduceDiv, Nat.reduceLT, Nat.reduceLeDiff, Nat.reduceEqDiff, ne_eq, not_true_eq_false, not_false_eq_true, reduceIte, true_and, and_true, kg_lk93, kg_ls93]
    refine kc67 hL hC (by omega) (by omega) ?_
    intro o A' h' M' e1 e2 e3
    have e4 := fin o A' h' M' e1 e2 e3
    rw [down (Or.inl qa)] at e1
    cases e1
    simp (disch := omega) only [↓kb_0t, ↓kb_0f, ↓kb_1t, ↓kb_1f, ↓kb_2t, ↓kb_2f, ↓kb_3t, ↓kb_3f, ↓kb_4t, ↓kb_4f, ↓kb_5t, ↓kb_5f, ↓kg_S1, kg_S2, kg_br_T, kg_br_F, kg_br_N, kg_br_t, kg_br_f, ↓kg_at_n, nI_add, pk_mul, kg_sub_n, kg_rem_n, kg_eq_n, kg_lt_n, kg_le_n, kg_nz, kg_01_0, kg_01_1, kg_w0_1, kg_ret0, kg_ret1, kg_ret2, kg_wr_n, kg_wr_s, kg_Skd, kg_Smc, kg_Sob, kg_Srf, kg_Sld, kg_pad, List.map_cons, List.map_nil, List.length_cons, List.length_nil, List.replicate, List.cons_append, List.nil_append, List.append_nil, Nat.reduceAdd, Nat.reduceSub, Nat.reduceMul, Nat.reduceMod, Nat.reduceDiv, Nat.reduceLT, Nat.reduceLeDiff, Nat.reduceEqDiff, ne_eq, not_true_eq_false, not_false_eq_true, reduceIte, true_and, and_true, kg_lk93, kg_ls93, eq_self]
    exact e4
  · by_cases qb : A.1 (7 + b) = nI 0
    · have qa2 : (A.1 (7 + a) = nI 0) = False := eq_false qa
      refine kg_v93 hL (by omega) 60 ?_
      simp (disch := omega) only [↓kb_0t, ↓kb_0f, ↓kb_1t, ↓kb_1f, ↓kb_2t, ↓kb_2f, ↓kb_3t, ↓kb_3f, ↓kb_4t, ↓kb_4f, ↓kb_5t, ↓kb_5f, ↓kg_S1, kg_S2, kg_br_T, kg_br_F, kg_br_N, kg_br_t, kg_br_f, ↓kg_at_n, nI_add, pk_mul, kg_sub_n, kg_rem_n, kg_eq_n, kg_lt_n, kg_le_n, kg_nz, kg_01_0, kg_01_1, kg_w0_1, kg_ret0, kg_ret1, kg_ret2, kg_wr_n, kg_wr_s, kg_Skd, kg_Smc, kg_Sob, kg_Srf, kg_Sld, kg_pad, List.map_cons, List.map_nil, List.length_cons, List.length_nil, List.replicate, List.cons_append, List.nil_append, List.append_nil, Nat.reduceAdd, Nat.reduceSub, Nat.reduceMul, Nat.reduceMod, Nat.reduceDiv, Nat.reduceLT, Nat.reduceLeDiff, Nat.reduceEqDiff, ne_eq, not_true_eq_false, not_false_eq_true, reduceIte, true_and, and_true, kg_lk93, kg_ls93]
      refine kc80 hL hC (by omega) ?_
      rw [kj_n0 ha]
      simp (disch := omega) only [↓kb_0t, ↓kb_0f, ↓kb_1t, ↓kb_1f, ↓kb_2t, ↓kb_2f, ↓kb_3t, ↓kb_3f, ↓kb_4t, ↓kb_4f, ↓kb_5t, ↓kb_5f, ↓kg_S1, kg_S2, kg_br_T, kg_br_F, kg_br_N, kg_br_t, kg_br_f, ↓kg_at_n, nI_add, pk_mul, kg_sub_n, kg_rem_n, kg_eq_n, kg_lt_n, kg_le_n, kg_nz, kg_01_0, kg_01_1, kg_w0_1, kg_ret0, kg_ret1, kg_ret2, kg_wr_n, kg_wr_s, kg_Skd, kg_Smc, kg_Sob, kg_Srf, kg_Sld, kg_pad, List.map_cons, List.map_nil, List.length_cons, List.length_nil, List.replicate, List.cons_append, List.nil_append, List.append_nil, Nat.reduceAdd, Nat.reduceSub, Nat.reduceMul, Nat.reduceMod, Nat.reduceDiv, Nat.reduceLT, Nat.reduceLeDiff, Nat.reduceEqDiff, ne_eq, not_true_eq_false, not_false_eq_true, reduceIte, true_and, and_true, kg_lk93, kg_ls93, qa2]
      refine kc80 hL hC (by omega) ?_
      rw [kj_n0 hb, qb]
      simp (disch := omega) only [↓kb_0t, ↓kb_0f, ↓kb_1t, ↓kb_1f, ↓kb_2t, ↓kb_2f, ↓kb_3t, ↓kb_3f, ↓kb_4t, ↓kb_4f, ↓kb_5t, ↓kb_5f, ↓kg_S1, kg_S2, kg_br_T, kg_br_F, kg_br_N, kg_br_t, kg_br_f, ↓kg_at_n, nI_add, pk_mul, kg_sub_n, kg_rem_n, kg_eq_n, kg_lt_n, kg_le_n, kg_nz, kg_01_0, kg_01_1, kg_w0_1, kg_ret0, kg_ret1, kg_ret2, kg_wr_n, kg_wr_s, kg_Skd, kg_Smc, kg_Sob, kg_Srf, kg_Sld, kg_pad, List.map_cons, List.map_nil, List.length_cons, List.length_nil, List.replicate, List.cons_append, List.nil_append, List.append_nil, Nat.reduceAdd, Nat.reduceSub, Nat.reduceMul, Nat.reduceMod, Nat.reduceDiv, Nat.reduceLT, Nat.reduceLeDiff, Nat.reduceEqDiff, ne_eq, not_true_eq_false, not_false_eq_true, reduceIte, true_and, and_true, kg_lk93, kg_ls93]
      refine kc67 hL hC (by omega) (by omega) ?_
      intro o A' h' M' e1 e2 e3
      have e4 := fin o A' h' M' e1 e2 e3
      rw [down (Or.inr qb)] at e1
      cases e1
      simp (disch := omega) only [↓kb_0t, ↓kb_0f, ↓kb_1t, ↓kb_1f, ↓kb_2t, ↓kb_2f, ↓kb_3t, ↓kb_3f, ↓kb_4t, ↓kb_4f, ↓kb_5t, ↓kb_5f, ↓kg_S1, kg_S2, kg_br_T, kg_br_F, kg_br_N, kg_br_t, kg_br_f, ↓kg_at_n, nI_add, pk_mul, kg_sub_n, kg_rem_n, kg_eq_n, kg_lt_n, kg_le_n, kg_nz, kg_01_0, kg_01_1, kg_w0_1, kg_ret0, kg_ret1, kg_ret2, kg_wr_n, kg_wr_s, kg_Skd, kg_Smc, kg_Sob, kg_Srf, kg_Sld, kg_pad, List.map_cons, List.map_nil, List.length_cons, List.length_nil, List.replicate, List.cons_append, List.nil_append, List.append_nil, Nat.reduceAdd, Nat.reduceSub, Nat.reduceMul, Nat.reduceMod, Nat.reduceDiv, Nat.reduceLT, Nat.reduceLeDiff, Nat.reduceEqDiff, ne_eq, not_true_eq_false, not_false_eq_true, reduceIte, true_and, and_true, kg_lk93, kg_ls93, eq_self]
      exact e4
    · have qa2 : (A.1 (7 + a) = nI 0) = False := eq_false qa
      have qb2 : (A.1 (7 + b) = nI 0) = False := eq_false qb
      have up : kf_rep A (nI a) (nI b) = (nI (kf_dn A.1 a b), kf_sr (kf_rec A) (kf_jn A.1 a b)) := by
        unfold kf_rep
        rw [kj_ix ha (by omega), kj_ix hb (by omega)]
        dsimp only
        rw [if_neg hab, if_neg (by simp [qa, qb]), kj_dn0 ha hb]
      refine kg_v93 hL (by omega) 60 ?_
      simp (disch := omega) only [↓kb_0t, ↓kb_0f, ↓kb_1t, ↓kb_1f, ↓kb_2t, ↓kb_2f, ↓kb_3t, ↓kb_3f, ↓kb_4t, ↓kb_4f, ↓kb_5t, ↓kb_5f, ↓kg_S1, kg_S2, kg_br_T, kg_br_F, kg_br_N, kg_br_t, kg_br_f, ↓kg_at_n, nI_add, pk_mul, kg_sub_n, kg_rem_n, kg_eq_n, kg_lt_n, kg_le_n, kg_nz, kg_01_0, kg_01_1, kg_w0_1, kg_ret0, kg_ret1, kg_ret2, kg_wr_n, kg_wr_s, kg_Skd, kg_Smc, kg_Sob, kg_Srf, kg_Sld, kg_pad, List.map_cons, List.map_nil, List.length_cons, List.length_nil, List.replicate, List.cons_append, List.nil_append, List.append_nil, Nat.reduceAdd, Nat.reduceSub, Nat.reduceMul, Nat.reduceMod, Nat.reduceDiv, Nat.reduceLT, Nat.reduceLeDiff, Nat.reduceEqDiff, ne_eq, not_true_eq_false, not_false_eq_true, reduceIte, true_and, and_true, kg_lk93, kg_ls93]
      refine kc80 hL hC (by omega) ?_
      rw [kj_n0 ha]
      simp (disch := omega) only [↓kb_0t, ↓kb_0f, ↓kb_1t, ↓kb_1f, ↓kb_2t, ↓kb_2f, ↓kb_3t, ↓kb_3f, ↓kb_4t, ↓kb_4f, ↓kb_5t, ↓kb_5f, ↓kg_S1, kg_S2, kg_br_T, kg_br_F, kg_br_N, kg_br_t, kg_br_f, ↓kg_at_n, nI_add, pk_mul, kg_sub_n, kg_rem_n, kg_eq_n, kg_lt_n, kg_le_n, kg_nz, kg_01_0, kg_01_1, kg_w0_1, kg_ret0, kg_ret1, kg_ret2, kg_wr_n, kg_wr_s, kg_Skd, kg_Smc, kg_Sob, kg_Srf, kg_Sld, kg_pad, List.map_cons, List.map_nil, List.length_cons, List.length_nil, List.replicate, List.cons_append, List.nil_append, List.append_nil, Nat.reduceAdd, Nat.reduceSub, Nat.reduceMul, Nat.reduceMod, Nat.reduceDiv, Nat.reduceLT, Nat.reduceLeDiff, Nat.reduceEqDiff, ne_eq, not_true_eq_false, not_false_eq_true, reduceIte, true_and, and_true, kg_lk93, kg_ls93, qa2]
      refine kc80 hL hC (by omega) ?_
      rw [kj_n0 hb]
      simp (disch := omega) only [↓kb_0t, ↓kb_0f, ↓kb_1t, ↓kb_1f, ↓kb_2t, ↓kb_2f, ↓kb_3t, ↓kb_3f, ↓kb_4t, ↓kb_4f, ↓kb_5t, ↓kb_5f, ↓kg_S1, kg_S2, kg_br_T, kg_br_F, kg_br_N, kg_br_t, kg_br_f, ↓kg_at_n, nI_add, pk_mul, kg_sub_n, kg_rem_n, kg_eq_n, kg_lt_n, kg_le_n, kg_nz, kg_01_0, kg_01_1, kg_w0_1, kg_ret0, kg_ret1, kg_ret2, kg_wr_n, kg_wr_s, kg_Skd, kg_Smc, kg_Sob, kg_Srf, kg_Sld, kg_pad, List.map_cons, List.map_nil, List.length_cons, List.length_nil, List.replicate, List.cons_append, List.nil_append, List.append_nil, Nat.reduceAdd, Nat.reduceSub, Nat.reduceMul, Nat.reduceMod, Nat.reduceDiv, Nat.reduceLT, Nat.reduceLeDiff, Nat.reduceEqDiff, ne_eq, not_true_eq_false, not_false_eq_true, reduceIte, true_and, and_true, kg_lk93, kg_ls93, qb2]
      refine kg_v93 hL (by omega) 60 ?_
      simp (disch := omega) only [↓kb_0t, ↓kb_0f, ↓kb_1t, ↓kb_1f, ↓kb_2t, ↓kb_2f, ↓kb_3t, ↓kb_3f, ↓kb_4t, ↓kb_4f, ↓kb_5t, ↓kb_5f, ↓kg_S1, kg_S2, kg_br_T, kg_br_F, kg_br_N, kg_br_t, kg_br_f, ↓kg_at_n, nI_add, pk_mul, kg_sub_n, kg_rem_n, kg_eq_n, kg_lt_n, kg_le_n, kg_nz, kg_01_0, kg_01_1, kg_w0_1, kg_ret0, kg_ret1, kg_ret2, kg_wr_n, kg_wr_s, kg_Skd, kg_Smc, kg_Sob, kg_Srf, kg_Sld, kg_pad, List.map_cons, List.map_nil, List.length_cons, List.length_nil, List.replicate, List.cons_append, List.nil_append, List.append_nil, Nat.reduceAdd, Nat.reduceSub, Nat.reduceMul, Nat.reduceMod, Nat.reduceDiv, Nat.reduceLT, Nat.reduceLeDiff, Nat.reduceEqDiff, ne_eq, not_true_eq_false, not_false_eq_true, reduceIte, true_and, and_true, kg_lk93, kg_ls93]
      refine kc67 hL hC (by omega) (by omega) ?_
      intro o A' h' M' e1 e2 e3
      have e4 := fin o A' h' M' e1 e2 e3
      have q := kj_rep hJ e1
      rw [up] at e1
      have eo : o = nI (kf_dn A.1 a b) := (congrArg Prod.fst e1).symm
      have eA : A'.1 = kf_jn A.1 a b := (congrArg (fun t => t.2.1) e1).symm
      rw [eo]
      simp (disch := omega) only [↓kb_0t, ↓kb_0f, ↓kb_1t, ↓kb_1f, ↓kb_2t, ↓kb_2f, ↓kb_3t, ↓kb_3f, ↓kb_4t, ↓kb_4f, ↓kb_5t, ↓kb_5f, ↓kg_S1, kg_S2, kg_br_T, kg_br_F, kg_br_N, kg_br_t, kg_br_f, ↓kg_at_n, nI_add, pk_mul, kg_sub_n, kg_rem_n, kg_eq_n, kg_lt_n, kg_le_n, kg_nz, kg_01_0, kg_01_1, kg_w0_1, kg_ret0, kg_ret1, kg_ret2, kg_wr_n, kg_wr_s, kg_Skd, kg_Smc, kg_Sob, kg_Srf, kg_Sld, kg_pad, List.map_cons, List.map_nil, List.length_cons, List.length_nil, List.replicate, List.cons_append, List.nil_append, List.append_nil, Nat.reduceAdd, Nat.reduceSub, Nat.reduceMul, Nat.reduceMod, Nat.reduceDiv, Nat.reduceLT, Nat.reduceLeDiff, Nat.reduceEqDiff, ne_eq, not_true_eq_false, not_false_eq_true, reduceIte, true_and, and_true, kg_lk93, kg_ls93, eq_self]
      refine kc81 hL e2 (by omega) ?_
      rw [kj_pd ha hb hab, eA, kj_dn1 ha hb hab]
      simp (disch := omega) only [↓kb_0t, ↓kb_0f, ↓kb_1t, ↓kb_1f, ↓kb_2t, ↓kb_2f, ↓kb_3t, ↓kb_3f, ↓kb_4t, ↓kb_4f, ↓kb_5t, ↓kb_5f, ↓kg_S1, kg_S2, kg_br_T, kg_br_F, kg_br_N, kg_br_t, kg_br_f, ↓kg_at_n, nI_add, pk_mul, kg_sub_n, kg_rem_n, kg_eq_n, kg_lt_n, kg_le_n, kg_nz, kg_01_0, kg_01_1, kg_w0_1, kg_ret0, kg_ret1, kg_ret2, kg_wr_n, kg_wr_s, kg_Skd, kg_Smc, kg_Sob, kg_Srf, kg_Sld, kg_pad, List.map_cons, List.map_nil, List.length_cons, List.length_nil, List.replicate, List.cons_append, List.nil_append, List.append_nil, Nat.reduceAdd, Nat.reduceSub, Nat.reduceMul, Nat.reduceMod, Nat.reduceDiv, Nat.reduceLT, Nat.reduceLeDiff, Nat.reduceEqDiff, ne_eq, not_true_eq_false, not_false_eq_true, reduceIte, true_and, and_true, kg_lk93, kg_ls93, eq_self]
      refine kc81 hL e2 (by omega) ?_
      rw [kj_p0 hb ha (fun z => hab z.symm), eA, kj_jn_p ha hb]
      simp (disch := omega) only [↓kb_0t, ↓kb_0f, ↓kb_1t, ↓kb_1f, ↓kb_2t, ↓kb_2f, ↓kb_3t, ↓kb_3f, ↓kb_4t, ↓kb_4f, ↓kb_5t, ↓kb_5f, ↓kg_S1, kg_S2, kg_br_T, kg_br_F, kg_br_N, kg_br_t, kg_br_f, ↓kg_at_n, nI_add, pk_mul, kg_sub_n, kg_rem_n, kg_eq_n, kg_lt_n, kg_le_n, kg_nz, kg_01_0, kg_01_1, kg_w0_1, kg_ret0, kg_ret1, kg_ret2, kg_wr_n, kg_wr_s, kg_Skd, kg_Smc, kg_Sob, kg_Srf, kg_Sld, kg_pad, List.map_cons, List.map_nil, List.length_cons, List.length_nil, List.replicate, List.cons_append, List.nil_append, List.append_nil, Nat.reduceAdd, Nat.reduceSub, Nat.reduceMul, Nat.reduceMod, Nat.reduceDiv, Nat.reduceLT, Nat.reduceLeDiff, Nat.reduceEqDiff, ne_eq, not_true_eq_false, not_false_eq_true, reduceIte, true_and, and_true, kg_lk93, kg_ls93, eq_self]
      refine kc86 hL e2 (by omega) ?_
      rw [kj_c0, eA, kf_jn_o ha hb (by omega)]
      simp (disch := omega) only [↓kb_0t, ↓kb_0f, ↓kb_1t, ↓kb_1f, ↓kb_2t, ↓kb_2f, ↓kb_3t, ↓kb_3f, ↓kb_4t, ↓kb_4f, ↓kb_5t, ↓kb_5f, ↓kg_S1, kg_S2, kg_br_T, kg_br_F, kg_br_N, kg_br_t, kg_br_f, ↓kg_at_n, nI_add, pk_mul, kg_sub_n, kg_rem_n, kg_eq_n, kg_lt_n, kg_le_n, kg_nz, kg_01_0, kg_01_1, kg_w0_1, kg_ret0, kg_ret1, kg_ret2, kg_wr_n, kg_wr_s, kg_Skd, kg_Smc, kg_Sob, kg_Srf, kg_Sld, kg_pad, List.map_cons, List.map_nil, List.length_cons, List.length_nil, List.replicate, List.cons_append, List.nil_append, List.append_nil, Nat.reduceAdd, Nat.reduceSub, Nat.reduceMul, Nat.reduceMod, Nat.reduceDiv, Nat.reduceLT, Nat.reduceLeDiff, Nat.reduceEqDiff, ne_eq, not_true_eq_false, not_false_eq_true, reduceIte, true_and, and_true, kg_lk93, kg_ls93, eq_self]
      have e9 : kj_su (kj_mx A.1 a b) 8 = kj_su (kj_mx A.1 a b) 8 - kj_su (kj_mx A.1 a b) 0 := by
        rw [kj_su, nI_0, Int32.sub_zero]
      rw [e9]
      have w9 := kc93_2 (d := d) (X := kj_su (kj_mx A.1 a b) 8) (df := nI (kf_dn A.1 a b)) (mo := nI (kf_dn A.1 a b)) (f := kj_mx A.1 a b) hL e2 q.1 hc ha hb (by omega) (fun k hk => by rw [eA]; exact kj_jn_s ha hb hab hk) rfl e4 8 0 x8 rfl
      refine kg_v93 hL (by omega) 60 ?_
      simp (disch := omega) only [↓kb_0t, ↓kb_0f, ↓kb_1t, ↓kb_1f, ↓kb_2t, ↓kb_2f, ↓kb_3t, ↓kb_3f, ↓kb_4t, ↓kb_4f, ↓kb_5t, ↓kb_5f, ↓kg_S1, kg_S2, kg_br_T, kg_br_F, kg_br_N, kg_br_t, kg_br_f, ↓kg_at_n, nI_add, pk_mul, kg_sub_n, kg_rem_n, kg_eq_n, kg_lt_n, kg_le_n, kg_nz, kg_01_0, kg_01_1, kg_w0_1, kg_ret0, kg_ret1, kg_ret2, kg_wr_n, kg_wr_s, kg_Skd, kg_Smc, kg_Sob, kg_Srf, kg_Sld, kg_pad, List.map_cons, List.map_nil, List.length_cons, List.length_nil, List.replicate, List.cons_append, List.nil_append, List.append_nil, Nat.reduceAdd, Nat.reduceSub, Nat.reduceMul, Nat.reduceMod, Nat.reduceDiv, Nat.reduceLT, Nat.reduceLeDiff, Nat.reduceEqDiff, ne_eq, not_true_eq_false, not_false_eq_true, reduceIte, true_and, and_true, kg_lk93, kg_ls93]
      exact w9
end
