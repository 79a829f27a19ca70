/-! PASSING ticks; the plan; settings -/
theorem kf_I_h {c : Nat} {r r' : Nat → Int32} (h : kf_I c r) (hr : ∀ i, 11 ≤ i → r' i = r i) (h0 : ∃ t : Nat, t ≤ 99999 ∧ r' 0 = nI t) (h1 : r' 1 = r 1) (h2 : ∃ a : Nat, 1 ≤ a ∧ a ≤ 4 ∧ r' 2 = nI a) (h3 : ∃ a : Nat, 1 ≤ a ∧ a ≤ 4 ∧ r' 3 = nI a) (h4 : ∃ a : Nat, 1 ≤ a ∧ a ≤ 500 ∧ r' 4 = nI a) (h5 : kg_01 (r' 5)) (h6 : kg_01 (r' 6)) (h7 : ∀ n, n < 4 → kg_01 (r' (7 + n))) : kf_I c r' := by
  obtain ⟨-, ⟨z, a2, a3, a4⟩, -, -, -, -, -, -, a11, a12⟩ := h
  refine ⟨h0, ⟨z, a2, h1.trans a3, fun n k hn hk => ?_⟩, h2, h3, h4, h5, h6, h7, fun n k hn hk => ?_, fun i j hi hj => by rw [hr _ (by omega), hr _ (by omega)]; exact a12 i j hi hj⟩
  · have e : kf_s r' n k = kf_s r n k := by unfold kf_s; split <;> exact hr _ (by omega)
    rw [e]; exact a4 n k hn hk
  · unfold kf_t kf_c
    rw [hr _ (by omega), hr _ (by omega)]
    exact a11 n k hn hk
theorem kf_Rel_h {c : Nat} {M M' : kg_M} {r r' : Nat → Int32} (hR : kf_Rel c M 1 r) (hM : ∀ p, 3 < p → p ≤ 20 → M' p = M p) (hr : ∀ i, 11 ≤ i → r' i = r i) (h0 : M' 1 0 = r' 0) (h1 : M' 1 1 = r' 1) (h2 : ∀ i, i < 5 → M' 2 i = r' (2 + i)) (h3 : ∀ i, i < 4 → M' 3 i = r' (7 + i)) (hI : kf_I c r') : kf_Rel c M' 1 r' := by
  obtain ⟨-, -, -, a5, a6, ⟨p, b1, b2, b3, b4⟩, ⟨p2, q2, c1, c2, c3, c4, c5, c6, c7⟩, -⟩ := hR
  refine ⟨⟨h0, h1⟩, h2, h3, ?_, fun i j hij hj => ?_, ⟨p, b1, ?_, ?_, ?_⟩, ⟨p2, q2, c1, c2, ?_, ?_, ?_, ?_, ?_⟩, hI⟩
  · rw [hM _ (by omega) (by omega), hM _ (by omega) (by omega), hM _ (by omega) (by omega), hM _ (by omega) (by omega)]; exact kf_F_o a5 (fun i hi _ => hr i (by omega))
  · rw [hM _ (by omega) (by omega), hr _ (by omega)]; exact a6 i j hij hj
  · rw [hM _ (by omega) (by omega)]; exact b2
  · rw [hr _ (by omega)]; exact b3
  · intro i hi
    rw [hM _ (by omega) (by omega), hM _ (by omega) (by omega), hM _ (by omega) (by omega), hr _ (by omega), hr _ (by omega), hr _ (by omega)]
    exact b4 i hi
  · rw [hM _ (by omega) (by omega)]; exact c3
  · rw [hM _ (by omega) (by omega)]; exact c4
  · rw [hr _ (by omega)]; exact c5
  · intro i hi; rw [hM _ (by omega) (by omega), hr _ (by omega)]; exact c6 i hi
  · intro i hi
    rw [hM _ (by omega) (by omega), hM _ (by omega) (by omega), hM _ (by omega) (by omega), hM _ (by omega) (by omega), hr _ (by omega), hr _ (by omega), hr _ (by omega), hr _ (by omega)]
    exact c7 i hi
theorem kf_ln_o {r : Nat → Int32} {n s k i : Nat} (hn : n < 4) (hk : k < 8) (h : i < 27 ∨ (187 ≤ i ∧ i < 242)) : kf_ln r n s k i = r i := by
  unfold kf_ln
  split
  · rw [kf_nt_o (by omega)]; exact kf_ta_o hn hk (by omega)
  · exact kf_ta_o hn hk (by omega)
theorem kf_jf_o {r : Nat → Int32} {a b i : Nat} (ha : a < 4) (hb : b < 4) (h : i < 27 ∨ (187 ≤ i ∧ i < 242)) : ∀ k, k ≤ 8 → kf_jf a b r k i = r i
  | 0, _ => rfl
  | k + 1, hk => by
    rw [kf_jf, kf_jk]
    split
    · rw [kf_ln_o hb (by omega) h]; exact kf_jf_o ha hb h k (by omega)
    · split
      · exact kf_jf_o ha hb h k (by omega)
      · rw [kf_ln_o ha (by omega) h]; exact kf_jf_o ha hb h k (by omega)
theorem kf_jn_o {r : Nat → Int32} {a b i : Nat} (ha : a < 4) (hb : b < 4) (h : i < 11 ∨ (187 ≤ i ∧ i < 242)) : kf_jn r a b i = r i := by
  unfold kf_jn kf_j0
  rw [kf_jf_o ha hb (by omega) 8 (Nat.le_refl _), kf_sl2_o ha hb (by omega), kf_nt_o (by omega)]
def kf_tc (r : Nat → Int32) : Nat → Int32 := upd r 0 (r 0 + nI 1)
def kf_pa (r : Nat → Int32) (i : Nat) : Nat := (r (212 + 3 * i)).toNatClampNeg
def kf_pb (r : Nat → Int32) (i : Nat) : Nat := (r (213 + 3 * i)).toNatClampNeg
def kf_ps (q : (Nat → Int32) × Nat) (i : Nat) : (Nat → Int32) × Nat :=
  if q.1 (214 + 3 * i) = q.1 0 then (if (kf_u q.1 (kf_pa q.1 i) && kf_u q.1 (kf_pb q.1 i)) = true then (kf_jn q.1 (kf_pa q.1 i) (kf_pb q.1 i), q.2 + 1)
    else (kf_nt q.1 1 (nI (if kf_pb q.1 i < kf_pa q.1 i then kf_pb q.1 i else kf_pa q.1 i)) (nI (if kf_pa q.1 i < kf_pb q.1 i then kf_pb q.1 i else kf_pa q.1 i)), q.2)) else q
def kf_pf (r : Nat → Int32) : Nat → (Nat → Int32) × Nat
  | 0 => (kf_tc r, 0)
  | i + 1 => kf_ps (kf_pf r i) i
section
variable {G : kg_G} {d c : Nat} {h : Nat → Nat} {r : Nat → Int32} {M : kg_M} {K : kg_Qt}
theorem kf_Rel_tk (hR : kf_Rel c M 1 r) {t : Nat} (et : r 0 = nI t) (ht : t + 1 ≤ 99999) : kf_Rel c (kg_wr M 1 0 (r 0 + nI 1)) 1 (kf_tc r) := by
  have o : ∀ i, i ≠ 0 → kf_tc r i = r i := fun i hi => if_neg hi
  have hI := hR.2.2.2.2.2.2.2
  refine kf_Rel_h hR (fun p h1 h2 => kg_wr_n (by omega)) (fun i hi => o i (by omega)) (by simp [kg_wr, kf_tc, upd]) ?_ ?_ ?_ ?_
  · rw [o 1 (by omega)]; simp [kg_wr]; exact hR.1.2
  · intro i hi; rw [kg_wr_n (by omega), o _ (by omega)]; exact hR.2.1 i hi
  · intro i hi; rw [kg_wr_n (by omega), o _ (by omega)]; exact hR.2.2.1 i hi
  · refine kf_I_h hI (fun i hi => o i (by omega)) ⟨t + 1, ht, by simp [kf_tc, upd, et, nI_add]⟩ (o 1 (by omega)) ?_ ?_ ?_ ?_ ?_ ?_
    · rw [o 2 (by omega)]; exact hI.2.2.1
    · rw [o 3 (by omega)]; exact hI.2.2.2.1
    · rw [o 4 (by omega)]; exact hI.2.2.2.2.1
    · rw [o 5 (by omega)]; exact hI.2.2.2.2.2.1
    · rw [o 6 (by omega)]; exact hI.2.2.2.2.2.2.1
    · intro n hn; rw [o _ (by omega)]; exact hI.2.2.2.2.2.2.2.1 n hn
theorem kf_pln (hR : kf_Rel c M 1 r) : kf_PL (M 10 0) (M 11) (M 12) (M 13) r := hR.2.2.2.2.2.1
theorem kc42_l (hL : G.2.2.2.2.2.1 < 2 ^ 31) {M0 : kg_M} {r0 : Nat → Int32} {p : Nat} (hc : c < 1048576) (hp : r0 211 = nI p) (hp10 : p ≤ 10) (hd : 6 ≤ d) (hK : ∀ M' : kg_M, (∀ p, (p < 1 ∨ 20 < p) → M' p = M0 p) → kf_Rel c M' 1 (kf_pf r0 p).1 → K (some (.int (nI (kf_pf r0 p).2))) (kg_w0 h) M') : ∀ (z i : Nat) (x y : Option Value) (M : kg_M), i + z = p → (∀ p, (p < 1 ∨ 20 < p) → M p = M0 p) → kf_Rel c M 1 (kf_pf r0 i).1 → (kf_pf r0 i).1 211 = nI p → kg_P G d 42 5 125 125 K 14 [some (.ref 1), some (.int (nI (kf_pf r0 i).2)), some (.int (nI i)), x, y] [] (kg_w0 h) M := by
  intro z
  induction z with
  | zero =>
    intro i x y M hi hf hR hpp
    obtain ⟨p', hp1, hp2, hp3, hp4⟩ := kf_pln hR
    have : p' = p := (nI_eq (by omega) (by omega)).mp (hp3.symm.trans hpp)
    subst this
    obtain rfl : i = p' := by omega
    refine kg_v42 hL (by omega) 60 ?_
    simp (disch := omega) only [kg_S1, kg_S2, kg_br_T, kg_br_F, kg_br_N, kg_br_t, kg_br_f, kg_at_n, nI_add, pk_mul, kg_sub_n, kg_rem_n, kg_eq_n, kg_lt_n, kg_le_n, kg_nz, kg_01_0, kg_01_1, kg_w0_1, kg_ret0, kg_ret1, kg_ret2, kg_wr_n, kg_wr_s, kg_Skd, kg_Smc, kg_Sob, kg_Srf, kg_Sld, kg_pad, List.map_cons, List.map_nil, List.length_cons, List.length_nil, List.replicate, List.cons_append, List.nil_append, List.append_nil, Nat.reduceAdd, Nat.reduceSub, Nat.reduceMul, Nat.reduceMod, Nat.reduceDiv, Nat.reduceLT, Nat.reduceLeDiff, Nat.reduceEqDiff, ne_eq, not_true_eq_false, not_false_eq_true, reduceIte, true_and, and_true, kg_lk42, kg_ls42, hp2]
    exact hK M hf hR
  | succ z ih =>
    intro i x y M hi hf hR hpp
    obtain ⟨p', hp1, hp2, hp3, hp4⟩ := kf_pln hR
    have : p' = p := (nI_eq (by omega) (by omega)).mp (hp3.symm.trans hpp)
    subst this
    obtain ⟨e11, e12, e13, a, b, ha, hb, hab, ea, eb⟩ := hp4 i (by omega)
    have ea2 : kf_pa (kf_pf r0 i).1 i = a := by unfold kf_pa; rw [ea, nI_clamp (by omega)]
    have eb2 : kf_pb (kf_pf r0 i).1 i = b := by unfold kf_pb; rw [eb, nI_clamp (by omega)]
    rw [ea] at e11
    rw [eb] at e12
    have u1 := kf_up1 hR ha
    have u2 := kf_up1 hR hb
    refine kg_v42 hL (by omega) 60 ?_
    simp (disch := omega) only [kg_S1, kg_S2, kg_br_T, kg_br_F, kg_br_N, kg_br_t, kg_br_f, kg_at_n, nI_add, pk_mul, kg_sub_n, kg_rem_n, kg_eq_n, kg_lt_n, kg_le_n, kg_nz, kg_01_0, kg_01_1, kg_w0_1, kg_ret0, kg_ret1, kg_ret2, kg_wr_n, kg_wr_s, kg_Skd, kg_Smc, kg_Sob, kg_Srf, kg_Sld, kg_pad, List.map_cons, List.map_nil, List.length_cons, List.length_nil, List.replicate, List.cons_append, List.nil_append, List.append_nil, Nat.reduceAdd, Nat.reduceSub, Nat.reduceMul, Nat.reduceMod, Nat.reduceDiv, Nat.reduceLT, Nat.reduceLeDiff, Nat.reduceEqDiff, ne_eq, not_true_eq_false, not_false_eq_true, reduceIte, true_and, and_true, kg_lk42, kg_ls42, hp2, e11, e12, e13, hR.1.1, u1, u2]
    have es : kf_pf r0 (i + 1) = kf_ps (kf_pf r0 i) i := rfl
    refine kg_br_i (fun q => ?_) (fun q => ?_)
    · refine kg_br_i (fun q1 => ?_) (fun q1 => ?_)
      · have e9 : kf_pf r0 (i + 1) = (kf_nt (kf_pf r0 i).1 1 (nI (if b < a then b else a)) (nI (if a < b then b else a)), (kf_pf r0 i).2) := by
          rw [es, kf_ps, if_pos q, ea2, eb2, if_neg (by simp [kf_u, q1])]
        refine kc34 hL (by omega) (by omega) ha hb hR.1.1 hR.2.2.2.2.2.2.1 ?_
        intro M1 hM1 hE1
        simp (disch := omega) only [kg_S1, kg_S2, kg_br_T, kg_br_F, kg_br_N, kg_br_t, kg_br_f, kg_at_n, nI_add, pk_mul, kg_sub_n, kg_rem_n, kg_eq_n, kg_lt_n, kg_le_n, kg_nz, kg_01_0, kg_01_1, kg_w0_1, kg_ret0, kg_ret1, kg_ret2, kg_wr_n, kg_wr_s, kg_Skd, kg_Smc, kg_Sob, kg_Srf, kg_Sld, kg_pad, List.map_cons, List.map_nil, List.length_cons, List.length_nil, List.replicate, List.cons_append, List.nil_append, List.append_nil, Nat.reduceAdd, Nat.reduceSub, Nat.reduceMul, Nat.reduceMod, Nat.reduceDiv, Nat.reduceLT, Nat.reduceLeDiff, Nat.reduceEqDiff, ne_eq, not_true_eq_false, not_false_eq_true, reduceIte, true_and, and_true, kg_lk42, kg_ls42]
        have h1 := ih (i + 1) (some (.int (nI a))) (some (.int (nI b))) M1 (by omega) (fun p hp => (hM1 p (by omega)).trans (hf p hp)) (by rw [e9]; exact kf_Rel_E hR (fun p _ hp => hM1 p hp) (fun i hi => kf_nt_o hi) hE1) (by rw [e9]; show kf_nt _ 1 _ _ 211 = _; rw [kf_nt_o (by omega)]; exact hpp)
        rw [e9] at h1
        exact h1
      · refine kg_br_i (fun q2 => ?_) (fun q2 => ?_)
        · have e9 : kf_pf r0 (i + 1) = (kf_nt (kf_pf r0 i).1 1 (nI (if b < a then b else a)) (nI (if a < b then b else a)), (kf_pf r0 i).2) := by
            rw [es, kf_ps, if_pos q, ea2, eb2, if_neg (by simp [kf_u, q2])]
          refine kc34 hL (by omega) (by omega) ha hb hR.1.1 hR.2.2.2.2.2.2.1 ?_
          intro M1 hM1 hE1
          simp (disch := omega) only [kg_S1, kg_S2, kg_br_T, kg_br_F, kg_br_N, kg_br_t, kg_br_f, kg_at_n, nI_add, pk_mul, kg_sub_n, kg_rem_n, kg_eq_n, kg_lt_n, kg_le_n, kg_nz, kg_01_0, kg_01_1, kg_w0_1, kg_ret0, kg_ret1, kg_ret2, kg_wr_n, kg_wr_s, kg_Skd, kg_Smc, kg_Sob, kg_Srf, kg_Sld, kg_pad, List.map_cons, List.map_nil, List.length_cons, List.length_nil, List.replicate, List.cons_append, List.nil_append, List.append_nil, Nat.reduceAdd, Nat.reduceSub, Nat.reduceMul, Nat.reduceMod, Nat.reduceDiv, Nat.reduceLT, Nat.reduceLeDiff, Nat.reduceEqDiff, ne_eq, not_true_eq_false, not_false_eq_true, reduceIte, true_and, and_true, kg_lk42, kg_ls42]
          have h1 := ih (i + 1) (some (.int (nI a))) (some (.int (nI b))) M1 (by omega) (fun p hp => (hM1 p (by omega)).trans (hf p hp)) (by rw [e9]; exact kf_Rel_E hR (fun p _ hp => hM1 p hp) (fun i hi => kf_nt_o hi) hE1) (by rw [e9]; show kf_nt _ 1 _ _ 211 = _; rw [kf_nt_o (by omega)]; exact hpp)
          rw [e9] at h1
          exact h1
        · have e9 : kf_pf r0 (i + 1) = (kf_jn (kf_pf r0 i).1 a b, (kf_pf r0 i).2 + 1) := by
            rw [es, kf_ps, if_pos q, ea2, eb2, if_pos (by simp [kf_u, q1, q2])]
          refine kc33 hL hR hc ha hb hab (by omega) ?_
          intro M1 hM1 hR1
          simp (disch := omega) only [kg_S1, kg_S2, kg_br_T, kg_br_F, kg_br_N, kg_br_t, kg_br_f, kg_at_n, nI_add, pk_mul, kg_sub_n, kg_rem_n, kg_eq_n, kg_lt_n, kg_le_n, kg_nz, kg_01_0, kg_01_1, kg_w0_1, kg_ret0, kg_ret1, kg_ret2, kg_wr_n, kg_wr_s, kg_Skd, kg_Smc, kg_Sob, kg_Srf, kg_Sld, kg_pad, List.map_cons, List.map_nil, List.length_cons, List.length_nil, List.replicate, List.cons_append, List.nil_append, List.append_nil, Nat.reduceAdd, Nat.reduceSub, Nat.reduceMul, Nat.reduceMod, Nat.reduceDiv, Nat.reduceLT, Nat.reduceLeDiff, Nat.reduceEqDiff, ne_eq, not_true_eq_false, not_false_eq_true, reduceIte, true_and, and_true, kg_lk42, kg_ls42]
          have h1 := ih (i + 1) (some (.int (nI a))) (some (.int (nI b))) M1 (by omega) (fun p hp => (hM1 p (by omega)).trans (hf p hp)) (by rw [e9]; exact hR1) (by rw [e9]; show kf_jn _ a b 211 = _; rw [kf_jn_o ha hb (by omega)]; exact hpp)
          rw [e9] at h1
          exact h1
    · have e9 : kf_pf r0 (i + 1) = kf_pf r0 i := by rw [es, kf_ps, if_neg q]
      have h1 := ih (i + 1) x y M (by omega) hf (by rw [e9]; exact hR) (by rw [e9]; exact hpp)
      rw [e9] at h1
      exact h1
theorem kc42 (hL : G.2.2.2.2.2.1 < 2 ^ 31) (hR : kf_Rel c M 1 r) {t p : Nat} (hc : c < 1048576) (et : r 0 = nI t) (ht : t + 1 ≤ 99999) (hp : r 211 = nI p) (hp10 : p ≤ 10) (hd : 7 ≤ d) (hK : ∀ M' : kg_M, (∀ p, (p < 1 ∨ 20 < p) → M' p = M p) → kf_Rel c M' 1 (kf_pf r p).1 → K (some (.int (nI (kf_pf r p).2))) (kg_w0 h) M') : kg_call G d 125 42 [.ref 1] (kg_w0 h) M K := by
  obtain ⟨d, rfl⟩ : ∃ e, d = e + 1 := ⟨d - 1, by omega⟩
  refine kg_m42 (by simp) (Nat.le_refl _) (kg_v42 hL (by omega) 60 ?_)
  simp (disch := omega) only [kg_S1, kg_S2, kg_br_T, kg_br_F, kg_br_N, kg_br_t, kg_br_f, kg_at_n, nI_add, pk_mul, kg_sub_n, kg_rem_n, kg_eq_n, kg_lt_n, kg_le_n, kg_nz, kg_01_0, kg_01_1, kg_w0_1, kg_ret0, kg_ret1, kg_ret2, kg_wr_n, kg_wr_s, kg_Skd, kg_Smc, kg_Sob, kg_Srf, kg_Sld, kg_pad, List.map_cons, List.map_nil, List.length_cons, List.length_nil, List.replicate, List.cons_append, List.nil_append, List.append_nil, Nat.reduceAdd, Nat.reduceSub, Nat.reduceMul, Nat.reduceMod, Nat.reduceDiv, Nat.reduceLT, Nat.reduceLeDiff, Nat.reduceEqDiff, ne_eq, not_true_eq_false, not_false_eq_true, reduceIte, true_and, and_true, kg_lk42, kg_ls42]
  rw [hR.1.1]
  exact kc42_l hL (M0 := M) (r0 := r) hc hp hp10 (by omega) hK p 0 _ _ _ (Nat.zero_add _) (fun p hp => kg_wr_n (by omega)) (kf_Rel_tk hR et ht) hp

end
