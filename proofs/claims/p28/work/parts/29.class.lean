/-! the class's read -/
def kf_rdl (A : kf_A) (n : Nat) : List Nat := kf_rl A.1 n (kf_m2 A.1 3) 4
def kf_rds (A : kf_A) (n k : Nat) : Nat := (kf_rdl A n).foldl (kf_nw A.1 k) n
def kf_rdc (A : kf_A) (n k : Nat) : Bool := decide (A.1 6 = nI 1) && kf_df A.1 (kf_rds A n k) k (kf_rdl A n)
def kf_rdr (A : kf_A) (n k : Nat) : Nat → Int32 := if kf_rdc A n k = true then (kf_rdl A n).foldl (kf_m1 (kf_rds A n k) k) A.1 else A.1
def kf_rd (A : kf_A) (n k : Int32) : kf_O := match kf_ix 4 n, kf_ix 8 k with
  | some n, some k => if A.1 (7 + n) = nI 0 then (kg_n 4, A) else (if kf_w (kf_rdr A n k) (kf_rds A n k) k = nI 1 then kf_v (kf_rdr A n k) (kf_rds A n k) k else kg_n 5, if kf_rdc A n k = true then kf_sr (kf_rec A) (kf_rdr A n k) else A)
  | _, _ => (kg_n 1, A)
theorem kf_nw_mx {r : Nat → Int32} {k : Nat} : ∀ (l : List Nat) (b : Nat), kf_s r b k ≤ kf_s r (l.foldl (kf_nw r k) b) k ∧ ∀ a ∈ l, kf_s r a k ≤ kf_s r (l.foldl (kf_nw r k) b) k
  | [], b => ⟨Int32.le_refl _, fun a h => by cases h⟩
  | a :: l, b => by
    obtain ⟨h1, h2⟩ := kf_nw_mx l (kf_nw r k b a)
    have hb : kf_s r b k ≤ kf_s r (kf_nw r k b a) k := by
      unfold kf_nw
      split
      · exact Int32.le_of_lt ‹_›
      · exact Int32.le_refl _
    have ha : kf_s r a k ≤ kf_s r (kf_nw r k b a) k := by
      unfold kf_nw
      split
      · exact Int32.le_refl _
      · exact Int32.not_lt.mp ‹_›
    refine ⟨Int32.le_trans hb h1, fun x hx => ?_⟩
    rcases List.mem_cons.mp hx with e | e
    · rw [e]; exact Int32.le_trans ha h1
    · exact h2 x e
section
variable {G : kg_G} {d c : Nat} {h : Nat → Nat} {A : kf_A} {M : kg_M} {K : kg_Qt} {r : Nat → Int32}
theorem kf_df_w (hR : kf_Rel c M 1 r) {l : List Nat} {n k : Nat} (hc : c < 1048576) (hl : ∀ a ∈ l, a < 4) (hn : n < 4) (hk : k < 8) (hd : kf_df r (l.foldl (kf_nw r k) n) k l = true) : kf_w r (l.foldl (kf_nw r k) n) k ≠ nI 0 := by
  intro e
  have hs := kf_nw_lt (r := r) (k := k) hl hn
  obtain ⟨a, ha, h1⟩ := List.any_eq_true.mp hd
  have hle := (kf_nw_mx (r := r) (k := k) l n).2 a ha
  have hz : kf_s r (l.foldl (kf_nw r k) n) k = nI 0 := by
    rcases (hR.2.2.2.1.1 _ k (by omega : l.foldl (kf_nw r k) n < 5) hk).2 with ⟨-, q⟩ | ⟨x, y, q, -⟩ | ⟨x, q, -⟩
    · exact q
    · rw [e] at q; exact absurd q (by decide)
    · rw [e] at q; exact absurd q (by decide)
  obtain ⟨s, hsc, es, hst⟩ := hR.2.2.2.2.2.2.2.2.1
  obtain ⟨x, hx, ex⟩ := hst a k (by have := hl a ha; omega) hk
  rw [hz, ex, kg_le_n (by omega) (by omega)] at hle
  have : x = 0 := by omega
  rw [hz, ex, this] at h1
  simp at h1
/-- record, with more of what it leaves alone -/
theorem kcR2 (hL : G.2.2.2.2.2.1 < 2 ^ 31) (hC : kf_C c h M A) (hd : 5 ≤ d) (hK : ∀ (h' : Nat → Nat) (M' : kg_M), kf_C c h' M' (kf_rec A) → (∀ p, p ≠ 0 → (p < 22 ∨ 101 < p) → M' p = M p) → K none (kg_w0 h') M') : kg_call G d 125 59 [.ref 0] (kg_w0 h) M K := by
  obtain ⟨a1, ⟨a2, a3, a4, a5⟩, ⟨a6, a7⟩, a8, a9, b1⟩ := hC
  refine kc59 hL A.2.1 A.2.2.1 a1 a2 a3 a4 a5 hd ?_
  intro h' M' q1 q2 q3 q4 q5
  refine hK h' M' ⟨kf_Rel_g a1 (fun p e1 e2 => q1 p (by omega) (by omega)), ⟨?_, q3, q4, q5⟩, ⟨(q2 4 (by omega)).trans a6, fun e => kf_Rel_g (a7 e) (fun p e1 e2 => q1 p (by omega) (by omega))⟩, a8, (congrFun (q1 122 (by omega) (by omega)) 1).trans a9, fun i hi => ?_⟩ q1
  · change kf_n A.2.1 ≤ 4
    unfold kf_n
    split <;> omega
  · rw [q1 123 (by omega) (by omega)]; exact b1 i hi
/-- the value that stands at a place -/
theorem kc9r (hL : G.2.2.2.2.2.1 < 2 ^ 31) (hR : kf_Rel c M 1 r) {n k : Nat} (hn : n < 5) (hk : k < 8) (hd : 3 ≤ d) (hK : K (some (.int (if kf_w r n k = nI 1 then kf_v r n k else kg_n 5))) (kg_w0 h) M) : kg_call G d 125 9 [.ref 4, .int (nI (n * 8 + k))] (kg_w0 h) M K :=
  kc9 hL hd (by omega) (hR.2.2.2.1.1 n k hn hk).1 (hR.2.2.2.1.1 n k hn hk).2 hK

theorem kc66 (hL : G.2.2.2.2.2.1 < 2 ^ 31) {i k : Int32} (hC : kf_C c h M A) (hc : c < 1048576) (hd : 7 ≤ d) (hK : ∀ (o : Int32) (A' : kf_A) (h' : Nat → Nat) (M' : kg_M), kf_rd A i k = (o, A') → kf_C c h' M' A' → (∀ p, 123 < p → M' p = M p) → K (some (.int o)) (kg_w0 h') M') : kg_call G d 125 66 [.ref 0, .int i, .int k] (kg_w0 h) M K := by
  obtain ⟨d, rfl⟩ : ∃ e, d = e + 1 := ⟨d - 1, by omega⟩
  refine kg_m66 (by simp) (Nat.le_refl _) (kg_v66 hL (by omega) 60 ?_)
  simp (disch := omega) only [kg_S1, kg_S2, kg_br_T, kg_br_F, kg_br_N, kg_br_t, kg_br_f, kg_at_n, nI_add, pk_mul, kg_sub_n, kg_rem_n, kg_eq_n, kg_lt_n, kg_le_n, kg_nz, kg_01_0, kg_01_1, kg_w0_1, kg_ret0, kg_ret1, kg_ret2, kg_wr_n, kg_wr_s, kg_Skd, kg_Smc, kg_Sob, kg_Srf, kg_Sld, kg_pad, List.map_cons, List.map_nil, List.length_cons, List.length_nil, List.replicate, List.cons_append, List.nil_append, List.append_nil, Nat.reduceAdd, Nat.reduceSub, Nat.reduceMul, Nat.reduceMod, Nat.reduceDiv, Nat.reduceLT, Nat.reduceLeDiff, Nat.reduceEqDiff, ne_eq, not_true_eq_false, not_false_eq_true, reduceIte, true_and, and_true, kg_lk66, kg_ls66]
  cases ei : kf_ix 4 i with
  | none =>
    refine kc61b hL (by omega) (kf_ix_n (by omega) ei) ?_
    simp (disch := omega) only [kg_S1, kg_S2, kg_br_T, kg_br_F, kg_br_N, kg_br_t, kg_br_f, kg_at_n, nI_add, pk_mul, kg_sub_n, kg_rem_n, kg_eq_n, kg_lt_n, kg_le_n, kg_nz, kg_01_0, kg_01_1, kg_w0_1, kg_ret0, kg_ret1, kg_ret2, kg_wr_n, kg_wr_s, kg_Skd, kg_Smc, kg_Sob, kg_Srf, kg_Sld, kg_pad, List.map_cons, List.map_nil, List.length_cons, List.length_nil, List.replicate, List.cons_append, List.nil_append, List.append_nil, Nat.reduceAdd, Nat.reduceSub, Nat.reduceMul, Nat.reduceMod, Nat.reduceDiv, Nat.reduceLT, Nat.reduceLeDiff, Nat.reduceEqDiff, ne_eq, not_true_eq_false, not_false_eq_true, reduceIte, true_and, and_true, kg_lk66, kg_ls66]
    exact hK _ _ _ _ (by simp [kf_rd, ei]) (kf_C_m hC (by omega)) (fun _ _ => rfl)
  | some n =>
    obtain ⟨hn, rfl⟩ := kf_ix_s (by omega) ei
    refine kc61 hL (by omega) hn ?_
    simp (disch := omega) only [kg_S1, kg_S2, kg_br_T, kg_br_F, kg_br_N, kg_br_t, kg_br_f, kg_at_n, nI_add, pk_mul, kg_sub_n, kg_rem_n, kg_eq_n, kg_lt_n, kg_le_n, kg_nz, kg_01_0, kg_01_1, kg_w0_1, kg_ret0, kg_ret1, kg_ret2, kg_wr_n, kg_wr_s, kg_Skd, kg_Smc, kg_Sob, kg_Srf, kg_Sld, kg_pad, List.map_cons, List.map_nil, List.length_cons, List.length_nil, List.replicate, List.cons_append, List.nil_append, List.append_nil, Nat.reduceAdd, Nat.reduceSub, Nat.reduceMul, Nat.reduceMod, Nat.reduceDiv, Nat.reduceLT, Nat.reduceLeDiff, Nat.reduceEqDiff, ne_eq, not_true_eq_false, not_false_eq_true, reduceIte, true_and, and_true, kg_lk66, kg_ls66]
    cases ek : kf_ix 8 k with
    | none =>
      refine kc63b hL (by omega) (kf_ix_n (by omega) ek) ?_
      simp (disch := omega) only [kg_S1, kg_S2, kg_br_T, kg_br_F, kg_br_N, kg_br_t, kg_br_f, kg_at_n, nI_add, pk_mul, kg_sub_n, kg_rem_n, kg_eq_n, kg_lt_n, kg_le_n, kg_nz, kg_01_0, kg_01_1, kg_w0_1, kg_ret0, kg_ret1, kg_ret2, kg_wr_n, kg_wr_s, kg_Skd, kg_Smc, kg_Sob, kg_Srf, kg_Sld, kg_pad, List.map_cons, List.map_nil, List.length_cons, List.length_nil, List.replicate, List.cons_append, List.nil_append, List.append_nil, Nat.reduceAdd, Nat.reduceSub, Nat.reduceMul, Nat.reduceMod, Nat.reduceDiv, Nat.reduceLT, Nat.reduceLeDiff, Nat.reduceEqDiff, ne_eq, not_true_eq_false, not_false_eq_true, reduceIte, true_and, and_true, kg_lk66, kg_ls66]
      exact hK _ _ _ _ (by simp [kf_rd, ei, ek]) (kf_C_m hC (by omega)) (fun _ _ => rfl)
    | some k =>
      obtain ⟨hk, rfl⟩ := kf_ix_s (by omega) ek
      refine kc63 hL (by omega) hk ?_
      have e1 : M 3 n = A.1 (7 + n) := hC.1.2.2.1 n hn
      simp (disch := omega) only [kg_S1, kg_S2, kg_br_T, kg_br_F, kg_br_N, kg_br_t, kg_br_f, kg_at_n, nI_add, pk_mul, kg_sub_n, kg_rem_n, kg_eq_n, kg_lt_n, kg_le_n, kg_nz, kg_01_0, kg_01_1, kg_w0_1, kg_ret0, kg_ret1, kg_ret2, kg_wr_n, kg_wr_s, kg_Skd, kg_Smc, kg_Sob, kg_Srf, kg_Sld, kg_pad, List.map_cons, List.map_nil, List.length_cons, List.length_nil, List.replicate, List.cons_append, List.nil_append, List.append_nil, Nat.reduceAdd, Nat.reduceSub, Nat.reduceMul, Nat.reduceMod, Nat.reduceDiv, Nat.reduceLT, Nat.reduceLeDiff, Nat.reduceEqDiff, ne_eq, not_true_eq_false, not_false_eq_true, reduceIte, true_and, and_true, kg_lk66, kg_ls66, e1]
      refine kg_br_i (fun q1 => ?_) (fun q1 => ?_)
      · exact hK _ _ _ _ (by simp [kf_rd, ei, ek, q1]) (kf_C_m hC (by omega)) (fun _ _ => rfl)
      obtain ⟨m, hm1, hm4, -, hm⟩ := kf_rea hC.1
      have em := kf_m2_n (by omega) hm
      have el : kf_rdl A n = kf_rl A.1 n m 4 := by unfold kf_rdl; rw [em]
      have es : kf_rds A n k = (kf_rl A.1 n m 4).foldl (kf_nw A.1 k) n := by unfold kf_rds; rw [el]
      have hlt := kf_rl_lt A.1 n m 4
      have hll := kf_rl_len A.1 n m 4
      have hs := kf_nw_lt (r := A.1) (k := k) hlt hn
      refine kc26 hL hC.1 hn hk hm hm4 (by omega) ?_
      intro M1 b1 b2
      have C1 : kf_C c h M1 A := kf_C_st hC (Nat.le_refl _) (kf_Rel_fr hC.1 b1) (fun p hp => b1.1 p (by omega) (by omega))
      have e6 : M1 2 4 = A.1 6 := C1.1.2.1 4 (by omega)
      rw [← es] at hs
      rw [← es]
      rw [← el] at b2 hlt hll
      simp (disch := omega) only [kg_S1, kg_S2, kg_br_T, kg_br_F, kg_br_N, kg_br_t, kg_br_f, kg_at_n, nI_add, pk_mul, kg_sub_n, kg_rem_n, kg_eq_n, kg_lt_n, kg_le_n, kg_nz, kg_01_0, kg_01_1, kg_w0_1, kg_ret0, kg_ret1, kg_ret2, kg_wr_n, kg_wr_s, kg_Skd, kg_Smc, kg_Sob, kg_Srf, kg_Sld, kg_pad, List.map_cons, List.map_nil, List.length_cons, List.length_nil, List.replicate, List.cons_append, List.nil_append, List.append_nil, Nat.reduceAdd, Nat.reduceSub, Nat.reduceMul, Nat.reduceMod, Nat.reduceDiv, Nat.reduceLT, Nat.reduceLeDiff, Nat.reduceEqDiff, ne_eq, not_true_eq_false, not_false_eq_true, reduceIte, true_and, and_true, kg_lk66, kg_ls66, e6]
      refine kg_br_i (fun q2 => ?_) (fun q2 => ?_)
      rotate_left
      · have q3 : kf_rdc A n k = false := by
          unfold kf_rdc
          simp [q2]
        have er : kf_rdr A n k = A.1 := by unfold kf_rdr; rw [q3]; rfl
        refine kc64 hL (by omega) ?_
        simp (disch := omega) only [kg_S1, kg_S2, kg_br_T, kg_br_F, kg_br_N, kg_br_t, kg_br_f, kg_at_n, nI_add, pk_mul, kg_sub_n, kg_rem_n, kg_eq_n, kg_lt_n, kg_le_n, kg_nz, kg_01_0, kg_01_1, kg_w0_1, kg_ret0, kg_ret1, kg_ret2, kg_wr_n, kg_wr_s, kg_Skd, kg_Smc, kg_Sob, kg_Srf, kg_Sld, kg_pad, List.map_cons, List.map_nil, List.length_cons, List.length_nil, List.replicate, List.cons_append, List.nil_append, List.append_nil, Nat.reduceAdd, Nat.reduceSub, Nat.reduceMul, Nat.reduceMod, Nat.reduceDiv, Nat.reduceLT, Nat.reduceLeDiff, Nat.reduceEqDiff, ne_eq, not_true_eq_false, not_false_eq_true, reduceIte, true_and, and_true, kg_lk66, kg_ls66]
        refine kc9r hL C1.1 (by omega) hk (by omega) ?_
        simp (disch := omega) only [kg_S1, kg_S2, kg_br_T, kg_br_F, kg_br_N, kg_br_t, kg_br_f, kg_at_n, nI_add, pk_mul, kg_sub_n, kg_rem_n, kg_eq_n, kg_lt_n, kg_le_n, kg_nz, kg_01_0, kg_01_1, kg_w0_1, kg_ret0, kg_ret1, kg_ret2, kg_wr_n, kg_wr_s, kg_Skd, kg_Smc, kg_Sob, kg_Srf, kg_Sld, kg_pad, List.map_cons, List.map_nil, List.length_cons, List.length_nil, List.replicate, List.cons_append, List.nil_append, List.append_nil, Nat.reduceAdd, Nat.reduceSub, Nat.reduceMul, Nat.reduceMod, Nat.reduceDiv, Nat.reduceLT, Nat.reduceLeDiff, Nat.reduceEqDiff, ne_eq, not_true_eq_false, not_false_eq_true, reduceIte, true_and, and_true, kg_lk66, kg_ls66]
        exact hK _ _ _ _ (by simp [kf_rd, ei, ek, q1, q3, er]; try exact ⟨rfl, rfl⟩) C1 (fun p hp => b1.1 p (by omega) (by omega))
      have q2' : A.1 6 = nI 1 := q2
      refine kc28 hL C1.1 b2 hlt hll hs hk (by omega) ?_
      cases q4 : kf_df A.1 (kf_rds A n k) k (kf_rdl A n) with
      | false =>
        have q3 : kf_rdc A n k = false := by
          unfold kf_rdc
          simp [q4]
        have er : kf_rdr A n k = A.1 := by unfold kf_rdr; rw [q3]; rfl
        have kb : kf_b false = nI 0 := rfl
        rw [kb]
        simp (disch := omega) only [kg_S1, kg_S2, kg_br_T, kg_br_F, kg_br_N, kg_br_t, kg_br_f, kg_at_n, nI_add, pk_mul, kg_sub_n, kg_rem_n, kg_eq_n, kg_lt_n, kg_le_n, kg_nz, kg_01_0, kg_01_1, kg_w0_1, kg_ret0, kg_ret1, kg_ret2, kg_wr_n, kg_wr_s, kg_Skd, kg_Smc, kg_Sob, kg_Srf, kg_Sld, kg_pad, List.map_cons, List.map_nil, List.length_cons, List.length_nil, List.replicate, List.cons_append, List.nil_append, List.append_nil, Nat.reduceAdd, Nat.reduceSub, Nat.reduceMul, Nat.reduceMod, Nat.reduceDiv, Nat.reduceLT, Nat.reduceLeDiff, Nat.reduceEqDiff, ne_eq, not_true_eq_false, not_false_eq_true, reduceIte, true_and, and_true, kg_lk66, kg_ls66]
        refine kc64 hL (by omega) ?_
        simp (disch := omega) only [kg_S1, kg_S2, kg_br_T, kg_br_F, kg_br_N, kg_br_t, kg_br_f, kg_at_n, nI_add, pk_mul, kg_sub_n, kg_rem_n, kg_eq_n, kg_lt_n, kg_le_n, kg_nz, kg_01_0, kg_01_1, kg_w0_1, kg_ret0, kg_ret1, kg_ret2, kg_wr_n, kg_wr_s, kg_Skd, kg_Smc, kg_Sob, kg_Srf, kg_Sld, kg_pad, List.map_cons, List.map_nil, List.length_cons, List.length_nil, List.replicate, List.cons_append, List.nil_append, List.append_nil, Nat.reduceAdd, Nat.reduceSub, Nat.reduceMul, Nat.reduceMod, Nat.reduceDiv, Nat.reduceLT, Nat.reduceLeDiff, Nat.reduceEqDiff, ne_eq, not_true_eq_false, not_false_eq_true, reduceIte, true_and, and_true, kg_lk66, kg_ls66]
        refine kc9r hL C1.1 (by omega) hk (by omega) ?_
        simp (disch := omega) only [kg_S1, kg_S2, kg_br_T, kg_br_F, kg_br_N, kg_br_t, kg_br_f, kg_at_n, nI_add, pk_mul, kg_sub_n, kg_rem_n, kg_eq_n, kg_lt_n, kg_le_n, kg_nz, kg_01_0, kg_01_1, kg_w0_1, kg_ret0, kg_ret1, kg_ret2, kg_wr_n, kg_wr_s, kg_Skd, kg_Smc, kg_Sob, kg_Srf, kg_Sld, kg_pad, List.map_cons, List.map_nil, List.length_cons, List.length_nil, List.replicate, List.cons_append, List.nil_append, List.append_nil, Nat.reduceAdd, Nat.reduceSub, Nat.reduceMul, Nat.reduceMod, Nat.reduceDiv, Nat.reduceLT, Nat.reduceLeDiff, Nat.reduceEqDiff, ne_eq, not_true_eq_false, not_false_eq_true, reduceIte, true_and, and_true, kg_lk66, kg_ls66]
        exact hK _ _ _ _ (by simp [kf_rd, ei, ek, q1, q3, er]; try exact ⟨rfl, rfl⟩) C1 (fun p hp => b1.1 p (by omega) (by omega))
      | true =>
        have q3 : kf_rdc A n k = true := by
          unfold kf_rdc
          simp [q4, q2']
        have er : kf_rdr A n k = (kf_rdl A n).foldl (kf_m1 (kf_rds A n k) k) A.1 := by unfold kf_rdr; rw [if_pos q3]
        have kb : kf_b true = nI 1 := rfl
        rw [kb]
        simp (disch := omega) only [kg_S1, kg_S2, kg_br_T, kg_br_F, kg_br_N, kg_br_t, kg_br_f, kg_at_n, nI_add, pk_mul, kg_sub_n, kg_rem_n, kg_eq_n, kg_lt_n, kg_le_n, kg_nz, kg_01_0, kg_01_1, kg_w0_1, kg_ret0, kg_ret1, kg_ret2, kg_wr_n, kg_wr_s, kg_Skd, kg_Smc, kg_Sob, kg_Srf, kg_Sld, kg_pad, List.map_cons, List.map_nil, List.length_cons, List.length_nil, List.replicate, List.cons_append, List.nil_append, List.append_nil, Nat.reduceAdd, Nat.reduceSub, Nat.reduceMul, Nat.reduceMod, Nat.reduceDiv, Nat.reduceLT, Nat.reduceLeDiff, Nat.reduceEqDiff, ne_eq, not_true_eq_false, not_false_eq_true, reduceIte, true_and, and_true, kg_lk66, kg_ls66]
        refine kcR2 hL C1 (by omega) ?_
        intro h' M2 c1 c2
        have b2' : kf_RL M2 (kf_rdl A n) := by
          refine ⟨?_, fun i v hv => ?_⟩
          · rw [c2 1 (by omega) (by omega)]; exact b2.1
          · rw [c2 20 (by omega) (by omega)]; exact b2.2 i v hv
        simp (disch := omega) only [kg_S1, kg_S2, kg_br_T, kg_br_F, kg_br_N, kg_br_t, kg_br_f, kg_at_n, nI_add, pk_mul, kg_sub_n, kg_rem_n, kg_eq_n, kg_lt_n, kg_le_n, kg_nz, kg_01_0, kg_01_1, kg_w0_1, kg_ret0, kg_ret1, kg_ret2, kg_wr_n, kg_wr_s, kg_Skd, kg_Smc, kg_Sob, kg_Srf, kg_Sld, kg_pad, List.map_cons, List.map_nil, List.length_cons, List.length_nil, List.replicate, List.cons_append, List.nil_append, List.append_nil, Nat.reduceAdd, Nat.reduceSub, Nat.reduceMul, Nat.reduceMod, Nat.reduceDiv, Nat.reduceLT, Nat.reduceLeDiff, Nat.reduceEqDiff, ne_eq, not_true_eq_false, not_false_eq_true, reduceIte, true_and, and_true, kg_lk66, kg_ls66]
        have hw : kf_w A.1 (kf_rds A n k) k ≠ nI 0 := by
          unfold kf_rds at q4 ⊢
          exact kf_df_w C1.1 hc hlt hn hk q4
        refine kc29 hL c1.1 b2' hlt hll hs hk hw (by omega) ?_
        intro M3 d1 d2
        simp (disch := omega) only [kg_S1, kg_S2, kg_br_T, kg_br_F, kg_br_N, kg_br_t, kg_br_f, kg_at_n, nI_add, pk_mul, kg_sub_n, kg_rem_n, kg_eq_n, kg_lt_n, kg_le_n, kg_nz, kg_01_0, kg_01_1, kg_w0_1, kg_ret0, kg_ret1, kg_ret2, kg_wr_n, kg_wr_s, kg_Skd, kg_Smc, kg_Sob, kg_Srf, kg_Sld, kg_pad, List.map_cons, List.map_nil, List.length_cons, List.length_nil, List.replicate, List.cons_append, List.nil_append, List.append_nil, Nat.reduceAdd, Nat.reduceSub, Nat.reduceMul, Nat.reduceMod, Nat.reduceDiv, Nat.reduceLT, Nat.reduceLeDiff, Nat.reduceEqDiff, ne_eq, not_true_eq_false, not_false_eq_true, reduceIte, true_and, and_true, kg_lk66, kg_ls66]
        have d2' : kf_Rel c M3 1 (kf_rdr A n k) := by rw [er]; exact d2
        refine kc64 hL (by omega) ?_
        simp (disch := omega) only [kg_S1, kg_S2, kg_br_T, kg_br_F, kg_br_N, kg_br_t, kg_br_f, kg_at_n, nI_add, pk_mul, kg_sub_n, kg_rem_n, kg_eq_n, kg_lt_n, kg_le_n, kg_nz, kg_01_0, kg_01_1, kg_w0_1, kg_ret0, kg_ret1, kg_ret2, kg_wr_n, kg_wr_s, kg_Skd, kg_Smc, kg_Sob, kg_Srf, kg_Sld, kg_pad, List.map_cons, List.map_nil, List.length_cons, List.length_nil, List.replicate, List.cons_append, List.nil_append, List.append_nil, Nat.reduceAdd, Nat.reduceSub, Nat.reduceMul, Nat.reduceMod, Nat.reduceDiv, Nat.reduceLT, Nat.reduceLeDiff, Nat.reduceEqDiff, ne_eq, not_true_eq_false, not_false_eq_true, reduceIte, true_and, and_true, kg_lk66, kg_ls66]
        refine kc9r hL d2' (by omega) hk (by omega) ?_
        simp (disch := omega) only [kg_S1, kg_S2, kg_br_T, kg_br_F, kg_br_N, kg_br_t, kg_br_f, kg_at_n, nI_add, pk_mul, kg_sub_n, kg_rem_n, kg_eq_n, kg_lt_n, kg_le_n, kg_nz, kg_01_0, kg_01_1, kg_w0_1, kg_ret0, kg_ret1, kg_ret2, kg_wr_n, kg_wr_s, kg_Skd, kg_Smc, kg_Sob, kg_Srf, kg_Sld, kg_pad, List.map_cons, List.map_nil, List.length_cons, List.length_nil, List.replicate, List.cons_append, List.nil_append, List.append_nil, Nat.reduceAdd, Nat.reduceSub, Nat.reduceMul, Nat.reduceMod, Nat.reduceDiv, Nat.reduceLT, Nat.reduceLeDiff, Nat.reduceEqDiff, ne_eq, not_true_eq_false, not_false_eq_true, reduceIte, true_and, and_true, kg_lk66, kg_ls66]
        exact hK _ _ _ _ (by simp [kf_rd, ei, ek, q1, q3]; try exact ⟨rfl, rfl⟩) (kf_C_st c1 (Nat.le_refl _) d2' (fun p hp => d1 p (by omega))) (fun p hp => (d1 p (by omega)).trans ((c2 p (by omega) (by omega)).trans (b1.1 p (by omega) (by omega))))

end
