/-! the model's pass -/
theorem kb_0t {a b : Nat} {A B : Prop} (h : a = b) (ha : a < 2147483648) (hb : b < 2147483648) : kg_br (kg_cmp 0 (nI a) (nI b)) A B = A := by
  refine kg_br_t ?_
  have e : kg_cmp 0 (nI a) (nI b) = (a = b) := (kg_eq_n ha hb)
  rw [e]; omega
theorem kb_0f {a b : Nat} {A B : Prop} (h : a ≠ b) (ha : a < 2147483648) (hb : b < 2147483648) : kg_br (kg_cmp 0 (nI a) (nI b)) A B = B := by
  refine kg_br_f ?_
  have e : kg_cmp 0 (nI a) (nI b) = (a = b) := (kg_eq_n ha hb)
  rw [e]; omega
theorem kb_1t {a b : Nat} {A B : Prop} (h : a ≠ b) (ha : a < 2147483648) (hb : b < 2147483648) : kg_br (kg_cmp 1 (nI a) (nI b)) A B = A := by
  refine kg_br_t ?_
  have e : kg_cmp 1 (nI a) (nI b) = (¬ a = b) := (congrArg Not (kg_eq_n ha hb))
  rw [e]; omega
theorem kb_1f {a b : Nat} {A B : Prop} (h : a = b) (ha : a < 2147483648) (hb : b < 2147483648) : kg_br (kg_cmp 1 (nI a) (nI b)) A B = B := by
  refine kg_br_f ?_
  have e : kg_cmp 1 (nI a) (nI b) = (¬ a = b) := (congrArg Not (kg_eq_n ha hb))
  rw [e]; omega
theorem kb_2t {a b : Nat} {A B : Prop} (h : a < b) (ha : a < 2147483648) (hb : b < 2147483648) : kg_br (kg_cmp 2 (nI a) (nI b)) A B = A := by
  refine kg_br_t ?_
  have e : kg_cmp 2 (nI a) (nI b) = (a < b) := (kg_lt_n ha hb)
  rw [e]; omega
theorem kb_2f {a b : Nat} {A B : Prop} (h : b ≤ a) (ha : a < 2147483648) (hb : b < 2147483648) : kg_br (kg_cmp 2 (nI a) (nI b)) A B = B := by
  refine kg_br_f ?_
  have e : kg_cmp 2 (nI a) (nI b) = (a < b) := (kg_lt_n ha hb)
  rw [e]; omega
theorem kb_3t {a b : Nat} {A B : Prop} (h : b ≤ a) (ha : a < 2147483648) (hb : b < 2147483648) : kg_br (kg_cmp 3 (nI a) (nI b)) A B = A := by
  refine kg_br_t ?_
  have e : kg_cmp 3 (nI a) (nI b) = (b ≤ a) := (kg_le_n hb ha)
  rw [e]; omega
theorem kb_3f {a b : Nat} {A B : Prop} (h : a < b) (ha : a < 2147483648) (hb : b < 2147483648) : kg_br (kg_cmp 3 (nI a) (nI b)) A B = B := by
  refine kg_br_f ?_
  have e : kg_cmp 3 (nI a) (nI b) = (b ≤ a) := (kg_le_n hb ha)
  rw [e]; omega
theorem kb_4t {a b : Nat} {A B : Prop} (h : b < a) (ha : a < 2147483648) (hb : b < 2147483648) : kg_br (kg_cmp 4 (nI a) (nI b)) A B = A := by
  refine kg_br_t ?_
  have e : kg_cmp 4 (nI a) (nI b) = (b < a) := (kg_lt_n hb ha)
  rw [e]; omega
theorem kb_4f {a b : Nat} {A B : Prop} (h : a ≤ b) (ha : a < 2147483648) (hb : b < 2147483648) : kg_br (kg_cmp 4 (nI a) (nI b)) A B = B := by
  refine kg_br_f ?_
  have e : kg_cmp 4 (nI a) (nI b) = (b < a) := (kg_lt_n hb ha)
  rw [e]; omega
theorem kb_5t {a b : Nat} {A B : Prop} (h : a ≤ b) (ha : a < 2147483648) (hb : b < 2147483648) : kg_br (kg_cmp 5 (nI a) (nI b)) A B = A := by
  refine kg_br_t ?_
  have e : kg_cmp 5 (nI a) (nI b) = (a ≤ b) := (kg_le_n ha hb)
  rw [e]; omega
theorem kb_5f {a b : Nat} {A B : Prop} (h : b < a) (ha : a < 2147483648) (hb : b < 2147483648) : kg_br (kg_cmp 5 (nI a) (nI b)) A B = B := by
  refine kg_br_f ?_
  have e : kg_cmp 5 (nI a) (nI b) = (a ≤ b) := (kg_le_n ha hb)
  rw [e]; omega
section
variable {G : kg_G} {d c : Nat} {h : Nat → Nat} {A : kf_A} {M : kg_M} {K : kg_Qt} {r : Nat → Int32}

theorem kf_I_sl {a b : Nat} (ha : a < 4) (hb : b < 4) (hI : kf_I c r) : kf_I c (kf_sl2 r a b) := by
  have o : ∀ i, (i < 11 ∨ 27 ≤ i) → kf_sl2 r a b i = r i := fun i hi => kf_sl2_o ha hb hi
  obtain ⟨⟨t0, ht0, h1⟩, ⟨z, h2, h3, h4⟩, h5, h6, h7, h8, h9, h10, h11, h12⟩ := hI
  refine ⟨⟨t0, ht0, by rw [o _ (by omega)]; exact h1⟩, ⟨z, h2, by rw [o _ (by omega)]; exact h3, fun n k hn hk => ?_⟩, by rw [o _ (by omega)]; exact h5, by rw [o _ (by omega)]; exact h6, by rw [o _ (by omega)]; exact h7, by rw [o _ (by omega)]; exact h8, by rw [o _ (by omega)]; exact h9, fun n hn => by rw [o _ (by omega)]; exact h10 n hn, fun n k hn hk => ?_, fun i j hi hj => ?_⟩
  · rw [kf_s_sl ha hb]; exact h4 n k hn hk
  · unfold kf_t kf_c
    rw [o _ (by omega), o _ (by omega)]
    exact h11 n k hn hk
  · by_cases e : (i = a ∧ j = b) ∨ (i = b ∧ j = a)
    · have e1 : kf_sl2 r a b (11 + 4 * i + j) = r 0 := if_pos (by omega)
      have e2 : kf_sl2 r a b (11 + 4 * j + i) = r 0 := if_pos (by omega)
      rw [e1, e2]
      exact ⟨rfl, Or.inr ⟨t0, ht0, h1⟩⟩
    · have e1 : kf_sl2 r a b (11 + 4 * i + j) = r (11 + 4 * i + j) := if_neg (by omega)
      have e2 : kf_sl2 r a b (11 + 4 * j + i) = r (11 + 4 * j + i) := if_neg (by omega)
      rw [e1, e2]
      exact h12 i j hi hj
theorem kf_IE_jn {a b : Nat} (ha : a < 4) (hb : b < 4) (hI : kf_IE c r) : kf_IE c (kf_jn r a b) := by
  unfold kf_jn kf_j0
  have h1 := kf_IE_nt (kd := 0) (a := nI (if b < a then b else a)) (b := nI (if a < b then b else a)) (by omega) hI
  refine kf_IE_jf ha hb ⟨kf_I_sl ha hb h1.1, ?_⟩ 8 (Nat.le_refl _)
  obtain ⟨p, hp, e⟩ := h1.2
  exact ⟨p, hp, (kf_sl2_o ha hb (by omega)).trans e⟩
theorem kf_IE_tc {t : Nat} (et : r 0 = nI t) (ht : t + 1 ≤ 99999) (hI : kf_IE c r) : kf_IE c (kf_tc r) := by
  have o : ∀ i, i ≠ 0 → kf_tc r i = r i := fun i hi => if_neg hi
  obtain ⟨hI, hE⟩ := hI
  refine ⟨kf_I_h hI (fun i hi => o i (by omega)) ⟨t + 1, ht, by simp [kf_tc, upd, et, nI_add]⟩ (o 1 (by omega)) ?_ ?_ ?_ ?_ ?_ ?_, ?_⟩
  · rw [o 2 (by omega)]; exact hI.2.2.1
  · rw [o 3 (by omega)]; exact hI.2.2.2.1
  · rw [o 4 (by omega)]; exact hI.2.2.2.2.1
  · rw [o 5 (by omega)]; exact hI.2.2.2.2.2.1
  · rw [o 6 (by omega)]; exact hI.2.2.2.2.2.2.1
  · intro n hn; rw [o _ (by omega)]; exact hI.2.2.2.2.2.2.2.1 n hn
  · obtain ⟨p, hp, e⟩ := hE
    exact ⟨p, hp, (o _ (by omega)).trans e⟩
/-- a plan's nodes -/
def kf_Q (p : Nat) (r : Nat → Int32) : Prop := r 211 = nI p ∧ ∀ i, i < p → ∃ a b : Nat, a < 4 ∧ b < 4 ∧ a ≠ b ∧ r (212 + 3 * i) = nI a ∧ r (213 + 3 * i) = nI b
theorem kf_Q_o {p : Nat} {r' : Nat → Int32} (hp : p ≤ 10) (h : ∀ i, 211 ≤ i → i < 242 → r' i = r i) (hQ : kf_Q p r) : kf_Q p r' := by
  refine ⟨(h _ (by omega) (by omega)).trans hQ.1, fun i hi => ?_⟩
  obtain ⟨a, b, h1, h2, h3, h4, h5⟩ := hQ.2 i hi
  exact ⟨a, b, h1, h2, h3, (h _ (by omega) (by omega)).trans h4, (h _ (by omega) (by omega)).trans h5⟩
theorem kf_Q_ab {p : Nat} (hQ : kf_Q p r) : ∀ i, i < p → kf_pa r i < 4 ∧ kf_pb r i < 4 := by
  intro i hi
  obtain ⟨a, b, h1, h2, h3, h4, h5⟩ := hQ.2 i hi
  have e1 : kf_pa r i = a := kf_m2_n (by omega) h4
  have e2 : kf_pb r i = b := kf_m2_n (by omega) h5
  omega
theorem kf_IE_pf {p t : Nat} (hp : p ≤ 10) (et : r 0 = nI t) (ht : t + 1 ≤ 99999) (hQ : kf_Q p r) (hI : kf_IE c r) : ∀ j, j ≤ p → kf_IE c (kf_pf r j).1
  | 0, _ => kf_IE_tc et ht hI
  | j + 1, hj => by
    have ih := kf_IE_pf hp et ht hQ hI j (by omega)
    have hab := kf_Q_ab hQ
    have o := kf_pf_o hp hab j (by omega)
    have ea : kf_pa (kf_pf r j).1 j = kf_pa r j := by unfold kf_pa; rw [o _ (by omega), kf_tc, upd, if_neg (by omega)]
    have eb : kf_pb (kf_pf r j).1 j = kf_pb r j := by unfold kf_pb; rw [o _ (by omega), kf_tc, upd, if_neg (by omega)]
    obtain ⟨h1, h2⟩ := hab j (by omega)
    rw [kf_pf, kf_ps, ea, eb]
    split
    · split
      · exact kf_IE_jn h1 h2 ih
      · exact kf_IE_nt (by omega) ih
    · exact ih
theorem kf_u_1 {n : Nat} (h : kg_01 (r (7 + n))) : (kf_u r n = true ∧ r (7 + n) = nI 1) ∨ (kf_u r n = false ∧ r (7 + n) = nI 0) := by
  rcases h with e | e
  · right; refine ⟨?_, e⟩; unfold kf_u; rw [e]; rfl
  · left; refine ⟨?_, e⟩; unfold kf_u; rw [e]; rfl
set_option maxHeartbeats 8000000 in
set_option maxRecDepth 100000 in
theorem kc119_i (hL : G.2.2.2.2.2.1 < 2 ^ 31) {p t v m k : Nat} (hc : c < 1048576) (hp : p ≤ 10) (hv : v < 1000000) (et : r 0 = nI t) (ht : t + 1 ≤ 99999) (hQ : kf_Q p r) (hI : kf_IE c r) (hk : k < 1000) (hd : 8 ≤ d) (hK : ∀ x4 x5 x6 x7 x8 x9 : Option Value, kg_P G d 119 10 129 129 K 37 [some (.ref 124), some (.int (nI m)), some (.int (nI (v + (kf_pf r p).2))), some (.int (nI (k + 1))), x4, x5, x6, x7, x8, x9] [] (kg_w0 h) (kg_row M 125 (kf_pf r p).1)) : ∀ (z j : Nat) (x5 x6 x7 x8 x9 : Option Value), j + z = p → kg_P G d 119 10 129 129 K 55 [some (.ref 124), some (.int (nI m)), some (.int (nI (v + (kf_pf r j).2))), some (.int (nI k)), some (.int (nI j)), x5, x6, x7, x8, x9] [] (kg_w0 h) (kg_row M 125 (kf_pf r j).1) := by
  have hab := kf_Q_ab hQ
  intro z
  induction z with
  | zero =>
    intro j x5 x6 x7 x8 x9 hj
    obtain rfl : j = p := by omega
    have e := (kf_Q_o (r' := (kf_pf r j).1) hp (fun i h1 h2 => (kf_pf_o hp hab j (Nat.le_refl _) i (by omega)).trans (if_neg (by omega))) hQ).1
    refine kg_v119 hL (by omega) 80 ?_
    simp (disch := omega) only [↓kb_0t, ↓kb_0f, ↓kb_1t, ↓kb_1f, ↓kb_2t, ↓kb_2f, ↓kb_3t, ↓kb_3f, ↓kb_4t, ↓kb_4f, ↓kb_5t, ↓kb_5f, ↓kg_S1, kg_S2, kg_br_T, kg_br_F, kg_br_N, kg_br_t, kg_br_f, ↓kg_at_n, nI_add, pk_mul, kg_sub_n, kg_rem_n, kg_eq_n, kg_lt_n, kg_le_n, kg_nz, kg_01_0, kg_01_1, kg_w0_1, kg_ret0, kg_ret1, kg_ret2, kg_wr_n, kg_Skd, kg_Smc, kg_Sob, kg_Srf, kg_Sld, kg_pad, List.map_cons, List.map_nil, List.length_cons, List.length_nil, List.replicate, List.cons_append, List.nil_append, List.append_nil, Nat.reduceAdd, Nat.reduceSub, Nat.reduceMul, Nat.reduceMod, Nat.reduceDiv, Nat.reduceLT, Nat.reduceLeDiff, Nat.reduceEqDiff, ne_eq, not_true_eq_false, not_false_eq_true, reduceIte, true_and, and_true, kw_n, kw_s, kw_w, kw_o, kw_ws, kw_wn, ku_s, ku_n, kg_lk119, kg_ls119, e]
    exact hK _ _ _ _ _ _
  | succ z ih =>
    intro j x5 x6 x7 x8 x9 hj
    have o := kf_pf_o hp hab j (by omega)
    have hQj := kf_Q_o (r' := (kf_pf r j).1) hp (fun i h1 h2 => (o i (by omega)).trans (if_neg (by omega))) hQ
    have hIj := kf_IE_pf hp et ht hQ hI j (by omega)
    obtain ⟨a, b, ha, hb, hne, ea, eb⟩ := hQj.2 j (by omega)
    have e211 := hQj.1
    have ea' : kf_pa (kf_pf r j).1 j = a := kf_m2_n (by omega) ea
    have eb' : kf_pb (kf_pf r j).1 j = b := kf_m2_n (by omega) eb
    have hup := hIj.1.2.2.2.2.2.2.2.1
    have hs : kf_pf r (j + 1) = kf_ps (kf_pf r j) j := rfl
    rw [kf_ps, ea', eb'] at hs
    have ih' := fun x5 x6 x7 x8 x9 => ih (j + 1) x5 x6 x7 x8 x9 (by omega)
    have eb2 : (kf_pf r j).1 (212 + 3 * j + 1) = nI b := by rw [← eb]; exact congrArg _ (by omega)
    have hw : 212 + 3 * j + 2 = 214 + 3 * j := by omega
    by_cases q1 : (kf_pf r j).1 (214 + 3 * j) = (kf_pf r j).1 0
    · rw [if_pos q1] at hs
      have f1 : ∀ A B : Prop, kg_br (kg_cmp 1 ((kf_pf r j).1 (214 + 3 * j)) ((kf_pf r j).1 0)) A B = B := fun A B => kg_br_f (fun q => q q1)
      rcases kf_u_1 (hup a ha) with ⟨u1, u2⟩ | ⟨u1, u2⟩
      · rcases kf_u_1 (hup b hb) with ⟨v1, v2⟩ | ⟨v1, v2⟩
        · rw [u1, v1] at hs
          simp only [Bool.and_self, reduceIte] at hs
          rw [hs, show ((kf_jn (kf_pf r j).1 a b, (kf_pf r j).2 + 1) : (Nat → Int32) × Nat).2 = (kf_pf r j).2 + 1 from rfl, show ((kf_jn (kf_pf r j).1 a b, (kf_pf r j).2 + 1) : (Nat → Int32) × Nat).1 = kf_jn (kf_pf r j).1 a b from rfl, ← Nat.add_assoc] at ih'
          refine kg_v119 hL (by omega) 90 ?_
          simp (disch := omega) only [↓kb_0t, ↓kb_0f, ↓kb_1t, ↓kb_1f, ↓kb_2t, ↓kb_2f, ↓kb_3t, ↓kb_3f, ↓kb_4t, ↓kb_4f, ↓kb_5t, ↓kb_5f, ↓kg_S1, kg_S2, kg_br_T, kg_br_F, kg_br_N, kg_br_t, kg_br_f, ↓kg_at_n, nI_add, pk_mul, kg_sub_n, kg_rem_n, kg_eq_n, kg_lt_n, kg_le_n, kg_nz, kg_01_0, kg_01_1, kg_w0_1, kg_ret0, kg_ret1, kg_ret2, kg_wr_n, kg_Skd, kg_Smc, kg_Sob, kg_Srf, kg_Sld, kg_pad, List.map_cons, List.map_nil, List.length_cons, List.length_nil, List.replicate, List.cons_append, List.nil_append, List.append_nil, Nat.reduceAdd, Nat.reduceSub, Nat.reduceMul, Nat.reduceMod, Nat.reduceDiv, Nat.reduceLT, Nat.reduceLeDiff, Nat.reduceEqDiff, ne_eq, not_true_eq_false, not_false_eq_true, reduceIte, true_and, and_true, kw_n, kw_s, kw_w, kw_o, kw_ws, kw_wn, ku_s, ku_n, kg_lk119, kg_ls119, e211, ea, eb2, hw, ↓f1, u2, v2]
          refine kc107 hL hc ha hb hne hIj (by omega) ?_
          simp (disch := omega) only [↓kb_0t, ↓kb_0f, ↓kb_1t, ↓kb_1f, ↓kb_2t, ↓kb_2f, ↓kb_3t, ↓kb_3f, ↓kb_4t, ↓kb_4f, ↓kb_5t, ↓kb_5f, ↓kg_S1, kg_S2, kg_br_T, kg_br_F, kg_br_N, kg_br_t, kg_br_f, ↓kg_at_n, nI_add, pk_mul, kg_sub_n, kg_rem_n, kg_eq_n, kg_lt_n, kg_le_n, kg_nz, kg_01_0, kg_01_1, kg_w0_1, kg_ret0, kg_ret1, kg_ret2, kg_wr_n, kg_Skd, kg_Smc, kg_Sob, kg_Srf, kg_Sld, kg_pad, List.map_cons, List.map_nil, List.length_cons, List.length_nil, List.replicate, List.cons_append, List.nil_append, List.append_nil, Nat.reduceAdd, Nat.reduceSub, Nat.reduceMul, Nat.reduceMod, Nat.reduceDiv, Nat.reduceLT, Nat.reduceLeDiff, Nat.reduceEqDiff, ne_eq, not_true_eq_false, not_false_eq_true, reduceIte, true_and, and_true, kw_n, kw_s, kw_w, kw_o, kw_ws, kw_wn, ku_s, ku_n, kg_lk119, kg_ls119]
          exact ih' _ _ _ _ _
        · rw [u1, v1] at hs
          simp only [Bool.and_false, Bool.false_eq_true, reduceIte] at hs
          rw [hs] at ih'
          refine kg_v119 hL (by omega) 90 ?_
          rcases Nat.lt_or_ge a b with q | q
          · rw [if_neg (show ¬ b < a by omega), if_pos q] at ih'
            simp (disch := omega) only [↓kb_0t, ↓kb_0f, ↓kb_1t, ↓kb_1f, ↓kb_2t, ↓kb_2f, ↓kb_3t, ↓kb_3f, ↓kb_4t, ↓kb_4f, ↓kb_5t, ↓kb_5f, ↓kg_S1, kg_S2, kg_br_T, kg_br_F, kg_br_N, kg_br_t, kg_br_f, ↓kg_at_n, nI_add, pk_mul, kg_sub_n, kg_rem_n, kg_eq_n, kg_lt_n, kg_le_n, kg_nz, kg_01_0, kg_01_1, kg_w0_1, kg_ret0, kg_ret1, kg_ret2, kg_wr_n, kg_Skd, kg_Smc, kg_Sob, kg_Srf, kg_Sld, kg_pad, List.map_cons, List.map_nil, List.length_cons, List.length_nil, List.replicate, List.cons_append, List.nil_append, List.append_nil, Nat.reduceAdd, Nat.reduceSub, Nat.reduceMul, Nat.reduceMod, Nat.reduceDiv, Nat.reduceLT, Nat.reduceLeDiff, Nat.reduceEqDiff, ne_eq, not_true_eq_false, not_false_eq_true, reduceIte, true_and, and_true, kw_n, kw_s, kw_w, kw_o, kw_ws, kw_wn, ku_s, ku_n, kg_lk119, kg_ls119, e211, ea, eb2, hw, ↓f1, u2, v2]
            refine kc105 hL (by omega) hIj.2 (by omega) ?_
            simp (disch := omega) only [↓kb_0t, ↓kb_0f, ↓kb_1t, ↓kb_1f, ↓kb_2t, ↓kb_2f, ↓kb_3t, ↓kb_3f, ↓kb_4t, ↓kb_4f, ↓kb_5t, ↓kb_5f, ↓kg_S1, kg_S2, kg_br_T, kg_br_F, kg_br_N, kg_br_t, kg_br_f, ↓kg_at_n, nI_add, pk_mul, kg_sub_n, kg_rem_n, kg_eq_n, kg_lt_n, kg_le_n, kg_nz, kg_01_0, kg_01_1, kg_w0_1, kg_ret0, kg_ret1, kg_ret2, kg_wr_n, kg_Skd, kg_Smc, kg_Sob, kg_Srf, kg_Sld, kg_pad, List.map_cons, List.map_nil, List.length_cons, List.length_nil, List.replicate, List.cons_append, List.nil_append, List.append_nil, Nat.reduceAdd, Nat.reduceSub, Nat.reduceMul, Nat.reduceMod, Nat.reduceDiv, Nat.reduceLT, Nat.reduceLeDiff, Nat.reduceEqDiff, ne_eq, not_true_eq_false, not_false_eq_true, reduceIte, true_and, and_true, kw_n, kw_s, kw_w, kw_o, kw_ws, kw_wn, ku_s, ku_n, kg_lk119, kg_ls119]
            exact ih' _ _ _ _ _
          · rw [if_pos (show b < a by omega), if_neg (show ¬ a < b by omega)] at ih'
            simp (disch := omega) only [↓kb_0t, ↓kb_0f, ↓kb_1t, ↓kb_1f, ↓kb_2t, ↓kb_2f, ↓kb_3t, ↓kb_3f, ↓kb_4t, ↓kb_4f, ↓kb_5t, ↓kb_5f, ↓kg_S1, kg_S2, kg_br_T, kg_br_F, kg_br_N, kg_br_t, kg_br_f, ↓kg_at_n, nI_add, pk_mul, kg_sub_n, kg_rem_n, kg_eq_n, kg_lt_n, kg_le_n, kg_nz, kg_01_0, kg_01_1, kg_w0_1, kg_ret0, kg_ret1, kg_ret2, kg_wr_n, kg_Skd, kg_Smc, kg_Sob, kg_Srf, kg_Sld, kg_pad, List.map_cons, List.map_nil, List.length_cons, List.length_nil, List.replicate, List.cons_append, List.nil_append, List.append_nil, Nat.reduceAdd, Nat.reduceSub, Nat.reduceMul, Nat.reduceMod, Nat.reduceDiv, Nat.reduceLT, Nat.reduceLeDiff, Nat.reduceEqDiff, ne_eq, not_true_eq_false, not_false_eq_true, reduceIte, true_and, and_true, kw_n, kw_s, kw_w, kw_o, kw_ws, kw_wn, ku_s, ku_n, kg_lk119, kg_ls119, e211, ea, eb2, hw, ↓f1, u2, v2]
            refine kc105 hL (by omega) hIj.2 (by omega) ?_
            simp (disch := omega) only [↓kb_0t, ↓kb_0f, ↓kb_1t, ↓kb_1f, ↓kb_2t, ↓kb_2f, ↓kb_3t, ↓kb_3f, ↓kb_4t, ↓kb_4f, ↓kb_5t, ↓kb_5f, ↓kg_S1, kg_S2, kg_br_T, kg_br_F, kg_br_N, kg_br_t, kg_br_f, ↓kg_at_n, nI_add, pk_mul, kg_sub_n, kg_rem_n, kg_eq_n, kg_lt_n, kg_le_n, kg_nz, kg_01_0, kg_01_1, kg_w0_1, kg_ret0, kg_ret1, kg_ret2, kg_wr_n, kg_Skd, kg_Smc, kg_Sob, kg_Srf, kg_Sld, kg_pad, List.map_cons, List.map_nil, List.length_cons, List.length_nil, List.replicate, List.cons_append, List.nil_append, List.append_nil, Nat.reduceAdd, Nat.reduceSub, Nat.reduceMul, Nat.reduceMod, Nat.reduceDiv, Nat.reduceLT, Nat.reduceLeDiff, Nat.reduceEqDiff, ne_eq, not_true_eq_false, not_false_eq_true, reduceIte, true_and, and_true, kw_n, kw_s, kw_w, kw_o, kw_ws, kw_wn, ku_s, ku_n, kg_lk119, kg_ls119]
            exact ih' _ _ _ _ _
      · rw [u1] at hs
        simp only [Bool.false_and, Bool.false_eq_true, reduceIte] at hs
        rw [hs] at ih'
        refine kg_v119 hL (by omega) 90 ?_
        rcases Nat.lt_or_ge a b with q | q
        · rw [if_neg (show ¬ b < a by omega), if_pos q] at ih'
          simp (disch := omega) only [↓kb_0t, ↓kb_0f, ↓kb_1t, ↓kb_1f, ↓kb_2t, ↓kb_2f, ↓kb_3t, ↓kb_3f, ↓kb_4t, ↓kb_4f, ↓kb_5t, ↓kb_5f, ↓kg_S1, kg_S2, kg_br_T, kg_br_F, kg_br_N, kg_br_t, kg_br_f, ↓kg_at_n, nI_add, pk_mul, kg_sub_n, kg_rem_n, kg_eq_n, kg_lt_n, kg_le_n, kg_nz, kg_01_0, kg_01_1, kg_w0_1, kg_ret0, kg_ret1, kg_ret2, kg_wr_n, kg_Skd, kg_Smc, kg_Sob, kg_Srf, kg_Sld, kg_pad, List.map_cons, List.map_nil, List.length_cons, List.length_nil, List.replicate, List.cons_append, List.nil_append, List.append_nil, Nat.reduceAdd, Nat.reduceSub, Nat.reduceMul, Nat.reduceMod, Nat.reduceDiv, Nat.reduceLT, Nat.reduceLeDiff, Nat.reduceEqDiff, ne_eq, not_true_eq_false, not_false_eq_true, reduceIte, true_and, and_true, kw_n, kw_s, kw_w, kw_o, kw_ws, kw_wn, ku_s, ku_n, kg_lk119, kg_ls119, e211, ea, eb2, hw, ↓f1, u2]
          refine kc105 hL (by omega) hIj.2 (by omega) ?_
          simp (disch := omega) only [↓kb_0t, ↓kb_0f, ↓kb_1t, ↓kb_1f, ↓kb_2t, ↓kb_2f, ↓kb_3t, ↓kb_3f, ↓kb_4t, ↓kb_4f, ↓kb_5t, ↓kb_5f, ↓kg_S1, kg_S2, kg_br_T, kg_br_F, kg_br_N, kg_br_t, kg_br_f, ↓kg_at_n, nI_add, pk_mul, kg_sub_n, kg_rem_n, kg_eq_n, kg_lt_n, kg_le_n, kg_nz, kg_01_0, kg_01_1, kg_w0_1, kg_ret0, kg_ret1, kg_ret2, kg_wr_n, kg_Skd, kg_Smc, kg_Sob, kg_Srf, kg_Sld, kg_pad, List.map_cons, List.map_nil, List.length_cons, List.length_nil, List.replicate, List.cons_append, List.nil_append, List.append_nil, Nat.reduceAdd, Nat.reduceSub, Nat.reduceMul, Nat.reduceMod, Nat.reduceDiv, Nat.reduceLT, Nat.reduceLeDiff, Nat.reduceEqDiff, ne_eq, not_true_eq_false, not_false_eq_true, reduceIte, true_and, and_true, kw_n, kw_s, kw_w, kw_o, kw_ws, kw_wn, ku_s, ku_n, kg_lk119, kg_ls119]
          exact ih' _ _ _ _ _
        · rw [if_pos (show b < a by omega), if_neg (show ¬ a < b by omega)] at ih'
          simp (disch := omega) only [↓kb_0t, ↓kb_0f, ↓kb_1t, ↓kb_1f, ↓kb_2t, ↓kb_2f, ↓kb_3t, ↓kb_3f, ↓kb_4t, ↓kb_4f, ↓kb_5t, ↓kb_5f, ↓kg_S1, kg_S2, kg_br_T, kg_br_F, kg_br_N, kg_br_t, kg_br_f, ↓kg_at_n, nI_add, pk_mul, kg_sub_n, kg_rem_n, kg_eq_n, kg_lt_n, kg_le_n, kg_nz, kg_01_0, kg_01_1, kg_w0_1, kg_ret0, kg_ret1, kg_ret2, kg_wr_n, kg_Skd, kg_Smc, kg_Sob, kg_Srf, kg_Sld, kg_pad, List.map_cons, List.map_nil, List.length_cons, List.length_nil, List.replicate, List.cons_append, List.nil_append, List.append_nil, Nat.reduceAdd, Nat.reduceSub, Nat.reduceMul, Nat.reduceMod, Nat.reduceDiv, Nat.reduceLT, Nat.reduceLeDiff, Nat.reduceEqDiff, ne_eq, not_true_eq_false, not_false_eq_true, reduceIte, true_and, and_true, kw_n, kw_s, kw_w, kw_o, kw_ws, kw_wn, ku_s, ku_n, kg_lk119, kg_ls119, e211, ea, eb2, hw, ↓f1, u2]
          refine kc105 hL (by omega) hIj.2 (by omega) ?_
          simp (disch := omega) only [↓kb_0t, ↓kb_0f, ↓kb_1t, ↓kb_1f, ↓kb_2t, ↓kb_2f, ↓kb_3t, ↓kb_3f, ↓kb_4t, ↓kb_4f, ↓kb_5t, ↓kb_5f, ↓kg_S1, kg_S2, kg_br_T, kg_br_F, kg_br_N, kg_br_t, kg_br_f, ↓kg_at_n, nI_add, pk_mul, kg_sub_n, kg_rem_n, kg_eq_n, kg_lt_n, kg_le_n, kg_nz, kg_01_0, kg_01_1, kg_w0_1, kg_ret0, kg_ret1, kg_ret2, kg_wr_n, kg_Skd, kg_Smc, kg_Sob, kg_Srf, kg_Sld, kg_pad, List.map_cons, List.map_nil, List.length_cons, List.length_nil, List.replicate, List.cons_append, List.nil_append, List.append_nil, Nat.reduceAdd, Nat.reduceSub, Nat.reduceMul, Nat.reduceMod, Nat.reduceDiv, Nat.reduceLT, Nat.reduceLeDiff, Nat.reduceEqDiff, ne_eq, not_true_eq_false, not_false_eq_true, reduceIte, true_and, and_true, kw_n, kw_s, kw_w, kw_o, kw_ws, kw_wn, ku_s, ku_n, kg_lk119, kg_ls119]
          exact ih' _ _ _ _ _
    · rw [if_neg q1] at hs
      rw [hs] at ih'
      have f1 : ∀ A B : Prop, kg_br (kg_cmp 1 ((kf_pf r j).1 (214 + 3 * j)) ((kf_pf r j).1 0)) A B = A := fun A B => kg_br_t q1
      refine kg_v119 hL (by omega) 90 ?_
      rcases hup a ha with u2 | u2
      · simp (disch := omega) only [↓kb_0t, ↓kb_0f, ↓kb_1t, ↓kb_1f, ↓kb_2t, ↓kb_2f, ↓kb_3t, ↓kb_3f, ↓kb_4t, ↓kb_4f, ↓kb_5t, ↓kb_5f, ↓kg_S1, kg_S2, kg_br_T, kg_br_F, kg_br_N, kg_br_t, kg_br_f, ↓kg_at_n, nI_add, pk_mul, kg_sub_n, kg_rem_n, kg_eq_n, kg_lt_n, kg_le_n, kg_nz, kg_01_0, kg_01_1, kg_w0_1, kg_ret0, kg_ret1, kg_ret2, kg_wr_n, kg_Skd, kg_Smc, kg_Sob, kg_Srf, kg_Sld, kg_pad, List.map_cons, List.map_nil, List.length_cons, List.length_nil, List.replicate, List.cons_append, List.nil_append, List.append_nil, Nat.reduceAdd, Nat.reduceSub, Nat.reduceMul, Nat.reduceMod, Nat.reduceDiv, Nat.reduceLT, Nat.reduceLeDiff, Nat.reduceEqDiff, ne_eq, not_true_eq_false, not_false_eq_true, reduceIte, true_and, and_true, kw_n, kw_s, kw_w, kw_o, kw_ws, kw_wn, ku_s, ku_n, kg_lk119, kg_ls119, e211, ea, eb2, hw, ↓f1, u2]
        exact ih' _ _ _ _ _
      · rcases hup b hb with v2 | v2
        · simp (disch := omega) only [↓kb_0t, ↓kb_0f, ↓kb_1t, ↓kb_1f, ↓kb_2t, ↓kb_2f, ↓kb_3t, ↓kb_3f, ↓kb_4t, ↓kb_4f, ↓kb_5t, ↓kb_5f, ↓kg_S1, kg_S2, kg_br_T, kg_br_F, kg_br_N, kg_br_t, kg_br_f, ↓kg_at_n, nI_add, pk_mul, kg_sub_n, kg_rem_n, kg_eq_n, kg_lt_n, kg_le_n, kg_nz, kg_01_0, kg_01_1, kg_w0_1, kg_ret0, kg_ret1, kg_ret2, kg_wr_n, kg_Skd, kg_Smc, kg_Sob, kg_Srf, kg_Sld, kg_pad, List.map_cons, List.map_nil, List.length_cons, List.length_nil, List.replicate, List.cons_append, List.nil_append, List.append_nil, Nat.reduceAdd, Nat.reduceSub, Nat.reduceMul, Nat.reduceMod, Nat.reduceDiv, Nat.reduceLT, Nat.reduceLeDiff, Nat.reduceEqDiff, ne_eq, not_true_eq_false, not_false_eq_true, reduceIte, true_and, and_true, kw_n, kw_s, kw_w, kw_o, kw_ws, kw_wn, ku_s, ku_n, kg_lk119, kg_ls119, e211, ea, eb2, hw, ↓f1, u2, v2]
          exact ih' _ _ _ _ _
        · simp (disch := omega) only [↓kb_0t, ↓kb_0f, ↓kb_1t, ↓kb_1f, ↓kb_2t, ↓kb_2f, ↓kb_3t, ↓kb_3f, ↓kb_4t, ↓kb_4f, ↓kb_5t, ↓kb_5f, ↓kg_S1, kg_S2, kg_br_T, kg_br_F, kg_br_N, kg_br_t, kg_br_f, ↓kg_at_n, nI_add, pk_mul, kg_sub_n, kg_rem_n, kg_eq_n, kg_lt_n, kg_le_n, kg_nz, kg_01_0, kg_01_1, kg_w0_1, kg_ret0, kg_ret1, kg_ret2, kg_wr_n, kg_Skd, kg_Smc, kg_Sob, kg_Srf, kg_Sld, kg_pad, List.map_cons, List.map_nil, List.length_cons, List.length_nil, List.replicate, List.cons_append, List.nil_append, List.append_nil, Nat.reduceAdd, Nat.reduceSub, Nat.reduceMul, Nat.reduceMod, Nat.reduceDiv, Nat.reduceLT, Nat.reduceLeDiff, Nat.reduceEqDiff, ne_eq, not_true_eq_false, not_false_eq_true, reduceIte, true_and, and_true, kw_n, kw_s, kw_w, kw_o, kw_ws, kw_wn, ku_s, ku_n, kg_lk119, kg_ls119, e211, ea, eb2, hw, ↓f1, u2, v2]
          exact ih' _ _ _ _ _
theorem kf_pf_2 : ∀ p, (kf_pf r p).2 ≤ p
  | 0 => Nat.le_refl _
  | p + 1 => by
    have := kf_pf_2 p
    rw [kf_pf, kf_ps]
    split
    · split
      · show _ + 1 ≤ _; omega
      · show (kf_pf r p).2 ≤ _; omega
    · omega
set_option maxRecDepth 100000 in
theorem kc119_l (hL : G.2.2.2.2.2.1 < 2 ^ 31) {p m t0 : Nat} (hc : c < 1048576) (hp : p ≤ 10) (ht : t0 + m ≤ 99999) (hm : m < 100) (hd : 8 ≤ d) (hK : K (some (.int (nI (kf_pn p r m).2))) (kg_w0 h) (kg_row M 125 (kf_pn p r m).1)) : ∀ (z k : Nat) (x4 x5 x6 x7 x8 x9 : Option Value), k + z = m → kf_IE c (kf_pn p r k).1 → (kf_pn p r k).1 0 = nI (t0 + k) → kf_Q p (kf_pn p r k).1 → (kf_pn p r k).2 ≤ 10 * k → kg_P G d 119 10 129 129 K 37 [some (.ref 124), some (.int (nI m)), some (.int (nI (kf_pn p r k).2)), some (.int (nI k)), x4, x5, x6, x7, x8, x9] [] (kg_w0 h) (kg_row M 125 (kf_pn p r k).1) := by
  intro z
  induction z with
  | zero =>
    intro k x4 x5 x6 x7 x8 x9 hk hI h0 hQ h2
    obtain rfl : k = m := by omega
    refine kg_v119 hL (by omega) 80 ?_
    simp (disch := omega) only [↓kb_0t, ↓kb_0f, ↓kb_1t, ↓kb_1f, ↓kb_2t, ↓kb_2f, ↓kb_3t, ↓kb_3f, ↓kb_4t, ↓kb_4f, ↓kb_5t, ↓kb_5f, ↓kg_S1, kg_S2, kg_br_T, kg_br_F, kg_br_N, kg_br_t, kg_br_f, ↓kg_at_n, nI_add, pk_mul, kg_sub_n, kg_rem_n, kg_eq_n, kg_lt_n, kg_le_n, kg_nz, kg_01_0, kg_01_1, kg_w0_1, kg_ret0, kg_ret1, kg_ret2, kg_wr_n, kg_Skd, kg_Smc, kg_Sob, kg_Srf, kg_Sld, kg_pad, List.map_cons, List.map_nil, List.length_cons, List.length_nil, List.replicate, List.cons_append, List.nil_append, List.append_nil, Nat.reduceAdd, Nat.reduceSub, Nat.reduceMul, Nat.reduceMod, Nat.reduceDiv, Nat.reduceLT, Nat.reduceLeDiff, Nat.reduceEqDiff, ne_eq, not_true_eq_false, not_false_eq_true, reduceIte, true_and, and_true, kw_n, kw_s, kw_w, kw_o, kw_ws, kw_wn, ku_s, ku_n, kg_lk119, kg_ls119]
    exact hK
  | succ z ih =>
    intro k x4 x5 x6 x7 x8 x9 hk hI h0 hQ h2
    have hab := kf_Q_ab hQ
    have o := kf_pf_o hp hab p (Nat.le_refl _)
    have hl := kf_pf_2 (r := (kf_pn p r k).1) p
    have et1 : upd (kf_pn p r k).1 0 (nI (t0 + k + 1)) = kf_tc (kf_pn p r k).1 := by
      unfold kf_tc; rw [h0, nI_add]
    have hnext := fun x4 x5 x6 x7 x8 x9 => ih (k + 1) x4 x5 x6 x7 x8 x9 (by omega) (kf_IE_pf hp h0 (by omega) hQ hI p (Nat.le_refl _)) (by
      show (kf_pf (kf_pn p r k).1 p).1 0 = _
      rw [o 0 (by omega), ← et1]
      exact ku_s _ _ _) (kf_Q_o hp (fun i h1 h2 => (o i (by omega)).trans (if_neg (by omega))) hQ) (by
      show (kf_pn p r k).2 + (kf_pf (kf_pn p r k).1 p).2 ≤ _
      omega)
    have := kc119_i (r := (kf_pn p r k).1) (M := M) (K := K) (h := h) (v := (kf_pn p r k).2) (m := m) (k := k) hL hc hp (by omega) h0 (by omega) hQ hI (by omega) hd hnext p 0
    refine kg_v119 hL (by omega) 80 ?_
    simp (disch := omega) only [↓kb_0t, ↓kb_0f, ↓kb_1t, ↓kb_1f, ↓kb_2t, ↓kb_2f, ↓kb_3t, ↓kb_3f, ↓kb_4t, ↓kb_4f, ↓kb_5t, ↓kb_5f, ↓kg_S1, kg_S2, kg_br_T, kg_br_F, kg_br_N, kg_br_t, kg_br_f, ↓kg_at_n, nI_add, pk_mul, kg_sub_n, kg_rem_n, kg_eq_n, kg_lt_n, kg_le_n, kg_nz, kg_01_0, kg_01_1, kg_w0_1, kg_ret0, kg_ret1, kg_ret2, kg_wr_n, kg_Skd, kg_Smc, kg_Sob, kg_Srf, kg_Sld, kg_pad, List.map_cons, List.map_nil, List.length_cons, List.length_nil, List.replicate, List.cons_append, List.nil_append, List.append_nil, Nat.reduceAdd, Nat.reduceSub, Nat.reduceMul, Nat.reduceMod, Nat.reduceDiv, Nat.reduceLT, Nat.reduceLeDiff, Nat.reduceEqDiff, ne_eq, not_true_eq_false, not_false_eq_true, reduceIte, true_and, and_true, kw_n, kw_s, kw_w, kw_o, kw_ws, kw_wn, ku_s, ku_n, kg_lk119, kg_ls119, h0]
    rw [et1]
    exact this _ _ _ _ _ (Nat.zero_add _)

set_option maxRecDepth 100000 in
theorem kc119 (hL : G.2.2.2.2.2.1 < 2 ^ 31) {t : Int32} (hc : c < 1048576) (hJ : kf_J c A.1) (hD : kf_D M A) (hr : M 125 = A.1) (hd : 9 ≤ d) (hK : ∀ (o : Int32) (A' : kf_A) (M' : kg_M), kf_pas A t = (o, A') → kf_D M' A' → (∀ p, p < 124 → M' p = M p) → K (some (.int o)) (kg_w0 h) M') : kg_call G d 129 119 [.ref 124, .int t] (kg_w0 h) M K := by
  obtain ⟨d, rfl⟩ : ∃ e, d = e + 1 := ⟨d - 1, by omega⟩
  refine kg_m119 (by simp) (Nat.le_refl _) (kg_v119 hL (by omega) 60 ?_)
  have b0 : kf_b false = nI 0 := rfl
  have b1 : kf_b true = nI 1 := rfl
  simp (disch := omega) only [↓kb_0t, ↓kb_0f, ↓kb_1t, ↓kb_1f, ↓kb_2t, ↓kb_2f, ↓kb_3t, ↓kb_3f, ↓kb_4t, ↓kb_4f, ↓kb_5t, ↓kb_5f, ↓kg_S1, kg_S2, kg_br_T, kg_br_F, kg_br_N, kg_br_t, kg_br_f, ↓kg_at_n, nI_add, pk_mul, kg_sub_n, kg_rem_n, kg_eq_n, kg_lt_n, kg_le_n, kg_nz, kg_01_0, kg_01_1, kg_w0_1, kg_ret0, kg_ret1, kg_ret2, kg_wr_n, kg_wr_s, kg_Skd, kg_Smc, kg_Sob, kg_Srf, kg_Sld, kg_pad, List.map_cons, List.map_nil, List.length_cons, List.length_nil, List.replicate, List.cons_append, List.nil_append, List.append_nil, Nat.reduceAdd, Nat.reduceSub, Nat.reduceMul, Nat.reduceMod, Nat.reduceDiv, Nat.reduceLT, Nat.reduceLeDiff, Nat.reduceEqDiff, ne_eq, not_true_eq_false, not_false_eq_true, reduceIte, true_and, and_true, kg_lk119, kg_ls119]
  refine kc90 hL (by omega) ?_
  cases ei : kf_ix 100 t with
  | none =>
    have hn := kf_ix_n (by omega) ei
    have eb : (decide (nI 1 ≤ t) && decide (t ≤ nI 99)) = false := by
      rw [← Bool.decide_and]
      refine decide_eq_false (fun qq => ?_)
      obtain ⟨a, h1, h2, h3⟩ := kf_rg (lo := 1) (hi := 99) (by omega) (by omega) qq.1 qq.2
      exact hn a (by omega) h3
    rw [eb, b0]
    simp (disch := omega) only [↓kb_0t, ↓kb_0f, ↓kb_1t, ↓kb_1f, ↓kb_2t, ↓kb_2f, ↓kb_3t, ↓kb_3f, ↓kb_4t, ↓kb_4f, ↓kb_5t, ↓kb_5f, ↓kg_S1, kg_S2, kg_br_T, kg_br_F, kg_br_N, kg_br_t, kg_br_f, ↓kg_at_n, nI_add, pk_mul, kg_sub_n, kg_rem_n, kg_eq_n, kg_lt_n, kg_le_n, kg_nz, kg_01_0, kg_01_1, kg_w0_1, kg_ret0, kg_ret1, kg_ret2, kg_wr_n, kg_wr_s, kg_Skd, kg_Smc, kg_Sob, kg_Srf, kg_Sld, kg_pad, List.map_cons, List.map_nil, List.length_cons, List.length_nil, List.replicate, List.cons_append, List.nil_append, List.append_nil, Nat.reduceAdd, Nat.reduceSub, Nat.reduceMul, Nat.reduceMod, Nat.reduceDiv, Nat.reduceLT, Nat.reduceLeDiff, Nat.reduceEqDiff, ne_eq, not_true_eq_false, not_false_eq_true, reduceIte, true_and, and_true, kg_lk119, kg_ls119]
    exact hK _ _ _ (by simp only [kf_pas, ei]) hD (fun _ _ => rfl)
  | some m =>
    obtain ⟨hm, rfl⟩ := kf_ix_s (by omega) ei
    simp only [kf_pas, ei] at hK
    by_cases q1 : m < 1
    · rw [if_pos q1] at hK
      have eb : (decide (nI 1 ≤ nI m) && decide (nI m ≤ nI 99)) = false := by
        simp (disch := omega) only [kg_le_n]
        simp; omega
      rw [eb, b0]
      simp (disch := omega) only [↓kb_0t, ↓kb_0f, ↓kb_1t, ↓kb_1f, ↓kb_2t, ↓kb_2f, ↓kb_3t, ↓kb_3f, ↓kb_4t, ↓kb_4f, ↓kb_5t, ↓kb_5f, ↓kg_S1, kg_S2, kg_br_T, kg_br_F, kg_br_N, kg_br_t, kg_br_f, ↓kg_at_n, nI_add, pk_mul, kg_sub_n, kg_rem_n, kg_eq_n, kg_lt_n, kg_le_n, kg_nz, kg_01_0, kg_01_1, kg_w0_1, kg_ret0, kg_ret1, kg_ret2, kg_wr_n, kg_wr_s, kg_Skd, kg_Smc, kg_Sob, kg_Srf, kg_Sld, kg_pad, List.map_cons, List.map_nil, List.length_cons, List.length_nil, List.replicate, List.cons_append, List.nil_append, List.append_nil, Nat.reduceAdd, Nat.reduceSub, Nat.reduceMul, Nat.reduceMod, Nat.reduceDiv, Nat.reduceLT, Nat.reduceLeDiff, Nat.reduceEqDiff, ne_eq, not_true_eq_false, not_false_eq_true, reduceIte, true_and, and_true, kg_lk119, kg_ls119]
      exact hK _ _ _ rfl hD (fun _ _ => rfl)
    rw [if_neg q1] at hK
    have eb : (decide (nI 1 ≤ nI m) && decide (nI m ≤ nI 99)) = true := by
      simp (disch := omega) only [kg_le_n]
      simp; omega
    rw [eb, b1]
    obtain ⟨t0, ht0, et⟩ := hJ.1.1.1
    have em := kf_m2_n (i := 0) (by omega) et
    rw [em] at hK
    by_cases q2 : 99999 < t0 + m
    · rw [if_pos q2] at hK
      simp (disch := omega) only [↓kb_0t, ↓kb_0f, ↓kb_1t, ↓kb_1f, ↓kb_2t, ↓kb_2f, ↓kb_3t, ↓kb_3f, ↓kb_4t, ↓kb_4f, ↓kb_5t, ↓kb_5f, ↓kg_S1, kg_S2, kg_br_T, kg_br_F, kg_br_N, kg_br_t, kg_br_f, ↓kg_at_n, nI_add, pk_mul, kg_sub_n, kg_rem_n, kg_eq_n, kg_lt_n, kg_le_n, kg_nz, kg_01_0, kg_01_1, kg_w0_1, kg_ret0, kg_ret1, kg_ret2, kg_wr_n, kg_wr_s, kg_Skd, kg_Smc, kg_Sob, kg_Srf, kg_Sld, kg_pad, List.map_cons, List.map_nil, List.length_cons, List.length_nil, List.replicate, List.cons_append, List.nil_append, List.append_nil, Nat.reduceAdd, Nat.reduceSub, Nat.reduceMul, Nat.reduceMod, Nat.reduceDiv, Nat.reduceLT, Nat.reduceLeDiff, Nat.reduceEqDiff, ne_eq, not_true_eq_false, not_false_eq_true, reduceIte, true_and, and_true, kg_lk119, kg_ls119, hr, et]
      exact hK _ _ _ rfl hD (fun _ _ => rfl)
    rw [if_neg q2] at hK
    obtain ⟨p, hp, ep, ha⟩ := hJ.2
    have emp := kf_m2_n (i := 211) (by omega) ep
    rw [emp] at hK
    simp (disch := omega) only [↓kb_0t, ↓kb_0f, ↓kb_1t, ↓kb_1f, ↓kb_2t, ↓kb_2f, ↓kb_3t, ↓kb_3f, ↓kb_4t, ↓kb_4f, ↓kb_5t, ↓kb_5f, ↓kg_S1, kg_S2, kg_br_T, kg_br_F, kg_br_N, kg_br_t, kg_br_f, ↓kg_at_n, nI_add, pk_mul, kg_sub_n, kg_rem_n, kg_eq_n, kg_lt_n, kg_le_n, kg_nz, kg_01_0, kg_01_1, kg_w0_1, kg_ret0, kg_ret1, kg_ret2, kg_wr_n, kg_wr_s, kg_Skd, kg_Smc, kg_Sob, kg_Srf, kg_Sld, kg_pad, List.map_cons, List.map_nil, List.length_cons, List.length_nil, List.replicate, List.cons_append, List.nil_append, List.append_nil, Nat.reduceAdd, Nat.reduceSub, Nat.reduceMul, Nat.reduceMod, Nat.reduceDiv, Nat.reduceLT, Nat.reduceLeDiff, Nat.reduceEqDiff, ne_eq, not_true_eq_false, not_false_eq_true, reduceIte, true_and, and_true, kg_lk119, kg_ls119, hr, et]
    refine kc91r hL hD hr (by omega) ?_
    intro M1 a1 a2 a3
    simp (disch := omega) only [↓kb_0t, ↓kb_0f, ↓kb_1t, ↓kb_1f, ↓kb_2t, ↓kb_2f, ↓kb_3t, ↓kb_3f, ↓kb_4t, ↓kb_4f, ↓kb_5t, ↓kb_5f, ↓kg_S1, kg_S2, kg_br_T, kg_br_F, kg_br_N, kg_br_t, kg_br_f, ↓kg_at_n, nI_add, pk_mul, kg_sub_n, kg_rem_n, kg_eq_n, kg_lt_n, kg_le_n, kg_nz, kg_01_0, kg_01_1, kg_w0_1, kg_ret0, kg_ret1, kg_ret2, kg_wr_n, kg_Skd, kg_Smc, kg_Sob, kg_Srf, kg_Sld, kg_pad, List.map_cons, List.map_nil, List.length_cons, List.length_nil, List.replicate, List.cons_append, List.nil_append, List.append_nil, Nat.reduceAdd, Nat.reduceSub, Nat.reduceMul, Nat.reduceMod, Nat.reduceDiv, Nat.reduceLT, Nat.reduceLeDiff, Nat.reduceEqDiff, ne_eq, not_true_eq_false, not_false_eq_true, reduceIte, true_and, and_true, kw_n, kw_s, kw_w, kw_o, kw_ws, kw_wn, ku_s, ku_n, kg_lk119, kg_ls119]
    exact kc119_l hL hc hp (by omega) (by omega) (by omega) (hK _ _ _ rfl (a2 _) (kf_DK a3)) m 0 _ _ _ _ _ _ (Nat.zero_add _) hJ.1 et ⟨ep, ha⟩ (by show 0 ≤ _; omega)
end
