/-! the model's read -/
section
variable {G : kg_G} {d c : Nat} {h : Nat → Nat} {A : kf_A} {M : kg_M} {K : kg_Qt} {r : Nat → Int32}

theorem kf_rl_0 {n m : Nat} (hn : n < 4) (hm : 1 ≤ m) (hu : kf_u r n = true) : (kf_rl r n m 4)[0]? = some n := by
  have e1 : kf_rl r n m 1 = [n] := by
    have e : (n + 0) % 4 = n := by omega
    rw [kf_rl, kf_rl, e, hu, decide_eq_true (by simp; omega)]
    rfl
  have := (kf_rl_p (r := r) (n := n) (m := m) (i := 0) (k := 1) (by rw [e1]; simp) 3).1
  rw [e1] at this
  exact this
theorem kf_df_n {n k : Nat} : ∀ (l : List Nat) (b : Nat), kf_s r b k = kf_s r n k → kf_df r n k l = false → kf_s r (l.foldl (kf_nw r k) b) k = kf_s r n k
  | [], b, hb, _ => hb
  | a :: l, b, hb, h => by
    unfold kf_df at h
    rw [List.any_cons, Bool.or_eq_false_iff] at h
    have ha : kf_s r a k = kf_s r n k := by simpa using h.1
    have e : kf_nw r k b a = b := by
      unfold kf_nw
      rw [if_neg]
      rw [hb, ha]
      exact Int32.lt_irrefl
    rw [List.foldl_cons, e]
    exact kf_df_n l b hb h.2
theorem kf_df_e {n k : Nat} {l : List Nat} (hn : n ∈ l) : kf_df r (l.foldl (kf_nw r k) n) k l = kf_df r n k l := by
  cases e : kf_df r n k l with
  | false =>
    have hs := kf_df_n (r := r) (n := n) (k := k) l n rfl e
    unfold kf_df at e ⊢
    rw [hs]
    exact e
  | true =>
    cases e2 : kf_df r (l.foldl (kf_nw r k) n) k l with
    | true => rfl
    | false =>
      exfalso
      unfold kf_df at e e2
      rw [List.any_eq_false] at e2
      obtain ⟨a, ha, h1⟩ := List.any_eq_true.mp e
      have q1 : kf_s r a k = kf_s r (l.foldl (kf_nw r k) n) k := by simpa using e2 a ha
      have q2 : kf_s r n k = kf_s r (l.foldl (kf_nw r k) n) k := by simpa using e2 n hn
      rw [q1, ← q2] at h1
      simp at h1
theorem kf_m1_f {s k : Nat} (hs : s < 4) (hk : k < 8) : ∀ (l : List Nat) (r : Nat → Int32), (∀ a ∈ l, a < 4) → ∀ i, i < 27 → l.foldl (kf_m1 s k) r i = r i := by
  intro l
  induction l with
  | nil => intro r _ i _; rfl
  | cons a l ih =>
    intro r hl i hi
    rw [List.foldl_cons, ih _ (fun b hb => hl b (List.mem_cons_of_mem _ hb)) i hi]
    unfold kf_m1
    split
    · rfl
    · exact kf_ln_o (hl a List.mem_cons_self) hk (by omega)
/-- during the mending no stamp is above the newest one's -/
theorem kf_m1_q {s k : Nat} {L : List Nat} (hL : ∀ a ∈ L, a < 4) (hs : s < 4) (hk : k < 8) : ∀ (l : List Nat) (r : Nat → Int32), (∀ a ∈ l, a < 4) → kf_E r → (∀ a ∈ L, kf_s r a k ≤ kf_s r s k) → kf_E (l.foldl (kf_m1 s k) r) ∧ (∀ a ∈ L, kf_s (l.foldl (kf_m1 s k) r) a k ≤ kf_s (l.foldl (kf_m1 s k) r) s k) := by
  intro l
  induction l with
  | nil => intro r _ h1 h2; exact ⟨h1, h2⟩
  | cons a l ih =>
    intro r hl h1 h2
    rw [List.foldl_cons]
    have ha := hl a List.mem_cons_self
    refine ih _ (fun b hb => hl b (List.mem_cons_of_mem _ hb)) ?_ ?_
    · unfold kf_m1
      split
      · exact h1
      · have e : kf_E (kf_ta r a s k) := by
          obtain ⟨p, hp, e⟩ := h1
          exact ⟨p, hp, (kf_ta_o ha hk (by omega)).trans e⟩
        unfold kf_ln
        split
        · exact kf_E_nt (by omega) e
        · exact e
    · intro b hb
      have hb4 := hL b hb
      unfold kf_m1
      split
      · exact h2 b hb
      · rename_i hne
        have has : ¬ (s = a ∧ k = k) := fun q => hne (by rw [q.1])
        rw [kf_s_ln ha hs hk (by omega) hk, kf_s_ln ha hs hk (by omega) hk, if_neg has]
        split
        · exact Int32.le_refl _
        · exact h2 b hb
set_option maxRecDepth 100000 in
theorem kc102_t (hL : G.2.2.2.2.2.1 < 2 ^ 31) {n k s x4 : Nat} {y4 x5 x6 : Option Value} (hs : s < 4) (hk : k < 8) (hd : 2 ≤ d) (hK : K (some (.int (if kf_w r s k = nI 1 then kf_v r s k else kg_n 5))) (kg_w0 h) (kg_row M 125 r)) : kg_P G d 102 7 129 129 K 245 [some (.ref 124), some (.int (nI n)), some (.int (nI k)), some (.int (nI s)), y4, x5, x6] [] (kg_w0 h) (kg_row M 125 r) := by
  have ew : kf_w r s k = r (27 + 40 * s + 5 * k) := if_pos hs
  have ev : kf_v r s k = r (27 + 40 * s + 5 * k + 1) := if_pos hs
  rw [ew, ev] at hK
  refine kg_v102 hL (by omega) 40 ?_
  simp (disch := omega) only [↓kb_0t, ↓kb_0f, ↓kb_1t, ↓kb_1f, ↓kb_2t, ↓kb_2f, ↓kb_3t, ↓kb_3f, ↓kb_4t, ↓kb_4f, ↓kb_5t, ↓kb_5f, ↓kg_S1, kg_S2, kg_br_T, kg_br_F, kg_br_N, kg_br_t, kg_br_f, ↓kg_at_n, nI_add, pk_mul, kg_sub_n, kg_rem_n, kg_eq_n, kg_lt_n, kg_le_n, kg_nz, kg_01_0, kg_01_1, kg_w0_1, kg_ret0, kg_ret1, kg_ret2, kg_wr_n, kg_Skd, kg_Smc, kg_Sob, kg_Srf, kg_Sld, kg_pad, List.map_cons, List.map_nil, List.length_cons, List.length_nil, List.replicate, List.cons_append, List.nil_append, List.append_nil, Nat.reduceAdd, Nat.reduceSub, Nat.reduceMul, Nat.reduceMod, Nat.reduceDiv, Nat.reduceLT, Nat.reduceLeDiff, Nat.reduceEqDiff, ne_eq, not_true_eq_false, not_false_eq_true, reduceIte, true_and, and_true, kw_n, kw_s, kw_w, kw_o, kw_ws, kw_wn, ku_s, ku_n, kg_lk102, kg_ls102]
  refine kc100 hL (by omega) hs hk (by omega) ?_
  simp (disch := omega) only [↓kb_0t, ↓kb_0f, ↓kb_1t, ↓kb_1f, ↓kb_2t, ↓kb_2f, ↓kb_3t, ↓kb_3f, ↓kb_4t, ↓kb_4f, ↓kb_5t, ↓kb_5f, ↓kg_S1, kg_S2, kg_br_T, kg_br_F, kg_br_N, kg_br_t, kg_br_f, ↓kg_at_n, nI_add, pk_mul, kg_sub_n, kg_rem_n, kg_eq_n, kg_lt_n, kg_le_n, kg_nz, kg_01_0, kg_01_1, kg_w0_1, kg_ret0, kg_ret1, kg_ret2, kg_wr_n, kg_Skd, kg_Smc, kg_Sob, kg_Srf, kg_Sld, kg_pad, List.map_cons, List.map_nil, List.length_cons, List.length_nil, List.replicate, List.cons_append, List.nil_append, List.append_nil, Nat.reduceAdd, Nat.reduceSub, Nat.reduceMul, Nat.reduceMod, Nat.reduceDiv, Nat.reduceLT, Nat.reduceLeDiff, Nat.reduceEqDiff, ne_eq, not_true_eq_false, not_false_eq_true, reduceIte, true_and, and_true, kw_n, kw_s, kw_w, kw_o, kw_ws, kw_wn, ku_s, ku_n, kg_lk102, kg_ls102, Nat.add_zero]
  refine kg_br_i (fun q => ?_) (fun q => ?_)
  · rw [if_pos q] at hK
    refine kc100 hL (by omega) hs hk (by omega) ?_
    simp (disch := omega) only [↓kb_0t, ↓kb_0f, ↓kb_1t, ↓kb_1f, ↓kb_2t, ↓kb_2f, ↓kb_3t, ↓kb_3f, ↓kb_4t, ↓kb_4f, ↓kb_5t, ↓kb_5f, ↓kg_S1, kg_S2, kg_br_T, kg_br_F, kg_br_N, kg_br_t, kg_br_f, ↓kg_at_n, nI_add, pk_mul, kg_sub_n, kg_rem_n, kg_eq_n, kg_lt_n, kg_le_n, kg_nz, kg_01_0, kg_01_1, kg_w0_1, kg_ret0, kg_ret1, kg_ret2, kg_wr_n, kg_Skd, kg_Smc, kg_Sob, kg_Srf, kg_Sld, kg_pad, List.map_cons, List.map_nil, List.length_cons, List.length_nil, List.replicate, List.cons_append, List.nil_append, List.append_nil, Nat.reduceAdd, Nat.reduceSub, Nat.reduceMul, Nat.reduceMod, Nat.reduceDiv, Nat.reduceLT, Nat.reduceLeDiff, Nat.reduceEqDiff, ne_eq, not_true_eq_false, not_false_eq_true, reduceIte, true_and, and_true, kw_n, kw_s, kw_w, kw_o, kw_ws, kw_wn, ku_s, ku_n, kg_lk102, kg_ls102]
    exact hK
  · rw [if_neg q] at hK
    exact hK
set_option maxRecDepth 100000 in
theorem kc102_2 (hL : G.2.2.2.2.2.1 < 2 ^ 31) {n k s m : Nat} {y4 : Option Value} {l : List Nat} (hl : l = kf_rl r n m 4) (hn : n < 4) (hk : k < 8) (hs : s < 4) (hm : m ≤ 4) (e3 : r 3 = nI m) (hu : ∀ n, n < 4 → kg_01 (r (7 + n))) (hE : kf_E r) (hq : ∀ a ∈ l, kf_s r a k ≤ kf_s r s k) (hd : 6 ≤ d) (hK : K (some (.int (if kf_w (l.foldl (kf_m1 s k) r) s k = nI 1 then kf_v (l.foldl (kf_m1 s k) r) s k else kg_n 5))) (kg_w0 h) (kg_row M 125 (l.foldl (kf_m1 s k) r))) : ∀ (z i : Nat) (x6 : Option Value), i + z = l.length → kg_P G d 102 7 129 129 K 172 [some (.ref 124), some (.int (nI n)), some (.int (nI k)), some (.int (nI s)), y4, some (.int (nI i)), x6] [] (kg_w0 h) (kg_row M 125 ((l.take i).foldl (kf_m1 s k) r)) := by
  have hlt : ∀ a ∈ l, a < 4 := by rw [hl]; exact kf_rl_lt r n m 4
  have hll : l.length ≤ 4 := by rw [hl]; exact kf_rl_len r n m 4
  intro z
  induction z with
  | zero =>
    intro i x6 hi
    have o := kf_m1_f hs hk (l.take i) r (fun a ha => hlt a (List.mem_of_mem_take ha))
    have e3' := (o 3 (by omega)).trans e3
    have erl : kf_rl ((l.take i).foldl (kf_m1 s k) r) n m 4 = l := by rw [kf_rl_o (fun i hi => o i (by omega)), hl]
    refine kg_v102 hL (by omega) 9 ?_
    simp (disch := omega) only [↓kb_0t, ↓kb_0f, ↓kb_1t, ↓kb_1f, ↓kb_2t, ↓kb_2f, ↓kb_3t, ↓kb_3f, ↓kb_4t, ↓kb_4f, ↓kb_5t, ↓kb_5f, ↓kg_S1, kg_S2, kg_br_T, kg_br_F, kg_br_N, kg_br_t, kg_br_f, ↓kg_at_n, nI_add, pk_mul, kg_sub_n, kg_rem_n, kg_eq_n, kg_lt_n, kg_le_n, kg_nz, kg_01_0, kg_01_1, kg_w0_1, kg_ret0, kg_ret1, kg_ret2, kg_wr_n, kg_Skd, kg_Smc, kg_Sob, kg_Srf, kg_Sld, kg_pad, List.map_cons, List.map_nil, List.length_cons, List.length_nil, List.replicate, List.cons_append, List.nil_append, List.append_nil, Nat.reduceAdd, Nat.reduceSub, Nat.reduceMul, Nat.reduceMod, Nat.reduceDiv, Nat.reduceLT, Nat.reduceLeDiff, Nat.reduceEqDiff, ne_eq, not_true_eq_false, not_false_eq_true, reduceIte, true_and, and_true, kw_n, kw_s, kw_w, kw_o, kw_ws, kw_wn, ku_s, ku_n, kg_lk102, kg_ls102, e3']
    refine kc99 hL hn hm (by omega) (fun n hn => by rw [o _ (by omega)]; exact hu n hn) (by omega) ?_
    rw [erl, kf_at_n (by omega)]
    simp (disch := omega) only [↓kb_0t, ↓kb_0f, ↓kb_1t, ↓kb_1f, ↓kb_2t, ↓kb_2f, ↓kb_3t, ↓kb_3f, ↓kb_4t, ↓kb_4f, ↓kb_5t, ↓kb_5f, ↓kg_S1, kg_S2, kg_br_T, kg_br_F, kg_br_N, kg_br_t, kg_br_f, ↓kg_at_n, nI_add, pk_mul, kg_sub_n, kg_rem_n, kg_eq_n, kg_lt_n, kg_le_n, kg_nz, kg_01_0, kg_01_1, kg_w0_1, kg_ret0, kg_ret1, kg_ret2, kg_wr_n, kg_Skd, kg_Smc, kg_Sob, kg_Srf, kg_Sld, kg_pad, List.map_cons, List.map_nil, List.length_cons, List.length_nil, List.replicate, List.cons_append, List.nil_append, List.append_nil, Nat.reduceAdd, Nat.reduceSub, Nat.reduceMul, Nat.reduceMod, Nat.reduceDiv, Nat.reduceLT, Nat.reduceLeDiff, Nat.reduceEqDiff, ne_eq, not_true_eq_false, not_false_eq_true, reduceIte, true_and, and_true, kw_n, kw_s, kw_w, kw_o, kw_ws, kw_wn, ku_s, ku_n, kg_lk102, kg_ls102, eq_self]
    rw [List.take_of_length_le (by omega)]
    exact kc102_t (x4 := 0) hL hs hk (by omega) hK
  | succ z ih =>
    intro i x6 hi
    obtain ⟨v, e1, et⟩ := kf_take (l := l) (i := i) (by omega)
    have hvm := List.mem_of_getElem? e1
    have hv := hlt v hvm
    have ea : kf_at l i = nI v := by unfold kf_at; rw [e1]
    have o := kf_m1_f hs hk (l.take i) r (fun a ha => hlt a (List.mem_of_mem_take ha))
    have e3' := (o 3 (by omega)).trans e3
    have erl : kf_rl ((l.take i).foldl (kf_m1 s k) r) n m 4 = l := by rw [kf_rl_o (fun i hi => o i (by omega)), hl]
    obtain ⟨hEi, hqi⟩ := kf_m1_q (L := l) hlt hs hk (l.take i) r (fun a ha => hlt a (List.mem_of_mem_take ha)) hE hq
    have en' := kf_ne (n := v) (m := 5) (by omega) (by omega) (by omega)
    have ih' := fun x => ih (i + 1) x (by omega)
    rw [et, List.foldl_append, List.foldl_cons, List.foldl_nil] at ih'
    have esv : kf_s ((l.take i).foldl (kf_m1 s k) r) v k = (l.take i).foldl (kf_m1 s k) r (27 + 40 * v + 5 * k + 2) := if_pos hv
    have ess : kf_s ((l.take i).foldl (kf_m1 s k) r) s k = (l.take i).foldl (kf_m1 s k) r (27 + 40 * s + 5 * k + 2) := if_pos hs
    have hle := hqi v hvm
    have hu' : ∀ n, n < 4 → kg_01 ((l.take i).foldl (kf_m1 s k) r (7 + n)) := fun n hn => by rw [o _ (by omega)]; exact hu n hn
    refine kg_v102 hL (by omega) 9 ?_
    simp (disch := omega) only [↓kb_0t, ↓kb_0f, ↓kb_1t, ↓kb_1f, ↓kb_2t, ↓kb_2f, ↓kb_3t, ↓kb_3f, ↓kb_4t, ↓kb_4f, ↓kb_5t, ↓kb_5f, ↓kg_S1, kg_S2, kg_br_T, kg_br_F, kg_br_N, kg_br_t, kg_br_f, ↓kg_at_n, nI_add, pk_mul, kg_sub_n, kg_rem_n, kg_eq_n, kg_lt_n, kg_le_n, kg_nz, kg_01_0, kg_01_1, kg_w0_1, kg_ret0, kg_ret1, kg_ret2, kg_wr_n, kg_Skd, kg_Smc, kg_Sob, kg_Srf, kg_Sld, kg_pad, List.map_cons, List.map_nil, List.length_cons, List.length_nil, List.replicate, List.cons_append, List.nil_append, List.append_nil, Nat.reduceAdd, Nat.reduceSub, Nat.reduceMul, Nat.reduceMod, Nat.reduceDiv, Nat.reduceLT, Nat.reduceLeDiff, Nat.reduceEqDiff, ne_eq, not_true_eq_false, not_false_eq_true, reduceIte, true_and, and_true, kw_n, kw_s, kw_w, kw_o, kw_ws, kw_wn, ku_s, ku_n, kg_lk102, kg_ls102, e3']
    refine kc99 hL hn hm (by omega) hu' (by omega) ?_
    rw [erl, ea]
    simp (disch := omega) only [↓kb_0t, ↓kb_0f, ↓kb_1t, ↓kb_1f, ↓kb_2t, ↓kb_2f, ↓kb_3t, ↓kb_3f, ↓kb_4t, ↓kb_4f, ↓kb_5t, ↓kb_5f, ↓kg_S1, kg_S2, kg_br_T, kg_br_F, kg_br_N, kg_br_t, kg_br_f, ↓kg_at_n, nI_add, pk_mul, kg_sub_n, kg_rem_n, kg_eq_n, kg_lt_n, kg_le_n, kg_nz, kg_01_0, kg_01_1, kg_w0_1, kg_ret0, kg_ret1, kg_ret2, kg_wr_n, kg_Skd, kg_Smc, kg_Sob, kg_Srf, kg_Sld, kg_pad, List.map_cons, List.map_nil, List.length_cons, List.length_nil, List.replicate, List.cons_append, List.nil_append, List.append_nil, Nat.reduceAdd, Nat.reduceSub, Nat.reduceMul, Nat.reduceMod, Nat.reduceDiv, Nat.reduceLT, Nat.reduceLeDiff, Nat.reduceEqDiff, ne_eq, not_true_eq_false, not_false_eq_true, reduceIte, true_and, and_true, kw_n, kw_s, kw_w, kw_o, kw_ws, kw_wn, ku_s, ku_n, kg_lk102, kg_ls102, en']
    refine kg_v102 hL (by omega) 40 ?_
    simp (disch := omega) only [↓kb_0t, ↓kb_0f, ↓kb_1t, ↓kb_1f, ↓kb_2t, ↓kb_2f, ↓kb_3t, ↓kb_3f, ↓kb_4t, ↓kb_4f, ↓kb_5t, ↓kb_5f, ↓kg_S1, kg_S2, kg_br_T, kg_br_F, kg_br_N, kg_br_t, kg_br_f, ↓kg_at_n, nI_add, pk_mul, kg_sub_n, kg_rem_n, kg_eq_n, kg_lt_n, kg_le_n, kg_nz, kg_01_0, kg_01_1, kg_w0_1, kg_ret0, kg_ret1, kg_ret2, kg_wr_n, kg_Skd, kg_Smc, kg_Sob, kg_Srf, kg_Sld, kg_pad, List.map_cons, List.map_nil, List.length_cons, List.length_nil, List.replicate, List.cons_append, List.nil_append, List.append_nil, Nat.reduceAdd, Nat.reduceSub, Nat.reduceMul, Nat.reduceMod, Nat.reduceDiv, Nat.reduceLT, Nat.reduceLeDiff, Nat.reduceEqDiff, ne_eq, not_true_eq_false, not_false_eq_true, reduceIte, true_and, and_true, kw_n, kw_s, kw_w, kw_o, kw_ws, kw_wn, ku_s, ku_n, kg_lk102, kg_ls102, e3']
    refine kc99 hL hn hm (by omega) hu' (by omega) ?_
    rw [erl, ea]
    simp (disch := omega) only [↓kb_0t, ↓kb_0f, ↓kb_1t, ↓kb_1f, ↓kb_2t, ↓kb_2f, ↓kb_3t, ↓kb_3f, ↓kb_4t, ↓kb_4f, ↓kb_5t, ↓kb_5f, ↓kg_S1, kg_S2, kg_br_T, kg_br_F, kg_br_N, kg_br_t, kg_br_f, ↓kg_at_n, nI_add, pk_mul, kg_sub_n, kg_rem_n, kg_eq_n, kg_lt_n, kg_le_n, kg_nz, kg_01_0, kg_01_1, kg_w0_1, kg_ret0, kg_ret1, kg_ret2, kg_wr_n, kg_Skd, kg_Smc, kg_Sob, kg_Srf, kg_Sld, kg_pad, List.map_cons, List.map_nil, List.length_cons, List.length_nil, List.replicate, List.cons_append, List.nil_append, List.append_nil, Nat.reduceAdd, Nat.reduceSub, Nat.reduceMul, Nat.reduceMod, Nat.reduceDiv, Nat.reduceLT, Nat.reduceLeDiff, Nat.reduceEqDiff, ne_eq, not_true_eq_false, not_false_eq_true, reduceIte, true_and, and_true, kw_n, kw_s, kw_w, kw_o, kw_ws, kw_wn, ku_s, ku_n, kg_lk102, kg_ls102]
    refine kc100 hL (by omega) hv hk (by omega) ?_
    simp (disch := omega) only [↓kb_0t, ↓kb_0f, ↓kb_1t, ↓kb_1f, ↓kb_2t, ↓kb_2f, ↓kb_3t, ↓kb_3f, ↓kb_4t, ↓kb_4f, ↓kb_5t, ↓kb_5f, ↓kg_S1, kg_S2, kg_br_T, kg_br_F, kg_br_N, kg_br_t, kg_br_f, ↓kg_at_n, nI_add, pk_mul, kg_sub_n, kg_rem_n, kg_eq_n, kg_lt_n, kg_le_n, kg_nz, kg_01_0, kg_01_1, kg_w0_1, kg_ret0, kg_ret1, kg_ret2, kg_wr_n, kg_Skd, kg_Smc, kg_Sob, kg_Srf, kg_Sld, kg_pad, List.map_cons, List.map_nil, List.length_cons, List.length_nil, List.replicate, List.cons_append, List.nil_append, List.append_nil, Nat.reduceAdd, Nat.reduceSub, Nat.reduceMul, Nat.reduceMod, Nat.reduceDiv, Nat.reduceLT, Nat.reduceLeDiff, Nat.reduceEqDiff, ne_eq, not_true_eq_false, not_false_eq_true, reduceIte, true_and, and_true, kw_n, kw_s, kw_w, kw_o, kw_ws, kw_wn, ku_s, ku_n, kg_lk102, kg_ls102]
    refine kc100 hL (by omega) hs hk (by omega) ?_
    simp (disch := omega) only [↓kb_0t, ↓kb_0f, ↓kb_1t, ↓kb_1f, ↓kb_2t, ↓kb_2f, ↓kb_3t, ↓kb_3f, ↓kb_4t, ↓kb_4f, ↓kb_5t, ↓kb_5f, ↓kg_S1, kg_S2, kg_br_T, kg_br_F, kg_br_N, kg_br_t, kg_br_f, ↓kg_at_n, nI_add, pk_mul, kg_sub_n, kg_rem_n, kg_eq_n, kg_lt_n, kg_le_n, kg_nz, kg_01_0, kg_01_1, kg_w0_1, kg_ret0, kg_ret1, kg_ret2, kg_wr_n, kg_Skd, kg_Smc, kg_Sob, kg_Srf, kg_Sld, kg_pad, List.map_cons, List.map_nil, List.length_cons, List.length_nil, List.replicate, List.cons_append, List.nil_append, List.append_nil, Nat.reduceAdd, Nat.reduceSub, Nat.reduceMul, Nat.reduceMod, Nat.reduceDiv, Nat.reduceLT, Nat.reduceLeDiff, Nat.reduceEqDiff, ne_eq, not_true_eq_false, not_false_eq_true, reduceIte, true_and, and_true, kw_n, kw_s, kw_w, kw_o, kw_ws, kw_wn, ku_s, ku_n, kg_lk102, kg_ls102]
    unfold kf_m1 at ih'
    refine kg_br_i (fun q => ?_) (fun q => ?_)
    · have e : kf_s ((l.take i).foldl (kf_m1 s k) r) v k = kf_s ((l.take i).foldl (kf_m1 s k) r) s k := Int32.le_antisymm hle (by rw [esv, ess]; exact q)
      unfold kf_m1 at e
      rw [if_pos e] at ih'
      exact ih' _
    · have e : ¬ kf_s ((l.take i).foldl (kf_m1 s k) r) v k = kf_s ((l.take i).foldl (kf_m1 s k) r) s k := fun e => q (by rw [← esv, ← ess, e]; exact Int32.le_refl _)
      have hvs : v ≠ s := fun e2 => e (by rw [e2])
      unfold kf_m1 at e
      rw [if_neg e] at ih'
      refine kc103 hL hv hs hk hvs hEi (by omega) ?_
      simp (disch := omega) only [↓kb_0t, ↓kb_0f, ↓kb_1t, ↓kb_1f, ↓kb_2t, ↓kb_2f, ↓kb_3t, ↓kb_3f, ↓kb_4t, ↓kb_4f, ↓kb_5t, ↓kb_5f, ↓kg_S1, kg_S2, kg_br_T, kg_br_F, kg_br_N, kg_br_t, kg_br_f, ↓kg_at_n, nI_add, pk_mul, kg_sub_n, kg_rem_n, kg_eq_n, kg_lt_n, kg_le_n, kg_nz, kg_01_0, kg_01_1, kg_w0_1, kg_ret0, kg_ret1, kg_ret2, kg_wr_n, kg_Skd, kg_Smc, kg_Sob, kg_Srf, kg_Sld, kg_pad, List.map_cons, List.map_nil, List.length_cons, List.length_nil, List.replicate, List.cons_append, List.nil_append, List.append_nil, Nat.reduceAdd, Nat.reduceSub, Nat.reduceMul, Nat.reduceMod, Nat.reduceDiv, Nat.reduceLT, Nat.reduceLeDiff, Nat.reduceEqDiff, ne_eq, not_true_eq_false, not_false_eq_true, reduceIte, true_and, and_true, kw_n, kw_s, kw_w, kw_o, kw_ws, kw_wn, ku_s, ku_n, kg_lk102, kg_ls102]
      unfold kf_m1
      exact ih' _
set_option maxRecDepth 100000 in
theorem kc102_1 (hL : G.2.2.2.2.2.1 < 2 ^ 31) {n k m : Nat} {l : List Nat} (hl : l = kf_rl r n m 4) (hn : n < 4) (hk : k < 8) (hm : m ≤ 4) (e3 : r 3 = nI m) (hu : ∀ n, n < 4 → kg_01 (r (7 + n))) (hd : 4 ≤ d) (hK : ∀ x5 x6 : Option Value, kg_P G d 102 7 129 129 K 149 [some (.ref 124), some (.int (nI n)), some (.int (nI k)), some (.int (nI (l.foldl (kf_nw r k) n))), some (.int (kf_b (kf_df r n k l))), x5, x6] [] (kg_w0 h) (kg_row M 125 r)) : ∀ (z i : Nat) (x6 : Option Value), i + z = l.length → kg_P G d 102 7 129 129 K 39 [some (.ref 124), some (.int (nI n)), some (.int (nI k)), some (.int (nI ((l.take i).foldl (kf_nw r k) n))), some (.int (kf_b (kf_df r n k (l.take i)))), some (.int (nI i)), x6] [] (kg_w0 h) (kg_row M 125 r) := by
  have hlt : ∀ a ∈ l, a < 4 := by rw [hl]; exact kf_rl_lt r n m 4
  have hll : l.length ≤ 4 := by rw [hl]; exact kf_rl_len r n m 4
  have b0 : kf_b false = nI 0 := rfl
  have b1 : kf_b true = nI 1 := rfl
  intro z
  induction z with
  | zero =>
    intro i x6 hi
    refine kg_v102 hL (by omega) 9 ?_
    simp (disch := omega) only [↓kb_0t, ↓kb_0f, ↓kb_1t, ↓kb_1f, ↓kb_2t, ↓kb_2f, ↓kb_3t, ↓kb_3f, ↓kb_4t, ↓kb_4f, ↓kb_5t, ↓kb_5f, ↓kg_S1, kg_S2, kg_br_T, kg_br_F, kg_br_N, kg_br_t, kg_br_f, ↓kg_at_n, nI_add, pk_mul, kg_sub_n, kg_rem_n, kg_eq_n, kg_lt_n, kg_le_n, kg_nz, kg_01_0, kg_01_1, kg_w0_1, kg_ret0, kg_ret1, kg_ret2, kg_wr_n, kg_Skd, kg_Smc, kg_Sob, kg_Srf, kg_Sld, kg_pad, List.map_cons, List.map_nil, List.length_cons, List.length_nil, List.replicate, List.cons_append, List.nil_append, List.append_nil, Nat.reduceAdd, Nat.reduceSub, Nat.reduceMul, Nat.reduceMod, Nat.reduceDiv, Nat.reduceLT, Nat.reduceLeDiff, Nat.reduceEqDiff, ne_eq, not_true_eq_false, not_false_eq_true, reduceIte, true_and, and_true, kw_n, kw_s, kw_w, kw_o, kw_ws, kw_wn, ku_s, ku_n, kg_lk102, kg_ls102, e3]
    refine kc99 hL hn hm (by omega) hu (by omega) ?_
    rw [← hl, kf_at_n (by omega)]
    simp (disch := omega) only [↓kb_0t, ↓kb_0f, ↓kb_1t, ↓kb_1f, ↓kb_2t, ↓kb_2f, ↓kb_3t, ↓kb_3f, ↓kb_4t, ↓kb_4f, ↓kb_5t, ↓kb_5f, ↓kg_S1, kg_S2, kg_br_T, kg_br_F, kg_br_N, kg_br_t, kg_br_f, ↓kg_at_n, nI_add, pk_mul, kg_sub_n, kg_rem_n, kg_eq_n, kg_lt_n, kg_le_n, kg_nz, kg_01_0, kg_01_1, kg_w0_1, kg_ret0, kg_ret1, kg_ret2, kg_wr_n, kg_Skd, kg_Smc, kg_Sob, kg_Srf, kg_Sld, kg_pad, List.map_cons, List.map_nil, List.length_cons, List.length_nil, List.replicate, List.cons_append, List.nil_append, List.append_nil, Nat.reduceAdd, Nat.reduceSub, Nat.reduceMul, Nat.reduceMod, Nat.reduceDiv, Nat.reduceLT, Nat.reduceLeDiff, Nat.reduceEqDiff, ne_eq, not_true_eq_false, not_false_eq_true, reduceIte, true_and, and_true, kw_n, kw_s, kw_w, kw_o, kw_ws, kw_wn, ku_s, ku_n, kg_lk102, kg_ls102, eq_self]
    rw [List.take_of_length_le (by omega)]
    exact hK _ _
  | succ z ih =>
    intro i x6 hi
    obtain ⟨v, e1, et⟩ := kf_take (l := l) (i := i) (by omega)
    have hvm := List.mem_of_getElem? e1
    have hv := hlt v hvm
    have ea : kf_at l i = nI v := by unfold kf_at; rw [e1]
    have en' := kf_ne (n := v) (m := 5) (by omega) (by omega) (by omega)
    have hb := kf_nw_lt (r := r) (k := k) (l := l.take i) (fun a ha => hlt a (List.mem_of_mem_take ha)) hn
    have esv : kf_s r v k = r (27 + 40 * v + 5 * k + 2) := if_pos hv
    have ess : kf_s r ((l.take i).foldl (kf_nw r k) n) k = r (27 + 40 * ((l.take i).foldl (kf_nw r k) n) + 5 * k + 2) := if_pos hb
    have ih' := fun x => ih (i + 1) x (by omega)
    have edf : kf_df r n k (l.take (i + 1)) = (kf_df r n k (l.take i) || !decide (kf_s r v k = kf_s r ((l.take i).foldl (kf_nw r k) n) k)) := by
      rw [et]
      have e4 : kf_df r n k (l.take i ++ [v]) = (kf_df r n k (l.take i) || !decide (kf_s r v k = kf_s r n k)) := by
        unfold kf_df; rw [List.any_append]; simp
      rw [e4]
      cases e5 : kf_df r n k (l.take i) with
      | true => rfl
      | false => rw [kf_df_n (l.take i) n rfl e5]
    have enw : (l.take (i + 1)).foldl (kf_nw r k) n = if kf_s r ((l.take i).foldl (kf_nw r k) n) k < kf_s r v k then v else (l.take i).foldl (kf_nw r k) n := by
      rw [et, List.foldl_append]; rfl
    rw [edf, enw, esv, ess] at ih'
    generalize hB : (l.take i).foldl (kf_nw r k) n = B at *
    refine kg_v102 hL (by omega) 9 ?_
    simp (disch := omega) only [↓kb_0t, ↓kb_0f, ↓kb_1t, ↓kb_1f, ↓kb_2t, ↓kb_2f, ↓kb_3t, ↓kb_3f, ↓kb_4t, ↓kb_4f, ↓kb_5t, ↓kb_5f, ↓kg_S1, kg_S2, kg_br_T, kg_br_F, kg_br_N, kg_br_t, kg_br_f, ↓kg_at_n, nI_add, pk_mul, kg_sub_n, kg_rem_n, kg_eq_n, kg_lt_n, kg_le_n, kg_nz, kg_01_0, kg_01_1, kg_w0_1, kg_ret0, kg_ret1, kg_ret2, kg_wr_n, kg_Skd, kg_Smc, kg_Sob, kg_Srf, kg_Sld, kg_pad, List.map_cons, List.map_nil, List.length_cons, List.length_nil, List.replicate, List.cons_append, List.nil_append, List.append_nil, Nat.reduceAdd, Nat.reduceSub, Nat.reduceMul, Nat.reduceMod, Nat.reduceDiv, Nat.reduceLT, Nat.reduceLeDiff, Nat.reduceEqDiff, ne_eq, not_true_eq_false, not_false_eq_true, reduceIte, true_and, and_true, kw_n, kw_s, kw_w, kw_o, kw_ws, kw_wn, ku_s, ku_n, kg_lk102, kg_ls102, e3]
    refine kc99 hL hn hm (by omega) hu (by omega) ?_
    rw [← hl, ea]
    simp (disch := omega) only [↓kb_0t, ↓kb_0f, ↓kb_1t, ↓kb_1f, ↓kb_2t, ↓kb_2f, ↓kb_3t, ↓kb_3f, ↓kb_4t, ↓kb_4f, ↓kb_5t, ↓kb_5f, ↓kg_S1, kg_S2, kg_br_T, kg_br_F, kg_br_N, kg_br_t, kg_br_f, ↓kg_at_n, nI_add, pk_mul, kg_sub_n, kg_rem_n, kg_eq_n, kg_lt_n, kg_le_n, kg_nz, kg_01_0, kg_01_1, kg_w0_1, kg_ret0, kg_ret1, kg_ret2, kg_wr_n, kg_Skd, kg_Smc, kg_Sob, kg_Srf, kg_Sld, kg_pad, List.map_cons, List.map_nil, List.length_cons, List.length_nil, List.replicate, List.cons_append, List.nil_append, List.append_nil, Nat.reduceAdd, Nat.reduceSub, Nat.reduceMul, Nat.reduceMod, Nat.reduceDiv, Nat.reduceLT, Nat.reduceLeDiff, Nat.reduceEqDiff, ne_eq, not_true_eq_false, not_false_eq_true, reduceIte, true_and, and_true, kw_n, kw_s, kw_w, kw_o, kw_ws, kw_wn, ku_s, ku_n, kg_lk102, kg_ls102, en']
    refine kg_v102 hL (by omega) 56 ?_
    simp (disch := omega) only [↓kb_0t, ↓kb_0f, ↓kb_1t, ↓kb_1f, ↓kb_2t, ↓kb_2f, ↓kb_3t, ↓kb_3f, ↓kb_4t, ↓kb_4f, ↓kb_5t, ↓kb_5f, ↓kg_S1, kg_S2, kg_br_T, kg_br_F, kg_br_N, kg_br_t, kg_br_f, ↓kg_at_n, nI_add, pk_mul, kg_sub_n, kg_rem_n, kg_eq_n, kg_lt_n, kg_le_n, kg_nz, kg_01_0, kg_01_1, kg_w0_1, kg_ret0, kg_ret1, kg_ret2, kg_wr_n, kg_Skd, kg_Smc, kg_Sob, kg_Srf, kg_Sld, kg_pad, List.map_cons, List.map_nil, List.length_cons, List.length_nil, List.replicate, List.cons_append, List.nil_append, List.append_nil, Nat.reduceAdd, Nat.reduceSub, Nat.reduceMul, Nat.reduceMod, Nat.reduceDiv, Nat.reduceLT, Nat.reduceLeDiff, Nat.reduceEqDiff, ne_eq, not_true_eq_false, not_false_eq_true, reduceIte, true_and, and_true, kw_n, kw_s, kw_w, kw_o, kw_ws, kw_wn, ku_s, ku_n, kg_lk102, kg_ls102, e3]
    refine kc99 hL hn hm (by omega) hu (by omega) ?_
    rw [← hl, ea]
    cases e5 : kf_df r n k (l.take i) with
    | true =>
      rw [e5, Bool.true_or, b1] at ih'
      rw [b1]
      simp (disch := omega) only [↓kb_0t, ↓kb_0f, ↓kb_1t, ↓kb_1f, ↓kb_2t, ↓kb_2f, ↓kb_3t, ↓kb_3f, ↓kb_4t, ↓kb_4f, ↓kb_5t, ↓kb_5f, ↓kg_S1, kg_S2, kg_br_T, kg_br_F, kg_br_N, kg_br_t, kg_br_f, ↓kg_at_n, nI_add, pk_mul, kg_sub_n, kg_rem_n, kg_eq_n, kg_lt_n, kg_le_n, kg_nz, kg_01_0, kg_01_1, kg_w0_1, kg_ret0, kg_ret1, kg_ret2, kg_wr_n, kg_Skd, kg_Smc, kg_Sob, kg_Srf, kg_Sld, kg_pad, List.map_cons, List.map_nil, List.length_cons, List.length_nil, List.replicate, List.cons_append, List.nil_append, List.append_nil, Nat.reduceAdd, Nat.reduceSub, Nat.reduceMul, Nat.reduceMod, Nat.reduceDiv, Nat.reduceLT, Nat.reduceLeDiff, Nat.reduceEqDiff, ne_eq, not_true_eq_false, not_false_eq_true, reduceIte, true_and, and_true, kw_n, kw_s, kw_w, kw_o, kw_ws, kw_wn, ku_s, ku_n, kg_lk102, kg_ls102]
      refine kc100 hL (by omega) hv hk (by omega) ?_
      simp (disch := omega) only [↓kb_0t, ↓kb_0f, ↓kb_1t, ↓kb_1f, ↓kb_2t, ↓kb_2f, ↓kb_3t, ↓kb_3f, ↓kb_4t, ↓kb_4f, ↓kb_5t, ↓kb_5f, ↓kg_S1, kg_S2, kg_br_T, kg_br_F, kg_br_N, kg_br_t, kg_br_f, ↓kg_at_n, nI_add, pk_mul, kg_sub_n, kg_rem_n, kg_eq_n, kg_lt_n, kg_le_n, kg_nz, kg_01_0, kg_01_1, kg_w0_1, kg_ret0, kg_ret1, kg_ret2, kg_wr_n, kg_Skd, kg_Smc, kg_Sob, kg_Srf, kg_Sld, kg_pad, List.map_cons, List.map_nil, List.length_cons, List.length_nil, List.replicate, List.cons_append, List.nil_append, List.append_nil, Nat.reduceAdd, Nat.reduceSub, Nat.reduceMul, Nat.reduceMod, Nat.reduceDiv, Nat.reduceLT, Nat.reduceLeDiff, Nat.reduceEqDiff, ne_eq, not_true_eq_false, not_false_eq_true, reduceIte, true_and, and_true, kw_n, kw_s, kw_w, kw_o, kw_ws, kw_wn, ku_s, ku_n, kg_lk102, kg_ls102]
      refine kc100 hL (by omega) hb hk (by omega) ?_
      simp (disch := omega) only [↓kb_0t, ↓kb_0f, ↓kb_1t, ↓kb_1f, ↓kb_2t, ↓kb_2f, ↓kb_3t, ↓kb_3f, ↓kb_4t, ↓kb_4f, ↓kb_5t, ↓kb_5f, ↓kg_S1, kg_S2, kg_br_T, kg_br_F, kg_br_N, kg_br_t, kg_br_f, ↓kg_at_n, nI_add, pk_mul, kg_sub_n, kg_rem_n, kg_eq_n, kg_lt_n, kg_le_n, kg_nz, kg_01_0, kg_01_1, kg_w0_1, kg_ret0, kg_ret1, kg_ret2, kg_wr_n, kg_Skd, kg_Smc, kg_Sob, kg_Srf, kg_Sld, kg_pad, List.map_cons, List.map_nil, List.length_cons, List.length_nil, List.replicate, List.cons_append, List.nil_append, List.append_nil, Nat.reduceAdd, Nat.reduceSub, Nat.reduceMul, Nat.reduceMod, Nat.reduceDiv, Nat.reduceLT, Nat.reduceLeDiff, Nat.reduceEqDiff, ne_eq, not_true_eq_false, not_false_eq_true, reduceIte, true_and, and_true, kw_n, kw_s, kw_w, kw_o, kw_ws, kw_wn, ku_s, ku_n, kg_lk102, kg_ls102]
      refine kg_br_i (fun q => ?_) (fun q => ?_)
      · rw [if_neg (Int32.not_lt.mpr q)] at ih'
        exact ih' _
      · rw [if_pos (Int32.not_le.mp q)] at ih'
        exact ih' _
    | false =>
      rw [e5, Bool.false_or] at ih'
      rw [b0]
      simp (disch := omega) only [↓kb_0t, ↓kb_0f, ↓kb_1t, ↓kb_1f, ↓kb_2t, ↓kb_2f, ↓kb_3t, ↓kb_3f, ↓kb_4t, ↓kb_4f, ↓kb_5t, ↓kb_5f, ↓kg_S1, kg_S2, kg_br_T, kg_br_F, kg_br_N, kg_br_t, kg_br_f, ↓kg_at_n, nI_add, pk_mul, kg_sub_n, kg_rem_n, kg_eq_n, kg_lt_n, kg_le_n, kg_nz, kg_01_0, kg_01_1, kg_w0_1, kg_ret0, kg_ret1, kg_ret2, kg_wr_n, kg_Skd, kg_Smc, kg_Sob, kg_Srf, kg_Sld, kg_pad, List.map_cons, List.map_nil, List.length_cons, List.length_nil, List.replicate, List.cons_append, List.nil_append, List.append_nil, Nat.reduceAdd, Nat.reduceSub, Nat.reduceMul, Nat.reduceMod, Nat.reduceDiv, Nat.reduceLT, Nat.reduceLeDiff, Nat.reduceEqDiff, ne_eq, not_true_eq_false, not_false_eq_true, reduceIte, true_and, and_true, kw_n, kw_s, kw_w, kw_o, kw_ws, kw_wn, ku_s, ku_n, kg_lk102, kg_ls102]
      refine kc100 hL (by omega) hv hk (by omega) ?_
      simp (disch := omega) only [↓kb_0t, ↓kb_0f, ↓kb_1t, ↓kb_1f, ↓kb_2t, ↓kb_2f, ↓kb_3t, ↓kb_3f, ↓kb_4t, ↓kb_4f, ↓kb_5t, ↓kb_5f, ↓kg_S1, kg_S2, kg_br_T, kg_br_F, kg_br_N, kg_br_t, kg_br_f, ↓kg_at_n, nI_add, pk_mul, kg_sub_n, kg_rem_n, kg_eq_n, kg_lt_n, kg_le_n, kg_nz, kg_01_0, kg_01_1, kg_w0_1, kg_ret0, kg_ret1, kg_ret2, kg_wr_n, kg_Skd, kg_Smc, kg_Sob, kg_Srf, kg_Sld, kg_pad, List.map_cons, List.map_nil, List.length_cons, List.length_nil, List.replicate, List.cons_append, List.nil_append, List.append_nil, Nat.reduceAdd, Nat.reduceSub, Nat.reduceMul, Nat.reduceMod, Nat.reduceDiv, Nat.reduceLT, Nat.reduceLeDiff, Nat.reduceEqDiff, ne_eq, not_true_eq_false, not_false_eq_true, reduceIte, true_and, and_true, kw_n, kw_s, kw_w, kw_o, kw_ws, kw_wn, ku_s, ku_n, kg_lk102, kg_ls102]
      refine kc100 hL (by omega) hb hk (by omega) ?_
      simp (disch := omega) only [↓kb_0t, ↓kb_0f, ↓kb_1t, ↓kb_1f, ↓kb_2t, ↓kb_2f, ↓kb_3t, ↓kb_3f, ↓kb_4t, ↓kb_4f, ↓kb_5t, ↓kb_5f, ↓kg_S1, kg_S2, kg_br_T, kg_br_F, kg_br_N, kg_br_t, kg_br_f, ↓kg_at_n, nI_add, pk_mul, kg_sub_n, kg_rem_n, kg_eq_n, kg_lt_n, kg_le_n, kg_nz, kg_01_0, kg_01_1, kg_w0_1, kg_ret0, kg_ret1, kg_ret2, kg_wr_n, kg_Skd, kg_Smc, kg_Sob, kg_Srf, kg_Sld, kg_pad, List.map_cons, List.map_nil, List.length_cons, List.length_nil, List.replicate, List.cons_append, List.nil_append, List.append_nil, Nat.reduceAdd, Nat.reduceSub, Nat.reduceMul, Nat.reduceMod, Nat.reduceDiv, Nat.reduceLT, Nat.reduceLeDiff, Nat.reduceEqDiff, ne_eq, not_true_eq_false, not_false_eq_true, reduceIte, true_and, and_true, kw_n, kw_s, kw_w, kw_o, kw_ws, kw_wn, ku_s, ku_n, kg_lk102, kg_ls102]
      refine kg_br_i (fun q0 => ?_) (fun q0 => ?_)
      · rw [decide_eq_true q0, Bool.not_true, b0] at ih'
        refine kc100 hL (by omega) hv hk (by omega) ?_
        simp (disch := omega) only [↓kb_0t, ↓kb_0f, ↓kb_1t, ↓kb_1f, ↓kb_2t, ↓kb_2f, ↓kb_3t, ↓kb_3f, ↓kb_4t, ↓kb_4f, ↓kb_5t, ↓kb_5f, ↓kg_S1, kg_S2, kg_br_T, kg_br_F, kg_br_N, kg_br_t, kg_br_f, ↓kg_at_n, nI_add, pk_mul, kg_sub_n, kg_rem_n, kg_eq_n, kg_lt_n, kg_le_n, kg_nz, kg_01_0, kg_01_1, kg_w0_1, kg_ret0, kg_ret1, kg_ret2, kg_wr_n, kg_Skd, kg_Smc, kg_Sob, kg_Srf, kg_Sld, kg_pad, List.map_cons, List.map_nil, List.length_cons, List.length_nil, List.replicate, List.cons_append, List.nil_append, List.append_nil, Nat.reduceAdd, Nat.reduceSub, Nat.reduceMul, Nat.reduceMod, Nat.reduceDiv, Nat.reduceLT, Nat.reduceLeDiff, Nat.reduceEqDiff, ne_eq, not_true_eq_false, not_false_eq_true, reduceIte, true_and, and_true, kw_n, kw_s, kw_w, kw_o, kw_ws, kw_wn, ku_s, ku_n, kg_lk102, kg_ls102]
        refine kc100 hL (by omega) hb hk (by omega) ?_
        simp (disch := omega) only [↓kb_0t, ↓kb_0f, ↓kb_1t, ↓kb_1f, ↓kb_2t, ↓kb_2f, ↓kb_3t, ↓kb_3f, ↓kb_4t, ↓kb_4f, ↓kb_5t, ↓kb_5f, ↓kg_S1, kg_S2, kg_br_T, kg_br_F, kg_br_N, kg_br_t, kg_br_f, ↓kg_at_n, nI_add, pk_mul, kg_sub_n, kg_rem_n, kg_eq_n, kg_lt_n, kg_le_n, kg_nz, kg_01_0, kg_01_1, kg_w0_1, kg_ret0, kg_ret1, kg_ret2, kg_wr_n, kg_Skd, kg_Smc, kg_Sob, kg_Srf, kg_Sld, kg_pad, List.map_cons, List.map_nil, List.length_cons, List.length_nil, List.replicate, List.cons_append, List.nil_append, List.append_nil, Nat.reduceAdd, Nat.reduceSub, Nat.reduceMul, Nat.reduceMod, Nat.reduceDiv, Nat.reduceLT, Nat.reduceLeDiff, Nat.reduceEqDiff, ne_eq, not_true_eq_false, not_false_eq_true, reduceIte, true_and, and_true, kw_n, kw_s, kw_w, kw_o, kw_ws, kw_wn, ku_s, ku_n, kg_lk102, kg_ls102]
        refine kg_br_i (fun q => ?_) (fun q => ?_)
        · rw [if_neg (Int32.not_lt.mpr q)] at ih'
          exact ih' _
        · rw [if_pos (Int32.not_le.mp q)] at ih'
          exact ih' _
      · rw [decide_eq_false q0, Bool.not_false, b1] at ih'
        refine kc100 hL (by omega) hv hk (by omega) ?_
        simp (disch := omega) only [↓kb_0t, ↓kb_0f, ↓kb_1t, ↓kb_1f, ↓kb_2t, ↓kb_2f, ↓kb_3t, ↓kb_3f, ↓kb_4t, ↓kb_4f, ↓kb_5t, ↓kb_5f, ↓kg_S1, kg_S2, kg_br_T, kg_br_F, kg_br_N, kg_br_t, kg_br_f, ↓kg_at_n, nI_add, pk_mul, kg_sub_n, kg_rem_n, kg_eq_n, kg_lt_n, kg_le_n, kg_nz, kg_01_0, kg_01_1, kg_w0_1, kg_ret0, kg_ret1, kg_ret2, kg_wr_n, kg_Skd, kg_Smc, kg_Sob, kg_Srf, kg_Sld, kg_pad, List.map_cons, List.map_nil, List.length_cons, List.length_nil, List.replicate, List.cons_append, List.nil_append, List.append_nil, Nat.reduceAdd, Nat.reduceSub, Nat.reduceMul, Nat.reduceMod, Nat.reduceDiv, Nat.reduceLT, Nat.reduceLeDiff, Nat.reduceEqDiff, ne_eq, not_true_eq_false, not_false_eq_true, reduceIte, true_and, and_true, kw_n, kw_s, kw_w, kw_o, kw_ws, kw_wn, ku_s, ku_n, kg_lk102, kg_ls102]
        refine kc100 hL (by omega) hb hk (by omega) ?_
        simp (disch := omega) only [↓kb_0t, ↓kb_0f, ↓kb_1t, ↓kb_1f, ↓kb_2t, ↓kb_2f, ↓kb_3t, ↓kb_3f, ↓kb_4t, ↓kb_4f, ↓kb_5t, ↓kb_5f, ↓kg_S1, kg_S2, kg_br_T, kg_br_F, kg_br_N, kg_br_t, kg_br_f, ↓kg_at_n, nI_add, pk_mul, kg_sub_n, kg_rem_n, kg_eq_n, kg_lt_n, kg_le_n, kg_nz, kg_01_0, kg_01_1, kg_w0_1, kg_ret0, kg_ret1, kg_ret2, kg_wr_n, kg_Skd, kg_Smc, kg_Sob, kg_Srf, kg_Sld, kg_pad, List.map_cons, List.map_nil, List.length_cons, List.length_nil, List.replicate, List.cons_append, List.nil_append, List.append_nil, Nat.reduceAdd, Nat.reduceSub, Nat.reduceMul, Nat.reduceMod, Nat.reduceDiv, Nat.reduceLT, Nat.reduceLeDiff, Nat.reduceEqDiff, ne_eq, not_true_eq_false, not_false_eq_true, reduceIte, true_and, and_true, kw_n, kw_s, kw_w, kw_o, kw_ws, kw_wn, ku_s, ku_n, kg_lk102, kg_ls102]
        refine kg_br_i (fun q => ?_) (fun q => ?_)
        · rw [if_neg (Int32.not_lt.mpr q)] at ih'
          exact ih' _
        · rw [if_pos (Int32.not_le.mp q)] at ih'
          exact ih' _

set_option maxRecDepth 100000 in
theorem kc102 (hL : G.2.2.2.2.2.1 < 2 ^ 31) {i k : Int32} (hJ : kf_J c A.1) (hD : kf_D M A) (hr : M 125 = A.1) (hd : 7 ≤ d) (hK : ∀ (o : Int32) (A' : kf_A) (M' : kg_M), kf_rd A i k = (o, A') → kf_D M' A' → (∀ p, p < 124 → M' p = M p) → K (some (.int o)) (kg_w0 h) M') : kg_call G d 129 102 [.ref 124, .int i, .int k] (kg_w0 h) M K := by
  obtain ⟨d, rfl⟩ : ∃ e, d = e + 1 := ⟨d - 1, by omega⟩
  refine kg_m102 (by simp) (Nat.le_refl _) (kg_v102 hL (by omega) 60 ?_)
  simp (disch := omega) only [↓kb_0t, ↓kb_0f, ↓kb_1t, ↓kb_1f, ↓kb_2t, ↓kb_2f, ↓kb_3t, ↓kb_3f, ↓kb_4t, ↓kb_4f, ↓kb_5t, ↓kb_5f, ↓kg_S1, kg_S2, kg_br_T, kg_br_F, kg_br_N, kg_br_t, kg_br_f, ↓kg_at_n, nI_add, pk_mul, kg_sub_n, kg_rem_n, kg_eq_n, kg_lt_n, kg_le_n, kg_nz, kg_01_0, kg_01_1, kg_w0_1, kg_ret0, kg_ret1, kg_ret2, kg_wr_n, kg_wr_s, kg_Skd, kg_Smc, kg_Sob, kg_Srf, kg_Sld, kg_pad, List.map_cons, List.map_nil, List.length_cons, List.length_nil, List.replicate, List.cons_append, List.nil_append, List.append_nil, Nat.reduceAdd, Nat.reduceSub, Nat.reduceMul, Nat.reduceMod, Nat.reduceDiv, Nat.reduceLT, Nat.reduceLeDiff, Nat.reduceEqDiff, ne_eq, not_true_eq_false, not_false_eq_true, reduceIte, true_and, and_true, kg_lk102, kg_ls102]
  cases ei : kf_ix 4 i with
  | none =>
    refine kc93b hL (by omega) (kf_ix_n (by omega) ei) ?_
    simp (disch := omega) only [↓kb_0t, ↓kb_0f, ↓kb_1t, ↓kb_1f, ↓kb_2t, ↓kb_2f, ↓kb_3t, ↓kb_3f, ↓kb_4t, ↓kb_4f, ↓kb_5t, ↓kb_5f, ↓kg_S1, kg_S2, kg_br_T, kg_br_F, kg_br_N, kg_br_t, kg_br_f, ↓kg_at_n, nI_add, pk_mul, kg_sub_n, kg_rem_n, kg_eq_n, kg_lt_n, kg_le_n, kg_nz, kg_01_0, kg_01_1, kg_w0_1, kg_ret0, kg_ret1, kg_ret2, kg_wr_n, kg_wr_s, kg_Skd, kg_Smc, kg_Sob, kg_Srf, kg_Sld, kg_pad, List.map_cons, List.map_nil, List.length_cons, List.length_nil, List.replicate, List.cons_append, List.nil_append, List.append_nil, Nat.reduceAdd, Nat.reduceSub, Nat.reduceMul, Nat.reduceMod, Nat.reduceDiv, Nat.reduceLT, Nat.reduceLeDiff, Nat.reduceEqDiff, ne_eq, not_true_eq_false, not_false_eq_true, reduceIte, true_and, and_true, kg_lk102, kg_ls102]
    exact hK _ _ _ (by simp only [kf_rd, ei]) hD (fun _ _ => rfl)
  | some n =>
    obtain ⟨hn, rfl⟩ := kf_ix_s (by omega) ei
    refine kc93 hL (by omega) hn ?_
    simp (disch := omega) only [↓kb_0t, ↓kb_0f, ↓kb_1t, ↓kb_1f, ↓kb_2t, ↓kb_2f, ↓kb_3t, ↓kb_3f, ↓kb_4t, ↓kb_4f, ↓kb_5t, ↓kb_5f, ↓kg_S1, kg_S2, kg_br_T, kg_br_F, kg_br_N, kg_br_t, kg_br_f, ↓kg_at_n, nI_add, pk_mul, kg_sub_n, kg_rem_n, kg_eq_n, kg_lt_n, kg_le_n, kg_nz, kg_01_0, kg_01_1, kg_w0_1, kg_ret0, kg_ret1, kg_ret2, kg_wr_n, kg_wr_s, kg_Skd, kg_Smc, kg_Sob, kg_Srf, kg_Sld, kg_pad, List.map_cons, List.map_nil, List.length_cons, List.length_nil, List.replicate, List.cons_append, List.nil_append, List.append_nil, Nat.reduceAdd, Nat.reduceSub, Nat.reduceMul, Nat.reduceMod, Nat.reduceDiv, Nat.reduceLT, Nat.reduceLeDiff, Nat.reduceEqDiff, ne_eq, not_true_eq_false, not_false_eq_true, reduceIte, true_and, and_true, kg_lk102, kg_ls102]
    cases ek : kf_ix 8 k with
    | none =>
      refine kc96b hL (by omega) (kf_ix_n (by omega) ek) ?_
      simp (disch := omega) only [↓kb_0t, ↓kb_0f, ↓kb_1t, ↓kb_1f, ↓kb_2t, ↓kb_2f, ↓kb_3t, ↓kb_3f, ↓kb_4t, ↓kb_4f, ↓kb_5t, ↓kb_5f, ↓kg_S1, kg_S2, kg_br_T, kg_br_F, kg_br_N, kg_br_t, kg_br_f, ↓kg_at_n, nI_add, pk_mul, kg_sub_n, kg_rem_n, kg_eq_n, kg_lt_n, kg_le_n, kg_nz, kg_01_0, kg_01_1, kg_w0_1, kg_ret0, kg_ret1, kg_ret2, kg_wr_n, kg_wr_s, kg_Skd, kg_Smc, kg_Sob, kg_Srf, kg_Sld, kg_pad, List.map_cons, List.map_nil, List.length_cons, List.length_nil, List.replicate, List.cons_append, List.nil_append, List.append_nil, Nat.reduceAdd, Nat.reduceSub, Nat.reduceMul, Nat.reduceMod, Nat.reduceDiv, Nat.reduceLT, Nat.reduceLeDiff, Nat.reduceEqDiff, ne_eq, not_true_eq_false, not_false_eq_true, reduceIte, true_and, and_true, kg_lk102, kg_ls102]
      exact hK _ _ _ (by simp only [kf_rd, ei, ek]) hD (fun _ _ => rfl)
    | some k =>
      obtain ⟨hk, rfl⟩ := kf_ix_s (by omega) ek
      have hup := hJ.1.1.2.2.2.2.2.2.2.1
      have n01 : ¬ nI 1 = nI 0 := by decide
      have em : kg_row M 125 A.1 = M := by rw [← hr]; exact kw_i _ _
      simp only [kf_rd, ei, ek] at hK
      refine kc96 hL (by omega) hk ?_
      rcases hup n hn with e | e
      · rw [if_pos e] at hK
        simp (disch := omega) only [↓kb_0t, ↓kb_0f, ↓kb_1t, ↓kb_1f, ↓kb_2t, ↓kb_2f, ↓kb_3t, ↓kb_3f, ↓kb_4t, ↓kb_4f, ↓kb_5t, ↓kb_5f, ↓kg_S1, kg_S2, kg_br_T, kg_br_F, kg_br_N, kg_br_t, kg_br_f, ↓kg_at_n, nI_add, pk_mul, kg_sub_n, kg_rem_n, kg_eq_n, kg_lt_n, kg_le_n, kg_nz, kg_01_0, kg_01_1, kg_w0_1, kg_ret0, kg_ret1, kg_ret2, kg_wr_n, kg_wr_s, kg_Skd, kg_Smc, kg_Sob, kg_Srf, kg_Sld, kg_pad, List.map_cons, List.map_nil, List.length_cons, List.length_nil, List.replicate, List.cons_append, List.nil_append, List.append_nil, Nat.reduceAdd, Nat.reduceSub, Nat.reduceMul, Nat.reduceMod, Nat.reduceDiv, Nat.reduceLT, Nat.reduceLeDiff, Nat.reduceEqDiff, ne_eq, not_true_eq_false, not_false_eq_true, reduceIte, true_and, and_true, kg_lk102, kg_ls102, hr, e]
        exact hK _ _ _ rfl hD (fun _ _ => rfl)
      rw [e, if_neg n01] at hK
      obtain ⟨m, hm1, hm4, e3⟩ := hJ.1.1.2.2.2.1
      have em3 : kf_m2 A.1 3 = m := kf_m2_n (by omega) e3
      have hun : kf_u A.1 n = true := by unfold kf_u; rw [e]; rfl
      have h0 := kf_rl_0 hn hm1 hun
      have hl : kf_rdl A n = kf_rl A.1 n m 4 := by unfold kf_rdl; rw [em3]
      have hmem : n ∈ kf_rdl A n := by rw [hl]; exact List.mem_of_getElem? h0
      have hlt : ∀ a ∈ kf_rdl A n, a < 4 := by rw [hl]; exact kf_rl_lt _ n m 4
      have h1 : (kf_rdl A n).take 1 = [n] := by
        rw [← hl] at h0
        have := List.take_add_one (l := kf_rdl A n) (i := 0)
        rw [h0] at this
        simpa using this
      have hlen : 1 ≤ (kf_rdl A n).length := List.length_pos_of_mem hmem
      have hs : kf_rds A n k < 4 := kf_nw_lt hlt hn
      have edf : kf_df A.1 (kf_rds A n k) k (kf_rdl A n) = kf_df A.1 n k (kf_rdl A n) := kf_df_e hmem
      have f1 : [n].foldl (kf_nw A.1 k) n = n := by
        rw [List.foldl_cons, List.foldl_nil]; unfold kf_nw; split <;> rfl
      have f2 : kf_df A.1 n k [n] = false := by unfold kf_df; simp
      have b0 : kf_b false = nI 0 := rfl
      have b1 : kf_b true = nI 1 := rfl
      have main : ∀ x5 x6 : Option Value, kg_P G d 102 7 129 129 K 149 [some (.ref 124), some (.int (nI n)), some (.int (nI k)), some (.int (nI ((kf_rdl A n).foldl (kf_nw A.1 k) n))), some (.int (kf_b (kf_df A.1 n k (kf_rdl A n)))), x5, x6] [] (kg_w0 h) (kg_row M 125 A.1) := by
        intro x5 x6
        change kg_P G d 102 7 129 129 K 149 [some (.ref 124), some (.int (nI n)), some (.int (nI k)), some (.int (nI (kf_rds A n k))), some (.int (kf_b (kf_df A.1 n k (kf_rdl A n)))), x5, x6] [] (kg_w0 h) (kg_row M 125 A.1)
        cases hc : kf_rdc A n k with
        | false =>
          have er : kf_rdr A n k = A.1 := by unfold kf_rdr; rw [hc]; rfl
          rw [er, hc] at hK
          simp only [Bool.false_eq_true, reduceIte] at hK
          have t := kc102_t (M := M) (K := K) (h := h) (r := A.1) (n := n) (x4 := 0) (y4 := some (.int (kf_b (kf_df A.1 n k (kf_rdl A n))))) (x5 := x5) (x6 := x6) (d := d) hL hs hk (by omega) (by rw [em]; exact hK _ _ _ rfl hD (fun _ _ => rfl))
          unfold kf_rdc at hc
          rw [edf] at hc
          cases e5 : kf_df A.1 n k (kf_rdl A n) with
          | false =>
            rw [e5, b0] at t
            rw [b0]
            refine kg_v102 hL (by omega) 1 ?_
            simp (disch := omega) only [↓kb_0t, ↓kb_0f, ↓kb_1t, ↓kb_1f, ↓kb_2t, ↓kb_2f, ↓kb_3t, ↓kb_3f, ↓kb_4t, ↓kb_4f, ↓kb_5t, ↓kb_5f, ↓kg_S1, kg_S2, kg_br_T, kg_br_F, kg_br_N, kg_br_t, kg_br_f, ↓kg_at_n, nI_add, pk_mul, kg_sub_n, kg_rem_n, kg_eq_n, kg_lt_n, kg_le_n, kg_nz, kg_01_0, kg_01_1, kg_w0_1, kg_ret0, kg_ret1, kg_ret2, kg_wr_n, kg_Skd, kg_Smc, kg_Sob, kg_Srf, kg_Sld, kg_pad, List.map_cons, List.map_nil, List.length_cons, List.length_nil, List.replicate, List.cons_append, List.nil_append, List.append_nil, Nat.reduceAdd, Nat.reduceSub, Nat.reduceMul, Nat.reduceMod, Nat.reduceDiv, Nat.reduceLT, Nat.reduceLeDiff, Nat.reduceEqDiff, ne_eq, not_true_eq_false, not_false_eq_true, reduceIte, true_and, and_true, kw_n, kw_s, kw_w, kw_o, kw_ws, kw_wn, ku_s, ku_n, kg_lk102, kg_ls102]
            exact t
          | true =>
            rw [e5, b1] at t
            rw [e5, Bool.and_true] at hc
            have q6 : ¬ A.1 6 = nI 1 := of_decide_eq_false hc
            rcases hJ.1.1.2.2.2.2.2.2.1 with e6 | e6
            · rw [b1]
              refine kg_v102 hL (by omega) 7 ?_
              simp (disch := omega) only [↓kb_0t, ↓kb_0f, ↓kb_1t, ↓kb_1f, ↓kb_2t, ↓kb_2f, ↓kb_3t, ↓kb_3f, ↓kb_4t, ↓kb_4f, ↓kb_5t, ↓kb_5f, ↓kg_S1, kg_S2, kg_br_T, kg_br_F, kg_br_N, kg_br_t, kg_br_f, ↓kg_at_n, nI_add, pk_mul, kg_sub_n, kg_rem_n, kg_eq_n, kg_lt_n, kg_le_n, kg_nz, kg_01_0, kg_01_1, kg_w0_1, kg_ret0, kg_ret1, kg_ret2, kg_wr_n, kg_Skd, kg_Smc, kg_Sob, kg_Srf, kg_Sld, kg_pad, List.map_cons, List.map_nil, List.length_cons, List.length_nil, List.replicate, List.cons_append, List.nil_append, List.append_nil, Nat.reduceAdd, Nat.reduceSub, Nat.reduceMul, Nat.reduceMod, Nat.reduceDiv, Nat.reduceLT, Nat.reduceLeDiff, Nat.reduceEqDiff, ne_eq, not_true_eq_false, not_false_eq_true, reduceIte, true_and, and_true, kw_n, kw_s, kw_w, kw_o, kw_ws, kw_wn, ku_s, ku_n, kg_lk102, kg_ls102, e6]
              exact t
            · exact absurd e6 q6
        | true =>
          have er : kf_rdr A n k = (kf_rdl A n).foldl (kf_m1 (kf_rds A n k) k) A.1 := by unfold kf_rdr; rw [hc]; rfl
          rw [er, hc] at hK
          simp only [reduceIte] at hK
          unfold kf_rdc at hc
          rw [edf] at hc
          obtain ⟨c6, c5⟩ := Bool.and_eq_true_iff.mp hc
          have e6 := of_decide_eq_true c6
          rw [c5, b1]
          refine kg_v102 hL (by omega) 20 ?_
          simp (disch := omega) only [↓kb_0t, ↓kb_0f, ↓kb_1t, ↓kb_1f, ↓kb_2t, ↓kb_2f, ↓kb_3t, ↓kb_3f, ↓kb_4t, ↓kb_4f, ↓kb_5t, ↓kb_5f, ↓kg_S1, kg_S2, kg_br_T, kg_br_F, kg_br_N, kg_br_t, kg_br_f, ↓kg_at_n, nI_add, pk_mul, kg_sub_n, kg_rem_n, kg_eq_n, kg_lt_n, kg_le_n, kg_nz, kg_01_0, kg_01_1, kg_w0_1, kg_ret0, kg_ret1, kg_ret2, kg_wr_n, kg_Skd, kg_Smc, kg_Sob, kg_Srf, kg_Sld, kg_pad, List.map_cons, List.map_nil, List.length_cons, List.length_nil, List.replicate, List.cons_append, List.nil_append, List.append_nil, Nat.reduceAdd, Nat.reduceSub, Nat.reduceMul, Nat.reduceMod, Nat.reduceDiv, Nat.reduceLT, Nat.reduceLeDiff, Nat.reduceEqDiff, ne_eq, not_true_eq_false, not_false_eq_true, reduceIte, true_and, and_true, kw_n, kw_s, kw_w, kw_o, kw_ws, kw_wn, ku_s, ku_n, kg_lk102, kg_ls102, e6]
          rw [em]
          refine kc91r hL hD hr (by omega) ?_
          intro M1 a1 a2 a3
          simp (disch := omega) only [↓kb_0t, ↓kb_0f, ↓kb_1t, ↓kb_1f, ↓kb_2t, ↓kb_2f, ↓kb_3t, ↓kb_3f, ↓kb_4t, ↓kb_4f, ↓kb_5t, ↓kb_5f, ↓kg_S1, kg_S2, kg_br_T, kg_br_F, kg_br_N, kg_br_t, kg_br_f, ↓kg_at_n, nI_add, pk_mul, kg_sub_n, kg_rem_n, kg_eq_n, kg_lt_n, kg_le_n, kg_nz, kg_01_0, kg_01_1, kg_w0_1, kg_ret0, kg_ret1, kg_ret2, kg_wr_n, kg_Skd, kg_Smc, kg_Sob, kg_Srf, kg_Sld, kg_pad, List.map_cons, List.map_nil, List.length_cons, List.length_nil, List.replicate, List.cons_append, List.nil_append, List.append_nil, Nat.reduceAdd, Nat.reduceSub, Nat.reduceMul, Nat.reduceMod, Nat.reduceDiv, Nat.reduceLT, Nat.reduceLeDiff, Nat.reduceEqDiff, ne_eq, not_true_eq_false, not_false_eq_true, reduceIte, true_and, and_true, kw_n, kw_s, kw_w, kw_o, kw_ws, kw_wn, ku_s, ku_n, kg_lk102, kg_ls102]
          exact kc102_2 hL hl hn hk hs hm4 e3 hup hJ.1.2 (fun a ha => (kf_nw_mx (r := A.1) (k := k) (kf_rdl A n) n).2 a ha) (by omega) (hK _ _ _ rfl (a2 _) (kf_DK a3)) _ 0 _ (Nat.zero_add _)
      have l1 := kc102_1 (M := M) (K := K) (h := h) (d := d) hL hl hn hk hm4 e3 hup (by omega) main ((kf_rdl A n).length - 1) 1
      rw [h1, f1, f2, b0, em] at l1
      simp (disch := omega) only [↓kb_0t, ↓kb_0f, ↓kb_1t, ↓kb_1f, ↓kb_2t, ↓kb_2f, ↓kb_3t, ↓kb_3f, ↓kb_4t, ↓kb_4f, ↓kb_5t, ↓kb_5f, ↓kg_S1, kg_S2, kg_br_T, kg_br_F, kg_br_N, kg_br_t, kg_br_f, ↓kg_at_n, nI_add, pk_mul, kg_sub_n, kg_rem_n, kg_eq_n, kg_lt_n, kg_le_n, kg_nz, kg_01_0, kg_01_1, kg_w0_1, kg_ret0, kg_ret1, kg_ret2, kg_wr_n, kg_wr_s, kg_Skd, kg_Smc, kg_Sob, kg_Srf, kg_Sld, kg_pad, List.map_cons, List.map_nil, List.length_cons, List.length_nil, List.replicate, List.cons_append, List.nil_append, List.append_nil, Nat.reduceAdd, Nat.reduceSub, Nat.reduceMul, Nat.reduceMod, Nat.reduceDiv, Nat.reduceLT, Nat.reduceLeDiff, Nat.reduceEqDiff, ne_eq, not_true_eq_false, not_false_eq_true, reduceIte, true_and, and_true, kg_lk102, kg_ls102, hr, e]
      exact l1 _ (by omega)
end
