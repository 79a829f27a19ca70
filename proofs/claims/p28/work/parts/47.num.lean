/-! branches over numbers, rows of the memory (out of the whole's parts 40 and 47) -/
theorem kb_0t {a b : Nat} {A B : Prop} (h : a = b) (ha : a < 2147483648) (hb : b < 2147483648) : kg_br (kg_cmp 0 (nI a) (nI b)) A B = A := by
  refine kg_br_t ?_
  have e : kg_cmp 0 (nI a) (nI b) = (a = b) := (kg_eq_n ha hb)
  rw [e]; omega
theorem kb_0f {a b : Nat} {A B : Prop} (h : a ≠ b) (ha : a < 2147483648) (hb : b < 2147483648) : kg_br (kg_cmp 0 (nI a) (nI b)) A B = B := by
  refine kg_br_f ?_
  have e : kg_cmp 0 (nI a) (nI b) = (a = b) := (kg_eq_n ha hb)
  rw [e]; omega
theorem kb_1t {a b : Nat} {A B : Prop} (h : a ≠ b) (ha : a < 2147483648) (hb : b < 2147483648) : kg_br (kg_cmp 1 (nI a) (nI b)) A B = A := by
  refine kg_br_t ?_
  have e : kg_cmp 1 (nI a) (nI b) = (¬ a = b) := (congrArg Not (kg_eq_n ha hb))
  rw [e]; omega
theorem kb_1f {a b : Nat} {A B : Prop} (h : a = b) (ha : a < 2147483648) (hb : b < 2147483648) : kg_br (kg_cmp 1 (nI a) (nI b)) A B = B := by
  refine kg_br_f ?_
  have e : kg_cmp 1 (nI a) (nI b) = (¬ a = b) := (congrArg Not (kg_eq_n ha hb))
  rw [e]; omega
theorem kb_2t {a b : Nat} {A B : Prop} (h : a < b) (ha : a < 2147483648) (hb : b < 2147483648) : kg_br (kg_cmp 2 (nI a) (nI b)) A B = A := by
  refine kg_br_t ?_
  have e : kg_cmp 2 (nI a) (nI b) = (a < b) := (kg_lt_n ha hb)
  rw [e]; omega
theorem kb_2f {a b : Nat} {A B : Prop} (h : b ≤ a) (ha : a < 2147483648) (hb : b < 2147483648) : kg_br (kg_cmp 2 (nI a) (nI b)) A B = B := by
  refine kg_br_f ?_
  have e : kg_cmp 2 (nI a) (nI b) = (a < b) := (kg_lt_n ha hb)
  rw [e]; omega
theorem kb_3t {a b : Nat} {A B : Prop} (h : b ≤ a) (ha : a < 2147483648) (hb : b < 2147483648) : kg_br (kg_cmp 3 (nI a) (nI b)) A B = A := by
  refine kg_br_t ?_
  have e : kg_cmp 3 (nI a) (nI b) = (b ≤ a) := (kg_le_n hb ha)
  rw [e]; omega
theorem kb_3f {a b : Nat} {A B : Prop} (h : a < b) (ha : a < 2147483648) (hb : b < 2147483648) : kg_br (kg_cmp 3 (nI a) (nI b)) A B = B := by
  refine kg_br_f ?_
  have e : kg_cmp 3 (nI a) (nI b) = (b ≤ a) := (kg_le_n hb ha)
  rw [e]; omega
theorem kb_4t {a b : Nat} {A B : Prop} (h : b < a) (ha : a < 2147483648) (hb : b < 2147483648) : kg_br (kg_cmp 4 (nI a) (nI b)) A B = A := by
  refine kg_br_t ?_
  have e : kg_cmp 4 (nI a) (nI b) = (b < a) := (kg_lt_n hb ha)
  rw [e]; omega
theorem kb_4f {a b : Nat} {A B : Prop} (h : a ≤ b) (ha : a < 2147483648) (hb : b < 2147483648) : kg_br (kg_cmp 4 (nI a) (nI b)) A B = B := by
  refine kg_br_f ?_
  have e : kg_cmp 4 (nI a) (nI b) = (b < a) := (kg_lt_n hb ha)
  rw [e]; omega
theorem kb_5t {a b : Nat} {A B : Prop} (h : a ≤ b) (ha : a < 2147483648) (hb : b < 2147483648) : kg_br (kg_cmp 5 (nI a) (nI b)) A B = A := by
  refine kg_br_t ?_
  have e : kg_cmp 5 (nI a) (nI b) = (a ≤ b) := (kg_le_n ha hb)
  rw [e]; omega
theorem kb_5f {a b : Nat} {A B : Prop} (h : b < a) (ha : a < 2147483648) (hb : b < 2147483648) : kg_br (kg_cmp 5 (nI a) (nI b)) A B = B := by
  refine kg_br_f ?_
  have e : kg_cmp 5 (nI a) (nI b) = (a ≤ b) := (kg_le_n ha hb)
  rw [e]; omega
theorem kw_n {M : kg_M} {p q : Nat} {r : Nat → Int32} (h : q ≠ p) : kg_row M p r q = M q := if_neg h
theorem kw_s (M : kg_M) (p : Nat) (r : Nat → Int32) : kg_row M p r p = r := if_pos rfl
theorem kw_w (M : kg_M) (p j : Nat) (r : Nat → Int32) (v : Int32) : kg_wr (kg_row M p r) p j v = kg_row M p (upd r j v) := by
  funext q
  by_cases e : q = p
  · subst e; funext i; simp [kg_wr, kg_row, upd]
  · simp [kg_wr, kg_row, e]
theorem kw_o {M : kg_M} {p q j : Nat} {r : Nat → Int32} {v : Int32} (h : q ≠ p) : kg_wr (kg_row M p r) q j v = kg_row (kg_wr M q j v) p r := by
  funext z
  by_cases e : z = p
  · subst e; simp [kg_wr, kg_row, Ne.symm h]
  · by_cases e2 : z = q
    · subst e2; simp [kg_wr, kg_row, e]
    · simp [kg_wr, kg_row, e, e2]
theorem kw_i (M : kg_M) (p : Nat) : kg_row M p (M p) = M := by
  funext q
  by_cases e : q = p
  · subst e; exact kw_s _ _ _
  · exact kw_n e
theorem kw_k {M : kg_M} {p j : Nat} {v : Int32} (h : M p j = v) : kg_wr M p j v = M := by
  funext q
  by_cases e : q = p
  · subst e; funext i
    rw [kg_wr_s]
    split
    · rename_i e2; rw [e2, h]
    · rfl
  · exact kg_wr_n e
theorem ku_s (f : Nat → Int32) (i : Nat) (v : Int32) : upd f i v i = v := if_pos rfl
theorem ku_n {f : Nat → Int32} {i j : Nat} {v : Int32} (h : j ≠ i) : upd f i v j = f j := if_neg h
theorem kw_ws {M : kg_M} {p i j : Nat} {v : Int32} (h : i = j) : kg_wr M p j v p i = v := by rw [kg_wr_s, if_pos h]
theorem kw_wn {M : kg_M} {p i j : Nat} {v : Int32} (h : i ≠ j) : kg_wr M p j v p i = M p i := by rw [kg_wr_s, if_neg h]
