/-! THE ABSTRACT MACHINE: places instead of addresses; a memory of ints, a table of refs -/
abbrev kg_M : Type := Nat → Nat → Int32
abbrev kg_Rf : Type := Nat → Nat → Nat
abbrev kg_W : Type := Nat × kg_Rf
def kg_sb (r : Nat) : Nat × Nat := match r with
  | 0 => (4, 4) | 1 => (0, 5) | 2 => (1, 4) | 3 => (4, 1) | 4 => (0, 40) | 5 => (0, 40) | 6 => (0, 40) | 7 => (0, 40) | 8 => (0, 16) | 9 => (4, 2) | 10 => (0, 10) | 11 => (0, 10) | 12 => (0, 10) | 13 => (4, 0) | 14 => (0, 4) | 15 => (0, 10) | 16 => (0, 10) | 17 => (0, 10) | 18 => (0, 10) | _ => (0, 4)
def kg_kd (p : Nat) : Nat × Nat := if p = 0 then (4, 5) else if p ≤ 20 then kg_sb (p - 1) else if p = 21 then (3, 4) else if p ≤ 121 then kg_sb ((p - 22) % 20) else match p with
  | 122 => (4, 3) | 123 => (2, 60) | 124 => (0, 8) | _ => (5, 0)
def kg_nf (c : Nat) : Nat := match c with | 0 => 7 | 1 => 4 | 2 => 4 | 3 => 2 | 4 => 10 | _ => 6
/-- is the k-th field of class c a ref -/
def kg_fr (c k : Nat) : Bool := match c with
  | 0 => decide (2 ≤ k) | 1 => true | 2 => decide (1 ≤ k) | 3 => decide (k = 0) | 4 => decide (2 ≤ k ∧ k ≤ 8) | _ => decide (k ≠ 2 ∧ k ≠ 4)
def kg_ro (b r : Nat) : Option Nat := if r = 0 then none else some (b + r)
def kg_fs (b : Nat) (w : kg_W) (M : kg_M) (p c : Nat) : List Value := (List.range (kg_nf c)).map (fun k => if kg_fr c k = true then va_rf (kg_ro b (w.2 p k)) else .int (M p k))
def kg_ce (b : Nat) (cA : Nat → ClassId) (w : kg_W) (M : kg_M) (p : Nat) : va_E :=
  if (kg_kd p).1 = 3 then .inl (cA 3, (kg_kd p).2, .inr (.inr (.inr (.inr (fun i => kg_ro b (w.2 p i))))))
  else if (kg_kd p).1 = 4 then .inr ((kg_kd p).2, kg_fs b w M p (kg_kd p).2)
  else .inl (cA (kg_kd p).1, (kg_kd p).2, .inl (M p))
def kg_wl (b : Nat) (cA : Nat → ClassId) (w : kg_W) (M : kg_M) : va_W := (List.range w.1).map (fun p => (b + p, kg_ce b cA w M p))
/-- the launch, the first address, the classes, the array classes, the statics' and the script's addresses, the script -/
abbrev kg_G : Type := Launch × Nat × va_G × (Nat → ClassId) × (Nat → Nat) × Nat × (Nat → Int32)
abbrev kg_b (G : kg_G) : Nat := G.2.1
abbrev kg_A (G : kg_G) : Nat → Prop := fun q => kg_b G ≤ q
def kg_cv (G : kg_G) (v : Value) : Value := match v with
  | .int x => .int x
  | .ref p => .ref (if p < 1000 then kg_b G + p else G.2.2.2.2.1 (p - 1000))
  | _ => .null
theorem kg_cat (G : kg_G) (v : Value) : (kg_cv G v).category = 1 := by cases v <;> rfl
theorem kg_cvref (G : kg_G) {p : Nat} (h : p < 1000) : kg_cv G (.ref p) = .ref (kg_b G + p) := by simp [kg_cv, h]
def kg_lg {α : Type} : List (Option α) → Nat → Option α
  | [], _ => none
  | x :: _, 0 => x
  | _ :: l, n + 1 => kg_lg l n
def kg_ls {α : Type} : List (Option α) → Nat → α → List (Option α)
  | [], _, _ => []
  | _ :: l, 0, v => some v :: l
  | x :: l, n + 1, v => x :: kg_ls l n v
theorem kg_lg_ls {α : Type} : ∀ (l : List (Option α)) (i j : Nat) (v w : α), kg_lg (kg_ls l i v) j = some w → (j = i ∧ w = v) ∨ (j ≠ i ∧ kg_lg l j = some w)
  | [], i, j, v, w, h => by simp [kg_ls, kg_lg] at h
  | x :: l, 0, 0, v, w, h => by simp [kg_ls, kg_lg] at h; exact Or.inl ⟨rfl, h.symm⟩
  | x :: l, 0, j + 1, v, w, h => by simp [kg_ls, kg_lg] at h; exact Or.inr ⟨by omega, h⟩
  | x :: l, i + 1, 0, v, w, h => by simp [kg_ls, kg_lg] at h; exact Or.inr ⟨by omega, h⟩
  | x :: l, i + 1, j + 1, v, w, h => by
    have h1 := kg_lg_ls l i j v w h
    rcases h1 with ⟨a, b⟩ | ⟨a, b⟩
    · exact Or.inl ⟨by omega, b⟩
    · exact Or.inr ⟨by omega, b⟩
def kg_cl (G : kg_G) (n : Nat) (ls : List (Option Value)) : List (Nat × Value) := (List.range n).filterMap (fun i => (kg_lg ls i).map (fun v => (i, kg_cv G v)))
theorem kg_cl_in {G : kg_G} {n i : Nat} {ls : List (Option Value)} {v : Value} (hi : i < n) (h : kg_lg ls i = some v) : (i, kg_cv G v) ∈ kg_cl G n ls :=
  List.mem_filterMap.mpr ⟨i, List.mem_range.mpr hi, by rw [h]; rfl⟩
theorem kg_cl_of {G : kg_G} {n : Nat} {ls : List (Option Value)} {q : Nat × Value} (h : q ∈ kg_cl G n ls) : ∃ v, q.1 < n ∧ kg_lg ls q.1 = some v ∧ q.2 = kg_cv G v := by
  obtain ⟨i, hi, h⟩ := List.mem_filterMap.mp h
  cases hv : kg_lg ls i with
  | none => rw [hv] at h; cases h
  | some v =>
    rw [hv] at h
    cases h
    exact ⟨v, List.mem_range.mp hi, hv, rfl⟩
theorem kg_l_rd {G : kg_G} {A : Array Slot} {n i : Nat} {ls : List (Option Value)} {v : Value} (h : lv_has A n (kg_cl G n ls)) (hi : i < n) (hv : kg_lg ls i = some v) : A[i]? = some (.val (kg_cv G v)) := h.2.2 _ (kg_cl_in hi hv)
theorem kg_l_wr {G : kg_G} {A : Array Slot} {n i : Nat} {ls : List (Option Value)} {v : Value} (h : lv_has A n ((i, kg_cv G v) :: (kg_cl G n ls).filter (fun q => !(q.1 == i) && !(q.1 + 1 == i && q.2.category == 2)))) : lv_has A n (kg_cl G n (kg_ls ls i v)) := by
  refine ⟨h.1, h.2.1, fun q hq => ?_⟩
  obtain ⟨v2, h1, h2, h3⟩ := kg_cl_of hq
  obtain ⟨j, qv⟩ := q
  dsimp only at h1 h2 h3
  subst h3
  rcases kg_lg_ls _ _ _ _ _ h2 with ⟨a, e⟩ | ⟨a, e⟩
  · subst a; subst e
    exact h.2.2 (_, kg_cv G v2) List.mem_cons_self
  · refine h.2.2 (j, kg_cv G v2) (List.mem_cons_of_mem _ (List.mem_filter.mpr ⟨kg_cl_in h1 e, ?_⟩))
    simp [a, kg_cat]
/-- slots that the places below n take -/
def kg_zs (p : Nat) : Nat := if (kg_kd p).1 = 4 then kg_nf (kg_kd p).2 else (kg_kd p).2
def kg_sz : Nat → Nat
  | 0 => 0
  | n + 1 => kg_sz n + kg_zs n
theorem kg_sz_mono {a b : Nat} (h : a ≤ b) : kg_sz a ≤ kg_sz b := by
  induction h with
  | refl => exact Nat.le_refl _
  | step _ ih => exact Nat.le_trans ih (Nat.le_add_right _ _)
def kg_tys (cA : Nat → ClassId) : List (ClassId × FieldType) := [(cA 0, .int), (cA 1, .boolean), (cA 2, .char), (cA 3, .object "KeyGraves$State")]
def kg_nest : List (String × Nat × MethodName) := [("KeyGraves$State", 28, yX1_init), ("KeyGraves$State", 38, yX2_init), ("KeyGraves$State", 45, yX0_init), ("KeyGraves", 33, yX3_init), ("KeyGraves$State", 75, yX5_place), ("KeyGraves$State", 110, yX5_pairPlace)]
/-- what is true of every state's tables -/
def kg_Inv (G : kg_G) (U : State) : Prop := va_K G.2.2.1 vwCl (kg_tys G.2.2.2.1) U ∧ (∀ q ∈ kg_nest, va_Nw (.methodLinkNest q.1 q.2.1 q.2.2 "KeyGraves") U) ∧ va_Nw (.fieldLinkNest "KeyGraves$State" 56 "KeyGraves" "FIRST_SETTINGS" "[I" "KeyGraves") U ∧ va_AO "KeyGraves$State" U
theorem kg_Inv.moved {G : kg_G} {s U : State} (hW : s.WarmedH U.vm) (h : kg_Inv G s) : kg_Inv G U :=
  ⟨va_K.moved hW.alike h.1, fun q hq => va_Nw.warmM hW (h.2.1 q hq), va_Nw.warmF hW h.2.2.1, va_AO.moved hW.alike h.2.2.2⟩
theorem kg_Inv.same {G : kg_G} {s U : State} (hv : s.vm = U.vm) (h : kg_Inv G s) : kg_Inv G U :=
  ⟨va_K.moved (by rw [hv]; exact Vm.Alike.refl _) h.1, fun q hq => va_Nw.same rfl hv (h.2.1 q hq), va_Nw.same rfl hv h.2.2.1, va_AO.moved (by rw [hv]; exact Vm.Alike.refl _) h.2.2.2⟩
def kg_sv (p j : Nat) : Int32 := match p with
  | 1001 => (match j with | 0 => 1 | 1 => 1 | 2 => 1 | _ => 0)
  | 1002 => (match j with | 0 => 4 | 1 => 4 | 2 => 500 | _ => 1)
  | _ => (match j with | 0 => 2 | 1 => 2 | 2 => 50 | 3 => 0 | _ => 1)
def kg_sn (p : Nat) : String := match p with | 1001 => "LEAST_SETTINGS" | 1002 => "GREATEST_SETTINGS" | _ => "FIRST_SETTINGS"
/-- the statics and the script, in a heap that agrees with the start below the first address -/
def kg_St (G : kg_G) (U : State) (H : Heap) : Prop :=
  (∀ p, p ∈ [1001, 1002, 1003] → va_Z "KeyGraves" (kg_sn p) "[I" (.ref (G.2.2.2.2.1 (p - 1000))) (kg_A G) U H ∧ va_T .int (G.2.2.2.2.1 (p - 1000)) 5 (fun j => .int (kg_sv p j)) (kg_A G) U H)
  ∧ va_X (G.2.2.2.2.1 0) G.2.2.2.2.2.1 G.2.2.2.2.2.2 U H ∧ G.2.2.2.2.1 0 < kg_b G
theorem kg_St.moved {G : kg_G} {s U : State} {H : Heap} (hW : s.vm.Alike U.vm) (h : kg_St G s H) : kg_St G U H :=
  ⟨fun p hp => ⟨va_Z.moved hW (h.1 p hp).1, va_T.moved hW (h.1 p hp).2⟩, va_X.moved hW h.2.1, h.2.2⟩
theorem kg_St.kept {G : kg_G} {U : State} {H H1 : Heap} (hb : kg_b G ≤ H.size) (hq : ∀ a : Nat, a < H.size → ¬ kg_A G a → H1[a]? = H[a]?) (h : kg_St G U H) : kg_St G U H1 :=
  ⟨fun p hp => ⟨va_Z.kept (h.1 p hp).1 hq, va_T.kept (h.1 p hp).2 hq⟩, va_X.kept h.2.1 (hq _ (Nat.lt_of_lt_of_le h.2.2 hb) (Nat.not_le.mpr h.2.2)), h.2.2⟩
def kg_WH (G : kg_G) (w : kg_W) (M : kg_M) (H : Heap) : Prop := (w.1 < 125 → H.size = kg_b G + w.1) ∧ va_P G.2.2.1 vwCl (kg_wl (kg_b G) G.2.2.2.1 w M) H
theorem kg_wl_at {b : Nat} {cA : Nat → ClassId} {w : kg_W} {M : kg_M} {p : Nat} (h : p < w.1) : (kg_wl b cA w M)[p]? = some (b + p, kg_ce b cA w M p) := by
  simp [kg_wl, h]
theorem kg_wl_of {b : Nat} {cA : Nat → ClassId} {w : kg_W} {M : kg_M} {p : Nat} {q : Nat × va_E} (h : (kg_wl b cA w M)[p]? = some q) : p < w.1 ∧ q = (b + p, kg_ce b cA w M p) := by
  by_cases hp : p < w.1
  · rw [kg_wl_at hp] at h
    exact ⟨hp, (Option.some.inj h).symm⟩
  · simp [kg_wl, hp] at h
theorem kg_dis (G : kg_G) (w : kg_W) (M : kg_M) : va_D (kg_A G) (kg_wl (kg_b G) G.2.2.2.1 w M) := by
  refine ⟨fun i j p q hi hj hpq => ?_, fun k q hk => ?_⟩
  · rw [(kg_wl_of hi).2, (kg_wl_of hj).2] at hpq
    dsimp only at hpq
    omega
  · rw [(kg_wl_of hk).2]
    exact Nat.le_add_right _ _
theorem kg_wl_set {b : Nat} {cA : Nat → ClassId} {w w' : kg_W} {M M' : kg_M} {p : Nat} {e : va_E} (hw : w'.1 = w.1) (he : e = kg_ce b cA w' M' p) (ho : ∀ q, q ≠ p → kg_ce b cA w' M' q = kg_ce b cA w M q) : (kg_wl b cA w M).set p (b + p, e) = kg_wl b cA w' M' := by
  apply List.ext_getElem?
  intro i
  rw [List.getElem?_set]
  by_cases h : p = i
  · subst h
    rw [if_pos rfl]
    by_cases hp : p < w.1
    · rw [kg_wl_at (by omega), he, if_pos (by simp [kg_wl, hp])]
    · simp [kg_wl, hp, hw]
  · rw [if_neg h]
    by_cases hp : i < w.1
    · rw [kg_wl_at hp, kg_wl_at (by omega), ho i (Ne.symm h)]
    · simp [kg_wl, hp, hw]
def kg_wr (M : kg_M) (p j : Nat) (v : Int32) : kg_M := fun q => if q = p then (fun i => if i = j then v else M p i) else M q
def kg_wrr (w : kg_W) (p j r : Nat) : kg_W := (w.1, fun q => if q = p then (fun i => if i = j then r else w.2 p i) else w.2 q)
theorem kg_wr_ne {M : kg_M} {p j q : Nat} {v : Int32} (h : q ≠ p) : kg_wr M p j v q = M q := by simp [kg_wr, h]
theorem kg_wr_eq (M : kg_M) (p j : Nat) (v : Int32) : kg_wr M p j v p j = v := by simp [kg_wr]
theorem kg_wr_nj {M : kg_M} {p j i : Nat} {v : Int32} (h : i ≠ j) : kg_wr M p j v p i = M p i := by simp [kg_wr, h]
theorem kg_ce_same {b : Nat} {cA : Nat → ClassId} {w w' : kg_W} {M M' : kg_M} {p : Nat} (hM : M' p = M p) (hR : w'.2 p = w.2 p) : kg_ce b cA w' M' p = kg_ce b cA w M p := by
  simp only [kg_ce, kg_fs, hM, hR]
theorem kg_WH_put {G : kg_G} {w w' : kg_W} {M M' : kg_M} {H H1 : Heap} {p : Nat} (hH : kg_WH G w M H) (hw : w'.1 = w.1) (hp : p < w.1) (z : H1.size = H.size) (oq : ∀ q : Nat, q ≠ kg_b G + p → H1[q]? = H[q]?) (he : va_at G.2.2.1 vwCl (kg_b G + p, kg_ce (kg_b G) G.2.2.2.1 w' M' p) H1) (ho : ∀ q, q ≠ p → kg_ce (kg_b G) G.2.2.2.1 w' M' q = kg_ce (kg_b G) G.2.2.2.1 w M q) : kg_WH G w' M' H1 := by
  refine ⟨fun h => by rw [z, hw]; exact hH.1 (by omega), ?_⟩
  have h1 := hH.2.set (kg_dis G w M) (kg_wl_at hp) he oq
  rw [kg_wl_set hw rfl ho] at h1
  exact h1
theorem kg_fs_at {b : Nat} {w : kg_W} {M : kg_M} {p c k : Nat} (hk : k < kg_nf c) : (kg_fs b w M p c)[k]? = some (if kg_fr c k = true then va_rf (kg_ro b (w.2 p k)) else .int (M p k)) := by
  simp [kg_fs, hk]
theorem kg_fs_len {b : Nat} {w : kg_W} {M : kg_M} {p c : Nat} : (kg_fs b w M p c).length = kg_nf c := by simp [kg_fs]
theorem kg_fs_seti {b : Nat} {w : kg_W} {M : kg_M} {p c k : Nat} {x : Int32} (hf : kg_fr c k = false) : (kg_fs b w M p c).set k (.int x) = kg_fs b w (kg_wr M p k x) p c := by
  apply List.ext_getElem?
  intro i
  by_cases h : i < kg_nf c
  · by_cases hi : k = i
    · subst hi
      rw [List.getElem?_set_self (by rw [kg_fs_len]; exact h), kg_fs_at h]
      simp [hf, kg_wr]
    · rw [List.getElem?_set_ne hi, kg_fs_at h, kg_fs_at h, kg_wr_nj (Ne.symm hi)]
  · rw [List.getElem?_eq_none (by rw [List.length_set, kg_fs_len]; omega), List.getElem?_eq_none (by rw [kg_fs_len]; omega)]
theorem kg_fs_setr {b : Nat} {w : kg_W} {M : kg_M} {p c k r : Nat} (hf : kg_fr c k = true) : (kg_fs b w M p c).set k (va_rf (kg_ro b r)) = kg_fs b (kg_wrr w p k r) M p c := by
  apply List.ext_getElem?
  intro i
  by_cases h : i < kg_nf c
  · by_cases hi : k = i
    · subst hi
      rw [List.getElem?_set_self (by rw [kg_fs_len]; exact h), kg_fs_at h]
      simp [hf, kg_wrr]
    · rw [List.getElem?_set_ne hi, kg_fs_at h, kg_fs_at h]
      simp [kg_wrr, Ne.symm hi]
  · rw [List.getElem?_eq_none (by rw [List.length_set, kg_fs_len]; omega), List.getElem?_eq_none (by rw [kg_fs_len]; omega)]
theorem kg_ce_o {b : Nat} {cA : Nat → ClassId} {w : kg_W} {M : kg_M} {p c : Nat} (h : kg_kd p = (4, c)) : kg_ce b cA w M p = .inr (c, kg_fs b w M p c) := by simp [kg_ce, h]
theorem kg_ce_i {b : Nat} {cA : Nat → ClassId} {w : kg_W} {M : kg_M} {p t n : Nat} (h : kg_kd p = (t, n)) (ht : t < 3) : kg_ce b cA w M p = .inl (cA t, n, .inl (M p)) := by
  simp only [kg_ce, h]
  rw [if_neg (by omega), if_neg (by omega)]
theorem kg_ce_q {b : Nat} {cA : Nat → ClassId} {w : kg_W} {M : kg_M} {p n : Nat} (h : kg_kd p = (3, n)) : kg_ce b cA w M p = .inl (cA 3, n, .inr (.inr (.inr (.inr (fun i => kg_ro b (w.2 p i)))))) := by simp [kg_ce, h]
theorem kg_wr_upd (M : kg_M) (p j : Nat) (v : Int32) : kg_wr M p j v p = upd (M p) j v := by
  funext i
  simp [kg_wr, upd]
theorem kg_ce_wr {b : Nat} {cA : Nat → ClassId} {w : kg_W} {M : kg_M} {p j q : Nat} {v : Int32} (h : q ≠ p) : kg_ce b cA w (kg_wr M p j v) q = kg_ce b cA w M q := kg_ce_same (kg_wr_ne h) rfl
theorem kg_ce_wrr {b : Nat} {cA : Nat → ClassId} {w : kg_W} {M : kg_M} {p j q r : Nat} (h : q ≠ p) : kg_ce b cA (kg_wrr w p j r) M q = kg_ce b cA w M q := kg_ce_same rfl (by simp [kg_wrr, h])
/-- the classes by number -/
def kg_C (c : Nat) : String := match c with | 0 => RX0 | 1 => RX1 | 2 => RX2 | 3 => RX3 | 4 => RX4 | 5 => RX5 | _ => "KeyGravesLaw"
def kg_F (c : Nat) : u_T := match c with | 0 => TX0 | 1 => TX1 | 2 => TX2 | 3 => TX3 | 4 => TX4 | _ => TX5
def kg_ft (c : Nat) : Nat → FieldType := match c with | 0 => tyX0 | 1 => tyX1 | 2 => tyX2 | 3 => tyX3 | 4 => tyX4 | _ => tyX5
theorem kg_c7 {c : Nat} (h : c < 6) : c = 0 ∨ c = 1 ∨ c = 2 ∨ c = 3 ∨ c = 4 ∨ c = 5 := by omega
theorem kg_F_cl {c : Nat} (h : c < 6) : vwCl[c]? = some (kg_C c, kg_F c, kg_nf c) := by
  rcases kg_c7 h with rfl | rfl | rfl | rfl | rfl | rfl <;> rfl
theorem kg_F_ty {c : Nat} (h : c < 6) : ∀ k, k < kg_nf c → parseFieldDescriptor (kg_F c k).2.2.1 = some (kg_ft c k) := by
  rcases kg_c7 h with rfl | rfl | rfl | rfl | rfl | rfl
  · exact tyX0_ok
  · exact tyX1_ok
  · exact tyX2_ok
  · exact tyX3_ok
  · exact tyX4_ok
  · exact tyX5_ok
theorem kg_F_nm {c : Nat} (h : c < 6) : ∀ a, a < kg_nf c → ∀ b, b < kg_nf c → a ≠ b → (kg_F c a).2.1 ≠ (kg_F c b).2.1 := by
  rcases kg_c7 h with rfl | rfl | rfl | rfl | rfl | rfl
  · exact nmX0
  · exact nmX1
  · exact nmX2
  · exact nmX3
  · exact nmX4
  · exact nmX5
theorem kg_F_in0 {c : Nat} (h : c < 6) : ∀ w ∈ u_ws (kg_C c) (kg_F c) (kg_nf c), w ∈ lw_tbl := by
  rcases kg_c7 h with rfl | rfl | rfl | rfl | rfl | rfl
  · exact kg_in0
  · exact kg_in1
  · exact kg_in2
  · exact kg_in3
  · exact kg_in4
  · exact kg_in5
theorem kg_F_good {c : Nat} (h : c < 6) : (u_ws (kg_C c) (kg_F c) (kg_nf c)).all goodWord = true := by
  rcases kg_c7 h with rfl | rfl | rfl | rfl | rfl | rfl <;> decide +kernel
theorem kg_kd_c {p c : Nat} (h : kg_kd p = (4, c)) : c < 6 := by
  by_cases hp : p < 125
  · have h1 : ∀ p, p < 125 → (kg_kd p).1 = 4 → (kg_kd p).2 < 6 := by decide +kernel
    have h2 := h1 p hp (by rw [h])
    rw [h] at h2
    exact h2
  · unfold kg_kd at h
    rw [if_neg (by omega), if_neg (by omega), if_neg (by omega), if_neg (by omega)] at h
    split at h <;> first | omega | (cases h)
