/-! THE CLAIM OUT OF ONE WALK OF THE LAW'S BODY. Your part is whole_start (and what it stands on); all else here is the same for every law, but numbers. -/
def R_law : String := "KeyGravesLaw"
def lw_P (b : Addr) (xs : List Int32) (args : Array Value) (s : State) : Prop := args = #[.ref b] ∧ s.IntsAt b xs ∧ xs.length ≤ 260 ∧ (Jvm.Cond.and given_1 narrow_1).before args s = true
def lw_Q (_ : Array Value) (s : State) (o : Outcome) (t : State) : Prop := o = .returned (some (.int 1)) ∧ Framed s o t [] 600000 7302250
def lw_Z (below : List Frame) (a : Array Value) (s : State) : State → Prop := fun t => ∃ o, t.status = .running ∧ Ended t below o ∧ lw_Q a s o t
/-- the law's own end, with 1 on the stack, nothing written that was there before, its room as the claim has it -/
theorem lw_ret {p : Program} {l : Launch} {e : Env} {s : State} {m : MethodId} {below : List Frame} {meth : Method} {c : Code} {b : Nat} (hx : p.tables.exec = Jvm.exec) (hb : c.code = code) (hr : meth.sig.returnType = ret) (hlocks : meth.locks = false) {pc : Nat} {H : Heap} {ls : Array Slot} (hdg : decode code pc = .ok (.ireturn, 1)) : W p l e room_1 s m #[Value.ref b] below meth c H [] 600000 7302250 (lw_Z below #[Value.ref b] s) (F0 m pc ls [.int 1]) := by
  intro T hT X
  obtain ⟨fs, hret, hrun, hended, hW, hframe⟩ := X.leave (v := some (.int 1)) (hlocks := hlocks) (fun h => by rw [hr] at h; cases h)
  have hmeth' : T.vm.method? m = some meth := X.method'
  refine ⟨T.setFrames fs, ?_, .returned (some (.int 1)), hrun, hended, rfl, ⟨_, rfl⟩, hW, hframe⟩
  jvm_step X.here [X.here.top, hx, hb, hdg, hmeth', hr, ret, narrow_b1]
  (try refine ⟨rfl, ?_⟩); (try refine ⟨rfl, ?_⟩)
  first | (intro acts; rw [hret _ acts rfl rfl rfl]) | rw [hret _ _ rfl rfl rfl]
  exact Steps.refl _
/-- what holds at the law's entry: the machine, the code, the tables' words (any of lw_tbl by 'hts w (by decide +kernel)'), the script of L ints xs at the cell b, what the Statement gives of the start (any of its parts by flat_of_before) -/
def lw_At (p : Program) (s : State) (m : MethodId) (meth : Method) (c : Code) (b L : Nat) (xs : Nat → Int32) : Prop :=
  p.tables.exec = Jvm.exec ∧ c.code = code ∧ meth.sig.returnType = ret ∧ c.maxLocals = 12 ∧ s.vm.findClass R_law = some m.cls ∧ (∀ w ∈ lw_tbl, w.before #[Value.ref b] s = true) ∧ va_X b L xs s s.heap ∧ b < s.heap.size ∧ meth.locks = false ∧ (Jvm.Cond.and given_1 narrow_1).before #[Value.ref b] s = true
/-! what the tables and the premises say of the start -/
theorem kl_ins {c : Nat} (h : c < 6) : Cond.instantiable (kg_C c) (kg_nf c) ∈ kg_T := kg_w1_of (List.all_eq_true.mp (show (List.range 6).all (fun c => kg_w1 (.instantiable (kg_C c) (kg_nf c))) = true by decide +kernel) c (List.mem_range.mpr h))
theorem kl_nst : kg_nest.all (fun q => decide (Cond.methodLinkNest q.1 q.2.1 q.2.2 "KeyGraves" ∈ lw_tbl)) = true := by decide +kernel
theorem kl_fln : Cond.fieldLinkNest "KeyGraves$State" 56 "KeyGraves" "FIRST_SETTINGS" "[I" "KeyGraves" ∈ lw_tbl := by decide +kernel
theorem kl_aov : Cond.arrayOver (.object "KeyGraves$State") ∈ lw_tbl := by decide +kernel
theorem kl_lay : ∀ p ∈ [1001, 1002, 1003], Cond.laysStatic "KeyGraves" (kg_sn p) "[I" ∈ lw_tbl := by decide +kernel
theorem kl_inv {s : State} {b : Nat} (hts : ∀ w ∈ lw_tbl, w.before #[Value.ref b] s = true) : ∃ (D : va_G) (cA : Nat → ClassId), ∀ G : kg_G, G.2.2.1 = D → G.2.2.2.1 = cA → kg_Inv G s := by
  have hT : ∀ w ∈ kg_T, w.before #[Value.ref b] s = true := fun w hw => hts w (List.mem_filter.mp hw).1
  have hk : ∀ c, ∃ z : ClassId × (Nat → Nat), c < 6 → u_Kn s (kg_C c) (kg_F c) (kg_nf c) z.1 z.2 := by
    intro c
    by_cases h : c < 6
    · obtain ⟨cC, iS, h1⟩ := u_known hts (kg_F_in0 h) (hT _ (kl_ins h))
      exact ⟨(cC, iS), fun _ => h1⟩
    · obtain ⟨cC, iS, h1⟩ := u_known hts (kg_F_in0 (c := 0) (by omega)) (hT _ (kl_ins (c := 0) (by omega)))
      exact ⟨(cC, iS), fun q => absurd q h⟩
  obtain ⟨f, hf⟩ := Classical.axiomOfChoice hk
  obtain ⟨c0, k0, p0, i1, i2, i3⟩ := Cond.arrayClass_spec (hT _ kg_k_arr.1)
  obtain ⟨c1, k1, p1, j1, j2, j3⟩ := Cond.arrayClass_spec (hT _ kg_k_arr.2.1)
  obtain ⟨c2, k2, p2, l1, l2, l3⟩ := Cond.arrayClass_spec (hT _ kg_k_arr.2.2)
  obtain ⟨p3, c3, k3, m1, -, m2, m3, m4⟩ := Cond.arrayOver_spec (hts _ kl_aov)
  refine ⟨(fun c => (f c).1, fun c => (f c).2), fun t => match t with | 0 => c0 | 1 => c1 | 2 => c2 | _ => c3, ?_⟩
  intro G hD hA
  refine ⟨⟨fun c q hq => ?_, fun k q hq => ?_⟩, fun q hq => ?_, va_Nw.of rfl (hts _ kl_fln), va_AO.of (hts _ kl_aov)⟩
  · rw [hD]
    have hc : c < 6 := (List.getElem?_eq_some_iff.mp hq).1
    rw [kg_F_cl hc] at hq
    cases hq
    exact hf c hc
  · rw [hA] at hq
    have hc : k < 4 := (List.getElem?_eq_some_iff.mp hq).1
    obtain rfl | rfl | rfl | rfl : k = 0 ∨ k = 1 ∨ k = 2 ∨ k = 3 := by omega
    · cases hq
      exact ⟨fun n z => ⟨fun k h => (by cases h), k0, i2, p0, i3⟩, i1⟩
    · cases hq
      exact ⟨fun n z => ⟨fun k h => (by cases h), k1, j2, p1, j3⟩, j1⟩
    · cases hq
      exact ⟨fun n z => ⟨fun k h => (by cases h), k2, l2, p2, l3⟩, l1⟩
    · cases hq
      exact ⟨fun n z => ⟨fun k h => (by cases h), k3, m2, p3, m3⟩, k3, p3, m2, m3, m1, m4⟩
  · have h1 := List.all_eq_true.mp kl_nst q hq
    exact va_Nw.of rfl (hts _ (of_decide_eq_true h1))
def kl_tm (p : Nat) : Term := .static "KeyGraves" (kg_sn p) "[I"

theorem kl_T1001 {s : State} {b : Nat} {A : Nat → Prop} (hgv : (Jvm.Cond.and given_1 narrow_1).before #[Value.ref b] s = true) (hA : ∀ a : Nat, a < s.heap.size → ¬ A a) : ∃ t : Nat, (kl_tm 1001).eval #[Value.ref b] s none [] s = some (.ref t) ∧ va_T .int t 5 (fun j => .int (kg_sv 1001 j)) A s s.heap := by
  have hs := flat_of_before _ hgv
  refine va_Tof (tm := kl_tm 1001) (ty := .int) (N := 5) (by decide) (hs _ (by decide +kernel)) (va_eqt (z := 5) (hs _ (by decide +kernel))) (fun j hj => ?_) hA
  obtain rfl | rfl | rfl | rfl | rfl : j = 0 ∨ j = 1 ∨ j = 2 ∨ j = 3 ∨ j = 4 := by omega
  · exact va_eqt (z := 1) (hs (Cond.eq (.elem (kl_tm 1001) (.int 0)) (.int 1)) (by decide +kernel))
  · exact va_eqt (z := 1) (hs (Cond.eq (.elem (kl_tm 1001) (.int 1)) (.int 1)) (by decide +kernel))
  · exact va_eqt (z := 1) (hs (Cond.eq (.elem (kl_tm 1001) (.int 2)) (.int 1)) (by decide +kernel))
  · exact va_eqt (z := 0) (hs (Cond.eq (.elem (kl_tm 1001) (.int 3)) (.int 0)) (by decide +kernel))
  · exact va_eqt (z := 0) (hs (Cond.eq (.elem (kl_tm 1001) (.int 4)) (.int 0)) (by decide +kernel))

theorem kl_T1002 {s : State} {b : Nat} {A : Nat → Prop} (hgv : (Jvm.Cond.and given_1 narrow_1).before #[Value.ref b] s = true) (hA : ∀ a : Nat, a < s.heap.size → ¬ A a) : ∃ t : Nat, (kl_tm 1002).eval #[Value.ref b] s none [] s = some (.ref t) ∧ va_T .int t 5 (fun j => .int (kg_sv 1002 j)) A s s.heap := by
  have hs := flat_of_before _ hgv
  refine va_Tof (tm := kl_tm 1002) (ty := .int) (N := 5) (by decide) (hs _ (by decide +kernel)) (va_eqt (z := 5) (hs _ (by decide +kernel))) (fun j hj => ?_) hA
  obtain rfl | rfl | rfl | rfl | rfl : j = 0 ∨ j = 1 ∨ j = 2 ∨ j = 3 ∨ j = 4 := by omega
  · exact va_eqt (z := 4) (hs (Cond.eq (.elem (kl_tm 1002) (.int 0)) (.int 4)) (by decide +kernel))
  · exact va_eqt (z := 4) (hs (Cond.eq (.elem (kl_tm 1002) (.int 1)) (.int 4)) (by decide +kernel))
  · exact va_eqt (z := 500) (hs (Cond.eq (.elem (kl_tm 1002) (.int 2)) (.int 500)) (by decide +kernel))
  · exact va_eqt (z := 1) (hs (Cond.eq (.elem (kl_tm 1002) (.int 3)) (.int 1)) (by decide +kernel))
  · exact va_eqt (z := 1) (hs (Cond.eq (.elem (kl_tm 1002) (.int 4)) (.int 1)) (by decide +kernel))

theorem kl_T1003 {s : State} {b : Nat} {A : Nat → Prop} (hgv : (Jvm.Cond.and given_1 narrow_1).before #[Value.ref b] s = true) (hA : ∀ a : Nat, a < s.heap.size → ¬ A a) : ∃ t : Nat, (kl_tm 1003).eval #[Value.ref b] s none [] s = some (.ref t) ∧ va_T .int t 5 (fun j => .int (kg_sv 1003 j)) A s s.heap := by
  have hs := flat_of_before _ hgv
  refine va_Tof (tm := kl_tm 1003) (ty := .int) (N := 5) (by decide) (hs _ (by decide +kernel)) (va_eqt (z := 5) (hs _ (by decide +kernel))) (fun j hj => ?_) hA
  obtain rfl | rfl | rfl | rfl | rfl : j = 0 ∨ j = 1 ∨ j = 2 ∨ j = 3 ∨ j = 4 := by omega
  · exact va_eqt (z := 2) (hs (Cond.eq (.elem (kl_tm 1003) (.int 0)) (.int 2)) (by decide +kernel))
  · exact va_eqt (z := 2) (hs (Cond.eq (.elem (kl_tm 1003) (.int 1)) (.int 2)) (by decide +kernel))
  · exact va_eqt (z := 50) (hs (Cond.eq (.elem (kl_tm 1003) (.int 2)) (.int 50)) (by decide +kernel))
  · exact va_eqt (z := 0) (hs (Cond.eq (.elem (kl_tm 1003) (.int 3)) (.int 0)) (by decide +kernel))
  · exact va_eqt (z := 1) (hs (Cond.eq (.elem (kl_tm 1003) (.int 4)) (.int 1)) (by decide +kernel))

theorem kl_st {s : State} {b L : Nat} {xs : Nat → Int32} (hts : ∀ w ∈ lw_tbl, w.before #[Value.ref b] s = true) (hgv : (Jvm.Cond.and given_1 narrow_1).before #[Value.ref b] s = true) (hX : va_X b L xs s s.heap) (hbl : b < s.heap.size) : ∃ ad : Nat → Nat, ad 0 = b ∧ ∀ (l : Launch) (D : va_G) (cA : Nat → ClassId), kg_St (l, s.heap.size, D, cA, ad, L, xs) s s.heap := by
  have hT : ∀ w ∈ kg_T, w.before #[Value.ref b] s = true := fun w hw => hts w (List.mem_filter.mp hw).1
  have hA : ∀ a : Nat, a < s.heap.size → ¬ (fun q : Nat => s.heap.size ≤ q) a := fun a h => Nat.not_le.mpr h
  obtain ⟨t1, v1, w1⟩ := kl_T1001 hgv hA
  obtain ⟨t2, v2, w2⟩ := kl_T1002 hgv hA
  obtain ⟨t3, v3, w3⟩ := kl_T1003 hgv hA
  have hini : (Cond.initialized "KeyGraves").before #[Value.ref b] s = true := hT _ (kg_iniT (c := 5) (by omega))
  refine ⟨fun k => match k with | 0 => b | 1 => t1 | 2 => t2 | _ => t3, rfl, fun l D cA => ⟨fun p hp => ?_, hX, hbl⟩⟩
  have hlay := hts _ (kl_lay p hp)
  obtain rfl | rfl | rfl : p = 1001 ∨ p = 1002 ∨ p = 1003 := by simpa using hp
  · exact ⟨va_Zof hlay hini v1 hA, w1⟩
  · exact ⟨va_Zof hlay hini v2 hA, w2⟩
  · exact ⟨va_Zof hlay hini v3 hA, w3⟩
theorem kl_sz : kg_sz 125 ≤ 7302250 := by decide +kernel
/-- the walk of the law's body -/
theorem whole_start {p : Program} {e : Env} {s : State} {m : MethodId} {below : List Frame} {meth : Method} {c : Code} (l : Launch) (hflags : l.flags = flags0) {b L : Nat} {xs : Nat → Int32} (hL : L ≤ 260) (C0 : lw_At p s m meth c b L xs) : W p l e room_1 s m #[Value.ref b] below meth c s.heap [] 0 0 (lw_Z below #[Value.ref b] s) (entryFrame m ([Value.ref b] : List Value).toArray 12) := by
  obtain ⟨hx, hb, hr, hml, hown, hts, hX, hbl, hlocks, hgv⟩ := id C0
  have hT : ∀ w ∈ kg_T, w.before #[Value.ref b] s = true := fun w hw => hts w (List.mem_filter.mp hw).1
  obtain ⟨D, cA, hI⟩ := kl_inv hts
  obtain ⟨ad, had, hSt⟩ := kl_st hts hgv hX hbl
  have hI := hI (l, s.heap.size, D, cA, ad, L, xs) rfl rfl
  have hSt := hSt l D cA
  have hH : kl_H (l, s.heap.size, D, cA, ad, L, xs) (fun p' e' R' s' m' args' below' meth' c' Qf' => p' = p ∧ e' = e ∧ R' = room_1 ∧ s' = s ∧ m' = m ∧ args' = #[Value.ref b] ∧ below' = below ∧ meth' = meth ∧ c' = c ∧ Qf' = lw_Z below #[Value.ref b] s) := by
    refine ⟨?_, ?_⟩
    · intro p' e' R' s' m' args' below' meth' c' Qf' ⟨h1, h2, h3, h4, h5, h6, h7, h8, h9, h10⟩
      subst h1; subst h2; subst h3; subst h4; subst h5; subst h6; subst h7; subst h8; subst h9; subst h10
      exact ⟨hx, hb, hml, hown, hT, hI, hSt, Nat.le_refl _, ⟨Nat.le_of_ble_eq_true rfl, Nat.le_of_ble_eq_true rfl⟩, ⟨Nat.le_of_ble_eq_true rfl, Nat.le_trans (Nat.sub_le _ _) kl_sz⟩, fun h => by cases h⟩
    · intro pc ls w M hd g1 g2 p' e' R' s' m' args' below' meth' c' Qf' ⟨h1, h2, h3, h4, h5, h6, h7, h8, h9, h10⟩ H locs A hHe hS hl
      subst h1; subst h2; subst h3; subst h4; subst h5; subst h6; subst h7; subst h8; subst h9; subst h10
      refine va_forget (fun q hq => hS.2.2 q hq) ?_
      have m1 := kg_sz_mono g2
      have m2 := kl_sz
      refine W.widen (k := 600000) (n := 7302250) (by omega) (by omega) ?_
      exact lw_ret hx hb hr hlocks hd
  have k := kl_start hH (show L < 2 ^ 31 by omega)
  rw [lg_entry_eq]
  have hl := lv_entry ([.ref b]) (n := 12) (Nat.le_of_ble_eq_true rfl)
  generalize (lg_sl ([.ref b]) ++ List.replicate (12 - (lg_sl ([.ref b])).length) Slot.unset).toArray = A at hl ⊢
  have hl : lv_has A 12 [(0, .ref b)] := hl
  have hcl : kg_cl (l, s.heap.size, D, cA, ad, L, xs) 12 [some (.ref 1000), none, none, none, none, none, none, none, none, none, none, none] = [(0, .ref b)] := by
    rw [← had]; rfl
  have k2 := k (Nat.le_refl 0) (by show 0 ≤ 125; omega) p e room_1 s m #[Value.ref b] below meth c _ ⟨rfl, rfl, rfl, rfl, rfl, rfl, rfl, rfl, rfl, rfl⟩ s.heap [] A ⟨fun _ => rfl, fun k q hq => by cases hq⟩ va_S.rf (by rw [hcl]; exact hl)
  exact k2
