/-! CALLS and CONTRACTS over the abstract machine -/
abbrev kg_Qt : Type := Option Value → kg_W → kg_M → Prop
def kg_rm (d N0 NX : Nat) : Room := { frames := d, cells := NX - N0, slots := kg_sz NX - kg_sz N0, locals := 30 * d + 24 }
def kg_wd (i : Nat) : List Cond := .code (kg_mt i).1 (kg_mt i).2.1 (kg_mt i).2.2.1 (kg_mt i).2.2.2 :: kg_T
def kg_Pc (G : kg_G) (args : List Value) (w : kg_W) (M : kg_M) : Array Value → State → Prop := va_Pc (args.map (kg_cv G)) (fun U => kg_Inv G U ∧ kg_WH G w M U.heap ∧ kg_St G U U.heap ∧ kg_b G ≤ U.heap.size)
def kg_Qc (G : kg_G) (NX : Nat) (K : kg_Qt) : Array Value → State → Outcome → State → Prop := fun _ st o t => (∃ (v : Option Value) (w' : kg_W) (M' : kg_M), o = .returned (v.map (kg_cv G)) ∧ w'.1 = NX ∧ K v w' M' ∧ kg_WH G w' M' t.heap) ∧ va_F (kg_A G) st t
/-- method i, called with args at (w, M), at most d deep, answers with K -/
def kg_call (G : kg_G) (d NX i : Nat) (args : List Value) (w : kg_W) (M : kg_M) (K : kg_Qt) : Prop :=
  ∃ d' N1, d' < d ∧ w.1 ≤ N1 ∧ N1 ≤ NX ∧ Met G.1 (kg_mt i).1 (kg_wd i) (kg_rm d' w.1 N1) (kg_Pc G args w M) (kg_Qc G N1 K) (N1 - w.1) (kg_sz N1 - kg_sz w.1) (kg_A G)
/-- the states in which method i stands, called so -/
def kg_X (G : kg_G) (d i N0 NX : Nat) (K : kg_Qt) : kg_Xt := fun p e R s m args below meth c Qf =>
  p.tables.exec = Jvm.exec ∧ c.code = (kg_mt i).2.1 ∧ c.maxLocals = (kg_mt i).2.2.1 ∧ s.vm.findClass (kg_mt i).1.cls = some m.cls ∧ (∀ w ∈ kg_T, w.before args s = true) ∧ kg_Inv G s ∧ kg_St G s s.heap ∧ kg_b G ≤ s.heap.size ∧ R = kg_rm d N0 NX ∧ meth.name = (kg_mt i).1.name ∧ meth.sig.returnType = (kg_mt i).2.2.2 ∧ meth.locks = false ∧ Qf = MQ below (kg_Qc G NX K) args s (NX - N0) (kg_sz NX - kg_sz N0) (kg_A G)
theorem kg_X_B {G : kg_G} {d i N0 NX : Nat} {K : kg_Qt} {own : String} {cc : ByteArray} {nL : Nat} {ini : Bool} (h1 : (kg_mt i).1.cls = own) (h2 : (kg_mt i).2.1 = cc) (h3 : (kg_mt i).2.2.1 = nL) (h4 : ini = true → (kg_mt i).1.name = "<init>") : kg_B G (kg_X G d i N0 NX K) own cc nL d ini N0 NX := by
  intro p e R s m args below meth c Qf ⟨a1, a2, a3, a4, a5, a6, a7, a8, a9, a10, a11, a12, a13⟩
  subst h1; subst h2; subst h3; subst a9
  exact ⟨a1, a2, a3, a4, a5, a6, a7, a8, ⟨Nat.le_refl _, Nat.le_refl _⟩, ⟨Nat.le_refl _, Nat.le_refl _⟩, fun h => a10.trans (h4 h)⟩
def kg_pad (n : Nat) (args : List Value) : List (Option Value) := args.map some ++ List.replicate (n - args.length) none
theorem kg_pad_lg {n : Nat} : ∀ (args : List Value) (k : Nat) {i : Nat} {v : Value}, kg_lg (args.map some ++ List.replicate k none) i = some v → args[i]? = some v
  | [], k, i, v, h => by
    exfalso
    revert i
    induction k with
    | zero => intro i h; simp [kg_lg] at h
    | succ k ih =>
      intro i h
      rw [List.replicate_succ] at h
      cases i with
      | zero => simp [kg_lg] at h
      | succ i => exact ih (i := i) (by simpa [kg_lg] using h)
  | a :: l, k, 0, v, h => by simpa [kg_lg] using h
  | a :: l, k, i + 1, v, h => by
    have := kg_pad_lg (n := n) l k (i := i) (v := v) (by simpa [kg_lg] using h)
    simpa using this
theorem kg_lsl (vs : List Value) (h : ∀ v ∈ vs, v.category = 1) : lg_sl vs = vs.map Slot.val := by
  induction vs with
  | nil => rfl
  | cons a l ih =>
    have h1 := h a List.mem_cons_self
    have h2 := ih (fun v hv => h v (List.mem_cons_of_mem _ hv))
    simp only [lg_sl, List.flatMap_cons, List.map_cons] at h2 ⊢
    rw [h2, if_neg (by omega)]
    rfl
theorem kg_intro {G : kg_G} {d NX i nL : Nat} {args : List Value} {w : kg_W} {M : kg_M} {K : kg_Qt} (hi : i < 96) (hn : (kg_mt i).2.2.1 = nL) (hal : args.length ≤ nL) (hw : w.1 ≤ NX)
    (h : kg_V G (kg_X G d i w.1 NX K) nL w.1 NX 0 (kg_pad nL args) [] w M) : kg_call G (d + 1) NX i args w M K := by
  have hok := List.all_eq_true.mp kg_md_ok i (List.mem_range.mpr hi)
  simp only [kg_mdo, decide_eq_true_eq] at hok
  refine ⟨d, NX, Nat.lt_succ_self d, hw, Nat.le_refl _, ?_⟩
  subst hn
  refine Met.ofW (cc := (kg_mt i).2.1) (maxL := (kg_mt i).2.2.1) (ret := (kg_mt i).2.2.2) hok.2.2.2.2.2 rfl ?_
  intro p e s m args' below meth c s₁ B hml hv
  obtain ⟨rfl, hI, hH, hSt, hb⟩ := hv
  have hts := atoms_spec (ws := kg_wd i) B.pre
  have hX : kg_X G d i w.1 NX K p e (kg_rm d w.1 NX) s m (args.map (kg_cv G)).toArray below meth c (MQ below (kg_Qc G NX K) (args.map (kg_cv G)).toArray s (NX - w.1) (kg_sz NX - kg_sz w.1) (kg_A G)) :=
    ⟨B.exec, B.bytes, hml, findClass_of_methodNamed B.named, fun w hw => hts w (List.mem_cons_of_mem _ hw), hI, hSt, hb, rfl, (name_of_methodNamed B.named B.method).1, B.returns, B.notSynchronized, rfl⟩
  have k := h (Nat.le_refl _) hw p e _ s m _ below meth c _ hX s.heap [] ((lg_sl (args.map (kg_cv G)) ++ List.replicate ((kg_mt i).2.2.1 - (lg_sl (args.map (kg_cv G))).length) Slot.unset).toArray) hH va_S.rf ?_
  · rw [lg_entry_eq]
    rw [Nat.sub_self, Nat.sub_self] at k
    exact k
  · have hc : ∀ v ∈ args.map (kg_cv G), v.category = 1 := fun v hv => by
      obtain ⟨u, -, rfl⟩ := List.mem_map.mp hv
      exact kg_cat G u
    have hle : (lg_sl (args.map (kg_cv G))).length = args.length := by rw [kg_lsl _ hc]; simp
    have hl := lv_entry (args.map (kg_cv G)) (n := (kg_mt i).2.2.1) (by rw [hle]; exact hal)
    refine ⟨hl.1, hl.2.1, fun q hq => ?_⟩
    obtain ⟨v, h1, h2, h3⟩ := kg_cl_of hq
    have h4 := kg_pad_lg (n := 0) args _ h2
    have hlt : q.1 < args.length := (List.getElem?_eq_some_iff.mp h4).1
    rw [kg_lsl _ hc, h3]
    have e : (args.map (kg_cv G))[q.1]? = some (kg_cv G v) := by rw [List.getElem?_map, h4]; rfl
    rw [List.getElem?_toArray, List.getElem?_append_left (by simpa using hlt), List.getElem?_map, e]
    rfl
theorem kg_call_mono {G : kg_G} {d e NX i : Nat} {args : List Value} {w : kg_W} {M : kg_M} {K : kg_Qt} (h : kg_call G d NX i args w M K) (hde : d ≤ e) : kg_call G e NX i args w M K := by
  obtain ⟨d', N1, h1, h2⟩ := h
  exact ⟨d', N1, by omega, h2⟩
section
variable {G : kg_G} {X : kg_Xt} {own : String} {cc : ByteArray} {nL d : Nat} {ini : Bool} {N0 NX : Nat} {pc : Nat} {ls : List (Option Value)} {st : List Value} {w : kg_W} {M : kg_M}
/-- behind a call's run -/
theorem kg_after {p : Program} {e : Env} {R : Room} {s : State} {m : MethodId} {args a : Array Value} {below : List Frame} {meth : Method} {c : Code} {Qf : State → Prop} {H : Heap} {locs : List Loc} {A : Array Slot} {K : kg_Qt} {N1 : Nat} {stc : List Value}
    (hN : w.1 ≤ N1) (hN1 : N1 ≤ NX) (g1 : N0 ≤ w.1) (hX : X p e R s m args below meth c Qf) (hS : va_S (kg_A G) s.heap H locs) (hl : lv_has A nL (kg_cl G nL ls))
    (hr : va_Run p G.1 e R s m args below meth c H locs (w.1 - N0) (kg_sz w.1 - kg_sz N0) (N1 - w.1) (kg_sz N1 - kg_sz w.1) (F0 m pc A stc) (st.map (kg_cv G)) (kg_Qc G N1 K a) (kg_A G))
    (kk : ∀ (v : Option Value) (w' : kg_W) (M' : kg_M), w'.1 = N1 → K v w' M' → kg_V G X nL N0 NX (pc + 3) ls (v.toList ++ st) w' M') : W p G.1 e R s m args below meth c H locs (w.1 - N0) (kg_sz w.1 - kg_sz N0) Qf (F0 m pc A stc) := by
  intro T hT X0
  obtain ⟨v, st₀, t, T', L, h0, X', hL, e1, e2, ⟨⟨v', w', M', ho, hw', hK, hWH⟩, hz, hk⟩, stp⟩ := hr T hT X0
  have m1 := kg_sz_mono hN
  have m2 := kg_sz_mono g1
  cases ho
  rw [h0] at hz hk
  have k := kk v' w' M' hw' hK (by omega) (by omega) p e R s m args below meth c Qf hX T'.heap (locs ++ L) A (by rw [e1]; exact hWH) ⟨by rw [e1]; exact Nat.le_trans hS.1 hz, fun q a1 a2 => by rw [e1, hk q (Nat.lt_of_lt_of_le a1 hS.1) a2]; exact hS.2.1 q a1 a2, fun q hq => (List.mem_append.mp hq).elim (hS.2.2 q) (hL q)⟩ hl
  obtain ⟨t2, a1, b1⟩ := k T' rfl (by rw [hw', show N1 - N0 = w.1 - N0 + (N1 - w.1) by omega, show kg_sz N1 - kg_sz N0 = kg_sz w.1 - kg_sz N0 + (kg_sz N1 - kg_sz w.1) by omega]; exact X')
  refine ⟨t2, stp t2 ?_, b1⟩
  have e9 : (v'.toList ++ st).map (kg_cv G) = (v'.map (kg_cv G)).toList ++ st.map (kg_cv G) := by cases v' <;> simp
  rw [e9] at a1
  exact a1
theorem kg_blind (G : kg_G) (as : List Value) (w : kg_W) (M : kg_M) : FrameBlind (kg_Pc G as w M) := by
  intro a U g mk ⟨h1, h2, h3, h4, h5⟩
  exact ⟨h1, kg_Inv.same (s := U) (U := U.calling g mk a) rfl h2, h3, kg_St.moved (s := U) (U := U.calling g mk a) (Vm.Alike.refl U.vm) h4, h5⟩
theorem kg_pre {s : State} {H : Heap} {locs : List Loc} {as : List Value} (hI : kg_Inv G s) (hSt : kg_St G s s.heap) (hb : kg_b G ≤ s.heap.size) (hH : kg_WH G w M H) (hS : va_S (kg_A G) s.heap H locs) : ∀ U : State, U.heap = H → s.WarmedH U.vm → kg_Pc G as w M (as.map (kg_cv G)).toArray U := by
  intro U hU hW
  refine ⟨rfl, hI.moved hW, by rw [hU]; exact hH, ?_, by rw [hU]; exact Nat.le_trans hb hS.1⟩
  rw [hU]
  exact kg_St.moved hW.alike (hSt.kept hb hS.2.1)
theorem kg_good {l : List Cond} (h : ∀ w ∈ l, w ∈ kg_T) : GoodIn kg_T l := fun w hw => ⟨h w hw, good_of_word (List.mem_filter.mp (h w hw)).2⟩
theorem kg_wd_in {i : Nat} (hi : i < 96) : ∀ w ∈ kg_wd i, w ∈ kg_T := by
  intro w hw
  rcases List.mem_cons.mp hw with rfl | h
  · refine kg_code_in (kg_mt i) ?_
    have hl : i < kg_ms.length := hi
    rw [kg_mt, List.getD_eq_getElem?_getD, List.getElem?_eq_getElem hl]
    exact List.getElem_mem hl
  · exact h
theorem kg_mdf {i : Nat} (hi : i < 96) : (kg_mt i).1.cls = kg_C (kg_mc i) ∧ kg_mc i < 7 ∧ (kg_mt i).2.2.1 ≤ 11 ∧ (kg_mt i).1.cls ≠ "java/lang/invoke/MethodHandle" ∧ (kg_mt i).1.cls ≠ "java/lang/invoke/VarHandle" ∧ plainName (kg_mt i).1.cls = true := by
  have hok := List.all_eq_true.mp kg_md_ok i (List.mem_range.mpr hi)
  simpa only [kg_mdo, decide_eq_true_eq] using hok
theorem kg_iniT {c : Nat} (hc : c < 7) : Cond.initialized (kg_C c) ∈ kg_T := kg_w1_of (List.all_eq_true.mp kg_ini_ok c (List.mem_range.mpr hc))
theorem kg_room {d d' N0 N1 : Nat} {R : Room} {i : Nat} (hi : i < 96) (hd : d' < d) (hR : d ≤ R.frames ∧ 30 * d + 24 ≤ R.locals) : (kg_rm d' N0 N1).frames + 1 ≤ R.frames ∧ 8 + ((kg_mt i).2.2.1 + 11) + (kg_rm d' N0 N1).locals ≤ R.locals := by
  have h := (kg_mdf hi).2.2.1
  simp only [kg_rm]
  omega
theorem kg_cellroom {N1 : Nat} {R : Room} (g1 : N0 ≤ w.1) (h1 : w.1 ≤ N1) (h2 : N1 ≤ NX) (hR : NX - N0 ≤ R.cells ∧ kg_sz NX - kg_sz N0 ≤ R.slots) : w.1 - N0 + (N1 - w.1) ≤ R.cells ∧ kg_sz w.1 - kg_sz N0 + (kg_sz N1 - kg_sz w.1) ≤ R.slots := by
  have m1 := kg_sz_mono g1
  have m2 := kg_sz_mono h1
  have m3 := kg_sz_mono h2
  omega
theorem kg_mll_of {o pool i k n : Nat} (h : (o, pool, i, k, n) ∈ kg_mll) : ∃ p1 p2 p3, kg_mlo (o, pool, i, k, n, p1, p2, p3) = true := by
  obtain ⟨⟨o8, i8, m8, k8, n8, p1, p2, p3⟩, h8, e8⟩ := List.mem_map.mp h
  simp only [Prod.mk.injEq] at e8
  obtain ⟨rfl, rfl, rfl, rfl, rfl⟩ := e8
  exact ⟨p1, p2, p3, List.all_eq_true.mp kg_ml8_ok _ h8⟩
theorem kg_c_virt (hB : kg_B G X own cc nL d ini N0 NX) {K : kg_Qt} {o pool i n p : Nat} {as : List Value} (ho : kg_cn o = own) (hi : i < 96) (hm : (o, pool, i, 0, n) ∈ kg_mll) (hlen : as.length = n) (hp : p < 1000) (hpw : p < w.1) (hkd : kg_kd p = (4, kg_mc i)) (hst : st.length ≤ 8) (hd : decode cc pc = .ok (.invokevirtual pool, 3))
    (kk : kg_call G d NX i (.ref p :: as) w M K) (hK : ∀ v w' M', K v w' M' → kg_V G X nL N0 NX (pc + 3) ls (v.toList ++ st) w' M') : kg_V G X nL N0 NX pc ls (as.reverse ++ .ref p :: st) w M := by
  intro g1 g2 p' e R s m args below meth c' Qf hX H locs A hH hS hl
  obtain ⟨hx, hb, hml, hown, hts, hI, hSt, hbs, hR, hC, -⟩ := hB _ _ _ _ _ _ _ _ _ _ hX
  obtain ⟨d', N1, hd', hw1, hw2, hMet⟩ := kk
  obtain ⟨p1, p2, p3, ok⟩ := kg_mll_of hm
  simp only [kg_mlo, Bool.and_eq_true] at ok
  have okp := List.all_eq_true.mp kg_mp_ok _ hm
  simp only [kg_mpo, decide_eq_true_eq] at okp
  have md := kg_mdf hi
  have hcl := md.1
  subst ho
  refine kg_after (st := st) (K := K) (a := ((Value.ref p :: as).map (kg_cv G)).toArray) hw1 hw2 g1 hX hS hl ?_ (fun v w' M' _ h => hK v w' M' h)
  have cw := cwV (R := R) (s := s) (args := args) (own := kg_cn o) (index := pool) (C := (kg_mt i).1.cls) (y := (kg_mt i).1) (bytes := (kg_mt i).2.1) (maxL := (kg_mt i).2.2.1) (ret := (kg_mt i).2.2.2) (ws := kg_wd i) (ws' := kg_T) (rm := kg_rm d' w.1 N1) (mc := N1 - w.1) (ms := kg_sz N1 - kg_sz w.1) (Ts := kg_T) n hts
    (kg_good (fun w hw => by
      rcases List.mem_append.mp hw with h | h
      · simp only [List.mem_cons, List.not_mem_nil, or_false] at h
        rcases h with rfl | rfl | rfl | rfl
        · exact kg_wp_of ok.2.1.1
        · exact kg_wp_of ok.2.1.2
        · exact kg_wp_of ok.2.2
        · rw [hcl]; exact kg_iniT md.2.1
      · exact kg_wd_in hi w h)) rfl rfl rfl ⟨rfl, md.2.2.2.1, md.2.2.2.2.1, okp⟩ (kg_room hi hd' hR)
  have hpr := kg_pre (as := Value.ref p :: as) hI hSt hbs hH hS
  have hrc := va_recv (q0 := p) (ci := kg_mc i) hI.1 hH.2 (kg_F_cl (kg_kd_c hkd)) (by rw [kg_wl_at hpw, kg_ce_o hkd])
  have hst9 : (as.reverse ++ Value.ref p :: st).map (kg_cv G) = (as.map (kg_cv G)).reverse ++ Value.ref (kg_b G + p) :: st.map (kg_cv G) := by simp [kg_cvref G hp]
  rw [List.map_cons, kg_cvref G hp] at hpr ⊢
  rw [← hcl] at hrc
  rw [hst9]
  exact va_runV (As := as.map (kg_cv G)) (rest := st.map (kg_cv G)) (b := kg_b G + p) (g := F0 m pc A ((as.map (kg_cv G)).reverse ++ Value.ref (kg_b G + p) :: st.map (kg_cv G))) ⟨hx, hb, hml, hown, hts⟩ hMet cw ⟨kg_blind _ _ _ _, hrc, hpr⟩ rfl (by simpa using hlen) hl.1 rfl (lv_room (by rw [kg_cats]; exact hst)) hd (kg_cellroom g1 hw1 hw2 hC)
theorem kg_c_stat (hB : kg_B G X own cc nL d ini N0 NX) {K : kg_Qt} {o pool i n : Nat} {as : List Value} (ho : kg_cn o = own) (hi : i < 96) (hm : (o, pool, i, 1, n) ∈ kg_mll) (hlen : as.length = n) (hst : st.length ≤ 8) (hd : decode cc pc = .ok (.invokestatic pool, 3))
    (kk : kg_call G d NX i as w M K) (hK : ∀ v w' M', K v w' M' → kg_V G X nL N0 NX (pc + 3) ls (v.toList ++ st) w' M') : kg_V G X nL N0 NX pc ls (as.reverse ++ st) w M := by
  intro g1 g2 p' e R s m args below meth c' Qf hX H locs A hH hS hl
  obtain ⟨hx, hb, hml, hown, hts, hI, hSt, hbs, hR, hC, -⟩ := hB _ _ _ _ _ _ _ _ _ _ hX
  obtain ⟨d', N1, hd', hw1, hw2, hMet⟩ := kk
  obtain ⟨p1, p2, p3, ok⟩ := kg_mll_of hm
  simp only [kg_mlo, Bool.and_eq_true] at ok
  have okp := List.all_eq_true.mp kg_mp_ok _ hm
  simp only [kg_mpo, decide_eq_true_eq] at okp
  have md := kg_mdf hi
  have hcl := md.1
  subst ho
  refine kg_after (st := st) (K := K) (a := (as.map (kg_cv G)).toArray) hw1 hw2 g1 hX hS hl ?_ (fun v w' M' _ h => hK v w' M' h)
  have cw := va_cwS (R := R) (s := s) (args := args) (own := kg_cn o) (index := pool) (y := (kg_mt i).1) (bytes := (kg_mt i).2.1) (maxL := (kg_mt i).2.2.1) (ret := (kg_mt i).2.2.2) (ws := kg_wd i) (ws' := kg_T) (rm := kg_rm d' w.1 N1) (mc := N1 - w.1) (ms := kg_sz N1 - kg_sz w.1) (Ts := kg_T) n hts
    (kg_good (fun w hw => by
      rcases List.mem_append.mp hw with h | h
      · simp only [List.mem_cons, List.not_mem_nil, or_false] at h
        rcases h with rfl | rfl | rfl
        · exact kg_wp_of ok.2.1
        · exact kg_wp_of ok.2.2
        · rw [hcl]; exact kg_iniT md.2.1
      · exact kg_wd_in hi w h)) rfl rfl rfl ⟨md.2.2.2.1, md.2.2.2.2.1, okp⟩ (kg_room hi hd' hR)
  exact va_runS (As := as.map (kg_cv G)) (rest := st.map (kg_cv G)) (g := F0 m pc A ((as.reverse ++ st).map (kg_cv G))) ⟨hx, hb, hml, hown, hts⟩ hMet cw ⟨kg_blind _ _ _ _, kg_pre hI hSt hbs hH hS⟩ rfl (by simpa using hlen) hl.1 (by simp) (lv_room (by rw [kg_cats]; exact hst)) hd (kg_cellroom g1 hw1 hw2 hC)
theorem kg_c_statN (hB : kg_B G X own cc nL d ini N0 NX) {K : kg_Qt} {o pool i n : Nat} {as : List Value} (ho : kg_cn o = own) (hi : i < 96) (hm : (o, pool, i, 2, n) ∈ kg_mll) (hlen : as.length = n) (hst : st.length ≤ 8) (hd : decode cc pc = .ok (.invokestatic pool, 3))
    (kk : kg_call G d NX i as w M K) (hK : ∀ v w' M', K v w' M' → kg_V G X nL N0 NX (pc + 3) ls (v.toList ++ st) w' M') : kg_V G X nL N0 NX pc ls (as.reverse ++ st) w M := by
  intro g1 g2 p' e R s m args below meth c' Qf hX H locs A hH hS hl
  obtain ⟨hx, hb, hml, hown, hts, hI, hSt, hbs, hR, hC, -⟩ := hB _ _ _ _ _ _ _ _ _ _ hX
  obtain ⟨d', N1, hd', hw1, hw2, hMet⟩ := kk
  obtain ⟨p1, p2, p3, ok⟩ := kg_mll_of hm
  simp only [kg_mlo, Bool.and_eq_true, decide_eq_true_eq] at ok
  have okp := List.all_eq_true.mp kg_mp_ok _ hm
  simp only [kg_mpo, decide_eq_true_eq] at okp
  have md := kg_mdf hi
  have hcl := md.1
  subst ho
  refine kg_after (st := st) (K := K) (a := (as.map (kg_cv G)).toArray) hw1 hw2 g1 hX hS hl ?_ (fun v w' M' _ h => hK v w' M' h)
  have cw := va_cnB (R := R) (s := s) (args := args) (own := kg_cn o) (index := pool) (host := "KeyGraves") (y := (kg_mt i).1) (bytes := (kg_mt i).2.1) (maxL := (kg_mt i).2.2.1) (ret := (kg_mt i).2.2.2) (ws := kg_wd i) (ws' := kg_T) (rm := kg_rm d' w.1 N1) (mc := N1 - w.1) (ms := kg_sz N1 - kg_sz w.1) (Ts := kg_T) n hts (kg_good (kg_wd_in hi)) rfl rfl rfl (hI.2.1 _ ok.2.1) (by rw [hcl]; exact hts _ (kg_iniT md.2.1)) ⟨md.2.2.2.1, md.2.2.2.2.1, okp⟩ (kg_room hi hd' hR)
  exact va_runSN (As := as.map (kg_cv G)) (rest := st.map (kg_cv G)) (g := F0 m pc A ((as.reverse ++ st).map (kg_cv G))) ⟨hx, hb, hml, hown, hts⟩ hMet ⟨cw, hts _ (kg_wp_of ok.2.2), trivial⟩ ⟨kg_blind _ _ _ _, kg_pre hI hSt hbs hH hS⟩ rfl (by simpa using hlen) hl.1 (by simp) (lv_room (by rw [kg_cats]; exact hst)) hd (kg_cellroom g1 hw1 hw2 hC)
theorem kg_c_init (hB : kg_B G X own cc nL d ini N0 NX) {K : kg_Qt} {o pool i p : Nat} (ho : kg_cn o = own) (hi : i < 96) (hm : (o, pool, i, 3, 0) ∈ kg_mll) (hp : p < 1000) (hst : st.length ≤ 8) (hd : decode cc pc = .ok (.invokespecial pool, 3))
    (kk : kg_call G d NX i [.ref p] w M K) (hK : ∀ v w' M', K v w' M' → kg_V G X nL N0 NX (pc + 3) ls (v.toList ++ st) w' M') : kg_V G X nL N0 NX pc ls (.ref p :: st) w M := by
  intro g1 g2 p' e R s m args below meth c' Qf hX H locs A hH hS hl
  obtain ⟨hx, hb, hml, hown, hts, hI, hSt, hbs, hR, hC, -⟩ := hB _ _ _ _ _ _ _ _ _ _ hX
  obtain ⟨d', N1, hd', hw1, hw2, hMet⟩ := kk
  obtain ⟨p1, p2, p3, ok⟩ := kg_mll_of hm
  simp only [kg_mlo, Bool.and_eq_true] at ok
  have okp := List.all_eq_true.mp kg_mp_ok _ hm
  simp only [kg_mpo, decide_eq_true_eq] at okp
  have oki := List.all_eq_true.mp kg_mi_ok _ hm
  simp only [kg_mio, decide_eq_true_eq] at oki
  have oki := oki (Nat.le_refl 3)
  have md := kg_mdf hi
  have hcl := md.1
  subst ho
  refine kg_after (st := st) (K := K) (a := ([Value.ref p].map (kg_cv G)).toArray) hw1 hw2 g1 hX hS hl ?_ (fun v w' M' _ h => hK v w' M' h)
  have hwd : kg_wd i = Cond.code (kg_mt i).1 (kg_mt i).2.1 (kg_mt i).2.2.1 none :: kg_T := by rw [kg_wd, oki.2]
  have cw := cwI (R := R) (s := s) (args := args) (own := kg_cn o) (index := pool) (y := (kg_mt i).1) (bytes := (kg_mt i).2.1) (maxL := (kg_mt i).2.2.1) (ws := kg_wd i) (ws' := kg_T) (rm := kg_rm d' w.1 N1) (mc := N1 - w.1) (ms := kg_sz N1 - kg_sz w.1) (Ts := kg_T) 0 hts (kg_good (kg_wd_in hi)) hwd rfl rfl (by rw [hcl]; exact hts _ (kg_iniT md.2.1)) (hts _ (kg_wp_of ok.2.1)) (hts _ (kg_wp_of ok.2.2)) oki.1 ⟨md.2.2.2.1, md.2.2.2.2.1, okp⟩ (kg_room hi hd' hR)
  have hpr := kg_pre (as := [Value.ref p]) hI hSt hbs hH hS
  rw [List.map_cons, kg_cvref G hp] at hpr ⊢
  exact va_runI (As := []) (rest := st.map (kg_cv G)) (b := kg_b G + p) (g := F0 m pc A (Value.ref (kg_b G + p) :: st.map (kg_cv G))) ⟨hx, hb, hml, hown, hts⟩ hMet cw ⟨kg_blind _ _ _ _, hpr⟩ rfl rfl hl.1 rfl (lv_room (by rw [kg_cats]; exact hst)) hd (kg_cellroom g1 hw1 hw2 hC)
theorem kg_c_initN (hB : kg_B G X own cc nL d ini N0 NX) {K : kg_Qt} {o pool i p : Nat} (ho : kg_cn o = own) (hi : i < 96) (hm : (o, pool, i, 4, 0) ∈ kg_mll) (hp : p < 1000) (hst : st.length ≤ 8) (hd : decode cc pc = .ok (.invokespecial pool, 3))
    (kk : kg_call G d NX i [.ref p] w M K) (hK : ∀ v w' M', K v w' M' → kg_V G X nL N0 NX (pc + 3) ls (v.toList ++ st) w' M') : kg_V G X nL N0 NX pc ls (.ref p :: st) w M := by
  intro g1 g2 p' e R s m args below meth c' Qf hX H locs A hH hS hl
  obtain ⟨hx, hb, hml, hown, hts, hI, hSt, hbs, hR, hC, -⟩ := hB _ _ _ _ _ _ _ _ _ _ hX
  obtain ⟨d', N1, hd', hw1, hw2, hMet⟩ := kk
  obtain ⟨p1, p2, p3, ok⟩ := kg_mll_of hm
  simp only [kg_mlo, Bool.and_eq_true, decide_eq_true_eq] at ok
  have okp := List.all_eq_true.mp kg_mp_ok _ hm
  simp only [kg_mpo, decide_eq_true_eq] at okp
  have oki := List.all_eq_true.mp kg_mi_ok _ hm
  simp only [kg_mio, decide_eq_true_eq] at oki
  have oki := oki (by omega)
  have md := kg_mdf hi
  have hcl := md.1
  subst ho
  refine kg_after (st := st) (K := K) (a := ([Value.ref p].map (kg_cv G)).toArray) hw1 hw2 g1 hX hS hl ?_ (fun v w' M' _ h => hK v w' M' h)
  have hwd : kg_wd i = Cond.code (kg_mt i).1 (kg_mt i).2.1 (kg_mt i).2.2.1 none :: kg_T := by rw [kg_wd, oki.2]
  have cw := va_cnB (R := R) (s := s) (args := args) (own := kg_cn o) (index := pool) (host := "KeyGraves") (y := (kg_mt i).1) (bytes := (kg_mt i).2.1) (maxL := (kg_mt i).2.2.1) (ret := none) (ws := kg_wd i) (ws' := kg_T) (rm := kg_rm d' w.1 N1) (mc := N1 - w.1) (ms := kg_sz N1 - kg_sz w.1) (Ts := kg_T) 0 hts (kg_good (kg_wd_in hi)) hwd rfl rfl (hI.2.1 _ ok.2.1) (by rw [hcl]; exact hts _ (kg_iniT md.2.1)) ⟨md.2.2.2.1, md.2.2.2.2.1, okp⟩ (kg_room hi hd' hR)
  have hpr := kg_pre (as := [Value.ref p]) hI hSt hbs hH hS
  rw [List.map_cons, kg_cvref G hp] at hpr ⊢
  exact va_runIN (As := []) (rest := st.map (kg_cv G)) (b := kg_b G + p) (g := F0 m pc A (Value.ref (kg_b G + p) :: st.map (kg_cv G))) ⟨hx, hb, hml, hown, hts⟩ hMet ⟨cw, oki.1, hts _ (kg_wp_of ok.2.2)⟩ ⟨kg_blind _ _ _ _, hpr⟩ rfl rfl hl.1 rfl (lv_room (by rw [kg_cats]; exact hst)) hd (kg_cellroom g1 hw1 hw2 hC)
end
section
variable {G : kg_G} {d i N0 NX nL pc : Nat} {K : kg_Qt} {ls : List (Option Value)} {w : kg_W} {M : kg_M} {cc : ByteArray}
theorem kg_r_iret (hc : (kg_mt i).2.1 = cc) {x : Int32} (hd : decode cc pc = .ok (.ireturn, 1)) (hw : w.1 = NX) (ht : (kg_mt i).2.2.2 = some .int ∨ ((kg_mt i).2.2.2 = some .boolean ∧ (x = nI 0 ∨ x = nI 1))) (k : K (some (.int x)) w M) : kg_V G (kg_X G d i N0 NX K) nL N0 NX pc ls [.int x] w M := by
  intro g1 g2 p' e R s m args below meth c' Qf ⟨a1, a2, a3, a4, a5, a6, a7, a8, a9, a10, a11, a12, a13⟩ H locs A hH hS hl
  subst a13; subst hw; subst hc
  rcases ht with ht | ⟨ht, hx⟩
  · exact W.zret (ty := .int) a1 a2 (a11.trans ht) rfl (fun t ht _ => ⟨⟨some (.int x), w, M, rfl, rfl, k, by rw [ht]; exact hH⟩, hS.F ht⟩) hS.2.2 hd a12
  · exact W.zret (ty := .boolean) a1 a2 (a11.trans ht) (by rcases hx with rfl | rfl <;> rfl) (fun t ht _ => ⟨⟨some (.int x), w, M, rfl, rfl, k, by rw [ht]; exact hH⟩, hS.F ht⟩) hS.2.2 hd a12
theorem kg_r_vret (hc : (kg_mt i).2.1 = cc) (hd : decode cc pc = .ok (.return_, 1)) (hw : w.1 = NX) (ht : (kg_mt i).2.2.2 = none) (k : K none w M) : kg_V G (kg_X G d i N0 NX K) nL N0 NX pc ls [] w M := by
  intro g1 g2 p' e R s m args below meth c' Qf ⟨a1, a2, a3, a4, a5, a6, a7, a8, a9, a10, a11, a12, a13⟩ H locs A hH hS hl
  subst a13; subst hw; subst hc
  exact W.vret a1 a2 (a11.trans ht) (fun t ht _ => ⟨⟨none, w, M, rfl, rfl, k, by rw [ht]; exact hH⟩, hS.F ht⟩) hS.2.2 hd a12
end
