/-! ROWS of statics, the script, what is made, Math, arraycopy -/
theorem kg_cats (G : kg_G) (st : List Value) : ((st.map (kg_cv G)).map fun v => v.category).sum = st.length := by
  induction st with
  | nil => rfl
  | cons a l ih => rw [List.map_cons, List.map_cons, List.sum_cons, ih, kg_cat, List.length_cons]; omega
section
variable {G : kg_G} {X : kg_Xt} {own : String} {cc : ByteArray} {nL d : Nat} {ini : Bool} {N0 NX : Nat} {pc : Nat} {ls : List (Option Value)} {st : List Value} {w : kg_W} {M : kg_M}
theorem kg_cvst (G : kg_G) {p : Nat} (h : ¬ p < 1000) : kg_cv G (.ref p) = .ref (G.2.2.2.2.1 (p - 1000)) := by simp [kg_cv, h]
theorem kg_r_gets (hB : kg_B G X own cc nL d ini N0 NX) {p i : Nat} (hp : p ∈ [1001, 1002, 1003]) (hln : Cond.fieldLink own i "KeyGraves" (kg_sn p) "[I" ∈ kg_T ∨ (own = "KeyGraves$State" ∧ i = 56 ∧ p = 1003)) (hd : decode cc pc = .ok (.getstatic i, 3))
    (kk : kg_V G X nL N0 NX (pc + 3) ls (.ref p :: st) w M) : kg_V G X nL N0 NX pc ls st w M := by
  intro g1 g2 p' e R s m args below meth c' Qf hX H locs A hH hS hl
  obtain ⟨hx, hb, -, hown, hts, hI, hSt, -⟩ := hB _ _ _ _ _ _ _ _ _ _ hX
  have hp0 : ¬ p < 1000 := by simp at hp; omega
  have k2 := kk g1 g2 p' e R s m args below meth c' Qf hX H locs A hH hS hl
  rw [List.map_cons, kg_cvst G hp0] at k2
  rcases hln with hln | ⟨rfl, rfl, rfl⟩
  · exact va_gets hx hb (hSt.1 p hp).1 hS hown (hts _ hln) (fun _ h => h) hd k2
  · exact va_getsN hx hb (hSt.1 1003 hp).1 hS hown (va_Nw.use rfl hI.2.2.1) (fun _ h => h) hd k2
theorem kg_r_ilds (hB : kg_B G X own cc nL d ini N0 NX) {p j : Nat} (hp : p ∈ [1001, 1002, 1003]) (hj : j < 5) (hd : decode cc pc = .ok (.iaload, 1))
    (kk : kg_V G X nL N0 NX (pc + 1) ls (.int (kg_sv p j) :: st) w M) : kg_V G X nL N0 NX pc ls (.int (nI j) :: .ref p :: st) w M := by
  intro g1 g2 p' e R s m args below meth c' Qf hX H locs A hH hS hl
  obtain ⟨hx, hb, -, hown, hts, hI, hSt, -⟩ := hB _ _ _ _ _ _ _ _ _ _ hX
  have hp0 : ¬ p < 1000 := by simp at hp; omega
  rw [List.map_cons, List.map_cons, kg_cvst G hp0]
  exact va_ti hx hb (hSt.1 p hp).2 hS (vp_in_nI hj (by omega)) (by rw [nI_clamp (by omega)]; rfl) hd (kk g1 g2 p' e R s m args below meth c' Qf hX H locs A hH hS hl)
theorem kg_r_ildx (hB : kg_B G X own cc nL d ini N0 NX) {j : Nat} (hj : j < G.2.2.2.2.2.1) (hL : G.2.2.2.2.2.1 < 2 ^ 31) (hd : decode cc pc = .ok (.iaload, 1))
    (kk : kg_V G X nL N0 NX (pc + 1) ls (.int (G.2.2.2.2.2.2 j) :: st) w M) : kg_V G X nL N0 NX pc ls (.int (nI j) :: .ref 1000 :: st) w M := by
  intro g1 g2 p' e R s m args below meth c' Qf hX H locs A hH hS hl
  obtain ⟨hx, hb, -, hown, hts, hI, hSt, hbs, -⟩ := hB _ _ _ _ _ _ _ _ _ _ hX
  rw [List.map_cons, List.map_cons, kg_cvst G (by omega)]
  refine va_sld (b := G.2.2.2.2.1 0) hx hb hSt.2.1 (Nat.lt_of_lt_of_le hSt.2.2 hbs) (Nat.not_le.mpr hSt.2.2) hS (vp_in_nI hj hL) hd ?_
  rw [nI_clamp (by omega)]
  exact kk g1 g2 p' e R s m args below meth c' Qf hX H locs A hH hS hl
theorem kg_r_slen (hB : kg_B G X own cc nL d ini N0 NX) (hd : decode cc pc = .ok (.arraylength, 1))
    (kk : kg_V G X nL N0 NX (pc + 1) ls (.int (nI G.2.2.2.2.2.1) :: st) w M) : kg_V G X nL N0 NX pc ls (.ref 1000 :: st) w M := by
  intro g1 g2 p' e R s m args below meth c' Qf hX H locs A hH hS hl
  obtain ⟨hx, hb, -, hown, hts, hI, hSt, hbs, -⟩ := hB _ _ _ _ _ _ _ _ _ _ hX
  rw [List.map_cons, kg_cvst G (by omega)]
  exact va_slen (b := G.2.2.2.2.1 0) hx hb hSt.2.1 (Nat.lt_of_lt_of_le hSt.2.2 hbs) (Nat.not_le.mpr hSt.2.2) hS hd (kk g1 g2 p' e R s m args below meth c' Qf hX H locs A hH hS hl)
theorem kg_r_mmin (hB : kg_B G X own cc nL d ini N0 NX) {i : Nat} {x y : Int32} (hd0 : 1 ≤ d) (hst : st.length ≤ 8) (h1 : Cond.methodLink own i Lib.Math.min.name ∈ kg_T) (h2 : Cond.static Lib.Math.min.name ∈ kg_T) (h3 : Cond.initialized "java/lang/Math" ∈ kg_T) (h4 : Cond.code Lib.Math.min.name Lib.Math.min.code 2 (some .int) ∈ kg_T) (hd : decode cc pc = .ok (.invokestatic i, 3))
    (kk : kg_V G X nL N0 NX (pc + 3) ls (.int (if y < x then y else x) :: st) w M) : kg_V G X nL N0 NX pc ls (.int y :: .int x :: st) w M := by
  intro g1 g2 p' e R s m args below meth c' Qf hX H locs A hH hS hl
  obtain ⟨hx, hb, hml, hown, hts, hI, hSt, hbs, ⟨hf1, hf2⟩, ⟨hc1, hc2⟩, -⟩ := hB _ _ _ _ _ _ _ _ _ _ hX
  exact va_mmin hx hb (hml.trans hl.1.symm) hown (hts _ h1) (hts _ h2) (hts _ h3) (hts _ h4) (Nat.le_trans hd0 hf1) (by rw [kg_cats]; omega) (Nat.le_trans (Nat.sub_le_sub_right g2 _) hc1) (Nat.le_trans (Nat.sub_le_sub_right (kg_sz_mono g2) _) hc2) hd (kk g1 g2 p' e R s m args below meth c' Qf hX H locs A hH hS hl)
theorem kg_r_mmax (hB : kg_B G X own cc nL d ini N0 NX) {i : Nat} {x y : Int32} (hd0 : 1 ≤ d) (hst : st.length ≤ 8) (h1 : Cond.methodLink own i Lib.Math.max.name ∈ kg_T) (h2 : Cond.static Lib.Math.max.name ∈ kg_T) (h3 : Cond.initialized "java/lang/Math" ∈ kg_T) (h4 : Cond.code Lib.Math.max.name Lib.Math.max.code 2 (some .int) ∈ kg_T) (hd : decode cc pc = .ok (.invokestatic i, 3))
    (kk : kg_V G X nL N0 NX (pc + 3) ls (.int (if x < y then y else x) :: st) w M) : kg_V G X nL N0 NX pc ls (.int y :: .int x :: st) w M := by
  intro g1 g2 p' e R s m args below meth c' Qf hX H locs A hH hS hl
  obtain ⟨hx, hb, hml, hown, hts, hI, hSt, hbs, ⟨hf1, hf2⟩, ⟨hc1, hc2⟩, -⟩ := hB _ _ _ _ _ _ _ _ _ _ hX
  exact va_mmax hx hb (hml.trans hl.1.symm) hown (hts _ h1) (hts _ h2) (hts _ h3) (hts _ h4) (Nat.le_trans hd0 hf1) (by rw [kg_cats]; omega) (Nat.le_trans (Nat.sub_le_sub_right g2 _) hc1) (Nat.le_trans (Nat.sub_le_sub_right (kg_sz_mono g2) _) hc2) hd (kk g1 g2 p' e R s m args below meth c' Qf hX H locs A hH hS hl)
/-- a row of ints copied onto another, the first n -/
def kg_cpy (M : kg_M) (p q n : Nat) : kg_M := fun r => if r = q then (fun i => if i < n then M p i else M q i) else M r
theorem kg_r_copy (hB : kg_B G X own cc nL d ini N0 NX) {i p q n n0 n1 : Nat} (hw9 : ¬ w.1 < 125) (hd0 : 1 ≤ d) (hst : st.length ≤ 6) (h1 : Cond.methodLink own i arraycopyName ∈ kg_T) (h2 : Cond.native arraycopyName ∈ kg_T) (h3 : Cond.static arraycopyName ∈ kg_T) (h4 : Cond.initialized "java/lang/System" ∈ kg_T) (hp : p < 1000) (hpw : p < w.1) (hpk : kg_kd p = (0, n0)) (hq : q < 1000) (hqw : q < w.1) (hqk : kg_kd q = (0, n1)) (hn0 : n ≤ n0) (hn1 : n ≤ n1) (hn : n < 2 ^ 31) (hd : decode cc pc = .ok (.invokestatic i, 3))
    (kk : kg_V G X nL N0 NX (pc + 3) ls st w (kg_cpy M p q n)) : kg_V G X nL N0 NX pc ls (.int (nI n) :: .int (nI 0) :: .ref q :: .int (nI 0) :: .ref p :: st) w M := by
  intro g1 g2 p' e R s m args below meth c' Qf hX H locs A hH hS hl
  obtain ⟨hx, hb, hml, hown, hts, hI, hSt, hbs, ⟨hf1, hf2⟩, ⟨hc1, hc2⟩, -⟩ := hB _ _ _ _ _ _ _ _ _ _ hX
  simp only [List.map_cons]
  rw [kg_cvref G hp, kg_cvref G hq]
  refine va_copyi hx hb (hml.trans hl.1.symm) hown (hts _ h1) (hts _ h2) (hts _ h3) (hts _ h4) hI.1 hH.2 (kg_dis G w M) hS p q 0 0 (f := M p) (g := M q) (by rw [kg_wl_at hpw, kg_ce_i hpk (by omega)]) (by rw [kg_wl_at hqw, kg_ce_i hqk (by omega)]) rfl rfl rfl (sp := nI 0) (dp := nI 0) (n := nI n) (nI_pos (by omega)) (nI_pos (by omega)) (nI_pos hn) (by rw [nI_clamp (by omega), nI_clamp hn]; omega) (by rw [nI_clamp (by omega), nI_clamp hn]; omega) (fun _ _ => rfl) (Nat.le_trans hd0 hf1) (by rw [kg_cats]; simp [nativeFrameWords]; omega) hd (fun H1 locs1 hP1 _ hS1 => ?_)
  refine kk g1 g2 p' e R s m args below meth c' Qf hX H1 locs1 A ⟨fun h => absurd h hw9, ?_⟩ hS1 hl
  rw [← kg_wl_set (M := M) (w := w) (p := q) (e := .inl (G.2.2.2.1 0, n1, .inl (va_cpy (M p) (M q) (nI 0).toNatClampNeg (nI 0).toNatClampNeg (nI n).toNatClampNeg))) rfl ?_ (fun r hr => kg_ce_same (by simp [kg_cpy, hr]) rfl)]
  · exact hP1
  · rw [kg_ce_i hqk (by omega)]
    congr 4
    funext k
    rw [nI_clamp hn, nI_clamp (by omega)]
    by_cases hk : k < n <;> simp [va_cpy, kg_cpy, hk]
theorem kg_r_obj (hB : kg_B G X own cc nL d ini N0 NX) {i p : Nat} (hd0 : 1 ≤ d) (hst : st.length ≤ 8) (h1 : Cond.methodLink own i Lib.objectInit ∈ kg_T) (h2 : Cond.instanceMethod Lib.objectInit ∈ kg_T) (h3 : Cond.code Lib.objectInit ⟨#[0xb1]⟩ 1 none ∈ kg_T) (hd : decode cc pc = .ok (.invokespecial i, 3))
    (kk : kg_V G X nL N0 NX (pc + 3) ls st w M) : kg_V G X nL N0 NX pc ls (.ref p :: st) w M := by
  intro g1 g2 p' e R s m args below meth c' Qf hX H locs A hH hS hl
  obtain ⟨hx, hb, hml, hown, hts, hI, hSt, hbs, ⟨hf1, hf2⟩, ⟨hc1, hc2⟩, -⟩ := hB _ _ _ _ _ _ _ _ _ _ hX
  have k2 := kk g1 g2 p' e R s m args below meth c' Qf hX H locs A hH hS hl
  have hr := kg_cats G st
  refine W.objInit hx hb hown (hts _ h1) (hts _ h2) (hts _ h3) rfl (hl.1.trans hml.symm) (rest := st.map (kg_cv G)) (a := if p < 1000 then kg_b G + p else G.2.2.2.2.1 (p - 1000)) rfl hd (Nat.le_trans hd0 hf1) ?_ ?_
  · show 2 * 0 + _ + 12 ≤ _
    rw [hr]; omega
  · exact k2
/-- a cell is made: the next place -/
theorem kg_WH_new {w w' : kg_W} {M M' : kg_M} {H H1 : Heap} (hH : kg_WH G w M H) (h9 : w.1 < 125) (hw : w'.1 = w.1 + 1) (z : H1.size = H.size + 1) (oq : ∀ q : Nat, q < H.size → H1[q]? = H[q]?) (he : va_at G.2.2.1 vwCl (kg_b G + w.1, kg_ce (kg_b G) G.2.2.2.1 w' M' w.1) H1) (ho : ∀ q, q < w.1 → kg_ce (kg_b G) G.2.2.2.1 w' M' q = kg_ce (kg_b G) G.2.2.2.1 w M q) : kg_WH G w' M' H1 := by
  refine ⟨fun _ => by rw [z, hH.1 h9, hw]; omega, fun k q hk => ?_⟩
  obtain ⟨h1, h2⟩ := kg_wl_of hk
  subst h2
  by_cases hkw : k = w.1
  · subst hkw; exact he
  · have hlt : k < w.1 := by omega
    rw [ho k hlt]
    have h3 := hH.2 k _ (kg_wl_at hlt)
    exact h3.kept (oq _ h3.lt)
def kg_new (w : kg_W) (r : Nat → Nat) : kg_W := (w.1 + 1, fun q => if q = w.1 then r else w.2 q)
def kg_row (M : kg_M) (p : Nat) (f : Nat → Int32) : kg_M := fun q => if q = p then f else M q
theorem kg_ce_new {b : Nat} {cA : Nat → ClassId} {w : kg_W} {M : kg_M} {r : Nat → Nat} {f : Nat → Int32} {q : Nat} (h : q ≠ w.1) : kg_ce b cA (kg_new w r) (kg_row M w.1 f) q = kg_ce b cA w M q := kg_ce_same (by simp [kg_row, h]) (by simp [kg_new, h])
theorem kg_S_new {b : Nat} {H0 H H1 : Heap} {locs : List Loc} (hS : va_S (fun q => b ≤ q) H0 H locs) (z : H1.size = H.size + 1) (oq : ∀ q : Nat, q < H.size → H1[q]? = H[q]?) : va_S (fun q => b ≤ q) H0 H1 locs := ⟨by rw [z]; exact Nat.le_trans hS.1 (Nat.le_succ _), fun q a1 a2 => (oq q (Nat.lt_of_lt_of_le a1 hS.1)).trans (hS.2.1 q a1 a2), hS.2.2⟩
theorem kg_r_new (hB : kg_B G X own cc nL d ini N0 NX) {c i : Nat} (h9 : w.1 < 125) (hNX : w.1 + 1 ≤ NX) (hc : c < 6) (hkd : kg_kd w.1 = (4, c)) (h1 : Cond.classLink own i (kg_C c) ∈ kg_T) (h2 : Cond.instantiable (kg_C c) (kg_nf c) ∈ kg_T) (h3 : Cond.initialized (kg_C c) ∈ kg_T) (hdef : ∀ k, k < kg_nf c → defaultValue (kg_ft c k) = if kg_fr c k = true then .null else .int 0) (hd : decode cc pc = .ok (.new i, 3))
    (kk : kg_V G X nL N0 NX (pc + 3) ls (.ref w.1 :: st) (kg_new w (fun _ => 0)) (kg_row M w.1 (fun _ => 0))) : kg_V G X nL N0 NX pc ls st w M := by
  intro g1 g2 p' e R s m args below meth c' Qf hX H locs A hH hS hl
  obtain ⟨hx, hb, hml, hown, hts, hI, hSt, hbs, ⟨hf1, hf2⟩, ⟨hc1, hc2⟩, -⟩ := hB _ _ _ _ _ _ _ _ _ _ hX
  have hKn := hI.1.1 c _ (kg_F_cl hc)
  have zs : kg_zs w.1 = kg_nf c := by simp [kg_zs, hkd]
  have m0 := kg_sz_mono g1
  have m1 := kg_sz_mono hNX
  have e0 : kg_sz (w.1 + 1) = kg_sz w.1 + kg_nf c := by rw [kg_sz, zs]
  refine W.newcK hx hb hown (hts _ h1) (hts _ h2) (hts _ h3) rfl hd (by omega) (by omega) hKn.2.1 (hH.1 h9) fun H1 kC hkC e1 z1 o1 => ?_
  have g1' : N0 ≤ (kg_new w (fun _ => 0)).1 := Nat.le_succ_of_le g1
  have g2' : (kg_new w (fun _ => 0)).1 ≤ NX := hNX
  have hz : H1.size = H.size + 1 := by rw [z1, hH.1 h9]
  have ho : ∀ q : Nat, q < H.size → H1[q]? = H[q]? := fun q hq => o1 q (by rw [← hH.1 h9]; exact hq)
  have k2 := kk g1' g2' p' e R s m args below meth c' Qf hX H1 locs A (kg_WH_new hH h9 rfl hz ho ?_ (fun q hq => kg_ce_new (Nat.ne_of_lt hq))) (kg_S_new hS hz ho) hl
  · rw [List.map_cons, kg_cvref G (by omega), show (kg_new w (fun _ => 0)).1 = w.1 + 1 from rfl, e0, show w.1 + 1 - N0 = w.1 - N0 + 1 by omega, show kg_sz w.1 + kg_nf c - kg_sz N0 = kg_sz w.1 - kg_sz N0 + kg_nf c by omega] at k2
    exact k2
  · rw [kg_ce_o hkd]
    refine ⟨_, kg_F_cl hc, (u_born (kg_ft c) hts (kg_F_in hc) hKn hkC e1 (kg_F_ty hc)).to fun k hk => ?_⟩
    show defaultValue (kg_ft c k) = vp_V _ k
    rw [hdef k hk, vp_V, List.getD_eq_getElem?_getD, kg_fs_at hk]
    by_cases hf : kg_fr c k = true <;> simp [hf, kg_new, kg_row, kg_ro, va_rf]
theorem kg_r_newa (hB : kg_B G X own cc nL d ini N0 NX) {t n : Nat} {aty : ArrayType} {ty : FieldType} (h9 : w.1 < 125) (hNX : w.1 + 1 ≤ NX) (hkd : kg_kd w.1 = (t, n)) (ht : t < 3) (hty : newarray.typeOf aty = ty) (htt : (kg_tys G.2.2.2.1)[t]? = some (G.2.2.2.1 t, ty)) (hra : ∀ (U : State) (cA : ClassId), va_RA U cA ty → U.vm.findClass ("[" ++ ty.toString) = some cA) (hdv : defaultValue ty = .int 0) (hn : n < 2 ^ 20) (hcb : componentBytes ty ≤ 8) (h1 : Cond.arrayClass ty ∈ kg_T) (hd : decode cc pc = .ok (.newarray aty, 2))
    (kk : kg_V G X nL N0 NX (pc + 2) ls (.ref w.1 :: st) (kg_new w (fun _ => 0)) (kg_row M w.1 (fun _ => 0))) : kg_V G X nL N0 NX pc ls (.int (nI n) :: st) w M := by
  intro g1 g2 p' e R s m args below meth c' Qf hX H locs A hH hS hl
  obtain ⟨hx, hb, hml, hown, hts, hI, hSt, hbs, ⟨hf1, hf2⟩, ⟨hc1, hc2⟩, -⟩ := hB _ _ _ _ _ _ _ _ _ _ hX
  subst hty
  have zs : kg_zs w.1 = n := by simp only [kg_zs, hkd]; rw [if_neg (by omega)]
  have m0 := kg_sz_mono g1
  have m1 := kg_sz_mono hNX
  have e0 : kg_sz (w.1 + 1) = kg_sz w.1 + n := by rw [kg_sz, zs]
  have hb8 : n * componentBytes (newarray.typeOf aty) ≤ 2 ^ 20 * 8 := Nat.mul_le_mul (Nat.le_of_lt hn) hcb
  rw [List.map_cons]
  refine va_newaK hx hb (atype := aty) (hts _ h1) rfl hd rfl (nI_pos (by omega)) (nI_clamp (n := n) (by omega)) (by omega) (by omega) (by omega) (hH.1 h9) fun H1 cA e1 z1 o1 hAr hNm => ?_
  have hcA : cA = G.2.2.2.1 t := Option.some.inj (hNm.symm.trans (hra s _ (hI.1.2 t _ htt).2))
  subst hcA
  have g1' : N0 ≤ (kg_new w (fun _ => 0)).1 := Nat.le_succ_of_le g1
  have g2' : (kg_new w (fun _ => 0)).1 ≤ NX := hNX
  have hz : H1.size = H.size + 1 := by rw [z1, hH.1 h9]
  have ho : ∀ q : Nat, q < H.size → H1[q]? = H[q]? := fun q hq => o1 q (by rw [← hH.1 h9]; exact hq)
  have k2 := kk g1' g2' p' e R s m args below meth c' Qf hX H1 locs A (kg_WH_new hH h9 rfl hz ho ?_ (fun q hq => kg_ce_new (Nat.ne_of_lt hq))) (kg_S_new hS hz ho) hl
  · rw [List.map_cons, kg_cvref G (by omega), show (kg_new w (fun _ => 0)).1 = w.1 + 1 from rfl, e0, show w.1 + 1 - N0 = w.1 - N0 + 1 by omega, show kg_sz w.1 + n - kg_sz N0 = kg_sz w.1 - kg_sz N0 + n by omega] at k2
    exact k2
  · rw [kg_ce_i hkd ht]
    show H1[_]? = some (vp_cell _ _)
    rw [e1, vp_cell_i, hdv]
    simp [kg_row]
theorem kg_r_anew (hB : kg_B G X own cc nL d ini N0 NX) {i n : Nat} (h9 : w.1 < 125) (hNX : w.1 + 1 ≤ NX) (hkd : kg_kd w.1 = (3, n)) (hn : n < 2 ^ 20) (h1 : Cond.classLink own i "KeyGraves$State" ∈ kg_T) (hd : decode cc pc = .ok (.anewarray i, 3))
    (kk : kg_V G X nL N0 NX (pc + 3) ls (.ref w.1 :: st) (kg_new w (fun _ => 0)) (kg_row M w.1 (fun _ => 0))) : kg_V G X nL N0 NX pc ls (.int (nI n) :: st) w M := by
  intro g1 g2 p' e R s m args below meth c' Qf hX H locs A hH hS hl
  obtain ⟨hx, hb, hml, hown, hts, hI, hSt, hbs, ⟨hf1, hf2⟩, ⟨hc1, hc2⟩, -⟩ := hB _ _ _ _ _ _ _ _ _ _ hX
  have zs : kg_zs w.1 = n := by simp only [kg_zs, hkd]; rw [if_neg (by omega)]
  have m0 := kg_sz_mono g1
  have m1 := kg_sz_mono hNX
  have e0 : kg_sz (w.1 + 1) = kg_sz w.1 + n := by rw [kg_sz, zs]
  rw [List.map_cons]
  have hcl : (nI n).toNatClampNeg = n := nI_clamp (by omega)
  refine W.anew hx hb hown (hts _ h1) (va_AO.use hI.2.2.2) rfl hd rfl (nI_pos (by omega)) (by rw [hcl]; omega) (by omega) (by rw [hcl]; omega) fun cA kA comp f1 f2 f3 f4 => ?_
  have hcA : cA = G.2.2.2.1 3 := by
    obtain ⟨kA', comp', -, -, -, k4⟩ := (hI.1.2 3 _ rfl).2
    exact Option.some.inj (f1.symm.trans k4)
  subst hcA
  rw [hcl]
  generalize hH1 : H.push ({ cls := G.2.2.2.1 3, slots := Array.replicate n .null, vm := .none } : Cell) = H1
  have hz : H1.size = H.size + 1 := by rw [← hH1, Array.size_push]
  have e1 : H1[H.size]? = some (arrV (G.2.2.2.1 3) n (fun _ => .null)) := by rw [← hH1, Array.getElem?_push_size, ← arrV_new]
  have ho : ∀ q : Nat, q < H.size → H1[q]? = H[q]? := fun q hq => by rw [← hH1, Array.getElem?_push, if_neg (Nat.ne_of_lt hq)]
  have g1' : N0 ≤ (kg_new w (fun _ => 0)).1 := Nat.le_succ_of_le g1
  have g2' : (kg_new w (fun _ => 0)).1 ≤ NX := hNX
  have k2 := kk g1' g2' p' e R s m args below meth c' Qf hX H1 locs A (kg_WH_new hH h9 rfl hz ho ?_ (fun q hq => kg_ce_new (Nat.ne_of_lt hq))) (kg_S_new hS hz ho) hl
  · rw [List.map_cons, kg_cvref G (by omega), show (kg_new w (fun _ => 0)).1 = w.1 + 1 from rfl, e0, show w.1 + 1 - N0 = w.1 - N0 + 1 by omega, show kg_sz w.1 + n - kg_sz N0 = kg_sz w.1 - kg_sz N0 + n by omega] at k2
    rw [hH.1 h9]
    exact k2
  · rw [kg_ce_q hkd]
    show H1[_]? = some (vp_cell _ _)
    rw [← hH.1 h9, e1, vp_cell_q]
    simp [kg_new, kg_ro, va_rf]
end
