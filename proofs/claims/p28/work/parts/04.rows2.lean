/-! ROWS of fields and arrays -/
section
variable {G : kg_G} {X : kg_Xt} {own : String} {cc : ByteArray} {nL d : Nat} {ini : Bool} {N0 NX : Nat} {pc : Nat} {ls : List (Option Value)} {st : List Value} {w : kg_W} {M : kg_M}
theorem kg_r_geti (hB : kg_B G X own cc nL d ini N0 NX) {p c k i : Nat} (hp : p < 1000) (hpw : p < w.1) (hc : c < 6) (hk : k < kg_nf c) (hkd : kg_kd p = (4, c)) (hf : kg_fr c k = false) (hln : Cond.fieldLink own i (kg_F c k).1 (kg_F c k).2.1 (kg_F c k).2.2.1 ∈ kg_T) (hd : decode cc pc = .ok (.getfield i, 3))
    (kk : kg_V G X nL N0 NX (pc + 3) ls (.int (M p k) :: st) w M) : kg_V G X nL N0 NX pc ls (.ref p :: st) w M := by
  intro g1 g2 p' e R s m args below meth c' Qf hX H locs A hH hS hl
  obtain ⟨hx, hb, -, hown, hts, hI, -⟩ := hB _ _ _ _ _ _ _ _ _ _ hX
  rw [List.map_cons, kg_cvref G hp]
  refine va_get hx hb hts (kg_F_in hc) hown hI.1 hH.2 p (fs := kg_fs (kg_b G) w M p c) ?_ (kg_F_cl hc) k hk (hts _ hln) (fun _ h9 => h9) (v := .int (M p k)) ?_ hd (kk g1 g2 p' e R s m args below meth c' Qf hX H locs A hH hS hl)
  · rw [kg_wl_at hpw, kg_ce_o hkd]
  · rw [kg_fs_at hk, hf]; rfl
theorem kg_r_getr (hB : kg_B G X own cc nL d ini N0 NX) {p c k i q : Nat} (hp : p < 1000) (hpw : p < w.1) (hc : c < 6) (hk : k < kg_nf c) (hkd : kg_kd p = (4, c)) (hf : kg_fr c k = true) (hln : Cond.fieldLink own i (kg_F c k).1 (kg_F c k).2.1 (kg_F c k).2.2.1 ∈ kg_T) (hq : w.2 p k = q) (hq0 : q ≠ 0) (hq1 : q < 1000) (hd : decode cc pc = .ok (.getfield i, 3))
    (kk : kg_V G X nL N0 NX (pc + 3) ls (.ref q :: st) w M) : kg_V G X nL N0 NX pc ls (.ref p :: st) w M := by
  intro g1 g2 p' e R s m args below meth c' Qf hX H locs A hH hS hl
  obtain ⟨hx, hb, -, hown, hts, hI, -⟩ := hB _ _ _ _ _ _ _ _ _ _ hX
  rw [List.map_cons, kg_cvref G hp]
  refine va_get hx hb hts (kg_F_in hc) hown hI.1 hH.2 p (fs := kg_fs (kg_b G) w M p c) ?_ (kg_F_cl hc) k hk (hts _ hln) (fun _ h9 => h9) (v := kg_cv G (.ref q)) ?_ hd (kk g1 g2 p' e R s m args below meth c' Qf hX H locs A hH hS hl)
  · rw [kg_wl_at hpw, kg_ce_o hkd]
  · rw [kg_fs_at hk, hf, hq, kg_cvref G hq1]
    simp [kg_ro, hq0, va_rf]
/-- a store into a field: the common part -/
theorem kg_r_put (hB : kg_B G X own cc nL d ini N0 NX) {p c k i : Nat} {v : Value} {w' : kg_W} {M' : kg_M} (hp : p < 1000) (hpw : p < w.1) (hc : c < 6) (hk : k < kg_nf c) (hkd : kg_kd p = (4, c)) (hln : Cond.fieldLink own i (kg_F c k).1 (kg_F c k).2.1 (kg_F c k).2.2.1 ∈ kg_T) (hfin : (kg_F c k).2.2.2 = false ∨ (ini = true ∧ (kg_F c k).1 = own)) (hd : decode cc pc = .ok (.putfield i, 3))
    (hn : narrow (kg_ft c k) (kg_cv G v) = kg_cv G v) (hfit : fits (kg_ft c k) (kg_cv G v) = true) (hw : w'.1 = w.1) (hset : (kg_fs (kg_b G) w M p c).set k (kg_cv G v) = kg_fs (kg_b G) w' M' p c) (ho : ∀ q, q ≠ p → kg_ce (kg_b G) G.2.2.2.1 w' M' q = kg_ce (kg_b G) G.2.2.2.1 w M q)
    (kk : kg_V G X nL N0 NX (pc + 3) ls st w' M') : kg_V G X nL N0 NX pc ls (v :: .ref p :: st) w M := by
  intro g1 g2 p' e R s m args below meth c' Qf hX H locs A hH hS hl
  obtain ⟨hx, hb, -, hown, hts, hI, -, -, -, -, hini⟩ := hB _ _ _ _ _ _ _ _ _ _ hX
  rw [List.map_cons, List.map_cons, kg_cvref G hp]
  have hcl := kg_F_cl hc
  have hin := kg_F_in hc
  have hap := va_apart (own := own) hts hin (kg_ft c) (kg_F_ty hc) (kg_F_nm hc) hI.1 hcl
  obtain ⟨r, h1, cell, q1, q2, q3, q4⟩ := hH.2 p (kg_b G + p, .inr (c, kg_fs (kg_b G) w M p c)) (by rw [kg_wl_at hpw, kg_ce_o hkd])
  have hr : r = (kg_C c, kg_F c, kg_nf c) := Option.some.inj (h1.symm.trans hcl)
  subst hr
  obtain ⟨hSl, hfc, kC, hkC, hkind⟩ := hI.1.1 c _ hcl
  obtain ⟨cf, kf, fi, f, hi, hsl⟩ := hSl k hk
  have hlay := hts _ (hin _ (u_in_lay hk))
  have hst := (u_facts hfc hkC (u_lays hts hin hk) hi).1
  have fin : ∀ (H1 : Heap) (loc : Loc), H1[kg_b G + p]? = some (cell.setSlot f.slot (kg_cv G v)) → H1.size = H.size → (∀ q, q ≠ kg_b G + p → H1[q]? = H[q]?) → loc.base = kg_b G + p → W p' G.1 e R s m args below meth c' H1 (locs ++ [loc]) (w.1 - N0) (kg_sz w.1 - kg_sz N0) Qf (F0 m (pc + 3) A (st.map (kg_cv G))) := by
    intro H1 loc e1 e2 e3 el
    have g1' := g1
    have g2' := g2
    rw [← hw] at g1' g2' ⊢
    rw [hsl] at e1
    refine kk g1' g2' p' e R s m args below meth c' Qf hX H1 _ A (kg_WH_put hH hw hpw e2 e3 ?_ ho) ⟨by rw [e2]; exact hS.1, fun q a1 a2 => by rw [e3 q (fun z => a2 (by rw [z]; exact Nat.le_add_right _ _))]; exact hS.2.1 q a1 a2, fun q hq => ?_⟩ hl
    · rw [kg_ce_o hkd, ← hset]
      exact ⟨_, hcl, t_OB.to (V := updV (vp_V (kg_fs (kg_b G) w M p c)) k (kg_cv G v)) ⟨_, e1, q2, q3, t_set q4 hap hk _⟩ (fun j _ => vp_updV_set (by rw [kg_fs_len]; exact hk) _ j)⟩
    · rcases List.mem_append.mp hq with h | h
      · exact hS.2.2 q h
      · rw [List.mem_singleton.mp h, el]; exact Nat.le_add_right _ _
  unfold u_lay at hlay
  rcases hfin with hfin | ⟨hi1, hdecl⟩
  · rw [if_neg (by rw [hfin]; decide)] at hlay
    have h6 := u_store hfc hkC hkind hlay hi (kg_F_ty hc k hk) hn hfit
    exact W.putK hx hb (f := f) ⟨hown, hts _ hln, ⟨_, _, _, hi⟩, hst⟩ (by rw [q2]; exact h6) q1 q3 (by rw [hsl]; exact k2_hasslot (q4 k hk)) rfl rfl hd fun H' e1 e2 e3 => fin H' _ e1 e2 e3 rfl
  · by_cases hfin : (kg_F c k).2.2.2 = true
    · rw [if_pos hfin] at hlay
      have hcf : m.cls = cf := by
        obtain ⟨_, _, c', _, _, _, -, -, hf', -, -, -, hown2, -⟩ := Cond.laysFinal_spec hlay
        have e1 : c' = cf := by have := hi.symm.trans hf'; simp at this; exact this.1.symm
        rw [hdecl] at hown2
        rw [← e1]; exact Option.some.inj (hown.symm.trans hown2)
      have h6 := u_fits hfc hkC hkind (Or.inr hlay) hi (kg_F_ty hc k hk) hn hfit
      exact W.putFinK hx hb hown (hts _ hln) hi hst hcf (hini hi1) (by rw [q2]; exact h6) q1 q3 (by rw [hsl]; exact k2_hasslot (q4 k hk)) rfl rfl hd fun H' e1 e2 e3 => fin H' _ e1 e2 e3 rfl
    · rw [if_neg hfin] at hlay
      have h6 := u_store hfc hkC hkind hlay hi (kg_F_ty hc k hk) hn hfit
      exact W.putK hx hb (f := f) ⟨hown, hts _ hln, ⟨_, _, _, hi⟩, hst⟩ (by rw [q2]; exact h6) q1 q3 (by rw [hsl]; exact k2_hasslot (q4 k hk)) rfl rfl hd fun H' e1 e2 e3 => fin H' _ e1 e2 e3 rfl
theorem kg_r_puti (hB : kg_B G X own cc nL d ini N0 NX) {p c k i : Nat} {x : Int32} (hp : p < 1000) (hpw : p < w.1) (hc : c < 6) (hk : k < kg_nf c) (hkd : kg_kd p = (4, c)) (hf : kg_fr c k = false) (hln : Cond.fieldLink own i (kg_F c k).1 (kg_F c k).2.1 (kg_F c k).2.2.1 ∈ kg_T) (hfin : (kg_F c k).2.2.2 = false ∨ (ini = true ∧ (kg_F c k).1 = own)) (hd : decode cc pc = .ok (.putfield i, 3))
    (hz : kg_ft c k = .int ∨ (kg_ft c k = .boolean ∧ (x = 0 ∨ x = 1)))
    (kk : kg_V G X nL N0 NX (pc + 3) ls st w (kg_wr M p k x)) : kg_V G X nL N0 NX pc ls (.int x :: .ref p :: st) w M := by
  refine kg_r_put hB hp hpw hc hk hkd hln hfin hd ?_ ?_ rfl (kg_fs_seti hf) (fun q hq => kg_ce_wr hq) kk
  · rcases hz with hz | ⟨hz, rfl | rfl⟩ <;> rw [hz] <;> rfl
  · rcases hz with hz | ⟨hz, rfl | rfl⟩ <;> rw [hz] <;> rfl
theorem kg_r_putr (hB : kg_B G X own cc nL d ini N0 NX) {p c k i q : Nat} (hp : p < 1000) (hpw : p < w.1) (hc : c < 6) (hk : k < kg_nf c) (hkd : kg_kd p = (4, c)) (hf : kg_fr c k = true) (hln : Cond.fieldLink own i (kg_F c k).1 (kg_F c k).2.1 (kg_F c k).2.2.1 ∈ kg_T) (hfin : (kg_F c k).2.2.2 = false ∨ (ini = true ∧ (kg_F c k).1 = own)) (hq0 : q ≠ 0) (hq1 : q < 1000) (hd : decode cc pc = .ok (.putfield i, 3))
    (hz : (∃ t, kg_ft c k = .array t) ∨ ∃ t, kg_ft c k = .object t)
    (kk : kg_V G X nL N0 NX (pc + 3) ls st (kg_wrr w p k q) M) : kg_V G X nL N0 NX pc ls (.ref q :: .ref p :: st) w M := by
  have e : kg_cv G (.ref q) = va_rf (kg_ro (kg_b G) q) := by rw [kg_cvref G hq1]; simp [kg_ro, hq0, va_rf]
  refine kg_r_put (w' := kg_wrr w p k q) hB hp hpw hc hk hkd hln hfin hd ?_ ?_ rfl (by rw [e]; exact kg_fs_setr hf) (fun q hq => kg_ce_wrr hq) kk
  · rw [kg_cvref G hq1]; rcases hz with ⟨t, hz⟩ | ⟨t, hz⟩ <;> rw [hz] <;> rfl
  · rw [kg_cvref G hq1]; rcases hz with ⟨t, hz⟩ | ⟨t, hz⟩ <;> rw [hz] <;> rfl
theorem kg_r_iald (hB : kg_B G X own cc nL d ini N0 NX) {p n j : Nat} (hp : p < 1000) (hpw : p < w.1) (hkd : kg_kd p = (0, n)) (hj : j < n) (hn : n < 2 ^ 31) (hd : decode cc pc = .ok (.iaload, 1))
    (kk : kg_V G X nL N0 NX (pc + 1) ls (.int (M p j) :: st) w M) : kg_V G X nL N0 NX pc ls (.int (nI j) :: .ref p :: st) w M := by
  intro g1 g2 p' e R s m args below meth c' Qf hX H locs A hH hS hl
  obtain ⟨hx, hb, -, hown, hts, hI, -⟩ := hB _ _ _ _ _ _ _ _ _ _ hX
  rw [List.map_cons, List.map_cons, kg_cvref G hp]
  refine va_iald hx hb hI.1 hH.2 p 0 (by rw [kg_wl_at hpw, kg_ce_i hkd (by omega)]) rfl (vp_in_nI hj hn) hd ?_
  rw [nI_clamp (by omega)]
  exact kk g1 g2 p' e R s m args below meth c' Qf hX H locs A hH hS hl
theorem kg_r_zald (hB : kg_B G X own cc nL d ini N0 NX) {p n j : Nat} (hp : p < 1000) (hpw : p < w.1) (hkd : kg_kd p = (1, n)) (hj : j < n) (hn : n < 2 ^ 31) (hd : decode cc pc = .ok (.baload, 1))
    (kk : kg_V G X nL N0 NX (pc + 1) ls (.int (M p j) :: st) w M) : kg_V G X nL N0 NX pc ls (.int (nI j) :: .ref p :: st) w M := by
  intro g1 g2 p' e R s m args below meth c' Qf hX H locs A hH hS hl
  obtain ⟨hx, hb, -, hown, hts, hI, -⟩ := hB _ _ _ _ _ _ _ _ _ _ hX
  rw [List.map_cons, List.map_cons, kg_cvref G hp]
  refine va_zald hx hb hI.1 hH.2 p 1 (by rw [kg_wl_at hpw, kg_ce_i hkd (by omega)]) rfl (vp_in_nI hj hn) hd ?_
  rw [nI_clamp (by omega)]
  exact kk g1 g2 p' e R s m args below meth c' Qf hX H locs A hH hS hl
theorem kg_r_cald (hB : kg_B G X own cc nL d ini N0 NX) {p n j : Nat} (hp : p < 1000) (hpw : p < w.1) (hkd : kg_kd p = (2, n)) (hj : j < n) (hn : n < 2 ^ 31) (hd : decode cc pc = .ok (.caload, 1))
    (kk : kg_V G X nL N0 NX (pc + 1) ls (.int (M p j) :: st) w M) : kg_V G X nL N0 NX pc ls (.int (nI j) :: .ref p :: st) w M := by
  intro g1 g2 p' e R s m args below meth c' Qf hX H locs A hH hS hl
  obtain ⟨hx, hb, -, hown, hts, hI, -⟩ := hB _ _ _ _ _ _ _ _ _ _ hX
  rw [List.map_cons, List.map_cons, kg_cvref G hp]
  refine va_cald hx hb hI.1 hH.2 p 2 (by rw [kg_wl_at hpw, kg_ce_i hkd (by omega)]) rfl (vp_in_nI hj hn) hd ?_
  rw [nI_clamp (by omega)]
  exact kk g1 g2 p' e R s m args below meth c' Qf hX H locs A hH hS hl
theorem kg_r_aald (hB : kg_B G X own cc nL d ini N0 NX) {p n j q : Nat} (hp : p < 1000) (hpw : p < w.1) (hkd : kg_kd p = (3, n)) (hj : j < n) (hn : n < 2 ^ 31) (hq : w.2 p j = q) (hq0 : q ≠ 0) (hq1 : q < 1000) (hd : decode cc pc = .ok (.aaload, 1))
    (kk : kg_V G X nL N0 NX (pc + 1) ls (.ref q :: st) w M) : kg_V G X nL N0 NX pc ls (.int (nI j) :: .ref p :: st) w M := by
  intro g1 g2 p' e R s m args below meth c' Qf hX H locs A hH hS hl
  obtain ⟨hx, hb, -, hown, hts, hI, -⟩ := hB _ _ _ _ _ _ _ _ _ _ hX
  rw [List.map_cons, List.map_cons, kg_cvref G hp]
  refine va_aldq hx hb hI.1 hH.2 p 3 (by rw [kg_wl_at hpw, kg_ce_q hkd]) rfl (vp_in_nI hj hn) hd ?_
  rw [nI_clamp (by omega), hq]
  have h9 := kk g1 g2 p' e R s m args below meth c' Qf hX H locs A hH hS hl
  rw [List.map_cons, kg_cvref G hq1] at h9
  simpa [kg_ro, hq0, va_rf] using h9
theorem kg_S_put {A : Nat → Prop} {H0 H H1 : Heap} {locs : List Loc} {b p k : Nat} (hS : va_S (fun q => b ≤ q) H0 H locs) (z : H1.size = H.size) (oq : ∀ q : Nat, q ≠ b + p → H1[q]? = H[q]?) : va_S (fun q => b ≤ q) H0 H1 (locs ++ [⟨b + p, k⟩]) := hS.put z oq (Nat.le_add_right b p)
theorem kg_r_iast (hB : kg_B G X own cc nL d ini N0 NX) {p n j : Nat} {x : Int32} (hp : p < 1000) (hpw : p < w.1) (hkd : kg_kd p = (0, n)) (hj : j < n) (hn : n < 2 ^ 31) (hd : decode cc pc = .ok (.iastore, 1))
    (kk : kg_V G X nL N0 NX (pc + 1) ls st w (kg_wr M p j x)) : kg_V G X nL N0 NX pc ls (.int x :: .int (nI j) :: .ref p :: st) w M := by
  intro g1 g2 p' e R s m args below meth c' Qf hX H locs A hH hS hl
  obtain ⟨hx, hb, -, hown, hts, hI, -⟩ := hB _ _ _ _ _ _ _ _ _ _ hX
  rw [List.map_cons, List.map_cons, List.map_cons, kg_cvref G hp]
  refine W.iast hx hb (hH.2 p (kg_b G + p, .inl (G.2.2.2.1 0, n, .inl (M p))) (by rw [kg_wl_at hpw, kg_ce_i hkd (by omega)])) ((hI.1.2 0 _ rfl).1 n (fun j => .int (M p j))) (fun q => by cases q) (by show ¬ (nI j < 0 ∨ (arrV _ _ _).slots.size ≤ _); rw [arrV_size]; exact vp_in_nI hj hn) rfl rfl hd fun H1 e1 z oq => ?_
  refine kk g1 g2 p' e R s m args below meth c' Qf hX H1 _ A (kg_WH_put hH rfl hpw z oq ?_ (fun q hq => kg_ce_wr hq)) (kg_S_put (A := kg_A G) hS z oq) hl
  rw [kg_ce_i hkd (by omega)]
  show H1[kg_b G + p]? = some (vp_cell _ _)
  rw [e1, vp_cell_i, vp_cell_i, arrV_store, kg_wr_upd, nI_clamp (by omega)]
  congr 2
  funext q
  by_cases hq : q = j <;> simp [updV, upd, hq]
theorem kg_r_zast (hB : kg_B G X own cc nL d ini N0 NX) {p n j : Nat} {x : Int32} (hp : p < 1000) (hpw : p < w.1) (hkd : kg_kd p = (1, n)) (hj : j < n) (hn : n < 2 ^ 31) (h01 : x = 0 ∨ x = 1) (hd : decode cc pc = .ok (.bastore, 1))
    (kk : kg_V G X nL N0 NX (pc + 1) ls st w (kg_wr M p j x)) : kg_V G X nL N0 NX pc ls (.int x :: .int (nI j) :: .ref p :: st) w M := by
  intro g1 g2 p' e R s m args below meth c' Qf hX H locs A hH hS hl
  obtain ⟨hx, hb, -, hown, hts, hI, -⟩ := hB _ _ _ _ _ _ _ _ _ _ hX
  rw [List.map_cons, List.map_cons, List.map_cons, kg_cvref G hp]
  refine W.zast hx hb (hH.2 p (kg_b G + p, .inl (G.2.2.2.1 1, n, .inl (M p))) (by rw [kg_wl_at hpw, kg_ce_i hkd (by omega)])) ((hI.1.2 1 _ rfl).1 n (fun j => .int (M p j))) (fun q => by cases q) (by show ¬ (nI j < 0 ∨ (arrV _ _ _).slots.size ≤ _); rw [arrV_size]; exact vp_in_nI hj hn) rfl rfl hd fun H1 e1 z oq => ?_
  refine kk g1 g2 p' e R s m args below meth c' Qf hX H1 _ A (kg_WH_put hH rfl hpw z oq ?_ (fun q hq => kg_ce_wr hq)) (kg_S_put (A := kg_A G) hS z oq) hl
  rw [kg_ce_i hkd (by omega)]
  have e2 : narrow .boolean (.int x) = .int x := by rcases h01 with rfl | rfl <;> rfl
  show H1[kg_b G + p]? = some (vp_cell _ _)
  rw [e1, e2, vp_cell_i, vp_cell_i, arrV_store, kg_wr_upd, nI_clamp (by omega)]
  congr 2
  funext q
  by_cases hq : q = j <;> simp [updV, upd, hq]
theorem kg_r_cast (hB : kg_B G X own cc nL d ini N0 NX) {p n j x : Nat} (hp : p < 1000) (hpw : p < w.1) (hkd : kg_kd p = (2, n)) (hj : j < n) (hn : n < 2 ^ 31) (h01 : x < 65536) (hd : decode cc pc = .ok (.castore, 1))
    (kk : kg_V G X nL N0 NX (pc + 1) ls st w (kg_wr M p j (nI x))) : kg_V G X nL N0 NX pc ls (.int (nI x) :: .int (nI j) :: .ref p :: st) w M := by
  intro g1 g2 p' e R s m args below meth c' Qf hX H locs A hH hS hl
  obtain ⟨hx, hb, -, hown, hts, hI, -⟩ := hB _ _ _ _ _ _ _ _ _ _ hX
  rw [List.map_cons, List.map_cons, List.map_cons, kg_cvref G hp]
  refine W.cast hx hb (hH.2 p (kg_b G + p, .inl (G.2.2.2.1 2, n, .inl (M p))) (by rw [kg_wl_at hpw, kg_ce_i hkd (by omega)])) ((hI.1.2 2 _ rfl).1 n (fun j => .int (M p j))) (fun q => by cases q) (by show ¬ (nI j < 0 ∨ (arrV _ _ _).slots.size ≤ _); rw [arrV_size]; exact vp_in_nI hj hn) rfl rfl hd fun H1 e1 z oq => ?_
  refine kk g1 g2 p' e R s m args below meth c' Qf hX H1 _ A (kg_WH_put hH rfl hpw z oq ?_ (fun q hq => kg_ce_wr hq)) (kg_S_put (A := kg_A G) hS z oq) hl
  rw [kg_ce_i hkd (by omega)]
  have e2 : narrow .char (.int (nI x)) = .int (nI x) := (pk_charN h01).1
  show H1[kg_b G + p]? = some (vp_cell _ _)
  rw [e1, e2, vp_cell_i, vp_cell_i, arrV_store, kg_wr_upd, nI_clamp (by omega)]
  congr 2
  funext q
  by_cases hq : q = j <;> simp [updV, upd, hq]
theorem kg_r_aast (hB : kg_B G X own cc nL d ini N0 NX) {p n j q : Nat} (hp : p < 1000) (hpw : p < w.1) (hkd : kg_kd p = (3, n)) (hj : j < n) (hn : n < 2 ^ 31) (hq0 : q ≠ 0) (hq1 : q < 1000) (hqw : q < w.1) (hqk : kg_kd q = (4, 4)) (hd : decode cc pc = .ok (.aastore, 1))
    (kk : kg_V G X nL N0 NX (pc + 1) ls st (kg_wrr w p j q) M) : kg_V G X nL N0 NX pc ls (.ref q :: .int (nI j) :: .ref p :: st) w M := by
  intro g1 g2 p' e R s m args below meth c' Qf hX H locs A hH hS hl
  obtain ⟨hx, hb, -, hown, hts, hI, -⟩ := hB _ _ _ _ _ _ _ _ _ _ hX
  rw [List.map_cons, List.map_cons, List.map_cons, kg_cvref G hp, kg_cvref G hq1]
  obtain ⟨r', hr', cellV, s1, s2, s3, -⟩ := hH.2 q (kg_b G + q, .inr (4, kg_fs (kg_b G) w M q 4)) (by rw [kg_wl_at hqw, kg_ce_o hqk])
  have hcls := (hI.1.1 4 _ (kg_F_cl (c := 4) (by omega))).2
  obtain ⟨kA, comp, k1, k2, k3, -⟩ := (hI.1.2 3 _ rfl).2
  have hcomp : comp = G.2.2.1.1 4 := Option.some.inj (k3.symm.trans hcls.1)
  subst hcomp
  obtain ⟨kC, hkC, -⟩ := hcls.2
  refine W.aast hx hb (hH.2 p (kg_b G + p, .inl (G.2.2.2.1 3, n, .inr (.inr (.inr (.inr (fun i => kg_ro (kg_b G) (w.2 p i))))))) (by rw [kg_wl_at hpw, kg_ce_q hkd])) (fun q h => by cases h) (fun h => by cases h) k1 k2 rfl hkC ⟨(nI_pos (by omega)), by show _ < (arrV _ _ _).slots.size; rw [arrV_size, nI_clamp (by omega)]; exact hj⟩ s1 (fun q h => by rw [s3] at h; cases h) (by rw [s2]; exact hkC) (by rw [s2]; exact va_assign hcls) rfl rfl hd fun H1 e1 z oq => ?_
  have g1' : N0 ≤ (kg_wrr w p j q).1 := g1
  refine kk g1 g2 p' e R s m args below meth c' Qf hX H1 _ A (kg_WH_put hH rfl hpw z oq ?_ (fun q hq => kg_ce_wrr hq)) (kg_S_put (A := kg_A G) hS z oq) hl
  rw [kg_ce_q hkd]
  show H1[kg_b G + p]? = some (vp_cell _ _)
  rw [e1, vp_cell_q, vp_cell_q, arrV_store, nI_clamp (by omega)]
  congr 2
  funext i
  by_cases hi : i = j <;> simp [updV, hi, kg_wrr, kg_ro, hq0, va_rf]
end
