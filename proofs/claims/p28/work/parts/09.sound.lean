/-! SOUNDNESS of one row, and of a run -/
theorem kg_ca {G : kg_G} {w : kg_W} {M : kg_M} {n : Nat} {i : Int32} {K : Nat → Prop} (h : kg_at n i K) : ∃ j, j < n ∧ i = nI j ∧ K j := h
theorem kg_kdn (p : Nat) : (kg_kd p).2 < 2 ^ 31 := by
  have hs : ∀ r, (kg_sb r).2 < 2 ^ 31 := by
    intro r
    unfold kg_sb
    split <;> decide
  unfold kg_kd
  split
  · decide
  · split
    · exact hs _
    · split
      · decide
      · split
        · exact hs _
        · split <;> decide
theorem kg_kd_eta {p t : Nat} (h : (kg_kd p).1 = t) : kg_kd p = (t, (kg_kd p).2) := by rw [← h]
theorem kg_fll_of {o c a b : Nat} (h : (o, c, a, b) ∈ kg_fll) : a < 6 ∧ b < kg_nf a ∧ Cond.fieldLink (kg_cn o) c (kg_F a b).1 (kg_F a b).2.1 (kg_F a b).2.2.1 ∈ kg_T := by
  obtain ⟨⟨o8, i8, m8, k8, p1⟩, h8, e8⟩ := List.mem_map.mp h
  simp only [Prod.mk.injEq] at e8
  obtain ⟨rfl, rfl, rfl, rfl⟩ := e8
  have ok := List.all_eq_true.mp kg_fl5_ok _ h8
  simp only [kg_flo, Bool.and_eq_true, decide_eq_true_eq] at ok
  exact ⟨ok.1.1, ok.1.2, kg_wp_of ok.2⟩
theorem kg_cll_of {o c a : Nat} (h : (o, c, a) ∈ kg_cll) : a < 6 ∧ Cond.classLink (kg_cn o) c (kg_C a) ∈ kg_T ∧ Cond.instantiable (kg_C a) (kg_nf a) ∈ kg_T ∧ Cond.initialized (kg_C a) ∈ kg_T ∧ ∀ k, k < kg_nf a → defaultValue (kg_ft a k) = if kg_fr a k = true then .null else .int 0 := by
  have ok := List.all_eq_true.mp kg_cll_ok _ h
  simp only [Bool.and_eq_true, decide_eq_true_eq] at ok
  refine ⟨ok.1.1.1.1, kg_w1_of ok.1.1.1.2, kg_w1_of ok.1.1.2, kg_w1_of ok.1.2, fun k hk => ?_⟩
  have := List.all_eq_true.mp ok.2 k (List.mem_range.mpr hk)
  simpa using this
section
variable {G : kg_G} {X : kg_Xt} {o : Nat} {cc : ByteArray} {nL d : Nat} {ini : Bool} {N0 NX : Nat}
set_option maxHeartbeats 4000000 in
set_option maxRecDepth 10000 in
theorem kg_step (hB : kg_B G X (kg_cn o) cc nL d ini N0 NX) (hd1 : 1 ≤ d) (hL : G.2.2.2.2.2.1 < 2 ^ 31) {ret : kg_Qt}
    (hri : ∀ pc ls x w M, decode cc pc = .ok (.ireturn, 1) → ret (some (.int x)) w M → kg_V G X nL N0 NX pc ls [.int x] w M)
    (hrv : ∀ pc ls w M, decode cc pc = .ok (.return_, 1) → ret none w M → kg_V G X nL N0 NX pc ls [] w M)
    {k : kg_K} (hk : ∀ pc ls st w M, k pc ls st w M → kg_V G X nL N0 NX pc ls st w M)
    {pc nx t a b c : Nat} {l : List (Nat × Nat)} {ls : List (Option Value)} {st : List Value} {w : kg_W} {M : kg_M}
    (hok : kg_okb o ini nL cc pc nx t a b c l = true) (hex : kg_exs G NX (kg_call G d NX) ret t a b c l nx k ls st w M) : kg_V G X nL N0 NX pc ls st w M := by
  have kont : ∀ (nx : Nat) (r : List Value) (v : Option Value) (w' : kg_W) (M' : kg_M), nx = pc + 3 → kg_kont k nx ls r v w' M' → kg_V G X nL N0 NX (pc + 3) ls (v.toList ++ r) w' M' := fun nx r v w' M' e h => by subst e; exact hk _ _ _ _ _ h
  match t, hok, hex with
  | 0, hok, hex =>
    have h := of_decide_eq_true hok
    rcases h with ⟨h1, h2, h3⟩ | ⟨h1, h2, h3⟩ | ⟨h1, h2, h3⟩ | ⟨h1, h2, h3⟩
    · exact kg_r_const hB (Or.inl ⟨h1, h2, h3⟩) (hk _ _ _ _ _ hex)
    · exact kg_r_const hB (Or.inr (Or.inl ⟨h1, h2, h3⟩)) (hk _ _ _ _ _ hex)
    · exact kg_r_const hB (Or.inr (Or.inr ⟨h1, h2, h3⟩)) (hk _ _ _ _ _ hex)
    · subst h1
      exact kg_r_ldc hB h2 (kg_w1_of (List.all_eq_true.mp kg_ctl_ok _ h3)) (hk _ _ _ _ _ hex)
  | 1, hok, hex =>
    have h := of_decide_eq_true hok
    rcases h with ⟨h1, h2, h3⟩ | ⟨h1, h2, h3⟩
    · exact kg_r_const hB (Or.inl ⟨h1, h2, h3⟩) (hk _ _ _ _ _ hex)
    · exact kg_r_const hB (Or.inr (Or.inl ⟨h1, h2, h3⟩)) (hk _ _ _ _ _ hex)
  | 2, hok, hex =>
    obtain ⟨ha, h⟩ := of_decide_eq_true hok
    match hv : kg_lg ls a, (show kg_vi (kg_lg ls a) _ from hex) with
    | some (.int x), hex =>
      refine kg_r_iload hB ha ?_ hv (hk _ _ _ _ _ hex)
      rcases h with ⟨h1, h2, h3⟩ | ⟨h1, h2⟩
      · exact Or.inl ⟨h1, _, by simp [Fin.ofNat, Nat.mod_eq_of_lt h2], h3⟩
      · exact Or.inr ⟨h1, h2⟩
  | 3, hok, hex =>
    obtain ⟨ha, h⟩ := of_decide_eq_true hok
    match hv : kg_lg ls a, (show kg_vr (kg_lg ls a) _ from hex) with
    | some (.ref x), hex =>
      refine kg_r_aload hB ha ?_ hv (hk _ _ _ _ _ hex)
      rcases h with ⟨h1, h2, h3⟩ | ⟨h1, h2⟩
      · exact Or.inl ⟨h1, _, by simp [Fin.ofNat, Nat.mod_eq_of_lt h2], h3⟩
      · exact Or.inr ⟨h1, h2⟩
  | 4, hok, hex =>
    obtain ⟨ha, h⟩ := of_decide_eq_true hok
    match st, (show kg_1i st _ from hex) with
    | .int x :: r, hex =>
      refine kg_r_istore hB ha ?_ (hk _ _ _ _ _ hex)
      rcases h with ⟨h1, h2, h3⟩ | ⟨h1, h2⟩
      · exact Or.inl ⟨h1, _, by simp [Fin.ofNat, Nat.mod_eq_of_lt h2], h3⟩
      · exact Or.inr ⟨h1, h2⟩
  | 5, hok, hex =>
    obtain ⟨ha, h⟩ := of_decide_eq_true hok
    match st, (show kg_1r st _ from hex) with
    | .ref x :: r, hex =>
      refine kg_r_astore hB ha ?_ (hk _ _ _ _ _ hex)
      rcases h with ⟨h1, h2, h3⟩ | ⟨h1, h2⟩
      · exact Or.inl ⟨h1, _, by simp [Fin.ofNat, Nat.mod_eq_of_lt h2], h3⟩
      · exact Or.inr ⟨h1, h2⟩
  | 6, hok, hex =>
    obtain ⟨ha, h1, h2, h3⟩ := of_decide_eq_true hok
    subst h1
    match hv : kg_lg ls a, (show kg_vi (kg_lg ls a) _ from hex) with
    | some (.int x), hex =>
      exact kg_r_iinc hB ha h2 hv h3 (hk _ _ _ _ _ hex)
  | 7, hok, hex =>
    obtain ⟨h1, h2⟩ := of_decide_eq_true hok
    subst h1
    match st, (show kg_2i st _ from hex) with
    | .int y :: .int x :: r, hex => exact kg_r_iadd hB h2 (hk _ _ _ _ _ hex)
  | 8, hok, hex =>
    obtain ⟨h1, h2⟩ := of_decide_eq_true hok
    subst h1
    match st, (show kg_2i st _ from hex) with
    | .int y :: .int x :: r, hex => exact kg_r_isub hB h2 (hk _ _ _ _ _ hex)
  | 9, hok, hex =>
    obtain ⟨h1, h2⟩ := of_decide_eq_true hok
    subst h1
    match st, (show kg_2i st _ from hex) with
    | .int y :: .int x :: r, hex => exact kg_r_imul hB h2 (hk _ _ _ _ _ hex)
  | 10, hok, hex =>
    obtain ⟨h1, h2⟩ := of_decide_eq_true hok
    subst h1
    match st, (show kg_2i st _ from hex) with
    | .int y :: .int x :: r, hex => exact kg_r_irem hB h2 hex.1 (hk _ _ _ _ _ hex.2)
  | 11, hok, hex =>
    obtain ⟨h1, h2⟩ := of_decide_eq_true hok
    subst h1
    match st, (show kg_2i st _ from hex) with
    | .int y :: .int x :: r, hex => exact kg_r_iand hB h2 (hk _ _ _ _ _ hex)
  | 12, hok, hex =>
    obtain ⟨h1, h2⟩ := of_decide_eq_true hok
    subst h1
    match st, (show kg_1i st _ from hex) with
    | .int x :: r, hex => exact kg_r_i2c hB h2 (hk _ _ _ _ _ hex)
  | 13, hok, hex =>
    obtain ⟨h1, h2⟩ := of_decide_eq_true hok
    subst h1
    match st, hex with
    | v :: r, hex => exact kg_r_dup hB h2 (hk _ _ _ _ _ hex)
  | 14, hok, hex =>
    obtain ⟨h1, h2⟩ := of_decide_eq_true hok
    subst h1
    match st, hex with
    | v :: u :: r, hex => exact kg_r_dup2 hB h2 (hk _ _ _ _ _ hex)
  | 15, hok, hex =>
    obtain ⟨h1, h2⟩ := of_decide_eq_true hok
    subst h1
    match st, hex with
    | v :: r, hex => exact kg_r_pop hB h2 (hk _ _ _ _ _ hex)
  | 16, hok, hex =>
    obtain ⟨h1, h2⟩ := of_decide_eq_true hok
    subst h1
    match st, (show kg_1i st _ from hex) with
    | .int x :: r, hex =>
      exact kg_r_if hB h2 (by omega) (fun h => hk _ _ _ _ _ (hex.1 h)) (fun h => hk _ _ _ _ _ (hex.2 h))
  | 17, hok, hex =>
    obtain ⟨h1, h2⟩ := of_decide_eq_true hok
    subst h1
    match st, (show kg_2i st _ from hex) with
    | .int y :: .int x :: r, hex =>
      exact kg_r_icmp hB h2 (by omega) (fun h => hk _ _ _ _ _ (hex.1 h)) (fun h => hk _ _ _ _ _ (hex.2 h))
  | 18, hok, hex =>
    have h2 := of_decide_eq_true hok
    exact kg_r_goto hB h2 (by omega) (hk _ _ _ _ _ hex)
  | 19, hok, hex =>
    obtain ⟨h1, h2, h3, h4⟩ := of_decide_eq_true hok
    match st, (show kg_1i st _ from hex) with
    | .int x :: r, hex =>
      refine kg_r_tsw hB h1 h2 h3 h4 ?_
      have : ∀ {l : List (Nat × Nat)}, kg_sw l b x (fun t => k t ls r w M) → kg_sw l b x (fun t => kg_V G X nL N0 NX t ls r w M) := by
        intro l
        induction l with
        | nil => exact fun h => hk _ _ _ _ _ h
        | cons q l ih => exact fun h => ⟨fun e => hk _ _ _ _ _ (h.1 e), fun e => ih (h.2 e)⟩
      exact this hex
  | 20, hok, hex =>
    obtain ⟨h1, h2, h3⟩ := of_decide_eq_true hok
    match st, (show kg_1i st _ from hex) with
    | .int x :: r, hex =>
      refine kg_r_lsw hB (fun q hq => by simpa using List.all_eq_true.mp h1 q hq) h2 h3 ?_
      have : ∀ {l : List (Nat × Nat)}, kg_sw l b x (fun t => k t ls r w M) → kg_sw l b x (fun t => kg_V G X nL N0 NX t ls r w M) := by
        intro l
        induction l with
        | nil => exact fun h => hk _ _ _ _ _ h
        | cons q l ih => exact fun h => ⟨fun e => hk _ _ _ _ _ (h.1 e), fun e => ih (h.2 e)⟩
      exact this hex
  | 21, hok, hex =>
    obtain ⟨h1, h2, h3, h4⟩ := of_decide_eq_true hok
    subst h1
    have hf := kg_fll_of h2
    match st, (show kg_1r st _ from hex) with
    | .ref p :: r, ⟨g1, g2, g3, g4⟩ => exact kg_r_geti hB g2 g1 hf.1 hf.2.1 g3 h3 hf.2.2 h4 (hk _ _ _ _ _ g4)
  | 22, hok, hex =>
    obtain ⟨h1, h2, h3, h4⟩ := of_decide_eq_true hok
    subst h1
    have hf := kg_fll_of h2
    match st, (show kg_1r st _ from hex) with
    | .ref p :: r, ⟨g1, g2, g3, g4, g5, g6⟩ => exact kg_r_getr hB g2 g1 hf.1 hf.2.1 g3 h3 hf.2.2 rfl g4 g5 h4 (hk _ _ _ _ _ g6)
  | 23, hok, hex =>
    obtain ⟨h1, h2, h3, h5, h6, h4⟩ := of_decide_eq_true hok
    subst h1
    have hf := kg_fll_of h2
    match st, hex with
    | .int x :: .ref p :: r, ⟨g1, g2, g3, g4⟩ => exact kg_r_puti hB g2 g1 hf.1 hf.2.1 g3 h3 hf.2.2 h6 h4 (Or.inl h5) (hk _ _ _ _ _ g4)
  | 24, hok, hex =>
    obtain ⟨h1, h2, h3, h5, h6, h4⟩ := of_decide_eq_true hok
    subst h1
    have hf := kg_fll_of h2
    match st, hex with
    | .int x :: .ref p :: r, ⟨g1, g2, g3, g4, g5⟩ => exact kg_r_puti hB g2 g1 hf.1 hf.2.1 g3 h3 hf.2.2 h6 h4 (Or.inr ⟨h5, g4⟩) (hk _ _ _ _ _ g5)
  | 25, hok, hex =>
    obtain ⟨h1, h2, h3, h5, h6, h4⟩ := of_decide_eq_true hok
    subst h1
    have hf := kg_fll_of h2
    match st, hex with
    | .ref q :: .ref p :: r, ⟨g1, g2, g3, g4, g6, g5⟩ =>
      refine kg_r_putr hB g2 g1 hf.1 hf.2.1 g3 h3 hf.2.2 h6 g4 g6 h4 ?_ (hk _ _ _ _ _ g5)
      cases hft : kg_ft a b with
      | array t => exact Or.inl ⟨t, rfl⟩
      | object t => exact Or.inr ⟨t, rfl⟩
      | _ => rw [hft] at h5; cases h5
  | 26, hok, hex =>
    obtain ⟨h1, h2, h3, h4⟩ := of_decide_eq_true hok
    subst h1
    refine kg_r_gets hB h2 ?_ h4 (hk _ _ _ _ _ hex)
    rcases h3 with h3 | ⟨rfl, rfl, rfl⟩
    · have ok := List.all_eq_true.mp kg_sfl_ok _ h3
      simp only [Bool.and_eq_true] at ok
      exact Or.inl (kg_w1_of ok.2)
    · exact Or.inr ⟨rfl, rfl, rfl⟩
  | 27, hok, hex =>
    obtain ⟨h1, h2⟩ := of_decide_eq_true hok
    subst h1
    match st, (show kg_ir st _ from hex) with
    | .int i :: .ref p :: r, ⟨g1, g2, g3⟩ =>
      rcases Nat.lt_trichotomy p 1000 with hp | hp | hp
      · obtain ⟨e1, e2, j, e3, rfl, e4⟩ := g3 hp
        exact kg_r_iald hB hp e1 (kg_kd_eta e2) e3 (kg_kdn p) h2 (hk _ _ _ _ _ e4)
      · obtain ⟨j, e3, rfl, e4⟩ := g1 hp
        subst hp
        exact kg_r_ildx hB e3 hL h2 (hk _ _ _ _ _ e4)
      · obtain ⟨e1, j, e3, rfl, e4⟩ := g2 hp
        exact kg_r_ilds hB (by simp; omega) e3 h2 (hk _ _ _ _ _ e4)
  | 28, hok, hex =>
    obtain ⟨h1, h2⟩ := of_decide_eq_true hok
    subst h1
    match st, (show kg_ir st _ from hex) with
    | .int i :: .ref p :: r, hex =>
      obtain ⟨g1, g2, g3, j, e3, rfl, e4⟩ := hex
      exact kg_r_zald hB g2 g1 (kg_kd_eta g3) e3 (kg_kdn p) h2 (hk _ _ _ _ _ e4)
  | 29, hok, hex =>
    obtain ⟨h1, h2⟩ := of_decide_eq_true hok
    subst h1
    match st, (show kg_ir st _ from hex) with
    | .int i :: .ref p :: r, hex =>
      obtain ⟨g1, g2, g3, j, e3, rfl, e4⟩ := hex
      exact kg_r_cald hB g2 g1 (kg_kd_eta g3) e3 (kg_kdn p) h2 (hk _ _ _ _ _ e4)
  | 30, hok, hex =>
    obtain ⟨h1, h2⟩ := of_decide_eq_true hok
    subst h1
    match st, (show kg_ir st _ from hex) with
    | .int i :: .ref p :: r, hex =>
      obtain ⟨g1, g2, g3, j, e3, rfl, e4, e5, e6⟩ := hex
      exact kg_r_aald hB g2 g1 (kg_kd_eta g3) e3 (kg_kdn p) rfl e4 e5 h2 (hk _ _ _ _ _ e6)
  | 31, hok, hex =>
    obtain ⟨h1, h2⟩ := of_decide_eq_true hok
    subst h1
    match st, (show kg_iir st _ from hex) with
    | .int x :: .int i :: .ref p :: r, hex =>
      obtain ⟨g1, g2, g3, j, e3, rfl, e4⟩ := hex
      exact kg_r_iast hB g2 g1 (kg_kd_eta g3) e3 (kg_kdn p) h2 (hk _ _ _ _ _ e4)
  | 32, hok, hex =>
    obtain ⟨h1, h2⟩ := of_decide_eq_true hok
    subst h1
    match st, (show kg_iir st _ from hex) with
    | .int x :: .int i :: .ref p :: r, hex =>
      obtain ⟨g1, g2, g3, g4, j, e3, rfl, e4⟩ := hex
      exact kg_r_zast hB g2 g1 (kg_kd_eta g3) e3 (kg_kdn p) g4 h2 (hk _ _ _ _ _ e4)
  | 33, hok, hex =>
    obtain ⟨h1, h2⟩ := of_decide_eq_true hok
    subst h1
    match st, (show kg_iir st _ from hex) with
    | .int x :: .int i :: .ref p :: r, hex =>
      obtain ⟨g1, g2, g3, z, e1, rfl, j, e3, rfl, e4⟩ := hex
      exact kg_r_cast hB g2 g1 (kg_kd_eta g3) e3 (kg_kdn p) e1 h2 (hk _ _ _ _ _ e4)
  | 34, hok, hex =>
    obtain ⟨h1, h2⟩ := of_decide_eq_true hok
    subst h1
    match st, hex with
    | .ref q :: .int i :: .ref p :: r, hex =>
      obtain ⟨g1, g2, g3, g4, g5, g6, g7, j, e3, rfl, e4⟩ := hex
      exact kg_r_aast hB g2 g1 (kg_kd_eta g3) e3 (kg_kdn p) g4 g5 g6 g7 h2 (hk _ _ _ _ _ e4)
  | 35, hok, hex =>
    obtain ⟨h1, h2⟩ := of_decide_eq_true hok
    subst h1
    match st, hex with
    | .ref p :: r, hex =>
      obtain ⟨rfl, e4⟩ := hex
      exact kg_r_slen hB h2 (hk _ _ _ _ _ e4)
  | 36, hok, hex =>
    obtain ⟨h1, h2, h3⟩ := of_decide_eq_true hok
    subst h1
    have hc := kg_cll_of h2
    obtain ⟨g1, g2, g3, g4⟩ := hex
    exact kg_r_new hB g1 g2 hc.1 g3 hc.2.1 hc.2.2.1 hc.2.2.2.1 hc.2.2.2.2 h3 (hk _ _ _ _ _ g4)
  | 37, hok, hex =>
    obtain ⟨h1, h2⟩ := of_decide_eq_true hok
    subst h1
    match st, (show kg_1i st _ from hex) with
    | .int n :: r, hex =>
      obtain ⟨g1, g2, g3, rfl, g4⟩ := hex
      have hz : (kg_kd w.1).2 < 2 ^ 20 := by
        have : ∀ p, p < 125 → (kg_kd p).2 < 2 ^ 20 := by decide +kernel
        exact this _ g1
      rcases h2 with ⟨rfl, h2⟩ | ⟨rfl, h2⟩ | ⟨rfl, h2⟩
      · exact kg_r_newa hB g1 g2 (kg_kd_eta g3) (by omega) (aty := .int) (ty := .int) rfl rfl (fun _ _ h => h) rfl hz (by decide) kg_k_arr.1 h2 (hk _ _ _ _ _ g4)
      · exact kg_r_newa hB g1 g2 (kg_kd_eta g3) (by omega) (aty := .boolean) (ty := .boolean) rfl rfl (fun _ _ h => h) rfl hz (by decide) kg_k_arr.2.1 h2 (hk _ _ _ _ _ g4)
      · exact kg_r_newa hB g1 g2 (kg_kd_eta g3) (by omega) (aty := .char) (ty := .char) rfl rfl (fun _ _ h => h) rfl hz (by decide) kg_k_arr.2.2 h2 (hk _ _ _ _ _ g4)
  | 38, hok, hex =>
    obtain ⟨h1, h2, h3⟩ := of_decide_eq_true hok
    subst h1
    have hc := kg_cll_of h2
    match st, (show kg_1i st _ from hex) with
    | .int n :: r, hex =>
      obtain ⟨g1, g2, g3, rfl, g4⟩ := hex
      have hz : (kg_kd w.1).2 < 2 ^ 20 := by
        have : ∀ p, p < 125 → (kg_kd p).2 < 2 ^ 20 := by decide +kernel
        exact this _ g1
      exact kg_r_anew hB g1 g2 (kg_kd_eta g3) hz hc.2.1 h3 (hk _ _ _ _ _ g4)
  | 39, hok, hex =>
    obtain ⟨h1, h2, h3, h4⟩ := of_decide_eq_true hok
    obtain ⟨u, r, e1, rfl, e3⟩ := kg_args_of (show kg_args b st [] _ from hex)
    rw [List.append_nil] at e3
    match hu : u.reverse, e3 with
    | .ref p :: as, ⟨g1, g2, g3, g4, g5⟩ =>
      have hu2 : u = as.reverse ++ [.ref p] := by
        have := congrArg List.reverse hu
        simpa using this
      have hlen : as.length = b - 1 := by
        rw [hu2] at e1
        simp at e1
        omega
      rw [hu2, List.append_assoc]
      exact kg_c_virt hB rfl h2 h3 hlen g3 g2 g4 g1 h4 g5 (fun v w' M' h => kont nx r v w' M' h1 h)
  | 40, hok, hex =>
    obtain ⟨h1, h2, h3, h4⟩ := of_decide_eq_true hok
    obtain ⟨u, r, e1, rfl, g1, g2⟩ := kg_args_of (show kg_args b st [] _ from hex)
    rw [List.append_nil] at g2
    have h9 := kg_c_stat (as := u.reverse) hB rfl h2 h3 (by simpa using e1) g1 h4 g2 (fun v w' M' h => kont nx r v w' M' h1 h)
    rw [List.reverse_reverse] at h9
    exact h9
  | 41, hok, hex =>
    obtain ⟨h1, h2, h3, h4⟩ := of_decide_eq_true hok
    obtain ⟨u, r, e1, rfl, g1, g2⟩ := kg_args_of (show kg_args b st [] _ from hex)
    rw [List.append_nil] at g2
    have h9 := kg_c_statN (as := u.reverse) hB rfl h2 h3 (by simpa using e1) g1 h4 g2 (fun v w' M' h => kont nx r v w' M' h1 h)
    rw [List.reverse_reverse] at h9
    exact h9
  | 42, hok, hex =>
    obtain ⟨h1, h2, h3, h4⟩ := of_decide_eq_true hok
    match st, (show kg_1r st _ from hex) with
    | .ref p :: r, ⟨g1, g2, g3⟩ => exact kg_c_init hB rfl h2 h3 g1 g2 h4 g3 (fun v w' M' h => kont nx r v w' M' h1 h)
  | 43, hok, hex =>
    obtain ⟨h1, h2, h3, h4⟩ := of_decide_eq_true hok
    match st, (show kg_1r st _ from hex) with
    | .ref p :: r, ⟨g1, g2, g3⟩ => exact kg_c_initN hB rfl h2 h3 g1 g2 h4 g3 (fun v w' M' h => kont nx r v w' M' h1 h)
  | 44, hok, hex =>
    obtain ⟨h1, h2, h3⟩ := of_decide_eq_true hok
    subst h1
    match st, (show kg_1r st _ from hex) with
    | .ref p :: r, ⟨g1, g2⟩ => exact kg_r_obj hB hd1 g1 (kg_w1_of (List.all_eq_true.mp kg_obl_ok _ h2)) kg_k_obj kg_k_objc h3 (hk _ _ _ _ _ g2)
  | 45, hok, hex =>
    obtain ⟨h1, h2, h3⟩ := of_decide_eq_true hok
    subst h1
    match st, (show kg_2i st _ from hex) with
    | .int y :: .int x :: r, ⟨g1, g2⟩ => exact kg_r_mmin hB hd1 g1 (kg_w1_of (List.all_eq_true.mp kg_mnl_ok _ h2)) kg_k_mins kg_k_mi kg_k_min h3 (hk _ _ _ _ _ g2)
  | 46, hok, hex =>
    obtain ⟨h1, h2, h3⟩ := of_decide_eq_true hok
    subst h1
    match st, (show kg_2i st _ from hex) with
    | .int y :: .int x :: r, ⟨g1, g2⟩ => exact kg_r_mmax hB hd1 g1 (kg_w1_of (List.all_eq_true.mp kg_mxl_ok _ h2)) kg_k_maxs kg_k_mi kg_k_max h3 (hk _ _ _ _ _ g2)
  | 47, hok, hex =>
    obtain ⟨h1, h2, h3⟩ := of_decide_eq_true hok
    subst h1
    match st, hex with
    | .int n :: .int z2 :: .ref q :: .int z1 :: .ref p :: r, hex =>
      obtain ⟨g1, g2, rfl, rfl, g3, g4, g5, g6, g7, g8, j, g9, rfl, g10, g11, g12⟩ := hex
      exact kg_r_copy hB g2 hd1 g1 (kg_w1_of (List.all_eq_true.mp kg_acl_ok _ h2)) kg_k_ac.1 kg_k_ac.2.1 kg_k_ac.2.2 g4 g3 (kg_kd_eta g7) g6 g5 (kg_kd_eta g8) g10 g11 g9 h3 (hk _ _ _ _ _ g12)
  | 48, hok, hex =>
    have h2 := of_decide_eq_true hok
    match st, hex with
    | [.int x], hex => exact hri _ _ _ _ _ h2 hex
  | 49, hok, hex =>
    have h2 := of_decide_eq_true hok
    match st, hex with
    | [], hex => exact hrv _ _ _ _ h2 hex
  | 50, hok, hex =>
    obtain ⟨h1, h2⟩ := of_decide_eq_true hok
    subst h1
    match st, (show kg_2i st _ from hex) with
    | .int y :: .int x :: r, hex => exact kg_r_ishr hB h2 (hk _ _ _ _ _ hex)
  | 51, hok, hex =>
    obtain ⟨h1, h2⟩ := of_decide_eq_true hok
    subst h1
    match st, (show kg_2i st _ from hex) with
    | .int y :: .int x :: r, hex => exact kg_r_idiv hB h2 hex.1 (hk _ _ _ _ _ hex.2)
def kg_okc (o : Nat) (ini : Bool) (nL : Nat) (cc : ByteArray) (cd : kg_Cd) : Bool := cd.all (fun q => kg_okb o ini nL cc q.1 q.2.1 q.2.2.1 q.2.2.2.1 q.2.2.2.2.1 q.2.2.2.2.2.1 q.2.2.2.2.2.2)
theorem kg_lk_in : ∀ {cd : kg_Cd} {pc : Nat} {q : Nat × kg_Op}, kg_lk cd pc = some q → (pc, q) ∈ cd
  | [], _, _, h => by simp [kg_lk] at h
  | (p, r) :: l, pc, q, h => by
    unfold kg_lk at h
    by_cases e : p = pc
    · rw [if_pos e] at h
      cases h
      subst e
      exact List.mem_cons_self
    · rw [if_neg e] at h
      exact List.mem_cons_of_mem _ (kg_lk_in h)
theorem kg_sound (hB : kg_B G X (kg_cn o) cc nL d ini N0 NX) (hd1 : 1 ≤ d) (hL : G.2.2.2.2.2.1 < 2 ^ 31) {ret : kg_Qt}
    (hri : ∀ pc ls x w M, decode cc pc = .ok (.ireturn, 1) → ret (some (.int x)) w M → kg_V G X nL N0 NX pc ls [.int x] w M)
    (hrv : ∀ pc ls w M, decode cc pc = .ok (.return_, 1) → ret none w M → kg_V G X nL N0 NX pc ls [] w M)
    {cd : kg_Cd} (hok : kg_okc o ini nL cc cd = true) (f : Nat) : ∀ {pc : Nat} {ls : List (Option Value)} {st : List Value} {w : kg_W} {M : kg_M},
    kg_run G NX (kg_call G d NX) ret cd (kg_V G X nL N0 NX) f pc ls st w M → kg_V G X nL N0 NX pc ls st w M := by
  induction f with
  | zero => exact fun h => h
  | succ f ih =>
    intro pc ls st w M h
    have h1 : kg_exo G NX (kg_call G d NX) ret (kg_lk cd pc) (kg_run G NX (kg_call G d NX) ret cd (kg_V G X nL N0 NX) f) ls st w M := h
    cases hl : kg_lk cd pc with
    | none => rw [hl] at h1; exact False.elim h1
    | some q =>
      obtain ⟨nx, t, a, b, c, l⟩ := q
      rw [hl] at h1
      exact kg_step hB hd1 hL hri hrv (fun _ _ _ _ _ h => ih h) (List.all_eq_true.mp hok _ (kg_lk_in hl)) h1
end
