/-! THE ROWS: one lemma an instruction, over the abstract machine -/
def kg_T : List Cond := lw_tbl.filter goodWord
theorem kg_F_in {c : Nat} (h : c < 6) : ∀ w ∈ u_ws (kg_C c) (kg_F c) (kg_nf c), w ∈ kg_T := fun w hw => List.mem_filter.mpr ⟨kg_F_in0 h w hw, List.all_eq_true.mp (kg_F_good h) w hw⟩
abbrev kg_Xt : Type := Program → Env → Room → State → MethodId → Array Value → List Frame → Method → Code → (State → Prop) → Prop
/-- what a method's own words say, of any state that it starts in -/
def kg_Bs (G : kg_G) (own : String) (cc : ByteArray) (nL d : Nat) (ini : Bool) (N0 NX : Nat) (p : Program) (R : Room) (s : State) (m : MethodId) (args : Array Value) (meth : Method) (c : Code) : Prop :=
  p.tables.exec = Jvm.exec ∧ c.code = cc ∧ c.maxLocals = nL ∧ s.vm.findClass own = some m.cls ∧ (∀ w ∈ kg_T, w.before args s = true) ∧ kg_Inv G s ∧ kg_St G s s.heap ∧ kg_b G ≤ s.heap.size ∧ (d ≤ R.frames ∧ 30 * d + 24 ≤ R.locals) ∧ (NX - N0 ≤ R.cells ∧ kg_sz NX - kg_sz N0 ≤ R.slots) ∧ (ini = true → meth.name = "<init>")
def kg_B (G : kg_G) (X : kg_Xt) (own : String) (cc : ByteArray) (nL d : Nat) (ini : Bool) (N0 NX : Nat) : Prop :=
  ∀ p e R s m args below meth c Qf, X p e R s m args below meth c Qf → kg_Bs G own cc nL d ini N0 NX p R s m args meth c
def kg_V (G : kg_G) (X : kg_Xt) (nL N0 NX : Nat) (pc : Nat) (ls : List (Option Value)) (st : List Value) (w : kg_W) (M : kg_M) : Prop :=
  N0 ≤ w.1 → w.1 ≤ NX → ∀ p e R s m args below meth c Qf, X p e R s m args below meth c Qf → ∀ (H : Heap) (locs : List Loc) (A : Array Slot), kg_WH G w M H → va_S (kg_A G) s.heap H locs → lv_has A nL (kg_cl G nL ls) → W p G.1 e R s m args below meth c H locs (w.1 - N0) (kg_sz w.1 - kg_sz N0) Qf (F0 m pc A (st.map (kg_cv G)))
section
variable {G : kg_G} {X : kg_Xt} {own : String} {cc : ByteArray} {nL d : Nat} {ini : Bool} {N0 NX : Nat} {pc : Nat} {ls : List (Option Value)} {st : List Value} {w : kg_W} {M : kg_M}
theorem kg_r_const (hB : kg_B G X own cc nL d ini N0 NX) {a : Int} {x : Int32} {nx : Nat} (h : (nx = pc + 1 ∧ decode cc pc = .ok (.iconst a, 1) ∧ Int32.ofInt a = x) ∨ (nx = pc + 2 ∧ decode cc pc = .ok (.bipush a, 2) ∧ (Int8.ofInt a).toInt32 = x) ∨ (nx = pc + 3 ∧ decode cc pc = .ok (.sipush a, 3) ∧ (Int16.ofInt a).toInt32 = x))
    (k : kg_V G X nL N0 NX nx ls (.int x :: st) w M) : kg_V G X nL N0 NX pc ls st w M := by
  intro g1 g2 p e R s m args below meth c Qf hX H locs A hH hS hl
  obtain ⟨hx, hb, -⟩ := hB _ _ _ _ _ _ _ _ _ _ hX
  rcases h with ⟨rfl, hd, hv⟩ | ⟨rfl, hd, hv⟩ | ⟨rfl, hd, hv⟩
  · exact lv_iconst hx hb hd hv (k g1 g2 p e R s m args below meth c Qf hX H locs A hH hS hl)
  · exact lv_bipush hx hb hd hv (k g1 g2 p e R s m args below meth c Qf hX H locs A hH hS hl)
  · exact lv_sipush hx hb hd hv (k g1 g2 p e R s m args below meth c Qf hX H locs A hH hS hl)
theorem kg_r_ldc (hB : kg_B G X own cc nL d ini N0 NX) {i : Nat} {x : Int32} (hd : decode cc pc = .ok (.ldc i, 2)) (hc : Cond.constant own i x ∈ kg_T)
    (k : kg_V G X nL N0 NX (pc + 2) ls (.int x :: st) w M) : kg_V G X nL N0 NX pc ls st w M := by
  intro g1 g2 p e R s m args below meth c Qf hX H locs A hH hS hl
  obtain ⟨hx, hb, -, hown, hts, -⟩ := hB _ _ _ _ _ _ _ _ _ _ hX
  exact lv_ldc hx hb hown (hts _ hc) hd (k g1 g2 p e R s m args below meth c Qf hX H locs A hH hS hl)
theorem kg_r_iload (hB : kg_B G X own cc nL d ini N0 NX) {a : Nat} {x : Int32} {nx : Nat} (ha : a < nL) (h : (nx = pc + 1 ∧ ∃ f : Fin 4, (f : Nat) = a ∧ decode cc pc = .ok (.iload_n f, 1)) ∨ (nx = pc + 2 ∧ decode cc pc = .ok (.iload a, 2))) (hv : kg_lg ls a = some (.int x))
    (k : kg_V G X nL N0 NX nx ls (.int x :: st) w M) : kg_V G X nL N0 NX pc ls st w M := by
  intro g1 g2 p e R s m args below meth c Qf hX H locs A hH hS hl
  obtain ⟨hx, hb, -⟩ := hB _ _ _ _ _ _ _ _ _ _ hX
  rcases h with ⟨rfl, f, hf, hd⟩ | ⟨rfl, hd⟩
  · exact lv_iload_n hx hb hd hf (kg_l_rd hl ha hv) (k g1 g2 p e R s m args below meth c Qf hX H locs A hH hS hl)
  · exact lv_iload hx hb hd (kg_l_rd hl ha hv) (k g1 g2 p e R s m args below meth c Qf hX H locs A hH hS hl)
theorem kg_r_aload (hB : kg_B G X own cc nL d ini N0 NX) {a q : Nat} {nx : Nat} (ha : a < nL) (h : (nx = pc + 1 ∧ ∃ f : Fin 4, (f : Nat) = a ∧ decode cc pc = .ok (.aload_n f, 1)) ∨ (nx = pc + 2 ∧ decode cc pc = .ok (.aload a, 2))) (hv : kg_lg ls a = some (.ref q))
    (k : kg_V G X nL N0 NX nx ls (.ref q :: st) w M) : kg_V G X nL N0 NX pc ls st w M := by
  intro g1 g2 p e R s m args below meth c Qf hX H locs A hH hS hl
  obtain ⟨hx, hb, -⟩ := hB _ _ _ _ _ _ _ _ _ _ hX
  rcases h with ⟨rfl, f, hf, hd⟩ | ⟨rfl, hd⟩
  · exact lv_aload_n hx hb hd hf (kg_l_rd hl ha hv) (k g1 g2 p e R s m args below meth c Qf hX H locs A hH hS hl)
  · exact lv_aload hx hb hd (kg_l_rd hl ha hv) (k g1 g2 p e R s m args below meth c Qf hX H locs A hH hS hl)
theorem kg_r_istore (hB : kg_B G X own cc nL d ini N0 NX) {a : Nat} {x : Int32} {nx : Nat} (ha : a < nL) (h : (nx = pc + 1 ∧ ∃ f : Fin 4, (f : Nat) = a ∧ decode cc pc = .ok (.istore_n f, 1)) ∨ (nx = pc + 2 ∧ decode cc pc = .ok (.istore a, 2)))
    (k : kg_V G X nL N0 NX nx (kg_ls ls a (.int x)) st w M) : kg_V G X nL N0 NX pc ls (.int x :: st) w M := by
  intro g1 g2 p e R s m args below meth c Qf hX H locs A hH hS hl
  obtain ⟨hx, hb, -⟩ := hB _ _ _ _ _ _ _ _ _ _ hX
  rcases h with ⟨rfl, f, hf, hd⟩ | ⟨rfl, hd⟩
  · exact lv_istore_n hx hb hd hf hl ha rfl (fun A2 h2 => k g1 g2 p e R s m args below meth c Qf hX H locs A2 hH hS (kg_l_wr (v := .int x) h2))
  · exact lv_istore hx hb hd hl ha rfl (fun A2 h2 => k g1 g2 p e R s m args below meth c Qf hX H locs A2 hH hS (kg_l_wr (v := .int x) h2))
theorem kg_r_astore (hB : kg_B G X own cc nL d ini N0 NX) {a q : Nat} {nx : Nat} (ha : a < nL) (h : (nx = pc + 1 ∧ ∃ f : Fin 4, (f : Nat) = a ∧ decode cc pc = .ok (.astore_n f, 1)) ∨ (nx = pc + 2 ∧ decode cc pc = .ok (.astore a, 2)))
    (k : kg_V G X nL N0 NX nx (kg_ls ls a (.ref q)) st w M) : kg_V G X nL N0 NX pc ls (.ref q :: st) w M := by
  intro g1 g2 p e R s m args below meth c Qf hX H locs A hH hS hl
  obtain ⟨hx, hb, -⟩ := hB _ _ _ _ _ _ _ _ _ _ hX
  rcases h with ⟨rfl, f, hf, hd⟩ | ⟨rfl, hd⟩
  · exact lv_astore_n hx hb hd hf hl ha rfl (fun A2 h2 => k g1 g2 p e R s m args below meth c Qf hX H locs A2 hH hS (kg_l_wr (v := .ref q) h2))
  · exact lv_astore hx hb hd hl ha rfl (fun A2 h2 => k g1 g2 p e R s m args below meth c Qf hX H locs A2 hH hS (kg_l_wr (v := .ref q) h2))
theorem kg_r_iinc (hB : kg_B G X own cc nL d ini N0 NX) {a : Nat} {z : Int} {x y : Int32} (ha : a < nL) (hd : decode cc pc = .ok (.iinc a z, 3)) (hv : kg_lg ls a = some (.int x)) (hy : Int32.ofInt z = y)
    (k : kg_V G X nL N0 NX (pc + 3) (kg_ls ls a (.int (x + y))) st w M) : kg_V G X nL N0 NX pc ls st w M := by
  intro g1 g2 p e R s m args below meth c Qf hX H locs A hH hS hl
  obtain ⟨hx, hb, -⟩ := hB _ _ _ _ _ _ _ _ _ _ hX
  obtain ⟨i, hi⟩ := List.getElem?_of_mem (kg_cl_in (G := G) ha hv)
  subst hy
  exact lv_iinc hx hb hd hl hi rfl ha rfl (fun A2 h2 => k g1 g2 p e R s m args below meth c Qf hX H locs A2 hH hS (kg_l_wr (v := .int (x + Int32.ofInt z)) h2))
theorem kg_r_iadd (hB : kg_B G X own cc nL d ini N0 NX) {x y : Int32} (hd : decode cc pc = .ok (.iadd, 1)) (k : kg_V G X nL N0 NX (pc + 1) ls (.int (x + y) :: st) w M) : kg_V G X nL N0 NX pc ls (.int y :: .int x :: st) w M := by
  intro g1 g2 p e R s m args below meth c Qf hX H locs A hH hS hl
  obtain ⟨hx, hb, -⟩ := hB _ _ _ _ _ _ _ _ _ _ hX
  exact lv_iadd hx hb hd (k g1 g2 p e R s m args below meth c Qf hX H locs A hH hS hl)
theorem kg_r_isub (hB : kg_B G X own cc nL d ini N0 NX) {x y : Int32} (hd : decode cc pc = .ok (.isub, 1)) (k : kg_V G X nL N0 NX (pc + 1) ls (.int (x - y) :: st) w M) : kg_V G X nL N0 NX pc ls (.int y :: .int x :: st) w M := by
  intro g1 g2 p e R s m args below meth c Qf hX H locs A hH hS hl
  obtain ⟨hx, hb, -⟩ := hB _ _ _ _ _ _ _ _ _ _ hX
  exact lv_isub hx hb hd (k g1 g2 p e R s m args below meth c Qf hX H locs A hH hS hl)
theorem kg_r_imul (hB : kg_B G X own cc nL d ini N0 NX) {x y : Int32} (hd : decode cc pc = .ok (.imul, 1)) (k : kg_V G X nL N0 NX (pc + 1) ls (.int (x * y) :: st) w M) : kg_V G X nL N0 NX pc ls (.int y :: .int x :: st) w M := by
  intro g1 g2 p e R s m args below meth c Qf hX H locs A hH hS hl
  obtain ⟨hx, hb, -⟩ := hB _ _ _ _ _ _ _ _ _ _ hX
  exact lv_imul hx hb hd (k g1 g2 p e R s m args below meth c Qf hX H locs A hH hS hl)
theorem kg_r_iand (hB : kg_B G X own cc nL d ini N0 NX) {x y : Int32} (hd : decode cc pc = .ok (.iand, 1)) (k : kg_V G X nL N0 NX (pc + 1) ls (.int (x &&& y) :: st) w M) : kg_V G X nL N0 NX pc ls (.int y :: .int x :: st) w M := by
  intro g1 g2 p e R s m args below meth c Qf hX H locs A hH hS hl
  obtain ⟨hx, hb, -⟩ := hB _ _ _ _ _ _ _ _ _ _ hX
  exact lv_iand hx hb hd (k g1 g2 p e R s m args below meth c Qf hX H locs A hH hS hl)
theorem kg_r_irem (hB : kg_B G X own cc nL d ini N0 NX) {x y : Int32} (hd : decode cc pc = .ok (.irem, 1)) (hy : ¬ y = 0) (k : kg_V G X nL N0 NX (pc + 1) ls (.int (x - x / y * y) :: st) w M) : kg_V G X nL N0 NX pc ls (.int y :: .int x :: st) w M := by
  intro g1 g2 p e R s m args below meth c Qf hX H locs A hH hS hl
  obtain ⟨hx, hb, -⟩ := hB _ _ _ _ _ _ _ _ _ _ hX
  exact lv_irem hx hb hd hy (k g1 g2 p e R s m args below meth c Qf hX H locs A hH hS hl)
theorem kg_r_idiv (hB : kg_B G X own cc nL d ini N0 NX) {x y : Int32} (hd : decode cc pc = .ok (.idiv, 1)) (hy : ¬ y = 0) (k : kg_V G X nL N0 NX (pc + 1) ls (.int (x / y) :: st) w M) : kg_V G X nL N0 NX pc ls (.int y :: .int x :: st) w M := by
  intro g1 g2 p e R s m args below meth c Qf hX H locs A hH hS hl
  obtain ⟨hx, hb, -⟩ := hB _ _ _ _ _ _ _ _ _ _ hX
  exact lv_idiv hx hb hd hy (k g1 g2 p e R s m args below meth c Qf hX H locs A hH hS hl)
theorem kg_r_ishr (hB : kg_B G X own cc nL d ini N0 NX) {x y : Int32} (hd : decode cc pc = .ok (.ishr, 1)) (k : kg_V G X nL N0 NX (pc + 1) ls (.int (x >>> (y &&& 31)) :: st) w M) : kg_V G X nL N0 NX pc ls (.int y :: .int x :: st) w M := by
  intro g1 g2 p e R s m args below meth c Qf hX H locs A hH hS hl
  obtain ⟨hx, hb, -⟩ := hB _ _ _ _ _ _ _ _ _ _ hX
  exact lv_ishr hx hb hd (k g1 g2 p e R s m args below meth c Qf hX H locs A hH hS hl)
theorem kg_r_i2c (hB : kg_B G X own cc nL d ini N0 NX) {x : Int32} (hd : decode cc pc = .ok (.i2c, 1)) (k : kg_V G X nL N0 NX (pc + 1) ls (.int (x.toUInt32 % 65536).toInt32 :: st) w M) : kg_V G X nL N0 NX pc ls (.int x :: st) w M := by
  intro g1 g2 p e R s m args below meth c Qf hX H locs A hH hS hl
  obtain ⟨hx, hb, -⟩ := hB _ _ _ _ _ _ _ _ _ _ hX
  exact lv_i2c hx hb hd rfl (k g1 g2 p e R s m args below meth c Qf hX H locs A hH hS hl)
theorem kg_r_dup (hB : kg_B G X own cc nL d ini N0 NX) {v : Value} (hd : decode cc pc = .ok (.dup, 1)) (k : kg_V G X nL N0 NX (pc + 1) ls (v :: v :: st) w M) : kg_V G X nL N0 NX pc ls (v :: st) w M := by
  intro g1 g2 p e R s m args below meth c Qf hX H locs A hH hS hl
  obtain ⟨hx, hb, -⟩ := hB _ _ _ _ _ _ _ _ _ _ hX
  exact lv_dup hx hb hd (kg_cat G v) (k g1 g2 p e R s m args below meth c Qf hX H locs A hH hS hl)
theorem kg_r_dup2 (hB : kg_B G X own cc nL d ini N0 NX) {v u : Value} (hd : decode cc pc = .ok (.dup2, 1)) (k : kg_V G X nL N0 NX (pc + 1) ls (v :: u :: v :: u :: st) w M) : kg_V G X nL N0 NX pc ls (v :: u :: st) w M := by
  intro g1 g2 p e R s m args below meth c Qf hX H locs A hH hS hl
  obtain ⟨hx, hb, -⟩ := hB _ _ _ _ _ _ _ _ _ _ hX
  exact lv_dup2_11 hx hb hd (kg_cat G v) (kg_cat G u) (k g1 g2 p e R s m args below meth c Qf hX H locs A hH hS hl)
theorem kg_r_pop (hB : kg_B G X own cc nL d ini N0 NX) {v : Value} (hd : decode cc pc = .ok (.pop, 1)) (k : kg_V G X nL N0 NX (pc + 1) ls st w M) : kg_V G X nL N0 NX pc ls (v :: st) w M := by
  intro g1 g2 p e R s m args below meth c Qf hX H locs A hH hS hl
  obtain ⟨hx, hb, -⟩ := hB _ _ _ _ _ _ _ _ _ _ hX
  exact lv_pop hx hb hd (kg_cat G v) (k g1 g2 p e R s m args below meth c Qf hX H locs A hH hS hl)
theorem kg_r_goto (hB : kg_B G X own cc nL d ini N0 NX) {off : Int} {tgt : Nat} (hd : decode cc pc = .ok (.goto off, 3)) (ht : (pc : Int) + off = (tgt : Int)) (k : kg_V G X nL N0 NX tgt ls st w M) : kg_V G X nL N0 NX pc ls st w M := by
  intro g1 g2 p e R s m args below meth c Qf hX H locs A hH hS hl
  obtain ⟨hx, hb, -⟩ := hB _ _ _ _ _ _ _ _ _ _ hX
  exact lv_goto hx hb hd ht (k g1 g2 p e R s m args below meth c Qf hX H locs A hH hS hl)
def kg_cond (a : Nat) : Jvm.ClassFile.Cond := match a with | 0 => .eq | 1 => .ne | 2 => .lt | 3 => .ge | 4 => .gt | _ => .le
/-- x ? y by a condition's number -/
def kg_cmp (a : Nat) (x y : Int32) : Prop := match a with | 0 => x = y | 1 => ¬ x = y | 2 => x < y | 3 => y ≤ x | 4 => y < x | _ => x ≤ y
theorem kg_r_icmp (hB : kg_B G X own cc nL d ini N0 NX) {a : Nat} {off : Int} {tgt : Nat} {x y : Int32} (hd : decode cc pc = .ok (.if_icmp (kg_cond a) off, 3)) (ht : (pc : Int) + off = (tgt : Int))
    (kt : kg_cmp a x y → kg_V G X nL N0 NX tgt ls st w M) (kf : ¬ kg_cmp a x y → kg_V G X nL N0 NX (pc + 3) ls st w M) : kg_V G X nL N0 NX pc ls (.int y :: .int x :: st) w M := by
  intro g1 g2 p e R s m args below meth c Qf hX H locs A hH hS hl
  obtain ⟨hx, hb, -⟩ := hB _ _ _ _ _ _ _ _ _ _ hX
  have kt := fun h => kt h g1 g2 p e R s m args below meth c Qf hX H locs A hH hS hl
  have kf := fun h => kf h g1 g2 p e R s m args below meth c Qf hX H locs A hH hS hl
  match a, hd, kt, kf with
  | 0, hd, kt, kf => exact lv_icmp_eq hx hb hd ht kt kf
  | 1, hd, kt, kf => exact lv_icmp_ne hx hb hd ht kt (fun h => kf (fun q => q h))
  | 2, hd, kt, kf => exact lv_icmp_lt hx hb hd ht kt kf
  | 3, hd, kt, kf => exact lv_icmp_ge hx hb hd ht kt kf
  | 4, hd, kt, kf => exact lv_icmp_gt hx hb hd ht kt kf
  | n + 5, hd, kt, kf => exact lv_icmp_le hx hb hd ht kt kf
theorem kg_r_if (hB : kg_B G X own cc nL d ini N0 NX) {a : Nat} {off : Int} {tgt : Nat} {x : Int32} (hd : decode cc pc = .ok (.ifCond (kg_cond a) off, 3)) (ht : (pc : Int) + off = (tgt : Int))
    (kt : kg_cmp a x 0 → kg_V G X nL N0 NX tgt ls st w M) (kf : ¬ kg_cmp a x 0 → kg_V G X nL N0 NX (pc + 3) ls st w M) : kg_V G X nL N0 NX pc ls (.int x :: st) w M := by
  intro g1 g2 p e R s m args below meth c Qf hX H locs A hH hS hl
  obtain ⟨hx, hb, -⟩ := hB _ _ _ _ _ _ _ _ _ _ hX
  have kt := fun h => kt h g1 g2 p e R s m args below meth c Qf hX H locs A hH hS hl
  have kf := fun h => kf h g1 g2 p e R s m args below meth c Qf hX H locs A hH hS hl
  match a, hd, kt, kf with
  | 0, hd, kt, kf => exact lv_if_eq hx hb hd ht kt kf
  | 1, hd, kt, kf => exact lv_if_ne hx hb hd ht kt (fun h => kf (fun q => q h))
  | 2, hd, kt, kf => exact lv_if_lt hx hb hd ht kt kf
  | 3, hd, kt, kf => exact lv_if_ge hx hb hd ht kt kf
  | 4, hd, kt, kf => exact lv_if_gt hx hb hd ht kt kf
  | n + 5, hd, kt, kf => exact lv_if_le hx hb hd ht kt kf
end
