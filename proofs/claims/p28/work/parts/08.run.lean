/-! THE RUN: a method's rows as numbers, what they do, and that the machine does it -/
abbrev kg_Op : Type := Nat × Nat × Nat × Nat × List (Nat × Nat)
abbrev kg_K : Type := Nat → List (Option Value) → List Value → kg_W → kg_M → Prop
abbrev kg_Ct : Type := Nat → List Value → kg_W → kg_M → kg_Qt → Prop
def kg_n (a : Nat) : Int32 := Int32.ofInt (-(a : Int))
def kg_at (n : Nat) (i : Int32) (K : Nat → Prop) : Prop := ∃ j, j < n ∧ i = nI j ∧ K j
def kg_kont (k : kg_K) (nx : Nat) (ls : List (Option Value)) (r : List Value) : kg_Qt := fun v w M => k nx ls (v.toList ++ r) w M
def kg_args : Nat → List Value → List Value → (List Value → List Value → Prop) → Prop
  | 0, st, acc, K => K acc st
  | _ + 1, [], _, _ => False
  | n + 1, v :: st, acc, K => kg_args n st (v :: acc) K
def kg_br (c A B : Prop) : Prop := (c → A) ∧ (¬ c → B)
def kg_sw : List (Nat × Nat) → Nat → Int32 → (Nat → Prop) → Prop
  | [], d, _, K => K d
  | (z, t) :: l, d, x, K => (x = nI z → K t) ∧ (¬ x = nI z → kg_sw l d x K)
def kg_vi (o : Option Value) (K : Int32 → Prop) : Prop := match o with
  | some (.int x) => K x
  | _ => False
def kg_vr (o : Option Value) (K : Nat → Prop) : Prop := match o with
  | some (.ref x) => K x
  | _ => False
def kg_1i (st : List Value) (K : Int32 → List Value → Prop) : Prop := match st with
  | .int x :: r => K x r
  | _ => False
def kg_1r (st : List Value) (K : Nat → List Value → Prop) : Prop := match st with
  | .ref x :: r => K x r
  | _ => False
def kg_2i (st : List Value) (K : Int32 → Int32 → List Value → Prop) : Prop := match st with
  | .int y :: .int x :: r => K x y r
  | _ => False
def kg_ir (st : List Value) (K : Int32 → Nat → List Value → Prop) : Prop := match st with
  | .int i :: .ref p :: r => K i p r
  | _ => False
def kg_iir (st : List Value) (K : Int32 → Int32 → Nat → List Value → Prop) : Prop := match st with
  | .int x :: .int i :: .ref p :: r => K x i p r
  | _ => False
def kg_01 (x : Int32) : Prop := x = nI 0 ∨ x = nI 1
/-- a load of an int array's place -/
def kg_ld (G : kg_G) (w : kg_W) (M : kg_M) (i : Int32) (p : Nat) (K : Int32 → Prop) : Prop :=
  (p = 1000 → kg_at G.2.2.2.2.2.1 i (fun j => K (G.2.2.2.2.2.2 j))) ∧ (1000 < p → p ≤ 1003 ∧ kg_at 5 i (fun j => K (kg_sv p j))) ∧ (p < 1000 → p < w.1 ∧ (kg_kd p).1 = 0 ∧ kg_at (kg_kd p).2 i (fun j => K (M p j)))
def kg_obj (w : kg_W) (p c : Nat) (P : Prop) : Prop := p < w.1 ∧ p < 1000 ∧ kg_kd p = (4, c) ∧ P
def kg_exs (G : kg_G) (NX : Nat) (call : kg_Ct) (ret : kg_Qt) (t a b c : Nat) (l : List (Nat × Nat)) (nx : Nat) (k : kg_K) (ls : List (Option Value)) (st : List Value) (w : kg_W) (M : kg_M) : Prop := match t with
  | 0 => k nx ls (.int (nI a) :: st) w M
  | 1 => k nx ls (.int (kg_n a) :: st) w M
  | 2 => kg_vi (kg_lg ls a) (fun x => k nx ls (.int x :: st) w M)
  | 3 => kg_vr (kg_lg ls a) (fun x => k nx ls (.ref x :: st) w M)
  | 4 => kg_1i st (fun x r => k nx (kg_ls ls a (.int x)) r w M)
  | 5 => kg_1r st (fun x r => k nx (kg_ls ls a (.ref x)) r w M)
  | 6 => kg_vi (kg_lg ls a) (fun x => k nx (kg_ls ls a (.int (x + nI b))) st w M)
  | 7 => kg_2i st (fun x y r => k nx ls (.int (x + y) :: r) w M)
  | 8 => kg_2i st (fun x y r => k nx ls (.int (x - y) :: r) w M)
  | 9 => kg_2i st (fun x y r => k nx ls (.int (x * y) :: r) w M)
  | 10 => kg_2i st (fun x y r => ¬ y = 0 ∧ k nx ls (.int (x - x / y * y) :: r) w M)
  | 11 => kg_2i st (fun x y r => k nx ls (.int (x &&& y) :: r) w M)
  | 12 => kg_1i st (fun x r => k nx ls (.int (x.toUInt32 % 65536).toInt32 :: r) w M)
  | 13 => (match st with | v :: r => k nx ls (v :: v :: r) w M | _ => False)
  | 14 => (match st with | v :: u :: r => k nx ls (v :: u :: v :: u :: r) w M | _ => False)
  | 15 => (match st with | _ :: r => k nx ls r w M | _ => False)
  | 16 => kg_1i st (fun x r => kg_br (kg_cmp a x (nI 0)) (k b ls r w M) (k nx ls r w M))
  | 17 => kg_2i st (fun x y r => kg_br (kg_cmp a x y) (k b ls r w M) (k nx ls r w M))
  | 18 => k b ls st w M
  | 19 => kg_1i st (fun x r => kg_sw l b x (fun t => k t ls r w M))
  | 20 => kg_1i st (fun x r => kg_sw l b x (fun t => k t ls r w M))
  | 21 => kg_1r st (fun p r => kg_obj w p a (k nx ls (.int (M p b) :: r) w M))
  | 22 => kg_1r st (fun p r => kg_obj w p a (w.2 p b ≠ 0 ∧ w.2 p b < 1000 ∧ k nx ls (.ref (w.2 p b) :: r) w M))
  | 23 => (match st with | .int x :: .ref p :: r => kg_obj w p a (k nx ls r w (kg_wr M p b x)) | _ => False)
  | 24 => (match st with | .int x :: .ref p :: r => kg_obj w p a (kg_01 x ∧ k nx ls r w (kg_wr M p b x)) | _ => False)
  | 25 => (match st with | .ref q :: .ref p :: r => kg_obj w p a (q ≠ 0 ∧ q < 1000 ∧ k nx ls r (kg_wrr w p b q) M) | _ => False)
  | 26 => k nx ls (.ref a :: st) w M
  | 27 => kg_ir st (fun i p r => kg_ld G w M i p (fun x => k nx ls (.int x :: r) w M))
  | 28 => kg_ir st (fun i p r => p < w.1 ∧ p < 1000 ∧ (kg_kd p).1 = 1 ∧ kg_at (kg_kd p).2 i (fun j => k nx ls (.int (M p j) :: r) w M))
  | 29 => kg_ir st (fun i p r => p < w.1 ∧ p < 1000 ∧ (kg_kd p).1 = 2 ∧ kg_at (kg_kd p).2 i (fun j => k nx ls (.int (M p j) :: r) w M))
  | 30 => kg_ir st (fun i p r => p < w.1 ∧ p < 1000 ∧ (kg_kd p).1 = 3 ∧ kg_at (kg_kd p).2 i (fun j => w.2 p j ≠ 0 ∧ w.2 p j < 1000 ∧ k nx ls (.ref (w.2 p j) :: r) w M))
  | 31 => kg_iir st (fun x i p r => p < w.1 ∧ p < 1000 ∧ (kg_kd p).1 = 0 ∧ kg_at (kg_kd p).2 i (fun j => k nx ls r w (kg_wr M p j x)))
  | 32 => kg_iir st (fun x i p r => p < w.1 ∧ p < 1000 ∧ (kg_kd p).1 = 1 ∧ kg_01 x ∧ kg_at (kg_kd p).2 i (fun j => k nx ls r w (kg_wr M p j x)))
  | 33 => kg_iir st (fun x i p r => p < w.1 ∧ p < 1000 ∧ (kg_kd p).1 = 2 ∧ kg_at 65536 x (fun z => kg_at (kg_kd p).2 i (fun j => k nx ls r w (kg_wr M p j (nI z)))))
  | 34 => (match st with | .ref q :: .int i :: .ref p :: r => p < w.1 ∧ p < 1000 ∧ (kg_kd p).1 = 3 ∧ q ≠ 0 ∧ q < 1000 ∧ q < w.1 ∧ kg_kd q = (4, 4) ∧ kg_at (kg_kd p).2 i (fun j => k nx ls r (kg_wrr w p j q) M) | _ => False)
  | 35 => (match st with | .ref p :: r => p = 1000 ∧ k nx ls (.int (nI G.2.2.2.2.2.1) :: r) w M | _ => False)
  | 36 => w.1 < 125 ∧ w.1 + 1 ≤ NX ∧ kg_kd w.1 = (4, a) ∧ k nx ls (.ref w.1 :: st) (kg_new w (fun _ => 0)) (kg_row M w.1 (fun _ => 0))
  | 37 => kg_1i st (fun n r => w.1 < 125 ∧ w.1 + 1 ≤ NX ∧ (kg_kd w.1).1 = a ∧ n = nI (kg_kd w.1).2 ∧ k nx ls (.ref w.1 :: r) (kg_new w (fun _ => 0)) (kg_row M w.1 (fun _ => 0)))
  | 38 => kg_1i st (fun n r => w.1 < 125 ∧ w.1 + 1 ≤ NX ∧ (kg_kd w.1).1 = 3 ∧ n = nI (kg_kd w.1).2 ∧ k nx ls (.ref w.1 :: r) (kg_new w (fun _ => 0)) (kg_row M w.1 (fun _ => 0)))
  | 39 => kg_args b st [] (fun as r => match as with | .ref p :: _ => r.length ≤ 8 ∧ p < w.1 ∧ p < 1000 ∧ kg_kd p = (4, kg_mc a) ∧ call a as w M (kg_kont k nx ls r) | _ => False)
  | 40 => kg_args b st [] (fun as r => r.length ≤ 8 ∧ call a as w M (kg_kont k nx ls r))
  | 41 => kg_args b st [] (fun as r => r.length ≤ 8 ∧ call a as w M (kg_kont k nx ls r))
  | 42 => kg_1r st (fun p r => p < 1000 ∧ r.length ≤ 8 ∧ call a [.ref p] w M (kg_kont k nx ls r))
  | 43 => kg_1r st (fun p r => p < 1000 ∧ r.length ≤ 8 ∧ call a [.ref p] w M (kg_kont k nx ls r))
  | 44 => kg_1r st (fun p r => r.length ≤ 8 ∧ k nx ls r w M)
  | 45 => kg_2i st (fun x y r => r.length ≤ 8 ∧ k nx ls (.int (if y < x then y else x) :: r) w M)
  | 46 => kg_2i st (fun x y r => r.length ≤ 8 ∧ k nx ls (.int (if x < y then y else x) :: r) w M)
  | 47 => (match st with | .int n :: .int z2 :: .ref q :: .int z1 :: .ref p :: r => r.length ≤ 6 ∧ ¬ w.1 < 125 ∧ z1 = nI 0 ∧ z2 = nI 0 ∧ p < w.1 ∧ p < 1000 ∧ q < w.1 ∧ q < 1000 ∧ (kg_kd p).1 = 0 ∧ (kg_kd q).1 = 0 ∧ ∃ j, j < 2 ^ 31 ∧ n = nI j ∧ j ≤ (kg_kd p).2 ∧ j ≤ (kg_kd q).2 ∧ k nx ls r w (kg_cpy M p q j) | _ => False)
  | 48 => (match st with | [.int x] => ret (some (.int x)) w M | _ => False)
  | 49 => (match st with | [] => ret none w M | _ => False)
  | 50 => kg_2i st (fun x y r => k nx ls (.int (x >>> (y &&& 31)) :: r) w M)
  | 51 => kg_2i st (fun x y r => ¬ y = 0 ∧ k nx ls (.int (x / y) :: r) w M)
  | _ => False
/-- a row of numbers fits the bytes and the tables -/
def kg_okb (o : Nat) (ini : Bool) (nL : Nat) (cc : ByteArray) (pc nx t a b c : Nat) (l : List (Nat × Nat)) : Bool := match t with
  | 0 => decide ((nx = pc + 1 ∧ decode cc pc = .ok (.iconst a, 1) ∧ Int32.ofInt a = nI a) ∨ (nx = pc + 2 ∧ decode cc pc = .ok (.bipush a, 2) ∧ (Int8.ofInt a).toInt32 = nI a) ∨ (nx = pc + 3 ∧ decode cc pc = .ok (.sipush a, 3) ∧ (Int16.ofInt a).toInt32 = nI a) ∨ (nx = pc + 2 ∧ decode cc pc = .ok (.ldc c, 2) ∧ (o, c, a) ∈ kg_ctl))
  | 1 => decide ((nx = pc + 1 ∧ decode cc pc = .ok (.iconst (-(a : Int)), 1) ∧ Int32.ofInt (-(a : Int)) = kg_n a) ∨ (nx = pc + 2 ∧ decode cc pc = .ok (.bipush (-(a : Int)), 2) ∧ (Int8.ofInt (-(a : Int))).toInt32 = kg_n a))
  | 2 => decide (a < nL ∧ ((nx = pc + 1 ∧ a < 4 ∧ decode cc pc = .ok (.iload_n (Fin.ofNat 4 a), 1)) ∨ (nx = pc + 2 ∧ decode cc pc = .ok (.iload a, 2))))
  | 3 => decide (a < nL ∧ ((nx = pc + 1 ∧ a < 4 ∧ decode cc pc = .ok (.aload_n (Fin.ofNat 4 a), 1)) ∨ (nx = pc + 2 ∧ decode cc pc = .ok (.aload a, 2))))
  | 4 => decide (a < nL ∧ ((nx = pc + 1 ∧ a < 4 ∧ decode cc pc = .ok (.istore_n (Fin.ofNat 4 a), 1)) ∨ (nx = pc + 2 ∧ decode cc pc = .ok (.istore a, 2))))
  | 5 => decide (a < nL ∧ ((nx = pc + 1 ∧ a < 4 ∧ decode cc pc = .ok (.astore_n (Fin.ofNat 4 a), 1)) ∨ (nx = pc + 2 ∧ decode cc pc = .ok (.astore a, 2))))
  | 6 => decide (a < nL ∧ nx = pc + 3 ∧ decode cc pc = .ok (.iinc a b, 3) ∧ Int32.ofInt b = nI b)
  | 7 => decide (nx = pc + 1 ∧ decode cc pc = .ok (.iadd, 1))
  | 8 => decide (nx = pc + 1 ∧ decode cc pc = .ok (.isub, 1))
  | 9 => decide (nx = pc + 1 ∧ decode cc pc = .ok (.imul, 1))
  | 10 => decide (nx = pc + 1 ∧ decode cc pc = .ok (.irem, 1))
  | 11 => decide (nx = pc + 1 ∧ decode cc pc = .ok (.iand, 1))
  | 12 => decide (nx = pc + 1 ∧ decode cc pc = .ok (.i2c, 1))
  | 13 => decide (nx = pc + 1 ∧ decode cc pc = .ok (.dup, 1))
  | 14 => decide (nx = pc + 1 ∧ decode cc pc = .ok (.dup2, 1))
  | 15 => decide (nx = pc + 1 ∧ decode cc pc = .ok (.pop, 1))
  | 16 => decide (nx = pc + 3 ∧ decode cc pc = .ok (.ifCond (kg_cond a) ((b : Int) - pc), 3))
  | 17 => decide (nx = pc + 3 ∧ decode cc pc = .ok (.if_icmp (kg_cond a) ((b : Int) - pc), 3))
  | 18 => decide (decode cc pc = .ok (.goto ((b : Int) - pc), 3))
  | 19 => decide (l.length < 2 ^ 30 ∧ a < 2 ^ 30 ∧ l.map (fun q => q.1) = (List.range l.length).map (fun i => a + i) ∧ decode cc pc = .ok (.tableswitch ((b : Int) - pc) a ((a : Int) + l.length - 1) (l.map (fun q => (q.2 : Int) - pc)).toArray, c))
  | 20 => decide (l.all (fun q => decide (q.1 < 2 ^ 31)) = true ∧ ((l.map (fun q => ((q.1 : Int), (q.2 : Int) - pc))).toArray.toList.zip ((l.map (fun q => ((q.1 : Int), (q.2 : Int) - pc))).toArray.toList.drop 1)).all (fun (a, next) => a.1 < next.1) = true ∧ decode cc pc = .ok (.lookupswitch ((b : Int) - pc) (l.map (fun q => ((q.1 : Int), (q.2 : Int) - pc))).toArray, c))
  | 21 => decide (nx = pc + 3 ∧ (o, c, a, b) ∈ kg_fll ∧ kg_fr a b = false ∧ decode cc pc = .ok (.getfield c, 3))
  | 22 => decide (nx = pc + 3 ∧ (o, c, a, b) ∈ kg_fll ∧ kg_fr a b = true ∧ decode cc pc = .ok (.getfield c, 3))
  | 23 => decide (nx = pc + 3 ∧ (o, c, a, b) ∈ kg_fll ∧ kg_fr a b = false ∧ kg_ft a b = .int ∧ ((kg_F a b).2.2.2 = false ∨ (ini = true ∧ (kg_F a b).1 = kg_cn o)) ∧ decode cc pc = .ok (.putfield c, 3))
  | 24 => decide (nx = pc + 3 ∧ (o, c, a, b) ∈ kg_fll ∧ kg_fr a b = false ∧ kg_ft a b = .boolean ∧ ((kg_F a b).2.2.2 = false ∨ (ini = true ∧ (kg_F a b).1 = kg_cn o)) ∧ decode cc pc = .ok (.putfield c, 3))
  | 25 => decide (nx = pc + 3 ∧ (o, c, a, b) ∈ kg_fll ∧ kg_fr a b = true ∧ (match kg_ft a b with | .array _ => true | .object _ => true | _ => false) = true ∧ ((kg_F a b).2.2.2 = false ∨ (ini = true ∧ (kg_F a b).1 = kg_cn o)) ∧ decode cc pc = .ok (.putfield c, 3))
  | 26 => decide (nx = pc + 3 ∧ a ∈ [1001, 1002, 1003] ∧ ((o, c, a) ∈ kg_sfl ∨ (o = 4 ∧ c = 56 ∧ a = 1003)) ∧ decode cc pc = .ok (.getstatic c, 3))
  | 27 => decide (nx = pc + 1 ∧ decode cc pc = .ok (.iaload, 1))
  | 28 => decide (nx = pc + 1 ∧ decode cc pc = .ok (.baload, 1))
  | 29 => decide (nx = pc + 1 ∧ decode cc pc = .ok (.caload, 1))
  | 30 => decide (nx = pc + 1 ∧ decode cc pc = .ok (.aaload, 1))
  | 31 => decide (nx = pc + 1 ∧ decode cc pc = .ok (.iastore, 1))
  | 32 => decide (nx = pc + 1 ∧ decode cc pc = .ok (.bastore, 1))
  | 33 => decide (nx = pc + 1 ∧ decode cc pc = .ok (.castore, 1))
  | 34 => decide (nx = pc + 1 ∧ decode cc pc = .ok (.aastore, 1))
  | 35 => decide (nx = pc + 1 ∧ decode cc pc = .ok (.arraylength, 1))
  | 36 => decide (nx = pc + 3 ∧ (o, c, a) ∈ kg_cll ∧ decode cc pc = .ok (.new c, 3))
  | 37 => decide (nx = pc + 2 ∧ ((a = 0 ∧ decode cc pc = .ok (.newarray .int, 2)) ∨ (a = 1 ∧ decode cc pc = .ok (.newarray .boolean, 2)) ∨ (a = 2 ∧ decode cc pc = .ok (.newarray .char, 2))))
  | 38 => decide (nx = pc + 3 ∧ (o, c, 4) ∈ kg_cll ∧ decode cc pc = .ok (.anewarray c, 3))
  | 39 => decide (nx = pc + 3 ∧ a < 96 ∧ (o, c, a, 0, b - 1) ∈ kg_mll ∧ decode cc pc = .ok (.invokevirtual c, 3))
  | 40 => decide (nx = pc + 3 ∧ a < 96 ∧ (o, c, a, 1, b) ∈ kg_mll ∧ decode cc pc = .ok (.invokestatic c, 3))
  | 41 => decide (nx = pc + 3 ∧ a < 96 ∧ (o, c, a, 2, b) ∈ kg_mll ∧ decode cc pc = .ok (.invokestatic c, 3))
  | 42 => decide (nx = pc + 3 ∧ a < 96 ∧ (o, c, a, 3, 0) ∈ kg_mll ∧ decode cc pc = .ok (.invokespecial c, 3))
  | 43 => decide (nx = pc + 3 ∧ a < 96 ∧ (o, c, a, 4, 0) ∈ kg_mll ∧ decode cc pc = .ok (.invokespecial c, 3))
  | 44 => decide (nx = pc + 3 ∧ (o, c) ∈ kg_obl ∧ decode cc pc = .ok (.invokespecial c, 3))
  | 45 => decide (nx = pc + 3 ∧ (o, c) ∈ kg_mnl ∧ decode cc pc = .ok (.invokestatic c, 3))
  | 46 => decide (nx = pc + 3 ∧ (o, c) ∈ kg_mxl ∧ decode cc pc = .ok (.invokestatic c, 3))
  | 47 => decide (nx = pc + 3 ∧ (o, c) ∈ kg_acl ∧ decode cc pc = .ok (.invokestatic c, 3))
  | 48 => decide (decode cc pc = .ok (.ireturn, 1))
  | 49 => decide (decode cc pc = .ok (.return_, 1))
  | 50 => decide (nx = pc + 1 ∧ decode cc pc = .ok (.ishr, 1))
  | 51 => decide (nx = pc + 1 ∧ decode cc pc = .ok (.idiv, 1))
  | _ => false
abbrev kg_Cd : Type := List (Nat × Nat × kg_Op)
def kg_lk : kg_Cd → Nat → Option (Nat × kg_Op)
  | [], _ => none
  | (p, q) :: l, pc => if p = pc then some q else kg_lk l pc
def kg_exo (G : kg_G) (NX : Nat) (call : kg_Ct) (ret : kg_Qt) (o : Option (Nat × kg_Op)) (k : kg_K) (ls : List (Option Value)) (st : List Value) (w : kg_W) (M : kg_M) : Prop := match o with
  | some (nx, t, a, b, c, l) => kg_exs G NX call ret t a b c l nx k ls st w M
  | none => False
/-- so many rows on, then the leaf -/
def kg_run (G : kg_G) (NX : Nat) (call : kg_Ct) (ret : kg_Qt) (cd : kg_Cd) (V : kg_K) : Nat → kg_K
  | 0 => V
  | f + 1 => fun pc ls st w M => kg_exo G NX call ret (kg_lk cd pc) (kg_run G NX call ret cd V f) ls st w M
theorem kg_sw_of {l : List (Nat × Nat)} {d : Nat} {x : Int32} {K : Nat → Prop} (h : kg_sw l d x K) : (∃ (i z t : Nat), l[i]? = some (z, t) ∧ x = nI z ∧ K t) ∨ ((∀ q ∈ l, ¬ x = nI q.1) ∧ K d) := by
  induction l with
  | nil => exact Or.inr ⟨fun q hq => (by cases hq), h⟩
  | cons q l ih =>
    obtain ⟨z, t⟩ := q
    obtain ⟨h1, h2⟩ := h
    by_cases hx : x = nI z
    · exact Or.inl ⟨0, z, t, rfl, hx, h1 hx⟩
    · rcases ih (h2 hx) with ⟨i, z', t', a1, a2, a3⟩ | ⟨a1, a2⟩
      · exact Or.inl ⟨i + 1, z', t', by simpa using a1, a2, a3⟩
      · refine Or.inr ⟨fun q hq => ?_, a2⟩
        rcases List.mem_cons.mp hq with rfl | hq
        · exact hx
        · exact a1 q hq
theorem kg_args_of {K : List Value → List Value → Prop} : ∀ {n : Nat} {st acc : List Value}, kg_args n st acc K → ∃ u r, u.length = n ∧ st = u ++ r ∧ K (u.reverse ++ acc) r
  | 0, st, acc, h => ⟨[], st, rfl, rfl, h⟩
  | n + 1, [], acc, h => False.elim h
  | n + 1, v :: st, acc, h => by
    obtain ⟨u, r, h1, h2, h3⟩ := kg_args_of (n := n) h
    exact ⟨v :: u, r, by simp [h1], by simp [h2], by simpa using h3⟩
theorem kg_toInt_nI {x : Int32} {z : Nat} (hz : z < 2 ^ 31) : x = nI z ↔ (z : Int) = x.toInt := by
  constructor
  · rintro rfl
    exact (nI_toInt hz).symm
  · intro h
    rw [← Int32.toInt_inj, nI_toInt hz]
    exact h.symm
theorem kg_sw_look {pc d : Nat} {x : Int32} {K : Nat → Prop} : ∀ {l : List (Nat × Nat)}, (∀ q ∈ l, q.1 < 2 ^ 31) → kg_sw l d x K → ∃ t : Nat, K t ∧ Op.lookupswitch.offset (l.map (fun q => ((q.1 : Int), (q.2 : Int) - pc))) ((d : Int) - pc) x.toInt = (t : Int) - pc
  | [], _, h => ⟨d, h, rfl⟩
  | (z, t) :: l, hl, ⟨h1, h2⟩ => by
    have hz := hl (z, t) List.mem_cons_self
    simp only [List.map_cons, Op.lookupswitch.offset_cons]
    by_cases hx : x = nI z
    · exact ⟨t, h1 hx, by rw [if_pos ((kg_toInt_nI hz).mp hx)]⟩
    · obtain ⟨t', a1, a2⟩ := kg_sw_look (pc := pc) (fun q hq => hl q (List.mem_cons_of_mem _ hq)) (h2 hx)
      exact ⟨t', a1, by rw [if_neg (fun e => hx ((kg_toInt_nI hz).mpr e))]; exact a2⟩
theorem kg_sw_tab {pc d a : Nat} {x : Int32} {K : Nat → Prop} {l : List (Nat × Nat)} (h1 : l.length < 2 ^ 30) (h2 : a < 2 ^ 30) (h3 : l.map (fun q => q.1) = (List.range l.length).map (fun i => a + i)) (h : kg_sw l d x K) :
    (∃ t : Nat, K t ∧ ¬ x.toInt < a ∧ ¬ (a : Int) + l.length - 1 < x.toInt ∧ (l.map (fun q => (q.2 : Int) - pc)).toArray[(x.toInt - a).toNat]? = some ((t : Int) - pc)) ∨ ((x.toInt < a ∨ (a : Int) + l.length - 1 < x.toInt) ∧ K d) := by
  have key : ∀ (i z t : Nat), l[i]? = some (z, t) → i < l.length ∧ z = a + i := by
    intro i z t hi
    have hl := (List.getElem?_eq_some_iff.mp hi).1
    have e : (l.map (fun q => q.1))[i]? = some z := by rw [List.getElem?_map, hi]; rfl
    rw [h3, List.getElem?_map, List.getElem?_range hl] at e
    exact ⟨hl, (Option.some.inj e).symm⟩
  rcases kg_sw_of h with ⟨i, z, t, a1, a2, a3⟩ | ⟨a1, a2⟩
  · obtain ⟨hl, rfl⟩ := key i z t a1
    have hx : x.toInt = ((a + i : Nat) : Int) := ((kg_toInt_nI (by omega)).mp a2).symm
    refine Or.inl ⟨t, a3, by omega, by omega, ?_⟩
    rw [show (x.toInt - a).toNat = i by omega, List.getElem?_toArray, List.getElem?_map, a1]
    rfl
  · refine Or.inr ⟨?_, a2⟩
    by_cases g : x.toInt < a
    · exact Or.inl g
    · right
      by_cases g2 : (a : Int) + l.length - 1 < x.toInt
      · exact g2
      · exfalso
        have hi : (x.toInt - a).toNat < l.length := by omega
        obtain ⟨⟨z, t⟩, e⟩ : ∃ q : Nat × Nat, l[(x.toInt - a).toNat]? = some q := ⟨_, List.getElem?_eq_getElem hi⟩
        obtain ⟨-, hz⟩ := key _ z t e
        refine a1 (z, t) (List.mem_of_getElem? e) ((kg_toInt_nI (by omega)).mpr ?_)
        show (z : Int) = x.toInt
        omega
section
variable {G : kg_G} {X : kg_Xt} {o : Nat} {cc : ByteArray} {nL d : Nat} {ini : Bool} {N0 NX : Nat} {pc : Nat} {ls : List (Option Value)} {st : List Value} {w : kg_W} {M : kg_M}
theorem kg_r_tsw (hB : kg_B G X (kg_cn o) cc nL d ini N0 NX) {x : Int32} {a b c : Nat} {l : List (Nat × Nat)} (h1 : l.length < 2 ^ 30) (h2 : a < 2 ^ 30) (h3 : l.map (fun q => q.1) = (List.range l.length).map (fun i => a + i)) (hd : decode cc pc = .ok (.tableswitch ((b : Int) - pc) a ((a : Int) + l.length - 1) (l.map (fun q => (q.2 : Int) - pc)).toArray, c)) (h : kg_sw l b x (fun t => kg_V G X nL N0 NX t ls st w M)) : kg_V G X nL N0 NX pc ls (.int x :: st) w M := by
  intro g1 g2 p' e R s m args below meth c' Qf hX H locs A hH hS hl
  obtain ⟨hx, hb, -⟩ := hB _ _ _ _ _ _ _ _ _ _ hX
  rcases kg_sw_tab (pc := pc) h1 h2 h3 h with ⟨t, k, a1, a2, a3⟩ | ⟨a1, k⟩
  · exact lv_tableIn hx hb hd a1 a2 a3 (by omega) (k g1 g2 p' e R s m args below meth c' Qf hX H locs A hH hS hl)
  · exact lv_tableOut hx hb hd a1 (by omega) (k g1 g2 p' e R s m args below meth c' Qf hX H locs A hH hS hl)
theorem kg_r_lsw (hB : kg_B G X (kg_cn o) cc nL d ini N0 NX) {x : Int32} {b c : Nat} {l : List (Nat × Nat)} (h1 : ∀ q ∈ l, q.1 < 2 ^ 31) (h2 : ((l.map (fun q => ((q.1 : Int), (q.2 : Int) - pc))).toArray.toList.zip ((l.map (fun q => ((q.1 : Int), (q.2 : Int) - pc))).toArray.toList.drop 1)).all (fun (a, next) => a.1 < next.1) = true) (hd : decode cc pc = .ok (.lookupswitch ((b : Int) - pc) (l.map (fun q => ((q.1 : Int), (q.2 : Int) - pc))).toArray, c)) (h : kg_sw l b x (fun t => kg_V G X nL N0 NX t ls st w M)) : kg_V G X nL N0 NX pc ls (.int x :: st) w M := by
  intro g1 g2 p' e R s m args below meth c' Qf hX H locs A hH hS hl
  obtain ⟨hx, hb, -⟩ := hB _ _ _ _ _ _ _ _ _ _ hX
  obtain ⟨t, k, ho⟩ := kg_sw_look (pc := pc) h1 h
  exact lv_lookup hx hb hd h2 ho (by omega) (k g1 g2 p' e R s m args below meth c' Qf hX H locs A hH hS hl)
end
