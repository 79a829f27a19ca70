/-! THE CLASS's whole state, and its calls that change it -/
/-- row, history's size and rows, is a snapshot taken, its row, the text's length and signs -/
abbrev kf_A : Type := (Nat → Int32) × Nat × (Nat → Nat → Int32) × Bool × (Nat → Int32) × Nat × (Nat → Int32)
def kf_rec (A : kf_A) : kf_A := (A.1, kf_n A.2.1, kf_R A.2.1 A.2.2.1 A.1, A.2.2.2)
def kf_sr (A : kf_A) (r : Nat → Int32) : kf_A := (r, A.2)
def kf_C (c : Nat) (h : Nat → Nat) (M : kg_M) (A : kf_A) : Prop :=
  kf_Rel c M 1 A.1 ∧ (A.2.1 ≤ 4 ∧ M 0 2 = nI A.2.1 ∧ kf_hp h ∧ ∀ j, j < A.2.1 → kf_Rel c M (h j) (A.2.2.1 j)) ∧ (M 0 4 = kf_b A.2.2.2.1 ∧ (A.2.2.2.1 = true → kf_Rel c M 102 A.2.2.2.2.1)) ∧ A.2.2.2.2.2.1 ≤ 60 ∧ M 122 1 = nI A.2.2.2.2.2.1 ∧ ∀ i, i < A.2.2.2.2.2.1 → M 123 i = A.2.2.2.2.2.2 i ∧ ∃ z, z < 65536 ∧ A.2.2.2.2.2.2 i = nI z
def kf_ix (n : Nat) (x : Int32) : Option Nat := if 0 ≤ x.toInt ∧ x.toInt < n then some x.toInt.toNat else none
theorem kf_ix_s {n j : Nat} {x : Int32} (hn : n < 2147483648) (h : kf_ix n x = some j) : j < n ∧ x = nI j := by
  unfold kf_ix at h
  split at h
  · rename_i hb
    have e := Option.some.inj h
    refine ⟨by omega, Int32.toInt_inj.mp ?_⟩
    rw [nI_toInt (by omega)]
    omega
  · cases h
theorem kf_ix_n {n : Nat} {x : Int32} (hn : n < 2147483648) (h : kf_ix n x = none) : ∀ j, j < n → x ≠ nI j := by
  intro j hj e
  unfold kf_ix at h
  rw [e, nI_toInt (by omega), if_pos (by omega)] at h
  cases h
theorem kf_I_m {c c' : Nat} {r : Nat → Int32} (hI : kf_I c r) (h : c ≤ c') : kf_I c' r := by
  obtain ⟨a1, ⟨z, a2, a3⟩, a4⟩ := hI
  exact ⟨a1, ⟨z, by omega, a3⟩, a4⟩
theorem kf_Rel_m {c c' b : Nat} {M : kg_M} {r : Nat → Int32} (hR : kf_Rel c M b r) (h : c ≤ c') : kf_Rel c' M b r := by
  obtain ⟨a1, a2, a3, a4, a5, a6, a7, a8⟩ := hR
  exact ⟨a1, a2, a3, a4, a5, a6, a7, kf_I_m a8 h⟩
theorem kf_C_m {c c' : Nat} {h : Nat → Nat} {M : kg_M} {A : kf_A} (hC : kf_C c h M A) (hc : c ≤ c') : kf_C c' h M A := by
  obtain ⟨a1, ⟨a2, a3, a4, a5⟩, ⟨a6, a7⟩, a8⟩ := hC
  exact ⟨kf_Rel_m a1 hc, ⟨a2, a3, a4, fun j hj => kf_Rel_m (a5 j hj) hc⟩, ⟨a6, fun e => kf_Rel_m (a7 e) hc⟩, a8⟩
theorem kf_hp_at2 {h : Nat → Nat} (hp : kf_hp h) {j : Nat} (hj : j < 4) : 22 ≤ h j ∧ h j ≤ 82 := by
  obtain ⟨s, hs⟩ := kf_hp_at hp
  have := hs j hj
  omega
theorem kf_C_st {c c' : Nat} {h : Nat → Nat} {M M' : kg_M} {A : kf_A} {r' : Nat → Int32} (hC : kf_C c h M A) (hc : c ≤ c') (hR : kf_Rel c' M' 1 r') (hM : ∀ p, (p < 1 ∨ 20 < p) → M' p = M p) : kf_C c' h M' (kf_sr A r') := by
  obtain ⟨a1, ⟨a2, a3, a4, a5⟩, ⟨a6, a7⟩, a8, a9, b1⟩ := kf_C_m hC hc
  refine ⟨hR, ⟨a2, (congrFun (hM 0 (by omega)) 2).trans a3, a4, fun j hj => ?_⟩, ⟨(congrFun (hM 0 (by omega)) 4).trans a6, fun e => kf_Rel_g (a7 e) (fun p q1 q2 => hM p (by omega))⟩, a8, (congrFun (hM 122 (by omega)) 1).trans a9, fun i hi => ?_⟩
  · have := kf_hp_at2 a4 (j := j) (by change A.2.1 ≤ 4 at a2; change j < A.2.1 at hj; omega)
    exact kf_Rel_g (a5 j hj) (fun p q1 q2 => hM p (by omega))
  · rw [hM 123 (by omega)]; exact b1 i hi
/-- what a call answers, and what it leaves -/
abbrev kf_O : Type := Int32 × kf_A
def kf_up4 (r : Nat → Int32) : Nat := kf_ct (fun n => !decide (r (7 + n) = nI 0)) 4
def kf_set (A : kf_A) (i v : Int32) : kf_O := match kf_ix 5 i with
  | none => (kg_n 1, A)
  | some j => if v < kg_sv 1001 j ∨ kg_sv 1002 j < v then (kg_n 2, A) else if A.1 (2 + j) = v then (kg_n 5, A) else (A.1 (2 + j), kf_sr (kf_rec A) (upd A.1 (2 + j) v))
def kf_sup (A : kf_A) (n u : Int32) : kf_O := match kf_ix 4 n with
  | none => (kg_n 1, A)
  | some j => if A.1 (7 + j) = u then (kg_n 5, A) else (nI (kf_up4 (upd A.1 (7 + j) u)), kf_sr (kf_rec A) (upd A.1 (7 + j) u))
def kf_m2 (r : Nat → Int32) (i : Nat) : Nat := (r i).toNatClampNeg
def kf_tls (A : kf_A) (n k : Nat) (w v : Int32) : kf_O := (nI (kf_rl (kf_te A.1 k w v) n (kf_m2 A.1 2) 4).length, kf_sr (kf_rec A) ((kf_rl (kf_te A.1 k w v) n (kf_m2 A.1 2) 4).foldl (kf_p1 k w v) (kf_te A.1 k w v)))
def kf_wri (A : kf_A) (n k v : Int32) : kf_O := match kf_ix 4 n, kf_ix 8 k with
  | some n, some k => if v < nI 0 ∨ nI 99 < v then (kg_n 2, A) else if A.1 (7 + n) = nI 0 then (kg_n 4, A) else kf_tls A n k (nI 1) v
  | _, _ => (kg_n 1, A)
def kf_del (A : kf_A) (n k : Int32) : kf_O := match kf_ix 4 n, kf_ix 8 k with
  | some n, some k => if A.1 (7 + n) = nI 0 then (kg_n 4, A) else kf_tls A n k (nI 2) (nI 0)
  | _, _ => (kg_n 1, A)
def kf_rep (A : kf_A) (a b : Int32) : kf_O := match kf_ix 4 a, kf_ix 4 b with
  | some a, some b => if a = b then (kg_n 2, A) else if A.1 (7 + a) = nI 0 ∨ A.1 (7 + b) = nI 0 then (kg_n 4, A) else (nI (kf_dn (kf_j0 A.1 a b) a b), kf_sr (kf_rec A) (kf_jn A.1 a b))
  | _, _ => (kg_n 1, A)
def kf_clr (A : kf_A) (n : Int32) : kf_O := match kf_ix 4 n with
  | some n => if A.1 (7 + n) = nI 0 then (kg_n 4, A) else if kf_ct (fun k => kf_cl A.1 n k) 8 = 0 then (kg_n 5, A) else (nI (kf_ct (kf_cl A.1 n) 8), kf_sr (kf_rec A) (kf_cg A.1 n))
  | _ => (kg_n 1, A)
theorem kf_rg {lo hi : Nat} {v : Int32} (hl : lo < 100000) (hh : hi < 100000) (h1 : nI lo ≤ v) (h2 : v ≤ nI hi) : ∃ a : Nat, lo ≤ a ∧ a ≤ hi ∧ v = nI a := by
  have q1 := Int32.le_iff_toInt_le.mp h1
  have q2 := Int32.le_iff_toInt_le.mp h2
  rw [nI_toInt (by omega)] at q1 q2
  exact ⟨v.toInt.toNat, by omega, by omega, Int32.toInt_inj.mp (by rw [nI_toInt (by omega)]; omega)⟩
theorem kf_Rel_ss {c j : Nat} {M : kg_M} {r : Nat → Int32} {v : Int32} (hR : kf_Rel c M 1 r) (hj : j < 5) (hv : kg_sv 1001 j ≤ v) (hv2 : v ≤ kg_sv 1002 j) : kf_Rel c (kg_wr M 2 j v) 1 (upd r (2 + j) v) := by
  have hI := hR.2.2.2.2.2.2.2
  obtain ⟨a1, -, a4, a5, a6, a7, a8, a9, -⟩ := hI
  have ne : ∀ {i : Nat}, i ≠ 2 + j → upd r (2 + j) v i = r i := fun {i} h => by simp only [upd, if_neg h]
  have es : ∀ {i : Nat}, i = 2 + j → upd r (2 + j) v i = v := fun {i} h => by simp only [upd, if_pos h]
  refine kf_Rel_h hR (fun p h1 h2 => kg_wr_n (by omega)) (fun i hi => ne (by omega)) ?_ ?_ ?_ ?_ (kf_I_h hR.2.2.2.2.2.2.2 (fun i hi => ne (by omega)) ?_ (ne (by omega)) ?_ ?_ ?_ ?_ ?_ ?_)
  · rw [kg_wr_n (by omega), ne (by omega)]; exact hR.1.1
  · rw [kg_wr_n (by omega), ne (by omega)]; exact hR.1.2
  · intro i hi
    rw [kg_wr_s]
    by_cases e : i = j
    · rw [if_pos e, es (by omega)]
    · rw [if_neg e, ne (by omega)]; exact hR.2.1 i hi
  · intro i hi
    rw [kg_wr_n (by omega), ne (by omega)]; exact hR.2.2.1 i hi
  · rw [ne (by omega)]; exact a1
  · by_cases e : j = 0
    · subst e; rw [es rfl]; exact kf_rg (by omega) (by omega) (lo := 1) (hi := 4) hv hv2
    · rw [ne (by omega)]; exact a4
  · by_cases e : j = 1
    · subst e; rw [es rfl]; exact kf_rg (by omega) (by omega) (lo := 1) (hi := 4) hv hv2
    · rw [ne (by omega)]; exact a5
  · by_cases e : j = 2
    · subst e; rw [es rfl]; exact kf_rg (by omega) (by omega) (lo := 1) (hi := 500) hv hv2
    · rw [ne (by omega)]; exact a6
  · by_cases e : j = 3
    · subst e; rw [es rfl]
      obtain ⟨a, -, q1, q2⟩ := kf_rg (by omega) (by omega) (lo := 0) (hi := 1) hv hv2
      obtain rfl | rfl : a = 0 ∨ a = 1 := by omega
      · exact Or.inl q2
      · exact Or.inr q2
    · rw [ne (by omega)]; exact a7
  · by_cases e : j = 4
    · subst e; rw [es rfl]
      obtain ⟨a, -, q1, q2⟩ := kf_rg (by omega) (by omega) (lo := 0) (hi := 1) hv hv2
      obtain rfl | rfl : a = 0 ∨ a = 1 := by omega
      · exact Or.inl q2
      · exact Or.inr q2
    · rw [ne (by omega)]; exact a8
  · intro n hn
    rw [ne (by omega)]; exact a9 n hn
theorem kf_Rel_su {c j : Nat} {M : kg_M} {r : Nat → Int32} {v : Int32} (hR : kf_Rel c M 1 r) (hj : j < 4) (hv : kg_01 v) : kf_Rel c (kg_wr M 3 j v) 1 (upd r (7 + j) v) := by
  have hI := hR.2.2.2.2.2.2.2
  obtain ⟨a1, -, a4, a5, a6, a7, a8, a9, -⟩ := hI
  have ne : ∀ {i : Nat}, i ≠ 7 + j → upd r (7 + j) v i = r i := fun {i} h => by simp only [upd, if_neg h]
  have es : ∀ {i : Nat}, i = 7 + j → upd r (7 + j) v i = v := fun {i} h => by simp only [upd, if_pos h]
  refine kf_Rel_h hR (fun p h1 h2 => kg_wr_n (by omega)) (fun i hi => ne (by omega)) ?_ ?_ ?_ ?_ (kf_I_h hR.2.2.2.2.2.2.2 (fun i hi => ne (by omega)) ?_ (ne (by omega)) ?_ ?_ ?_ ?_ ?_ ?_)
  · rw [kg_wr_n (by omega), ne (by omega)]; exact hR.1.1
  · rw [kg_wr_n (by omega), ne (by omega)]; exact hR.1.2
  · intro i hi
    rw [kg_wr_n (by omega), ne (by omega)]; exact hR.2.1 i hi
  · intro i hi
    rw [kg_wr_s]
    by_cases e : i = j
    · rw [if_pos e, es (by omega)]
    · rw [if_neg e, ne (by omega)]; exact hR.2.2.1 i hi
  · rw [ne (by omega)]; exact a1
  · rw [ne (by omega)]; exact a4
  · rw [ne (by omega)]; exact a5
  · rw [ne (by omega)]; exact a6
  · rw [ne (by omega)]; exact a7
  · rw [ne (by omega)]; exact a8
  · intro n hn
    by_cases e : n = j
    · rw [es (by omega)]; exact hv
    · rw [ne (by omega)]; exact a9 n hn
section
variable {G : kg_G} {d c : Nat} {h : Nat → Nat} {A : kf_A} {M : kg_M} {K : kg_Qt}
theorem kcR (hL : G.2.2.2.2.2.1 < 2 ^ 31) (hC : kf_C c h M A) (hd : 5 ≤ d) (hK : ∀ (h' : Nat → Nat) (M' : kg_M), kf_C c h' M' (kf_rec A) → (∀ p, 123 < p → M' p = M p) → K none (kg_w0 h') M') : kg_call G d 125 59 [.ref 0] (kg_w0 h) M K := by
  obtain ⟨a1, ⟨a2, a3, a4, a5⟩, ⟨a6, a7⟩, a8, a9, b1⟩ := hC
  refine kc59 hL A.2.1 A.2.2.1 a1 a2 a3 a4 a5 hd ?_
  intro h' M' q1 q2 q3 q4 q5
  refine hK h' M' ⟨kf_Rel_g a1 (fun p e1 e2 => q1 p (by omega) (by omega)), ⟨?_, q3, q4, q5⟩, ⟨(q2 4 (by omega)).trans a6, fun e => kf_Rel_g (a7 e) (fun p e1 e2 => q1 p (by omega) (by omega))⟩, a8, (congrFun (q1 122 (by omega) (by omega)) 1).trans a9, fun i hi => ?_⟩ (fun p hp => q1 p (by omega) (by omega))
  · change kf_n A.2.1 ≤ 4
    unfold kf_n
    split <;> omega
  · rw [q1 123 (by omega) (by omega)]; exact b1 i hi
theorem kc57 (hL : G.2.2.2.2.2.1 < 2 ^ 31) {i v : Int32} (hC : kf_C c h M A) (hd : 6 ≤ d) (hK : ∀ (o : Int32) (A' : kf_A) (h' : Nat → Nat) (M' : kg_M), kf_set A i v = (o, A') → kf_C c h' M' A' → (∀ p, 123 < p → M' p = M p) → K (some (.int o)) (kg_w0 h') M') : kg_call G d 125 57 [.ref 0, .int i, .int v] (kg_w0 h) M K := by
  obtain ⟨d, rfl⟩ : ∃ e, d = e + 1 := ⟨d - 1, by omega⟩
  refine kg_m57 (by simp) (Nat.le_refl _) (kg_v57 hL (by omega) 60 ?_)
  simp (disch := omega) only [kg_S1, kg_S2, kg_br_T, kg_br_F, kg_br_N, kg_br_t, kg_br_f, kg_at_n, nI_add, pk_mul, kg_sub_n, kg_rem_n, kg_eq_n, kg_lt_n, kg_le_n, kg_nz, kg_01_0, kg_01_1, kg_w0_1, kg_ret0, kg_ret1, kg_ret2, kg_wr_n, kg_wr_s, kg_Skd, kg_Smc, kg_Sob, kg_Srf, kg_Sld, kg_pad, List.map_cons, List.map_nil, List.length_cons, List.length_nil, List.replicate, List.cons_append, List.nil_append, List.append_nil, Nat.reduceAdd, Nat.reduceSub, Nat.reduceMul, Nat.reduceMod, Nat.reduceDiv, Nat.reduceLT, Nat.reduceLeDiff, Nat.reduceEqDiff, ne_eq, not_true_eq_false, not_false_eq_true, reduceIte, true_and, and_true, kg_lk57, kg_ls57]
  cases ei : kf_ix 5 i with
  | none =>
    refine kc58b hL (by omega) (kf_ix_n (by omega) ei) ?_
    simp (disch := omega) only [kg_S1, kg_S2, kg_br_T, kg_br_F, kg_br_N, kg_br_t, kg_br_f, kg_at_n, nI_add, pk_mul, kg_sub_n, kg_rem_n, kg_eq_n, kg_lt_n, kg_le_n, kg_nz, kg_01_0, kg_01_1, kg_w0_1, kg_ret0, kg_ret1, kg_ret2, kg_wr_n, kg_wr_s, kg_Skd, kg_Smc, kg_Sob, kg_Srf, kg_Sld, kg_pad, List.map_cons, List.map_nil, List.length_cons, List.length_nil, List.replicate, List.cons_append, List.nil_append, List.append_nil, Nat.reduceAdd, Nat.reduceSub, Nat.reduceMul, Nat.reduceMod, Nat.reduceDiv, Nat.reduceLT, Nat.reduceLeDiff, Nat.reduceEqDiff, ne_eq, not_true_eq_false, not_false_eq_true, reduceIte, true_and, and_true, kg_lk57, kg_ls57]
    exact hK _ _ _ _ (by simp [kf_set, ei]) hC (fun _ _ => rfl)
  | some j =>
    obtain ⟨hj, rfl⟩ := kf_ix_s (by omega) ei
    refine kc58 hL (by omega) hj ?_
    have e1 : M 2 j = A.1 (2 + j) := hC.1.2.1 j hj
    simp (disch := omega) only [kg_S1, kg_S2, kg_br_T, kg_br_F, kg_br_N, kg_br_t, kg_br_f, kg_at_n, nI_add, pk_mul, kg_sub_n, kg_rem_n, kg_eq_n, kg_lt_n, kg_le_n, kg_nz, kg_01_0, kg_01_1, kg_w0_1, kg_ret0, kg_ret1, kg_ret2, kg_wr_n, kg_wr_s, kg_Skd, kg_Smc, kg_Sob, kg_Srf, kg_Sld, kg_pad, List.map_cons, List.map_nil, List.length_cons, List.length_nil, List.replicate, List.cons_append, List.nil_append, List.append_nil, Nat.reduceAdd, Nat.reduceSub, Nat.reduceMul, Nat.reduceMod, Nat.reduceDiv, Nat.reduceLT, Nat.reduceLeDiff, Nat.reduceEqDiff, ne_eq, not_true_eq_false, not_false_eq_true, reduceIte, true_and, and_true, kg_lk57, kg_ls57, e1]
    refine kg_br_i (fun q1 => ?_) (fun q1 => ?_)
    · exact hK _ _ _ _ (by simp [kf_set, ei, q1]) hC (fun _ _ => rfl)
    refine kg_br_i (fun q2 => ?_) (fun q2 => ?_)
    · have q2' : ¬ kg_sv 1002 j < v := Int32.not_lt.mpr q2
      refine kg_br_i (fun q3 => ?_) (fun q3 => ?_)
      · exact hK _ _ _ _ (by simp [kf_set, ei, q1, q2', q3]) hC (fun _ _ => rfl)
      refine kcR hL hC (by omega) ?_
      intro h' M1 a1 a2
      simp (disch := omega) only [kg_S1, kg_S2, kg_br_T, kg_br_F, kg_br_N, kg_br_t, kg_br_f, kg_at_n, nI_add, pk_mul, kg_sub_n, kg_rem_n, kg_eq_n, kg_lt_n, kg_le_n, kg_nz, kg_01_0, kg_01_1, kg_w0_1, kg_ret0, kg_ret1, kg_ret2, kg_wr_n, kg_wr_s, kg_Skd, kg_Smc, kg_Sob, kg_Srf, kg_Sld, kg_pad, List.map_cons, List.map_nil, List.length_cons, List.length_nil, List.replicate, List.cons_append, List.nil_append, List.append_nil, Nat.reduceAdd, Nat.reduceSub, Nat.reduceMul, Nat.reduceMod, Nat.reduceDiv, Nat.reduceLT, Nat.reduceLeDiff, Nat.reduceEqDiff, ne_eq, not_true_eq_false, not_false_eq_true, reduceIte, true_and, and_true, kg_lk57, kg_ls57]
      refine hK _ _ _ _ (by simp [kf_set, ei, q1, q2', q3]; exact rfl) (kf_C_st a1 (Nat.le_refl _) (kf_Rel_ss a1.1 hj (Int32.not_lt.mp q1) q2) (fun p hp => kg_wr_n (by omega))) (fun p hp => (kg_wr_n (by omega)).trans (a2 p hp))
    · have q2' : kg_sv 1002 j < v := Int32.not_le.mp q2
      exact hK _ _ _ _ (by simp [kf_set, ei, q1, q2']) hC (fun _ _ => rfl)
theorem kc60 (hL : G.2.2.2.2.2.1 < 2 ^ 31) {i v : Int32} (hv : kg_01 v) (hC : kf_C c h M A) (hd : 6 ≤ d) (hK : ∀ (o : Int32) (A' : kf_A) (h' : Nat → Nat) (M' : kg_M), kf_sup A i v = (o, A') → kf_C c h' M' A' → (∀ p, 123 < p → M' p = M p) → K (some (.int o)) (kg_w0 h') M') : kg_call G d 125 60 [.ref 0, .int i, .int v] (kg_w0 h) M K := by
  obtain ⟨d, rfl⟩ : ∃ e, d = e + 1 := ⟨d - 1, by omega⟩
  refine kg_m60 (by simp [hv]) (Nat.le_refl _) (kg_v60 hL (by omega) 60 ?_)
  simp (disch := omega) only [kg_S1, kg_S2, kg_br_T, kg_br_F, kg_br_N, kg_br_t, kg_br_f, kg_at_n, nI_add, pk_mul, kg_sub_n, kg_rem_n, kg_eq_n, kg_lt_n, kg_le_n, kg_nz, kg_01_0, kg_01_1, kg_w0_1, kg_ret0, kg_ret1, kg_ret2, kg_wr_n, kg_wr_s, kg_Skd, kg_Smc, kg_Sob, kg_Srf, kg_Sld, kg_pad, List.map_cons, List.map_nil, List.length_cons, List.length_nil, List.replicate, List.cons_append, List.nil_append, List.append_nil, Nat.reduceAdd, Nat.reduceSub, Nat.reduceMul, Nat.reduceMod, Nat.reduceDiv, Nat.reduceLT, Nat.reduceLeDiff, Nat.reduceEqDiff, ne_eq, not_true_eq_false, not_false_eq_true, reduceIte, true_and, and_true, kg_lk60, kg_ls60]
  cases ei : kf_ix 4 i with
  | none =>
    refine kc61b hL (by omega) (kf_ix_n (by omega) ei) ?_
    simp (disch := omega) only [kg_S1, kg_S2, kg_br_T, kg_br_F, kg_br_N, kg_br_t, kg_br_f, kg_at_n, nI_add, pk_mul, kg_sub_n, kg_rem_n, kg_eq_n, kg_lt_n, kg_le_n, kg_nz, kg_01_0, kg_01_1, kg_w0_1, kg_ret0, kg_ret1, kg_ret2, kg_wr_n, kg_wr_s, kg_Skd, kg_Smc, kg_Sob, kg_Srf, kg_Sld, kg_pad, List.map_cons, List.map_nil, List.length_cons, List.length_nil, List.replicate, List.cons_append, List.nil_append, List.append_nil, Nat.reduceAdd, Nat.reduceSub, Nat.reduceMul, Nat.reduceMod, Nat.reduceDiv, Nat.reduceLT, Nat.reduceLeDiff, Nat.reduceEqDiff, ne_eq, not_true_eq_false, not_false_eq_true, reduceIte, true_and, and_true, kg_lk60, kg_ls60]
    exact hK _ _ _ _ (by simp [kf_sup, ei]) hC (fun _ _ => rfl)
  | some j =>
    obtain ⟨hj, rfl⟩ := kf_ix_s (by omega) ei
    refine kc61 hL (by omega) hj ?_
    have e1 : M 3 j = A.1 (7 + j) := hC.1.2.2.1 j hj
    simp (disch := omega) only [kg_S1, kg_S2, kg_br_T, kg_br_F, kg_br_N, kg_br_t, kg_br_f, kg_at_n, nI_add, pk_mul, kg_sub_n, kg_rem_n, kg_eq_n, kg_lt_n, kg_le_n, kg_nz, kg_01_0, kg_01_1, kg_w0_1, kg_ret0, kg_ret1, kg_ret2, kg_wr_n, kg_wr_s, kg_Skd, kg_Smc, kg_Sob, kg_Srf, kg_Sld, kg_pad, List.map_cons, List.map_nil, List.length_cons, List.length_nil, List.replicate, List.cons_append, List.nil_append, List.append_nil, Nat.reduceAdd, Nat.reduceSub, Nat.reduceMul, Nat.reduceMod, Nat.reduceDiv, Nat.reduceLT, Nat.reduceLeDiff, Nat.reduceEqDiff, ne_eq, not_true_eq_false, not_false_eq_true, reduceIte, true_and, and_true, kg_lk60, kg_ls60, e1]
    refine kg_br_i (fun q3 => ?_) (fun q3 => ?_)
    · exact hK _ _ _ _ (by simp [kf_sup, ei, q3]) hC (fun _ _ => rfl)
    refine kcR hL hC (by omega) ?_
    intro h' M1 a1 a2
    have hv' : kg_01 v = True := eq_true hv
    simp (disch := omega) only [kg_S1, kg_S2, kg_br_T, kg_br_F, kg_br_N, kg_br_t, kg_br_f, kg_at_n, nI_add, pk_mul, kg_sub_n, kg_rem_n, kg_eq_n, kg_lt_n, kg_le_n, kg_nz, kg_01_0, kg_01_1, kg_w0_1, kg_ret0, kg_ret1, kg_ret2, kg_wr_n, kg_wr_s, kg_Skd, kg_Smc, kg_Sob, kg_Srf, kg_Sld, kg_pad, List.map_cons, List.map_nil, List.length_cons, List.length_nil, List.replicate, List.cons_append, List.nil_append, List.append_nil, Nat.reduceAdd, Nat.reduceSub, Nat.reduceMul, Nat.reduceMod, Nat.reduceDiv, Nat.reduceLT, Nat.reduceLeDiff, Nat.reduceEqDiff, ne_eq, not_true_eq_false, not_false_eq_true, reduceIte, true_and, and_true, kg_lk60, kg_ls60, hv']
    have R1 := kf_Rel_su a1.1 hj hv
    refine kc23 hL R1 (by omega) ?_
    simp (disch := omega) only [kg_S1, kg_S2, kg_br_T, kg_br_F, kg_br_N, kg_br_t, kg_br_f, kg_at_n, nI_add, pk_mul, kg_sub_n, kg_rem_n, kg_eq_n, kg_lt_n, kg_le_n, kg_nz, kg_01_0, kg_01_1, kg_w0_1, kg_ret0, kg_ret1, kg_ret2, kg_wr_n, kg_wr_s, kg_Skd, kg_Smc, kg_Sob, kg_Srf, kg_Sld, kg_pad, List.map_cons, List.map_nil, List.length_cons, List.length_nil, List.replicate, List.cons_append, List.nil_append, List.append_nil, Nat.reduceAdd, Nat.reduceSub, Nat.reduceMul, Nat.reduceMod, Nat.reduceDiv, Nat.reduceLT, Nat.reduceLeDiff, Nat.reduceEqDiff, ne_eq, not_true_eq_false, not_false_eq_true, reduceIte, true_and, and_true, kg_lk60, kg_ls60]
    exact hK _ _ _ _ (by simp [kf_sup, ei, q3]; exact ⟨rfl, rfl⟩) (kf_C_st a1 (Nat.le_refl _) R1 (fun p hp => kg_wr_n (by omega))) (fun p hp => (kg_wr_n (by omega)).trans (a2 p hp))
theorem kf_m2_n {r : Nat → Int32} {i a : Nat} (ha : a < 2147483648) (e : r i = nI a) : kf_m2 r i = a := by
  unfold kf_m2
  rw [e]
  change (nI a).toInt.toNat = a
  rw [nI_toInt ha]
  omega
theorem kc62 (hL : G.2.2.2.2.2.1 < 2 ^ 31) {i k v : Int32} (hC : kf_C c h M A) (hc : c + 1 < 1048576) (hd : 6 ≤ d) (hK : ∀ (o : Int32) (A' : kf_A) (h' : Nat → Nat) (M' : kg_M), kf_wri A i k v = (o, A') → kf_C (c + 1) h' M' A' → (∀ p, 123 < p → M' p = M p) → K (some (.int o)) (kg_w0 h') M') : kg_call G d 125 62 [.ref 0, .int i, .int k, .int v] (kg_w0 h) M K := by
  obtain ⟨d, rfl⟩ : ∃ e, d = e + 1 := ⟨d - 1, by omega⟩
  refine kg_m62 (by simp) (Nat.le_refl _) (kg_v62 hL (by omega) 60 ?_)
  simp (disch := omega) only [kg_S1, kg_S2, kg_br_T, kg_br_F, kg_br_N, kg_br_t, kg_br_f, kg_at_n, nI_add, pk_mul, kg_sub_n, kg_rem_n, kg_eq_n, kg_lt_n, kg_le_n, kg_nz, kg_01_0, kg_01_1, kg_w0_1, kg_ret0, kg_ret1, kg_ret2, kg_wr_n, kg_wr_s, kg_Skd, kg_Smc, kg_Sob, kg_Srf, kg_Sld, kg_pad, List.map_cons, List.map_nil, List.length_cons, List.length_nil, List.replicate, List.cons_append, List.nil_append, List.append_nil, Nat.reduceAdd, Nat.reduceSub, Nat.reduceMul, Nat.reduceMod, Nat.reduceDiv, Nat.reduceLT, Nat.reduceLeDiff, Nat.reduceEqDiff, ne_eq, not_true_eq_false, not_false_eq_true, reduceIte, true_and, and_true, kg_lk62, kg_ls62]
  cases ei : kf_ix 4 i with
  | none =>
    refine kc61b hL (by omega) (kf_ix_n (by omega) ei) ?_
    simp (disch := omega) only [kg_S1, kg_S2, kg_br_T, kg_br_F, kg_br_N, kg_br_t, kg_br_f, kg_at_n, nI_add, pk_mul, kg_sub_n, kg_rem_n, kg_eq_n, kg_lt_n, kg_le_n, kg_nz, kg_01_0, kg_01_1, kg_w0_1, kg_ret0, kg_ret1, kg_ret2, kg_wr_n, kg_wr_s, kg_Skd, kg_Smc, kg_Sob, kg_Srf, kg_Sld, kg_pad, List.map_cons, List.map_nil, List.length_cons, List.length_nil, List.replicate, List.cons_append, List.nil_append, List.append_nil, Nat.reduceAdd, Nat.reduceSub, Nat.reduceMul, Nat.reduceMod, Nat.reduceDiv, Nat.reduceLT, Nat.reduceLeDiff, Nat.reduceEqDiff, ne_eq, not_true_eq_false, not_false_eq_true, reduceIte, true_and, and_true, kg_lk62, kg_ls62]
    exact hK _ _ _ _ (by simp [kf_wri, ei]) (kf_C_m hC (by omega)) (fun _ _ => rfl)
  | some n =>
    obtain ⟨hn, rfl⟩ := kf_ix_s (by omega) ei
    refine kc61 hL (by omega) hn ?_
    simp (disch := omega) only [kg_S1, kg_S2, kg_br_T, kg_br_F, kg_br_N, kg_br_t, kg_br_f, kg_at_n, nI_add, pk_mul, kg_sub_n, kg_rem_n, kg_eq_n, kg_lt_n, kg_le_n, kg_nz, kg_01_0, kg_01_1, kg_w0_1, kg_ret0, kg_ret1, kg_ret2, kg_wr_n, kg_wr_s, kg_Skd, kg_Smc, kg_Sob, kg_Srf, kg_Sld, kg_pad, List.map_cons, List.map_nil, List.length_cons, List.length_nil, List.replicate, List.cons_append, List.nil_append, List.append_nil, Nat.reduceAdd, Nat.reduceSub, Nat.reduceMul, Nat.reduceMod, Nat.reduceDiv, Nat.reduceLT, Nat.reduceLeDiff, Nat.reduceEqDiff, ne_eq, not_true_eq_false, not_false_eq_true, reduceIte, true_and, and_true, kg_lk62, kg_ls62]
    cases ek : kf_ix 8 k with
    | none =>
      refine kc63b hL (by omega) (kf_ix_n (by omega) ek) ?_
      simp (disch := omega) only [kg_S1, kg_S2, kg_br_T, kg_br_F, kg_br_N, kg_br_t, kg_br_f, kg_at_n, nI_add, pk_mul, kg_sub_n, kg_rem_n, kg_eq_n, kg_lt_n, kg_le_n, kg_nz, kg_01_0, kg_01_1, kg_w0_1, kg_ret0, kg_ret1, kg_ret2, kg_wr_n, kg_wr_s, kg_Skd, kg_Smc, kg_Sob, kg_Srf, kg_Sld, kg_pad, List.map_cons, List.map_nil, List.length_cons, List.length_nil, List.replicate, List.cons_append, List.nil_append, List.append_nil, Nat.reduceAdd, Nat.reduceSub, Nat.reduceMul, Nat.reduceMod, Nat.reduceDiv, Nat.reduceLT, Nat.reduceLeDiff, Nat.reduceEqDiff, ne_eq, not_true_eq_false, not_false_eq_true, reduceIte, true_and, and_true, kg_lk62, kg_ls62]
      exact hK _ _ _ _ (by simp [kf_wri, ei, ek]) (kf_C_m hC (by omega)) (fun _ _ => rfl)
    | some k =>
      obtain ⟨hk, rfl⟩ := kf_ix_s (by omega) ek
      refine kc63 hL (by omega) hk ?_
      have e1 : M 3 n = A.1 (7 + n) := hC.1.2.2.1 n hn
      simp (disch := omega) only [kg_S1, kg_S2, kg_br_T, kg_br_F, kg_br_N, kg_br_t, kg_br_f, kg_at_n, nI_add, pk_mul, kg_sub_n, kg_rem_n, kg_eq_n, kg_lt_n, kg_le_n, kg_nz, kg_01_0, kg_01_1, kg_w0_1, kg_ret0, kg_ret1, kg_ret2, kg_wr_n, kg_wr_s, kg_Skd, kg_Smc, kg_Sob, kg_Srf, kg_Sld, kg_pad, List.map_cons, List.map_nil, List.length_cons, List.length_nil, List.replicate, List.cons_append, List.nil_append, List.append_nil, Nat.reduceAdd, Nat.reduceSub, Nat.reduceMul, Nat.reduceMod, Nat.reduceDiv, Nat.reduceLT, Nat.reduceLeDiff, Nat.reduceEqDiff, ne_eq, not_true_eq_false, not_false_eq_true, reduceIte, true_and, and_true, kg_lk62, kg_ls62, e1]
      refine kg_br_i (fun q1 => ?_) (fun q1 => ?_)
      · exact hK _ _ _ _ (by simp [kf_wri, ei, ek, q1]) (kf_C_m hC (by omega)) (fun _ _ => rfl)
      refine kg_br_i (fun q2 => ?_) (fun q2 => ?_)
      · have q2' : ¬ nI 99 < v := Int32.not_lt.mpr q2
        refine kg_br_i (fun q3 => ?_) (fun q3 => ?_)
        · exact hK _ _ _ _ (by simp [kf_wri, ei, ek, q1, q2', q3]) (kf_C_m hC (by omega)) (fun _ _ => rfl)
        refine kcR hL hC (by omega) ?_
        intro h' M1 a1 a2
        simp (disch := omega) only [kg_S1, kg_S2, kg_br_T, kg_br_F, kg_br_N, kg_br_t, kg_br_f, kg_at_n, nI_add, pk_mul, kg_sub_n, kg_rem_n, kg_eq_n, kg_lt_n, kg_le_n, kg_nz, kg_01_0, kg_01_1, kg_w0_1, kg_ret0, kg_ret1, kg_ret2, kg_wr_n, kg_wr_s, kg_Skd, kg_Smc, kg_Sob, kg_Srf, kg_Sld, kg_pad, List.map_cons, List.map_nil, List.length_cons, List.length_nil, List.replicate, List.cons_append, List.nil_append, List.append_nil, Nat.reduceAdd, Nat.reduceSub, Nat.reduceMul, Nat.reduceMod, Nat.reduceDiv, Nat.reduceLT, Nat.reduceLeDiff, Nat.reduceEqDiff, ne_eq, not_true_eq_false, not_false_eq_true, reduceIte, true_and, and_true, kg_lk62, kg_ls62]
        obtain ⟨m, -, hm4, hm⟩ := hC.1.2.2.2.2.2.2.2.2.2.1
        have em := kf_m2_n (by omega) hm
        refine kc24 hL a1.1 hc hn hk hm hm4 (by omega) (w := nI 1) (v := v) (fun s h1 h2 => by
          obtain ⟨y, -, hy, ey⟩ := kf_rg (lo := 0) (hi := 99) (by omega) (by omega) (Int32.not_lt.mp q1) q2
          exact Or.inr (Or.inl ⟨s, y, rfl, rfl, h1, h2, ey, hy, rfl⟩)) ?_
        intro M2 b1 b2
        simp (disch := omega) only [kg_S1, kg_S2, kg_br_T, kg_br_F, kg_br_N, kg_br_t, kg_br_f, kg_at_n, nI_add, pk_mul, kg_sub_n, kg_rem_n, kg_eq_n, kg_lt_n, kg_le_n, kg_nz, kg_01_0, kg_01_1, kg_w0_1, kg_ret0, kg_ret1, kg_ret2, kg_wr_n, kg_wr_s, kg_Skd, kg_Smc, kg_Sob, kg_Srf, kg_Sld, kg_pad, List.map_cons, List.map_nil, List.length_cons, List.length_nil, List.replicate, List.cons_append, List.nil_append, List.append_nil, Nat.reduceAdd, Nat.reduceSub, Nat.reduceMul, Nat.reduceMod, Nat.reduceDiv, Nat.reduceLT, Nat.reduceLeDiff, Nat.reduceEqDiff, ne_eq, not_true_eq_false, not_false_eq_true, reduceIte, true_and, and_true, kg_lk62, kg_ls62]
        exact hK _ _ _ _ (by simp [kf_wri, ei, ek, q1, q2', q3, kf_tls, em]; exact ⟨rfl, rfl⟩) (kf_C_st a1 (by omega) b2 b1) (fun p hp => (b1 p (by omega)).trans (a2 p hp))
      · have q2' : nI 99 < v := Int32.not_le.mp q2
        exact hK _ _ _ _ (by simp [kf_wri, ei, ek, q1, q2']) (kf_C_m hC (by omega)) (fun _ _ => rfl)
theorem kc65 (hL : G.2.2.2.2.2.1 < 2 ^ 31) {i k : Int32} (hC : kf_C c h M A) (hc : c + 1 < 1048576) (hd : 6 ≤ d) (hK : ∀ (o : Int32) (A' : kf_A) (h' : Nat → Nat) (M' : kg_M), kf_del A i k = (o, A') → kf_C (c + 1) h' M' A' → (∀ p, 123 < p → M' p = M p) → K (some (.int o)) (kg_w0 h') M') : kg_call G d 125 65 [.ref 0, .int i, .int k] (kg_w0 h) M K := by
  obtain ⟨d, rfl⟩ : ∃ e, d = e + 1 := ⟨d - 1, by omega⟩
  refine kg_m65 (by simp) (Nat.le_refl _) (kg_v65 hL (by omega) 60 ?_)
  simp (disch := omega) only [kg_S1, kg_S2, kg_br_T, kg_br_F, kg_br_N, kg_br_t, kg_br_f, kg_at_n, nI_add, pk_mul, kg_sub_n, kg_rem_n, kg_eq_n, kg_lt_n, kg_le_n, kg_nz, kg_01_0, kg_01_1, kg_w0_1, kg_ret0, kg_ret1, kg_ret2, kg_wr_n, kg_wr_s, kg_Skd, kg_Smc, kg_Sob, kg_Srf, kg_Sld, kg_pad, List.map_cons, List.map_nil, List.length_cons, List.length_nil, List.replicate, List.cons_append, List.nil_append, List.append_nil, Nat.reduceAdd, Nat.reduceSub, Nat.reduceMul, Nat.reduceMod, Nat.reduceDiv, Nat.reduceLT, Nat.reduceLeDiff, Nat.reduceEqDiff, ne_eq, not_true_eq_false, not_false_eq_true, reduceIte, true_and, and_true, kg_lk65, kg_ls65]
  cases ei : kf_ix 4 i with
  | none =>
    refine kc61b hL (by omega) (kf_ix_n (by omega) ei) ?_
    simp (disch := omega) only [kg_S1, kg_S2, kg_br_T, kg_br_F, kg_br_N, kg_br_t, kg_br_f, kg_at_n, nI_add, pk_mul, kg_sub_n, kg_rem_n, kg_eq_n, kg_lt_n, kg_le_n, kg_nz, kg_01_0, kg_01_1, kg_w0_1, kg_ret0, kg_ret1, kg_ret2, kg_wr_n, kg_wr_s, kg_Skd, kg_Smc, kg_Sob, kg_Srf, kg_Sld, kg_pad, List.map_cons, List.map_nil, List.length_cons, List.length_nil, List.replicate, List.cons_append, List.nil_append, List.append_nil, Nat.reduceAdd, Nat.reduceSub, Nat.reduceMul, Nat.reduceMod, Nat.reduceDiv, Nat.reduceLT, Nat.reduceLeDiff, Nat.reduceEqDiff, ne_eq, not_true_eq_false, not_false_eq_true, reduceIte, true_and, and_true, kg_lk65, kg_ls65]
    exact hK _ _ _ _ (by simp [kf_del, ei]) (kf_C_m hC (by omega)) (fun _ _ => rfl)
  | some n =>
    obtain ⟨hn, rfl⟩ := kf_ix_s (by omega) ei
    refine kc61 hL (by omega) hn ?_
    simp (disch := omega) only [kg_S1, kg_S2, kg_br_T, kg_br_F, kg_br_N, kg_br_t, kg_br_f, kg_at_n, nI_add, pk_mul, kg_sub_n, kg_rem_n, kg_eq_n, kg_lt_n, kg_le_n, kg_nz, kg_01_0, kg_01_1, kg_w0_1, kg_ret0, kg_ret1, kg_ret2, kg_wr_n, kg_wr_s, kg_Skd, kg_Smc, kg_Sob, kg_Srf, kg_Sld, kg_pad, List.map_cons, List.map_nil, List.length_cons, List.length_nil, List.replicate, List.cons_append, List.nil_append, List.append_nil, Nat.reduceAdd, Nat.reduceSub, Nat.reduceMul, Nat.reduceMod, Nat.reduceDiv, Nat.reduceLT, Nat.reduceLeDiff, Nat.reduceEqDiff, ne_eq, not_true_eq_false, not_false_eq_true, reduceIte, true_and, and_true, kg_lk65, kg_ls65]
    cases ek : kf_ix 8 k with
    | none =>
      refine kc63b hL (by omega) (kf_ix_n (by omega) ek) ?_
      simp (disch := omega) only [kg_S1, kg_S2, kg_br_T, kg_br_F, kg_br_N, kg_br_t, kg_br_f, kg_at_n, nI_add, pk_mul, kg_sub_n, kg_rem_n, kg_eq_n, kg_lt_n, kg_le_n, kg_nz, kg_01_0, kg_01_1, kg_w0_1, kg_ret0, kg_ret1, kg_ret2, kg_wr_n, kg_wr_s, kg_Skd, kg_Smc, kg_Sob, kg_Srf, kg_Sld, kg_pad, List.map_cons, List.map_nil, List.length_cons, List.length_nil, List.replicate, List.cons_append, List.nil_append, List.append_nil, Nat.reduceAdd, Nat.reduceSub, Nat.reduceMul, Nat.reduceMod, Nat.reduceDiv, Nat.reduceLT, Nat.reduceLeDiff, Nat.reduceEqDiff, ne_eq, not_true_eq_false, not_false_eq_true, reduceIte, true_and, and_true, kg_lk65, kg_ls65]
      exact hK _ _ _ _ (by simp [kf_del, ei, ek]) (kf_C_m hC (by omega)) (fun _ _ => rfl)
    | some k =>
      obtain ⟨hk, rfl⟩ := kf_ix_s (by omega) ek
      refine kc63 hL (by omega) hk ?_
      have e1 : M 3 n = A.1 (7 + n) := hC.1.2.2.1 n hn
      simp (disch := omega) only [kg_S1, kg_S2, kg_br_T, kg_br_F, kg_br_N, kg_br_t, kg_br_f, kg_at_n, nI_add, pk_mul, kg_sub_n, kg_rem_n, kg_eq_n, kg_lt_n, kg_le_n, kg_nz, kg_01_0, kg_01_1, kg_w0_1, kg_ret0, kg_ret1, kg_ret2, kg_wr_n, kg_wr_s, kg_Skd, kg_Smc, kg_Sob, kg_Srf, kg_Sld, kg_pad, List.map_cons, List.map_nil, List.length_cons, List.length_nil, List.replicate, List.cons_append, List.nil_append, List.append_nil, Nat.reduceAdd, Nat.reduceSub, Nat.reduceMul, Nat.reduceMod, Nat.reduceDiv, Nat.reduceLT, Nat.reduceLeDiff, Nat.reduceEqDiff, ne_eq, not_true_eq_false, not_false_eq_true, reduceIte, true_and, and_true, kg_lk65, kg_ls65, e1]
      refine kg_br_i (fun q3 => ?_) (fun q3 => ?_)
      · exact hK _ _ _ _ (by simp [kf_del, ei, ek, q3]) (kf_C_m hC (by omega)) (fun _ _ => rfl)
      refine kcR hL hC (by omega) ?_
      intro h' M1 a1 a2
      simp (disch := omega) only [kg_S1, kg_S2, kg_br_T, kg_br_F, kg_br_N, kg_br_t, kg_br_f, kg_at_n, nI_add, pk_mul, kg_sub_n, kg_rem_n, kg_eq_n, kg_lt_n, kg_le_n, kg_nz, kg_01_0, kg_01_1, kg_w0_1, kg_ret0, kg_ret1, kg_ret2, kg_wr_n, kg_wr_s, kg_Skd, kg_Smc, kg_Sob, kg_Srf, kg_Sld, kg_pad, List.map_cons, List.map_nil, List.length_cons, List.length_nil, List.replicate, List.cons_append, List.nil_append, List.append_nil, Nat.reduceAdd, Nat.reduceSub, Nat.reduceMul, Nat.reduceMod, Nat.reduceDiv, Nat.reduceLT, Nat.reduceLeDiff, Nat.reduceEqDiff, ne_eq, not_true_eq_false, not_false_eq_true, reduceIte, true_and, and_true, kg_lk65, kg_ls65]
      obtain ⟨m, -, hm4, hm⟩ := hC.1.2.2.2.2.2.2.2.2.2.1
      have em := kf_m2_n (by omega) hm
      refine kc24 hL a1.1 hc hn hk hm hm4 (by omega) (w := nI 2) (v := nI 0) (fun s h1 h2 => Or.inr (Or.inr ⟨s, rfl, rfl, h1, h2, rfl⟩)) ?_
      intro M2 b1 b2
      simp (disch := omega) only [kg_S1, kg_S2, kg_br_T, kg_br_F, kg_br_N, kg_br_t, kg_br_f, kg_at_n, nI_add, pk_mul, kg_sub_n, kg_rem_n, kg_eq_n, kg_lt_n, kg_le_n, kg_nz, kg_01_0, kg_01_1, kg_w0_1, kg_ret0, kg_ret1, kg_ret2, kg_wr_n, kg_wr_s, kg_Skd, kg_Smc, kg_Sob, kg_Srf, kg_Sld, kg_pad, List.map_cons, List.map_nil, List.length_cons, List.length_nil, List.replicate, List.cons_append, List.nil_append, List.append_nil, Nat.reduceAdd, Nat.reduceSub, Nat.reduceMul, Nat.reduceMod, Nat.reduceDiv, Nat.reduceLT, Nat.reduceLeDiff, Nat.reduceEqDiff, ne_eq, not_true_eq_false, not_false_eq_true, reduceIte, true_and, and_true, kg_lk65, kg_ls65]
      exact hK _ _ _ _ (by simp [kf_del, ei, ek, q3, kf_tls, em]; exact ⟨rfl, rfl⟩) (kf_C_st a1 (by omega) b2 b1) (fun p hp => (b1 p (by omega)).trans (a2 p hp))
end
