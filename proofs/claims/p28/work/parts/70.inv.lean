/-! THE LAW'S INVARIANT: what is true of every row that the law's calls come to -/
def kj_J (r : Nat → Int32) : Prop :=
  (∀ n k, n < 5 → k < 8 → nI 0 ≤ kf_s r n k ∧ kf_s r n k ≤ kf_s r 4 k) ∧
  (∀ n k, n < 5 → k < 8 → (kf_s r n k = nI 0 ↔ kf_w r n k = nI 0)) ∧
  (∀ n m k, n < 5 → m < 5 → k < 8 → kf_s r n k = kf_s r m k → kf_w r n k = kf_w r m k ∧ (kf_w r n k = nI 1 → kf_v r n k = kf_v r m k)) ∧
  (∀ n k, n < 4 → k < 8 → kf_w r n k ≠ nI 0 → kf_t r n k ≤ kf_c r n k ∧ kf_c r n k ≤ r 0) ∧
  (∀ n k, n < 5 → 4 ≤ k → k < 8 → kf_s r n k = nI 0)
/-- the facts stand, the tick has not gone back -/
theorem kj_o {r r' : Nat → Int32} (h : kj_J r) (h0 : r 0 ≤ r' 0) (ho : ∀ i, 27 ≤ i → i < 211 → r' i = r i) : kj_J r' := by
  have es : ∀ n k, n < 5 → k < 8 → kf_s r' n k = kf_s r n k := by intro n k hn hk; unfold kf_s; split <;> exact ho _ (by omega) (by omega)
  have ew : ∀ n k, n < 5 → k < 8 → kf_w r' n k = kf_w r n k := by intro n k hn hk; unfold kf_w; split <;> exact ho _ (by omega) (by omega)
  have ev : ∀ n k, n < 5 → k < 8 → kf_v r' n k = kf_v r n k := by intro n k hn hk; unfold kf_v; split <;> exact ho _ (by omega) (by omega)
  have et : ∀ n k, n < 4 → k < 8 → kf_t r' n k = kf_t r n k := fun n k hn hk => ho _ (by omega) (by omega)
  have ec : ∀ n k, n < 4 → k < 8 → kf_c r' n k = kf_c r n k := fun n k hn hk => ho _ (by omega) (by omega)
  obtain ⟨a1, a2, a3, a4, a5⟩ := h
  refine ⟨fun n k hn hk => ?_, fun n k hn hk => ?_, fun n m k hn hm hk e => ?_, fun n k hn hk hw => ?_, fun n k hn h4 hk => ?_⟩
  · rw [es n k hn hk, es 4 k (by omega) hk]; exact a1 n k hn hk
  · rw [es n k hn hk, ew n k hn hk]; exact a2 n k hn hk
  · rw [es n k hn hk, es m k hm hk] at e
    rw [ew n k hn hk, ew m k hm hk, ev n k hn hk, ev m k hm hk]
    exact a3 n m k hn hm hk e
  · rw [ew n k (by omega) hk] at hw
    rw [et n k hn hk, ec n k hn hk]
    exact ⟨(a4 n k hn hk hw).1, Int32.le_trans (a4 n k hn hk hw).2 h0⟩
  · rw [es n k hn hk]; exact a5 n k hn h4 hk
/-- one fact of a node has changed -/
theorem kj_put {r r' : Nat → Int32} {n0 k0 : Nat} {w v s t c : Int32} (h : kj_J r) (hn0 : n0 < 4) (hk0 : k0 < 8) (h0 : r' 0 = r 0)
    (es : ∀ n k, n < 5 → k < 8 → kf_s r' n k = if n = n0 ∧ k = k0 then s else kf_s r n k)
    (ew : ∀ n k, n < 5 → k < 8 → kf_w r' n k = if n = n0 ∧ k = k0 then w else kf_w r n k)
    (ev : ∀ n k, n < 5 → k < 8 → kf_v r' n k = if n = n0 ∧ k = k0 then v else kf_v r n k)
    (et : ∀ n k, n < 4 → k < 8 → kf_t r' n k = if n = n0 ∧ k = k0 then t else kf_t r n k)
    (ec : ∀ n k, n < 4 → k < 8 → kf_c r' n k = if n = n0 ∧ k = k0 then c else kf_c r n k)
    (hs : nI 0 ≤ s ∧ s ≤ kf_s r 4 k0) (hz : s = nI 0 ↔ w = nI 0) (hq : ∀ m, m < 5 → kf_s r m k0 = s → kf_w r m k0 = w ∧ (w = nI 1 → kf_v r m k0 = v))
    (ht : w ≠ nI 0 → t ≤ c ∧ c ≤ r 0) (h4 : 4 ≤ k0 → s = nI 0) : kj_J r' := by
  obtain ⟨a1, a2, a3, a4, a5⟩ := h
  have e4 : ∀ k, k < 8 → kf_s r' 4 k = kf_s r 4 k := fun k hk => by rw [es 4 k (by omega) hk, if_neg (by omega)]
  refine ⟨fun n k hn hk => ?_, fun n k hn hk => ?_, fun n m k hn hm hk e => ?_, fun n k hn hk hw => ?_, fun n k hn h5 hk => ?_⟩
  · rw [e4 k hk, es n k hn hk]
    by_cases q : n = n0 ∧ k = k0
    · rw [if_pos q, q.2]; exact hs
    · rw [if_neg q]; exact a1 n k hn hk
  · rw [es n k hn hk, ew n k hn hk]
    by_cases q : n = n0 ∧ k = k0
    · rw [if_pos q, if_pos q]; exact hz
    · rw [if_neg q, if_neg q]; exact a2 n k hn hk
  · rw [es n k hn hk, es m k hm hk] at e
    rw [ew n k hn hk, ew m k hm hk, ev n k hn hk, ev m k hm hk]
    by_cases q : n = n0 ∧ k = k0
    · rw [if_pos q] at e
      rw [if_pos q, if_pos q]
      by_cases q2 : m = n0 ∧ k = k0
      · rw [if_pos q2, if_pos q2]; exact ⟨rfl, fun _ => rfl⟩
      · rw [if_neg q2] at e
        rw [if_neg q2, if_neg q2, q.2]
        rw [q.2] at e
        have := hq m hm e.symm
        exact ⟨this.1.symm, fun g => (this.2 g).symm⟩
    · rw [if_neg q] at e
      rw [if_neg q, if_neg q]
      by_cases q2 : m = n0 ∧ k = k0
      · rw [if_pos q2] at e
        rw [if_pos q2, if_pos q2, q2.2]
        rw [q2.2] at e
        have := hq n hn e
        exact ⟨this.1, fun g => this.2 (this.1 ▸ g)⟩
      · rw [if_neg q2] at e
        rw [if_neg q2, if_neg q2]
        exact a3 n m k hn hm hk e
  · rw [ew n k (by omega) hk] at hw
    rw [et n k hn hk, ec n k hn hk, h0]
    by_cases q : n = n0 ∧ k = k0
    · rw [if_pos q] at hw
      rw [if_pos q, if_pos q]
      exact ht hw
    · rw [if_neg q] at hw
      rw [if_neg q, if_neg q]
      exact a4 n k hn hk hw
  · rw [es n k hn hk]
    by_cases q : n = n0 ∧ k = k0
    · rw [if_pos q]; exact h4 (by omega)
    · rw [if_neg q]; exact a5 n k hn h5 hk
theorem kj_ta {r : Nat → Int32} {n s k : Nat} (h : kj_J r) (hn : n < 4) (hs : s < 4) (hk : k < 8) : kj_J (kf_ta r n s k) := by
  have h' := h
  obtain ⟨a1, a2, a3, a4, a5⟩ := h'
  exact kj_put (w := kf_w r s k) (v := kf_v r s k) (s := kf_s r s k) (t := kf_t r s k) (c := r 0) h hn hk (kf_ta_o hn hk (by omega)) (fun n' k' q1 q2 => kf_ta_s hn hs hk q1 q2) (fun n' k' q1 q2 => kf_ta_w hn hs hk q1 q2) (fun n' k' q1 q2 => kf_ta_v hn hs hk q1 q2) (fun n' k' q1 q2 => kf_ta_t hn hs hk q1 q2) (fun n' k' q1 q2 => kf_ta_c hn hk q1 q2)
    (a1 s k (by omega) hk) (a2 s k (by omega) hk) (fun m hm e => by
      have := a3 m s k hm (by omega) hk e
      exact ⟨this.1, fun g => this.2 (this.1.trans g)⟩) (fun hw => ⟨Int32.le_trans (a4 s k hs hk hw).1 (a4 s k hs hk hw).2, Int32.le_refl _⟩) (fun h4 => a5 s k (by omega) h4 hk)
theorem kj_nt {r : Nat → Int32} {kd : Nat} {a b : Int32} (h : kj_J r) : kj_J (kf_nt r kd a b) :=
  kj_o h (by rw [kf_nt_o (by omega)]; exact Int32.le_refl _) (fun i _ hi => kf_nt_o (by omega))
theorem kj_ln {r : Nat → Int32} {n s k : Nat} (h : kj_J r) (hn : n < 4) (hs : s < 4) (hk : k < 8) : kj_J (kf_ln r n s k) := by
  unfold kf_ln
  split
  · exact kj_nt (kj_ta h hn hs hk)
  · exact kj_ta h hn hs hk
theorem kj_m1 {s k : Nat} (hs : s < 4) (hk : k < 8) : ∀ (l : List Nat) (r : Nat → Int32), kj_J r → (∀ a ∈ l, a < 4) → kj_J (l.foldl (kf_m1 s k) r)
  | [], r, h, _ => h
  | a :: l, r, h, hl => by
    refine kj_m1 hs hk l _ ?_ (fun b hb => hl b (List.mem_cons_of_mem _ hb))
    unfold kf_m1
    split
    · exact h
    · exact kj_ln h (hl a List.mem_cons_self) hs hk
theorem kj_m1_o {s k i : Nat} (hk : k < 8) (hi : i < 27 ∨ (187 ≤ i ∧ i < 242)) : ∀ (l : List Nat) (r : Nat → Int32), (∀ a ∈ l, a < 4) → l.foldl (kf_m1 s k) r i = r i
  | [], r, _ => rfl
  | a :: l, r, hl => by
    refine (kj_m1_o hk hi l _ (fun b hb => hl b (List.mem_cons_of_mem _ hb))).trans ?_
    unfold kf_m1
    split
    · rfl
    · exact kf_ln_o (hl a List.mem_cons_self) hk hi
theorem kj_jf {a b : Nat} (ha : a < 4) (hb : b < 4) {r : Nat → Int32} (h : kj_J r) : ∀ k, k ≤ 8 → kj_J (kf_jf a b r k)
  | 0, _ => h
  | k + 1, hk => by
    have ih := kj_jf ha hb h k (by omega)
    rw [kf_jf, kf_jk]
    split
    · exact kj_ln ih hb ha (by omega)
    · split
      · exact ih
      · exact kj_ln ih ha hb (by omega)
theorem kj_j0 {a b : Nat} (ha : a < 4) (hb : b < 4) {r : Nat → Int32} (h : kj_J r) : kj_J (kf_j0 r a b) := by
  unfold kf_j0
  exact kj_o (kj_nt h) (by rw [kf_sl2_o ha hb (by omega)]; exact Int32.le_refl _) (fun i h1 _ => kf_sl2_o ha hb (by omega))
theorem kj_jn {a b : Nat} (ha : a < 4) (hb : b < 4) {r : Nat → Int32} (h : kj_J r) : kj_J (kf_jn r a b) := kj_jf ha hb (kj_j0 ha hb h) 8 (Nat.le_refl _)
theorem kj_z5 {r : Nat → Int32} {n k : Nat} (h : kj_J r) (hn : n < 4) (hk : k < 8) : kj_J (kf_z5 r n k) := by
  have h' := h
  obtain ⟨a1, a2, a3, a4, a5⟩ := h'
  unfold kf_z5
  exact kj_put (w := nI 0) (v := nI 0) (s := nI 0) (t := nI 0) (c := nI 0) h hn hk (kf_pu_o hn hk (by omega)) (fun n' k' q1 q2 => kf_pu_s hn hk q1 q2) (fun n' k' q1 q2 => kf_pu_w hn hk q1 q2) (fun n' k' q1 q2 => kf_pu_v hn hk q1 q2) (fun n' k' q1 q2 => kf_pu_t hn hk q1 q2) (fun n' k' q1 q2 => kf_pu_c hn hk q1 q2)
    ⟨Int32.le_refl _, (a1 4 k (by omega) hk).1⟩ ⟨fun _ => rfl, fun _ => rfl⟩ (fun m hm e => ⟨(a2 m k hm hk).mp e, fun g => absurd g (by decide)⟩) (fun hw => absurd rfl hw) (fun _ => rfl)
theorem kj_cf {n : Nat} (hn : n < 4) {r : Nat → Int32} (h : kj_J r) : ∀ k, k ≤ 8 → kj_J (kf_cf r n k)
  | 0, _ => h
  | k + 1, hk => by
    have ih := kj_cf hn h k (by omega)
    rw [kf_cf, kf_ck]
    split
    · exact kj_z5 ih hn (by omega)
    · exact ih
theorem kj_cf_o {n i : Nat} (hn : n < 4) (hi : i < 27 ∨ 187 ≤ i) {r : Nat → Int32} : ∀ k, k ≤ 8 → kf_cf r n k i = r i
  | 0, _ => rfl
  | k + 1, hk => by
    have ih := kj_cf_o hn hi (r := r) k (by omega)
    rw [kf_cf, kf_ck]
    split
    · unfold kf_z5
      rw [kf_pu_o hn (by omega) hi]; exact ih
    · exact ih
theorem kj_cg {n : Nat} (hn : n < 4) {r : Nat → Int32} (h : kj_J r) : kj_J (kf_cg r n) := kj_nt (kj_cf hn h 8 (Nat.le_refl _))
theorem kj_cg_o {n i : Nat} (hn : n < 4) (hi : i < 27 ∨ (187 ≤ i ∧ i < 242)) {r : Nat → Int32} : kf_cg r n i = r i := by
  unfold kf_cg
  rw [kf_nt_o (by omega), kj_cf_o hn (by omega) 8 (Nat.le_refl _)]
theorem kj_le1 {r : Nat → Int32} {t : Nat} (et : r 0 = nI t) (ht : t + 1 < 2147483648) : r 0 ≤ r 0 + nI 1 := by
  rw [et, nI_add]
  exact (nI_leI (by omega) (by omega)).mpr (by omega)
theorem kj_tc {r : Nat → Int32} {t : Nat} (et : r 0 = nI t) (ht : t + 1 < 2147483648) (h : kj_J r) : kj_J (kf_tc r) :=
  kj_o h (by show r 0 ≤ (if (0 : Nat) = 0 then r 0 + nI 1 else r 0); rw [if_pos rfl]; exact kj_le1 et ht) (fun i h1 _ => if_neg (by omega))
theorem kj_pf {r : Nat → Int32} {p t : Nat} (et : r 0 = nI t) (ht : t + 1 < 2147483648) (hp : p ≤ 10) (hab : ∀ i, i < p → kf_pa r i < 4 ∧ kf_pb r i < 4) (h : kj_J r) : ∀ j, j ≤ p → kj_J (kf_pf r j).1
  | 0, _ => kj_tc et ht h
  | j + 1, hj => by
    have ih := kj_pf et ht hp hab h j (by omega)
    have o := kf_pf_o hp hab j (by omega)
    have e0 : ∀ q, q ≠ 0 → kf_tc r q = r q := fun q hq => if_neg hq
    have ea : kf_pa (kf_pf r j).1 j = kf_pa r j := by unfold kf_pa; rw [o _ (by omega), e0 _ (by omega)]
    have eb : kf_pb (kf_pf r j).1 j = kf_pb r j := by unfold kf_pb; rw [o _ (by omega), e0 _ (by omega)]
    obtain ⟨ha, hb⟩ := hab j (by omega)
    rw [kf_pf, kf_ps, ea, eb]
    split
    · split
      · exact kj_jn ha hb ih
      · exact kj_nt ih
    · exact ih
theorem kj_pn {p : Nat} (hp : p ≤ 10) {r : Nat → Int32} {t : Nat} (et : r 0 = nI t) (hab : ∀ i, i < p → kf_pa r i < 4 ∧ kf_pb r i < 4) (h : kj_J r) : ∀ m, t + m < 2147483648 → kj_J (kf_pn p r m).1 ∧ (kf_pn p r m).1 0 = nI (t + m) ∧ ∀ q, ((1 ≤ q ∧ q < 11) ∨ (187 ≤ q ∧ q < 242)) → (kf_pn p r m).1 q = r q
  | 0, _ => ⟨h, et, fun _ _ => rfl⟩
  | m + 1, hm => by
    obtain ⟨b1, b2, b3⟩ := kj_pn hp et hab h m (by omega)
    have hab2 : ∀ i, i < p → kf_pa (kf_pn p r m).1 i < 4 ∧ kf_pb (kf_pn p r m).1 i < 4 := by
      intro i hi
      unfold kf_pa kf_pb
      rw [b3 _ (by omega), b3 _ (by omega)]
      exact hab i hi
    have o := kf_pf_o hp hab2 p (Nat.le_refl _)
    refine ⟨kj_pf b2 (by omega) hp hab2 b1 p (Nat.le_refl _), ?_, fun q hq => ?_⟩
    · show (kf_pf (kf_pn p r m).1 p).1 0 = _
      rw [o 0 (by omega)]
      have e9 : kf_tc (kf_pn p r m).1 0 = (kf_pn p r m).1 0 + nI 1 := by simp [kf_tc, upd]
      rw [e9, b2, nI_add]
      rfl
    · show (kf_pf (kf_pn p r m).1 p).1 q = _
      rw [o q (by omega)]
      exact (if_neg (by omega)).trans (b3 q hq)
