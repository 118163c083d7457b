/-! plan: sets in their order -/
def aheadN (a b : Nat) : Prop := ∃ i, a.testBit i = true ∧ b.testBit i = false ∧ ∀ j, j < i → a.testBit j = b.testBit j
theorem ahead_tr {a b d : Nat} (h1 : aheadN a b) (h2 : aheadN b d) : aheadN a d := by
  obtain ⟨i, a1, a2, a3⟩ := h1
  obtain ⟨k, b1, b2, b3⟩ := h2
  rcases Nat.lt_trichotomy i k with q | q | q
  · exact ⟨i, a1, by rw [← b3 i q]; exact a2, fun j hj => by rw [a3 j hj, b3 j (by omega)]⟩
  · subst q
    rw [b1] at a2
    cases a2
  · exact ⟨k, by rw [a3 k q]; exact b1, b2, fun j hj => by rw [a3 j (by omega), b3 j hj]⟩
theorem ahead_as {a b : Nat} (h1 : aheadN a b) (h2 : aheadN b a) : False := by
  obtain ⟨i, a1, a2, -⟩ := ahead_tr h1 h2
  rw [a1] at a2
  cases a2
theorem ahead_to {a b : Nat} (h : a ≠ b) : aheadN a b ∨ aheadN b a := by
  have h2 : ∃ i, a.testBit i ≠ b.testBit i := Classical.byContradiction (fun z => h (Nat.eq_of_testBit_eq (fun i => Classical.byContradiction (fun w => z ⟨i, w⟩))))
  have h3 : ∀ n i, i ≤ n → a.testBit i ≠ b.testBit i → ∃ k, a.testBit k ≠ b.testBit k ∧ ∀ j, j < k → a.testBit j = b.testBit j := by
    intro n
    induction n with
    | zero => intro i hi hne; exact ⟨i, hne, fun j hj => by omega⟩
    | succ n ih =>
      intro i hi hne
      by_cases q : ∃ j, j < i ∧ a.testBit j ≠ b.testBit j
      · obtain ⟨j, hj, hn⟩ := q
        exact ih j (by omega) hn
      · exact ⟨i, hne, fun j hj => Classical.byContradiction (fun w => q ⟨j, hj, w⟩)⟩
  obtain ⟨i, hi⟩ := h2
  obtain ⟨k, hne, hlt⟩ := h3 i i (Nat.le_refl _) hi
  cases ha : a.testBit k
  · cases hb : b.testBit k
    · rw [ha, hb] at hne; exact absurd rfl hne
    · exact Or.inr ⟨k, hb, ha, fun j hj => (hlt j hj).symm⟩
  · cases hb : b.testBit k
    · exact Or.inl ⟨k, ha, hb, hlt⟩
    · rw [ha, hb] at hne; exact absurd rfl hne
theorem bv0 (v : Int32) : v = 0 ↔ ∀ i, v.toBitVec.getLsbD i = false := by
  constructor
  · rintro rfl i
    simp
  · intro h
    apply Int32.toBitVec_inj.1
    apply BitVec.eq_of_getLsbD_eq
    intro i hi
    rw [h i]
    simp
theorem isAhead_iff {a b : Nat} (ha : a < 4096) (hb : b < 4096) : ¬ f7_isAhead (nI a) (nI b) = 0 ↔ aheadN a b := by
  have hA : ∀ i, (nI a).toBitVec.getLsbD i = a.testBit i := fun i => by
    show (BitVec.ofNat 32 a).getLsbD i = _
    rw [BitVec.getLsbD_ofNat]
    by_cases q : i < 32
    · simp [q]
    · rw [Nat.testBit_lt_two_pow (Nat.lt_of_lt_of_le ha (by exact (Nat.pow_le_pow_right (by decide) (by omega) : 2 ^ 12 ≤ 2 ^ i)))]
      simp
  have hB : ∀ i, (nI b).toBitVec.getLsbD i = b.testBit i := fun i => by
    show (BitVec.ofNat 32 b).getLsbD i = _
    rw [BitVec.getLsbD_ofNat]
    by_cases q : i < 32
    · simp [q]
    · rw [Nat.testBit_lt_two_pow (Nat.lt_of_lt_of_le hb (by exact (Nat.pow_le_pow_right (by decide) (by omega) : 2 ^ 12 ≤ 2 ^ i)))]
      simp
  have hx : ∀ i, ((nI a &&& (nI a ^^^ nI b)) &&& (-(nI a ^^^ nI b))).toBitVec.getLsbD i = true ↔ (a.testBit i = true ∧ b.testBit i = false ∧ ∀ j, j < i → a.testBit j = b.testBit j) := fun i => by
    show (((nI a).toBitVec &&& ((nI a).toBitVec ^^^ (nI b).toBitVec)) &&& (-((nI a).toBitVec ^^^ (nI b).toBitVec))).getLsbD i = true ↔ _
    rw [BitVec.getLsbD_and, BitVec.getLsbD_and, BitVec.getLsbD_neg]
    simp only [BitVec.getLsbD_xor, hA, hB]
    by_cases q : i < 32
    · by_cases w : ∃ j, j < i ∧ (a.testBit j ^^ b.testBit j) = true
      · have w2 : ¬ ∀ j, j < i → a.testBit j = b.testBit j := fun z => by
          obtain ⟨j, hj, hn⟩ := w
          rw [z j hj] at hn
          simp at hn
        rw [decide_eq_true q, decide_eq_true w]
        constructor
        · intro z
          cases h1 : a.testBit i <;> cases h2 : b.testBit i <;> rw [h1, h2] at z <;> simp at z
        · intro z
          exact absurd z.2.2 w2
      · have w2 : ∀ j, j < i → a.testBit j = b.testBit j := fun j hj => by
          cases h1 : a.testBit j <;> cases h2 : b.testBit j
          · rfl
          · exact absurd ⟨j, hj, by rw [h1, h2]; rfl⟩ w
          · exact absurd ⟨j, hj, by rw [h1, h2]; rfl⟩ w
          · rfl
        rw [decide_eq_true q, decide_eq_false w]
        cases h1 : a.testBit i <;> cases h2 : b.testBit i <;> simp
        exact w2
    · have h1 : a.testBit i = false := Nat.testBit_lt_two_pow (Nat.lt_of_lt_of_le ha (by exact (Nat.pow_le_pow_right (by decide) (by omega) : 2 ^ 12 ≤ 2 ^ i)))
      rw [h1]
      simp
  unfold f7_isAhead
  by_cases q : ((nI a &&& (nI a ^^^ nI b)) &&& (-(nI a ^^^ nI b))) = 0
  · rw [if_pos q]
    constructor
    · intro z
      exact absurd rfl z
    · rintro ⟨i, hi⟩
      have h1 := (hx i).mpr hi
      rw [(bv0 _).mp q i] at h1
      cases h1
  · rw [if_neg q]
    refine ⟨fun _ => ?_, fun _ => by decide⟩
    refine Classical.byContradiction (fun z => q ((bv0 _).mpr (fun i => ?_)))
    cases hc : ((nI a &&& (nI a ^^^ nI b)) &&& (-(nI a ^^^ nI b))).toBitVec.getLsbD i
    · rfl
    · exact absurd ⟨i, (hx i).mp hc⟩ z
/-! the best of a family of sets -/
def better (W D : Nat → Int) (b t : Nat) : Prop := W b * D t < W t * D b ∨ (W b * D t = W t * D b ∧ aheadN b t)
theorem bt_lt {a b d x y z : Int} (hx : 0 < x) (hy : 0 < y) (hz : 0 < z) (h1 : a * y < b * x) (h2 : b * z ≤ d * y) : a * z < d * x := by
  have k1 : a * y * z < b * x * z := Int.mul_lt_mul_of_pos_right h1 hz
  have k2 : b * z * x ≤ d * y * x := Int.mul_le_mul_of_nonneg_right h2 (Int.le_of_lt hx)
  have k3 : y * (a * z) < y * (d * x) := by
    have e1 : y * (a * z) = a * y * z := by grind
    have e2 : y * (d * x) = d * y * x := by grind
    have e3 : b * x * z = b * z * x := by grind
    omega
  exact Int.lt_of_mul_lt_mul_left k3 (Int.le_of_lt hy)
theorem bt_lt2 {a b d x y z : Int} (hx : 0 < x) (hy : 0 < y) (hz : 0 < z) (h1 : a * y ≤ b * x) (h2 : b * z < d * y) : a * z < d * x := by
  have k1 : a * y * z ≤ b * x * z := Int.mul_le_mul_of_nonneg_right h1 (Int.le_of_lt hz)
  have k2 : b * z * x < d * y * x := Int.mul_lt_mul_of_pos_right h2 hx
  have k3 : y * (a * z) < y * (d * x) := by
    have e1 : y * (a * z) = a * y * z := by grind
    have e2 : y * (d * x) = d * y * x := by grind
    have e3 : b * x * z = b * z * x := by grind
    omega
  exact Int.lt_of_mul_lt_mul_left k3 (Int.le_of_lt hy)
theorem bt_eq {a b d x y z : Int} (hy : 0 < y) (h1 : a * y = b * x) (h2 : b * z = d * y) : a * z = d * x := by
  have k3 : y * (a * z) = y * (d * x) := by grind
  exact Int.eq_of_mul_eq_mul_left (by omega) k3
theorem better_tr {W D : Nat → Int} {a b t : Nat} (ha : 0 < D a) (hb : 0 < D b) (ht : 0 < D t) (h1 : better W D a b) (h2 : better W D b t) : better W D a t := by
  rcases h1 with q | ⟨q, z⟩
  · rcases h2 with w | ⟨w, -⟩
    · exact Or.inl (bt_lt ha hb ht q (Int.le_of_lt w))
    · exact Or.inl (bt_lt ha hb ht q (Int.le_of_eq w))
  · rcases h2 with w | ⟨w, y⟩
    · exact Or.inl (bt_lt2 ha hb ht (Int.le_of_eq q) w)
    · exact Or.inr ⟨bt_eq hb q w, ahead_tr z y⟩
theorem better_as {W D : Nat → Int} {a b : Nat} (h1 : better W D a b) (h2 : better W D b a) : False := by
  rcases h1 with q | ⟨q, z⟩
  · rcases h2 with w | ⟨w, -⟩
    · omega
    · omega
  · rcases h2 with w | ⟨w, y⟩
    · omega
    · exact ahead_as z y
def Opt (W D : Nat → Int) (A : Nat → Prop) (b : Nat) : Prop := A b ∧ 0 < D b ∧ ∀ t, A t → 0 < D t → t = b ∨ better W D b t
theorem opt_uniq {W D : Nat → Int} {A : Nat → Prop} {a b : Nat} (h1 : Opt W D A a) (h2 : Opt W D A b) : a = b := by
  rcases h1.2.2 b h2.1 h2.2.1 with q | q
  · exact q.symm
  · rcases h2.2.2 a h1.1 h1.2.1 with w | w
    · exact w
    · exact (better_as q w).elim
theorem opt_new {W D : Nat → Int} {A B : Nat → Prop} {b q : Nat} (h : Opt W D A b) (hB : ∀ t, B t ↔ (A t ∨ t = q)) (hq : 0 < D q) (hb : better W D q b) : Opt W D B q := by
  refine ⟨(hB q).mpr (Or.inr rfl), hq, fun t ht hd => ?_⟩
  rcases (hB t).mp ht with w | w
  · rcases h.2.2 t w hd with z | z
    · subst z; exact Or.inr hb
    · exact Or.inr (better_tr hq h.2.1 hd hb z)
  · exact Or.inl w
theorem opt_keep {W D : Nat → Int} {A B : Nat → Prop} {b q : Nat} (h : Opt W D A b) (hB : ∀ t, B t ↔ (A t ∨ t = q)) (hb : 0 < D q → better W D b q) : Opt W D B b := by
  refine ⟨(hB b).mpr (Or.inl h.1), h.2.1, fun t ht hd => ?_⟩
  rcases (hB t).mp ht with w | w
  · exact h.2.2 t w hd
  · subst w; exact Or.inr (hb hd)
theorem opt_first {W D : Nat → Int} {A B : Nat → Prop} {q : Nat} (h : ∀ t, A t → ¬ 0 < D t) (hB : ∀ t, B t ↔ (A t ∨ t = q)) (hq : 0 < D q) : Opt W D B q := by
  refine ⟨(hB q).mpr (Or.inr rfl), hq, fun t ht hd => ?_⟩
  rcases (hB t).mp ht with w | w
  · exact absurd hd (h t w)
  · exact Or.inl w
theorem opt_cong {W D : Nat → Int} {A B : Nat → Prop} {b : Nat} (h : Opt W D A b) (hB : ∀ t, B t ↔ A t) : Opt W D B b := ⟨(hB b).mpr h.1, h.2.1, fun t ht hd => h.2.2 t ((hB t).mp ht) hd⟩
/-! the table of a set -/
def gK (x y : Nat → Int) (g0 : Nat → Int) (s : Nat) : Nat → Nat → Int
  | 0 => g0
  | k + 1 => if s.testBit k then gAdd (gK x y g0 s k) (x k) (y k) else gK x y g0 s k
theorem gK_cong {x y g0 : Nat → Int} {s t : Nat} : ∀ {k : Nat}, (∀ j, j < k → s.testBit j = t.testBit j) → gK x y g0 s k = gK x y g0 t k
  | 0, _ => rfl
  | k + 1, h => by rw [gK, gK, gK_cong (fun j hj => h j (by omega)), h k (by omega)]
theorem gK_up {x y g0 : Nat → Int} {s k : Nat} (hs : s < 2 ^ k) : ∀ n : Nat, k ≤ n → gK x y g0 s n = gK x y g0 s k
  | 0, h => by rw [show k = 0 by omega]
  | n + 1, h => by
    by_cases q : k = n + 1
    · rw [q]
    · rw [gK, Nat.testBit_lt_two_pow (Nat.lt_of_lt_of_le hs (Nat.pow_le_pow_right (by decide) (by omega)))]
      exact gK_up hs n (by omega)
theorem or2_tb {s k j : Nat} : (s ||| 2 ^ k).testBit j = (s.testBit j || decide (k = j)) := by rw [Nat.testBit_or, Nat.testBit_two_pow]
theorem or2_lt {s k : Nat} (hs : s < 2 ^ k) : s ||| 2 ^ k < 2 ^ (k + 1) := Nat.or_lt_two_pow (Nat.lt_trans hs (Nat.pow_lt_pow_right (by decide) (by omega))) (Nat.pow_lt_pow_right (by decide) (by omega))
theorem gK_or {x y g0 : Nat → Int} {s k N : Nat} (hs : s < 2 ^ k) (hk : k < N) : gK x y g0 (s ||| 2 ^ k) N = gAdd (gK x y g0 s N) (x k) (y k) := by
  rw [gK_up (or2_lt hs) N (by omega), gK_up hs N (by omega), gK, or2_tb]
  simp only [decide_true, Bool.or_true, if_true]
  rw [gK_cong (s := s ||| 2 ^ k) (t := s) (fun j hj => by rw [or2_tb]; simp [show ¬ k = j by omega])]
theorem gK_good {x y g0 : Nat → Int} {s : Nat} (hP : PSD g0) (hB : GB 0 g0) : ∀ n : Nat, (∀ k, k < n → bN (x k) 5 ∧ bN (y k) 5) → PSD (gK x y g0 s n) ∧ GB n (gK x y g0 s n)
  | 0, _ => ⟨hP, hB⟩
  | n + 1, h => by
    obtain ⟨a, b⟩ := gK_good (s := s) hP hB n (fun k hk => h k (by omega))
    rw [gK]
    cases s.testBit n
    · exact ⟨a, GB_mono b (by omega)⟩
    · exact ⟨PSD_add a _ _, GB_add b (h n (by omega)).1 (h n (by omega)).2⟩
theorem af_b {G : Nat → Int} {n : Nat} (hn : n ≤ 12) (hB : GB n G) {x y : Int} (hx : bN x 5) (hy : bN y 5) : bN (af G 1 x y) 21925442 := by
  have v6 := bN_v hn hB (i := 3) (j := 5) (k := 4) (l := 4) (by decide) (by decide) (by decide) (by decide)
  have v7 := bN_v hn hB (i := 2) (j := 4) (k := 1) (l := 5) (by decide) (by decide) (by decide) (by decide)
  have v8 := bN_v hn hB (i := 1) (j := 4) (k := 2) (l := 3) (by decide) (by decide) (by decide) (by decide)
  have v9 := bN_v hn hB (i := 0) (j := 5) (k := 2) (l := 2) (by decide) (by decide) (by decide) (by decide)
  have v10 := bN_v hn hB (i := 1) (j := 2) (k := 0) (l := 4) (by decide) (by decide) (by decide) (by decide)
  have v11 := bN_v hn hB (i := 0) (j := 3) (k := 1) (l := 1) (by decide) (by decide) (by decide) (by decide)
  have o1 : bN 1 1 := by unfold bN; decide
  have o2 : bN 2 2 := by unfold bN; decide
  unfold af
  exact bN_le (bN_add (bN_add (bN_add (bN_mul (bN_mul o1 o1) v6) (bN_mul (bN_mul hx hx) v9)) (bN_mul (bN_mul hy hy) v11)) (bN_mul o2 (bN_add (bN_add (bN_mul (bN_mul o1 hx) v7) (bN_mul (bN_mul o1 hy) v8)) (bN_mul (bN_mul hx hy) v10)))) (by decide)
/-- the worst over the marks -/
def wK (x y : Nat → Int) (G : Nat → Int) : Nat → Int
  | 0 => 0
  | k + 1 => if wK x y G k < af G 1 (x k) (y k) then af G 1 (x k) (y k) else wK x y G k
theorem wK_b {x y G : Nat → Int} (hP : PSD G) {N : Nat} (hN : N ≤ 12) (hB : GB N G) : ∀ n : Nat, (∀ k, k < n → bN (x k) 5 ∧ bN (y k) 5) → 0 ≤ wK x y G n ∧ bN (wK x y G n) 21925442
  | 0, _ => ⟨Int.le_refl _, by unfold bN wK; decide⟩
  | n + 1, h => by
    obtain ⟨a, b⟩ := wK_b hP hN hB n (fun k hk => h k (by omega))
    rw [wK]
    split
    · exact ⟨hP.2.1 _ _ _, af_b hN hB (h n (by omega)).1 (h n (by omega)).2⟩
    · exact ⟨a, b⟩
theorem wK_mono {x y G : Nat → Int} {k : Nat} : ∀ n : Nat, k ≤ n → wK x y G k ≤ wK x y G n
  | 0, h => by rw [show k = 0 by omega]; exact Int.le_refl _
  | n + 1, h => by
    by_cases q : k = n + 1
    · rw [q]; exact Int.le_refl _
    · have := wK_mono (x := x) (y := y) (G := G) n (show k ≤ n by omega)
      rw [wK]
      split <;> omega
theorem max_I {a b : Int} (ha : a.natAbs < 2 ^ 62) (hb : b.natAbs < 2 ^ 62) : maxL (Int64.ofInt a) (Int64.ofInt b) = Int64.ofInt (if a < b then b else a) := by
  unfold maxL
  have hlt := Int64.lt_iff_toInt_lt (x := Int64.ofInt b) (y := Int64.ofInt a)
  rw [oT ha, oT hb] at hlt
  by_cases q : Int64.ofInt b < Int64.ofInt a
  · have := hlt.mp q
    rw [if_pos q, if_neg (by omega)]
  · have : ¬ b < a := fun z => q (hlt.mpr z)
    rw [if_neg q]
    by_cases w : a < b
    · rw [if_pos w]
    · rw [if_neg w, show a = b by omega]
