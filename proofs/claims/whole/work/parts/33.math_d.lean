/-! the tables as whole numbers: bounds, and that DET is not below 0 -/
theorem oA (a b : Int) : Int64.ofInt a + Int64.ofInt b = Int64.ofInt (a + b) := (Int64.ofInt_add a b).symm
theorem oM (a b : Int) : Int64.ofInt a * Int64.ofInt b = Int64.ofInt (a * b) := (Int64.ofInt_mul a b).symm
theorem oS (a b : Int) : Int64.ofInt a - Int64.ofInt b = Int64.ofInt (a - b) := (Int64.ofInt_sub a b).symm
theorem oI (x : Int32) : x.toInt64 = Int64.ofInt x.toInt := by
  apply Int64.toInt_inj.mp
  have h1 := Int32.toInt_lt x
  have h2 := Int32.le_toInt x
  rw [Int32.toInt_toInt64, Int64.toInt_ofInt_of_le (by omega) (by omega)]
theorem oT {a : Int} (h : a.natAbs < 2 ^ 62) : (Int64.ofInt a).toInt = a := Int64.toInt_ofInt_of_le (by omega) (by omega)
theorem sqn (a : Int) : 0 ≤ a * a := by
  rcases Int.le_total 0 a with h | h
  · exact Int.mul_nonneg h h
  · exact Int.mul_nonneg_of_nonpos_of_nonpos h h
def bN (a : Int) (A : Nat) : Prop := a.natAbs ≤ A
theorem bN_mul {a b : Int} {A B : Nat} (h1 : bN a A) (h2 : bN b B) : bN (a * b) (A * B) := by
  unfold bN
  rw [Int.natAbs_mul]
  exact Nat.mul_le_mul h1 h2
theorem bN_add {a b : Int} {A B : Nat} (h1 : bN a A) (h2 : bN b B) : bN (a + b) (A + B) := by unfold bN at *; omega
theorem bN_sub {a b : Int} {A B : Nat} (h1 : bN a A) (h2 : bN b B) : bN (a - b) (A + B) := by unfold bN at *; omega
theorem bN_le {a : Int} {A B : Nat} (h : bN a A) (hAB : A ≤ B) : bN a B := Nat.le_trans h hAB
def qf (G : Nat → Int) (a b c : Int) : Int := a * a * G 0 + b * b * G 3 + c * c * G 5 + 2 * (a * b * G 1 + a * c * G 2 + b * c * G 4)
def af (G : Nat → Int) (a b c : Int) : Int := a * a * (G 3 * G 5 - G 4 * G 4) + b * b * (G 0 * G 5 - G 2 * G 2) + c * c * (G 0 * G 3 - G 1 * G 1) + 2 * (a * b * (G 2 * G 4 - G 1 * G 5) + a * c * (G 1 * G 4 - G 2 * G 3) + b * c * (G 1 * G 2 - G 0 * G 4))
def dt (G : Nat → Int) : Int := G 0 * (G 3 * G 5 - G 4 * G 4) + G 1 * (G 2 * G 4 - G 1 * G 5) + G 2 * (G 1 * G 4 - G 2 * G 3)
def gAdd (G : Nat → Int) (x y : Int) : Nat → Int := fun i => if i = 0 then G 0 + 1 else if i = 1 then G 1 + x else if i = 2 then G 2 + y else if i = 3 then G 3 + x * x else if i = 4 then G 4 + x * y else G 5 + y * y
def PSD (G : Nat → Int) : Prop := (∀ a b c, 0 ≤ qf G a b c) ∧ (∀ a b c, 0 ≤ af G a b c) ∧ 0 ≤ dt G
theorem gAdd_at (G : Nat → Int) (x y : Int) : gAdd G x y 0 = G 0 + 1 ∧ gAdd G x y 1 = G 1 + x ∧ gAdd G x y 2 = G 2 + y ∧ gAdd G x y 3 = G 3 + x * x ∧ gAdd G x y 4 = G 4 + x * y ∧ gAdd G x y 5 = G 5 + y * y := ⟨rfl, rfl, rfl, rfl, rfl, rfl⟩
theorem qf_add (G : Nat → Int) (x y a b c : Int) : qf (gAdd G x y) a b c = qf G a b c + (a + b * x + c * y) * (a + b * x + c * y) := by
  obtain ⟨h0, h1, h2, h3, h4, h5⟩ := gAdd_at G x y
  unfold qf
  rw [h0, h1, h2, h3, h4, h5]
  grind
theorem af_add (G : Nat → Int) (x y a b c : Int) : af (gAdd G x y) a b c = af G a b c + qf G (b * y - c * x) (c - a * y) (a * x - b) := by
  obtain ⟨h0, h1, h2, h3, h4, h5⟩ := gAdd_at G x y
  unfold af qf
  rw [h0, h1, h2, h3, h4, h5]
  grind
theorem dt_add (G : Nat → Int) (x y : Int) : dt (gAdd G x y) = dt G + af G 1 x y := by
  obtain ⟨h0, h1, h2, h3, h4, h5⟩ := gAdd_at G x y
  unfold dt af
  rw [h0, h1, h2, h3, h4, h5]
  grind
theorem PSD_add {G : Nat → Int} (h : PSD G) (x y : Int) : PSD (gAdd G x y) := by
  refine ⟨fun a b c => ?_, fun a b c => ?_, ?_⟩
  · rw [qf_add]
    exact Int.add_nonneg (h.1 a b c) (sqn _)
  · rw [af_add]
    exact Int.add_nonneg (h.2.1 a b c) (h.1 _ _ _)
  · rw [dt_add]
    exact Int.add_nonneg h.2.2 (h.2.1 _ _ _)
def gC (model : Int32) : Nat → Int := fun i => if model = 0 then (if i = 3 then 1 else if i = 5 then 1 else 0) else 0
theorem gC_0 : gC 0 0 = 0 ∧ gC 0 1 = 0 ∧ gC 0 2 = 0 ∧ gC 0 3 = 1 ∧ gC 0 4 = 0 ∧ gC 0 5 = 1 := ⟨rfl, rfl, rfl, rfl, rfl, rfl⟩
theorem gC_n {model : Int32} (h : ¬ model = 0) (i : Nat) : gC model i = 0 := if_neg h
theorem PSD_C (model : Int32) : PSD (gC model) := by
  by_cases h : model = 0
  · subst h
    obtain ⟨h0, h1, h2, h3, h4, h5⟩ := gC_0
    refine ⟨fun a b c => ?_, fun a b c => ?_, ?_⟩
    · unfold qf
      rw [h0, h1, h2, h3, h4, h5]
      have h6 := sqn b
      have h7 := sqn c
      simp only [Int.mul_zero, Int.mul_one, Int.zero_add, Int.add_zero]
      omega
    · unfold af
      rw [h0, h1, h2, h3, h4, h5]
      have h6 := sqn a
      simp
      exact h6
    · unfold dt
      rw [h0, h1, h2, h3, h4, h5]
      decide
  · have e := gC_n h
    refine ⟨fun a b c => ?_, fun a b c => ?_, ?_⟩
    · unfold qf; simp [e]
    · unfold af; simp [e]
    · unfold dt; simp [e]
def RelI (T : Nat → Int64) (G : Nat → Int) : Prop := T 0 = Int64.ofInt (G 0) ∧ T 1 = Int64.ofInt (G 1) ∧ T 2 = Int64.ofInt (G 2) ∧ T 3 = Int64.ofInt (G 3) ∧ T 4 = Int64.ofInt (G 4) ∧ T 5 = Int64.ofInt (G 5)
theorem RelI_C (T0 : Nat → Int64) (model : Int32) : RelI (f5_clear_T T0 model) (gC model) := by
  by_cases h : model = 0
  · subst h
    exact ⟨rfl, rfl, rfl, rfl, rfl, rfl⟩
  · rw [show f5_clear_T T0 model = _ from if_neg h]
    have e := gC_n h
    unfold RelI
    rw [e, e, e, e, e, e]
    exact ⟨rfl, rfl, rfl, rfl, rfl, rfl⟩
theorem RelI_add {T : Nat → Int64} {G : Nat → Int} (h : RelI T G) (x y : Int32) : RelI (f5_add_T T x.toInt64 y.toInt64 1) (gAdd G x.toInt y.toInt) := by
  obtain ⟨b0, b1, b2, b3, b4, b5⟩ := add_at T x.toInt64 y.toInt64 1
  obtain ⟨c0, c1, c2, c3, c4, c5⟩ := h
  obtain ⟨h0, h1, h2, h3, h4, h5⟩ := gAdd_at G x.toInt y.toInt
  unfold RelI
  rw [b0, b1, b2, b3, b4, b5, h0, h1, h2, h3, h4, h5, c0, c1, c2, c3, c4, c5, one64, oI x, oI y]
  refine ⟨?_, ?_, ?_, ?_, ?_, ?_⟩
  · rw [show (1 : Int64) = Int64.ofInt 1 from rfl, oA]
  · rw [Int64.one_mul, oA]
  · rw [Int64.one_mul, oA]
  · rw [Int64.one_mul, oM, oA]
  · rw [Int64.one_mul, oM, oA]
  · rw [Int64.one_mul, oM, oA]
def GB (n : Nat) (G : Nat → Int) : Prop := bN (G 0) (25 * n + 1) ∧ bN (G 1) (25 * n + 1) ∧ bN (G 2) (25 * n + 1) ∧ bN (G 3) (25 * n + 1) ∧ bN (G 4) (25 * n + 1) ∧ bN (G 5) (25 * n + 1)
theorem GB_C (model : Int32) : GB 0 (gC model) := by
  by_cases h : model = 0
  · subst h
    unfold GB bN; exact ⟨by decide, by decide, by decide, by decide, by decide, by decide⟩
  · have e := gC_n h
    unfold GB
    rw [e, e, e, e, e, e]
    unfold bN; exact ⟨by decide, by decide, by decide, by decide, by decide, by decide⟩
theorem GB_add {n : Nat} {G : Nat → Int} (h : GB n G) {x y : Int} (hx : bN x 5) (hy : bN y 5) : GB (n + 1) (gAdd G x y) := by
  obtain ⟨c0, c1, c2, c3, c4, c5⟩ := h
  obtain ⟨h0, h1, h2, h3, h4, h5⟩ := gAdd_at G x y
  unfold GB
  rw [h0, h1, h2, h3, h4, h5]
  exact ⟨bN_le (bN_add c0 (show bN 1 1 by unfold bN; decide)) (by omega), bN_le (bN_add c1 hx) (by omega), bN_le (bN_add c2 hy) (by omega), bN_le (bN_add c3 (bN_mul hx hx)) (by omega), bN_le (bN_add c4 (bN_mul hx hy)) (by omega), bN_le (bN_add c5 (bN_mul hy hy)) (by omega)⟩
theorem GB_mono {n m : Nat} {G : Nat → Int} (h : GB n G) (hm : n ≤ m) : GB m G := by
  obtain ⟨c0, c1, c2, c3, c4, c5⟩ := h
  exact ⟨bN_le c0 (by omega), bN_le c1 (by omega), bN_le c2 (by omega), bN_le c3 (by omega), bN_le c4 (by omega), bN_le c5 (by omega)⟩
/-- a table that stands for a sum over at most twelve marks -/
def Good (T : Nat → Int64) (G : Nat → Int) (n : Nat) : Prop := RelI T G ∧ PSD G ∧ GB n G
theorem bd_bN {x : Int32} {b : Nat} (h : bd x b) : bN x.toInt b := by
  unfold bd at h
  unfold bN
  omega
theorem bd_second {M Z : Nat → Nat → Int32} {N lm om : Nat} (h : SimM M Z N lm om) (model : Int32) {k : Nat} (hk : k < N) : bN (f2_second M model k).toInt 5 ∧ bN (f2_third M model k).toInt 5 := by
  obtain ⟨⟨b0, b1, b2, b3⟩, -⟩ := h.2.2.2.2.2 k hk
  have b0 := bd_bN (b := 5) b0
  have b1 := bd_bN (b := 5) b1
  have b2 := bd_bN (b := 3) b2
  have b3 := bd_bN (b := 3) b3
  unfold f2_second f2_third
  by_cases h1 : model = 1
  · rw [if_pos h1, if_pos h1]; exact ⟨b0, b1⟩
  · rw [if_neg h1, if_neg h1]
    by_cases h2 : model = 2
    · rw [if_pos h2, if_pos h2]; exact ⟨bN_le b2 (by decide), bN_le b3 (by decide)⟩
    · rw [if_neg h2, if_neg h2]; unfold bN; exact ⟨by decide, by decide⟩
theorem good_add {M Z : Nat → Nat → Int32} {N lm om : Nat} (h : SimM M Z N lm om) (model : Int32) {k n : Nat} (hk : k < N) {T : Nat → Int64} {G : Nat → Int} (hg : Good T G n) : Good (f5_add_T T (f2_second M model k).toInt64 (f2_third M model k).toInt64 1) (gAdd G (f2_second M model k).toInt (f2_third M model k).toInt) (n + 1) :=
  ⟨RelI_add hg.1 _ _, PSD_add hg.2.1 _ _, GB_add hg.2.2 (bd_second h model hk).1 (bd_second h model hk).2⟩
theorem good_loop {M Z : Nat → Nat → Int32} {N lm om : Nat} (h : SimM M Z N lm om) (model : Int32) (set : Int32) : ∀ (n j : Nat) (T : Nat → Int64) (G : Nat → Int), j + n = N → Good T G j → ∃ G', Good (mkT M model set n j T) G' N
  | 0, j, T, G, e, hg => ⟨G, by rw [show N = j by omega]; exact hg⟩
  | n + 1, j, T, G, e, hg => by
    rw [mkT]
    by_cases q : f6_isIn set (nI j) = 0
    · rw [if_pos q]
      exact good_loop h model set n (j + 1) T G (by omega) ⟨hg.1, hg.2.1, GB_mono hg.2.2 (by omega)⟩
    · rw [if_neg q]
      exact good_loop h model set n (j + 1) _ _ (by omega) (good_add h model (by omega) hg)
theorem good_mk {M Z : Nat → Nat → Int32} {N lm om : Nat} (h : SimM M Z N lm om) (model set : Int32) (T0 : Nat → Int64) : ∃ G, Good (mkT M model set N 0 (f5_clear_T T0 model)) G N :=
  good_loop h model set N 0 _ _ (by omega) ⟨RelI_C T0 model, PSD_C model, GB_C model⟩
/-- what turning gives -/
theorem turn_I {T : Nat → Int64} {G : Nat → Int} (h : RelI T G) : f5_turn_T T 6 = Int64.ofInt (G 3 * G 5 - G 4 * G 4) ∧ f5_turn_T T 7 = Int64.ofInt (G 2 * G 4 - G 1 * G 5) ∧ f5_turn_T T 8 = Int64.ofInt (G 1 * G 4 - G 2 * G 3) ∧ f5_turn_T T 9 = Int64.ofInt (G 0 * G 5 - G 2 * G 2) ∧ f5_turn_T T 10 = Int64.ofInt (G 1 * G 2 - G 0 * G 4) ∧ f5_turn_T T 11 = Int64.ofInt (G 0 * G 3 - G 1 * G 1) ∧ f5_turn_T T 12 = Int64.ofInt (dt G) := by
  obtain ⟨c0, c1, c2, c3, c4, c5⟩ := h
  obtain ⟨-, -, -, -, -, -, u6, u7, u8, u9, u10, u11, u12⟩ := turn_at T
  rw [u6, u7, u8, u9, u10, u11, u12, c0, c1, c2, c3, c4, c5]
  refine ⟨?_, ?_, ?_, ?_, ?_, ?_, ?_⟩ <;> simp only [oM, oS, oA] <;> rfl
theorem bN_v {G : Nat → Int} {n : Nat} (hn : n ≤ 12) (h : GB n G) {i j k l : Nat} (hi : i < 6) (hj : j < 6) (hk : k < 6) (hl : l < 6) : bN (G i * G j - G k * G l) 181202 := by
  have hb : ∀ i, i < 6 → bN (G i) 301 := fun i hi => by
    obtain ⟨c0, c1, c2, c3, c4, c5⟩ := h
    rcases (show i = 0 ∨ i = 1 ∨ i = 2 ∨ i = 3 ∨ i = 4 ∨ i = 5 by omega) with rfl | rfl | rfl | rfl | rfl | rfl
    · exact bN_le c0 (by omega)
    · exact bN_le c1 (by omega)
    · exact bN_le c2 (by omega)
    · exact bN_le c3 (by omega)
    · exact bN_le c4 (by omega)
    · exact bN_le c5 (by omega)
  exact bN_le (bN_sub (bN_mul (hb i hi) (hb j hj)) (bN_mul (hb k hk) (hb l hl))) (by decide)
theorem bN_g {G : Nat → Int} {n : Nat} (hn : n ≤ 12) (h : GB n G) : bN (G 0) 301 ∧ bN (G 1) 301 ∧ bN (G 2) 301 := by
  obtain ⟨c0, c1, c2, -⟩ := h
  exact ⟨bN_le c0 (by omega), bN_le c1 (by omega), bN_le c2 (by omega)⟩
theorem bN_dt {G : Nat → Int} {n : Nat} (hn : n ≤ 12) (h : GB n G) : bN (dt G) 163625406 := by
  obtain ⟨h0, h1, h2⟩ := bN_g hn h
  unfold dt
  exact bN_le (bN_add (bN_add (bN_mul h0 (bN_v hn h (i := 3) (j := 5) (k := 4) (l := 4) (by decide) (by decide) (by decide) (by decide))) (bN_mul h1 (bN_v hn h (i := 2) (j := 4) (k := 1) (l := 5) (by decide) (by decide) (by decide) (by decide)))) (bN_mul h2 (bN_v hn h (i := 1) (j := 4) (k := 2) (l := 3) (by decide) (by decide) (by decide) (by decide)))) (by decide)
