/-! the tables of both -/
def bd (x : Int32) (b : Int) : Prop := -b ≤ x.toInt ∧ x.toInt ≤ b
def SimM (M Z : Nat → Nat → Int32) (N lm om : Nat) : Prop :=
  (N ≤ 12 ∧ M 6 0 = nI N ∧ Z 12 0 = nI N ∧ M 6 1 = nI lm ∧ M 6 2 = nI om ∧ lm < 2 ^ N ∧ om < 2 ^ N) ∧
  (∀ k, k < N → Z 0 (4 * k) = M 0 k ∧ Z 0 (4 * k + 1) = M 1 k ∧ Z 0 (4 * k + 2) = M 2 k ∧ Z 0 (4 * k + 3) = M 3 k) ∧
  (∀ k, k < N → Z 1 (2 * k) = M 4 k ∧ Z 1 (2 * k + 1) = M 5 k) ∧
  (∀ k, k < N → Z 2 k = (if lm.testBit k then 1 else 0) ∧ Z 3 k = (if om.testBit k then 1 else 0)) ∧
  (∀ k, N ≤ k → k < 12 → M 4 k = 0 ∧ M 5 k = 0) ∧
  (∀ k, k < N → (bd (M 0 k) 5 ∧ bd (M 1 k) 5 ∧ bd (M 2 k) 3 ∧ bd (M 3 k) 3) ∧ bd (M 4 k) 999 ∧ bd (M 5 k) 999)
def tX (M : Nat → Nat → Int32) (model : Int32) (k : Nat) : Int64 := (f2_second M model k).toInt64
def tY (M : Nat → Nat → Int32) (model : Int32) (k : Nat) : Int64 := (f2_third M model k).toInt64
theorem t_0 (pl : Nat → Int32) (model : Int32) (k : Nat) : f7_term pl model k 0 = 1 := rfl
theorem t_1 {M Z : Nat → Nat → Int32} {N lm om : Nat} (h : SimM M Z N lm om) {model : Int32} (hm : model = 1 ∨ model = 2) {k : Nat} (hk : k < N) : f7_term (Z 0) model k 1 = tX M model k := by
  have hp := h.2.1 k hk
  rcases hm with rfl | rfl
  · show (Z 0 (4 * k + 0 + 1 - 1)).toInt64 = (M 0 k).toInt64
    rw [show 4 * k + 0 + 1 - 1 = 4 * k by omega, hp.1]
  · show (Z 0 (4 * k + 2 + 1 - 1)).toInt64 = (M 2 k).toInt64
    rw [show 4 * k + 2 + 1 - 1 = 4 * k + 2 by omega, hp.2.2.1]
theorem t_2 {M Z : Nat → Nat → Int32} {N lm om : Nat} (h : SimM M Z N lm om) {model : Int32} (hm : model = 1 ∨ model = 2) {k : Nat} (hk : k < N) : f7_term (Z 0) model k 2 = tY M model k := by
  have hp := h.2.1 k hk
  rcases hm with rfl | rfl
  · show (Z 0 (4 * k + 0 + 2 - 1)).toInt64 = (M 1 k).toInt64
    rw [show 4 * k + 0 + 2 - 1 = 4 * k + 1 by omega, hp.2.1]
  · show (Z 0 (4 * k + 2 + 2 - 1)).toInt64 = (M 3 k).toInt64
    rw [show 4 * k + 2 + 2 - 1 = 4 * k + 3 by omega, hp.2.2.2]
theorem tX_0 (M : Nat → Nat → Int32) (k : Nat) : tX M 0 k = 0 := rfl
theorem tY_0 (M : Nat → Nat → Int32) (k : Nat) : tY M 0 k = 0 := rfl
def Rel (S T : Nat → Int64) : Prop := S 0 = T 0 ∧ S 1 = T 1 ∧ S 2 = T 2 ∧ S 3 = T 1 ∧ S 4 = T 3 ∧ S 5 = T 4 ∧ S 6 = T 2 ∧ S 7 = T 4 ∧ S 8 = T 5
theorem rel_clear (S0 T0 : Nat → Int64) (model : Int32) : Rel (layA (f7_termsOf model) 9 0 S0) (f5_clear_T T0 model) := by
  by_cases h : model = 0
  · subst h
    exact ⟨rfl, rfl, rfl, rfl, rfl, rfl, rfl, rfl, rfl⟩
  · rw [show f7_termsOf model = 3 from if_neg h, show f5_clear_T T0 model = _ from if_neg h]
    exact ⟨rfl, rfl, rfl, rfl, rfl, rfl, rfl, rfl, rfl⟩
/-- the inner loop of lay without its test -/
def lkR (pl : Nat → Int32) (model : Int32) (nt j : Nat) : Nat → Nat → (Nat → Int64) → Nat → Int64
  | 0, _, S => S
  | n + 1, k, S => lkR pl model nt j n (k + 1) (vp_updL S (3 * (k / nt) + k % nt) (S (3 * (k / nt) + k % nt) + f7_term pl model j (k / nt) * f7_term pl model j (k % nt)))
theorem layK_on {pl : Nat → Int32} {model set : Int32} {nt j : Nat} (h : ((set >>> (nI j &&& 31)) &&& 1) = 1) : ∀ (n k : Nat) (S : Nat → Int64), layK pl model set nt j n k S = lkR pl model nt j n k S
  | 0, _, _ => rfl
  | n + 1, k, S => by rw [layK, if_pos h, lkR, layK_on h n]
theorem layK_off {pl : Nat → Int32} {model set : Int32} {nt j : Nat} (h : ¬ ((set >>> (nI j &&& 31)) &&& 1) = 1) (n k : Nat) (S : Nat → Int64) : layK pl model set nt j n k S = S := by
  cases n
  · rfl
  · rw [layK, if_neg h]
theorem add_at (T : Nat → Int64) (x y : Int64) (t : Int32) : f5_add_T T x y t 0 = T 0 + t.toInt64 ∧ f5_add_T T x y t 1 = T 1 + t.toInt64 * x ∧ f5_add_T T x y t 2 = T 2 + t.toInt64 * y ∧ f5_add_T T x y t 3 = T 3 + t.toInt64 * x * x ∧ f5_add_T T x y t 4 = T 4 + t.toInt64 * x * y ∧ f5_add_T T x y t 5 = T 5 + t.toInt64 * y * y := ⟨rfl, rfl, rfl, rfl, rfl, rfl⟩
theorem one64 : (1 : Int32).toInt64 = 1 := rfl
theorem lk3_at (pl : Nat → Int32) (model : Int32) (j : Nat) (S : Nat → Int64) :
    lkR pl model 3 j 9 0 S 0 = S 0 + f7_term pl model j 0 * f7_term pl model j 0 ∧ lkR pl model 3 j 9 0 S 1 = S 1 + f7_term pl model j 0 * f7_term pl model j 1 ∧ lkR pl model 3 j 9 0 S 2 = S 2 + f7_term pl model j 0 * f7_term pl model j 2 ∧
    lkR pl model 3 j 9 0 S 3 = S 3 + f7_term pl model j 1 * f7_term pl model j 0 ∧ lkR pl model 3 j 9 0 S 4 = S 4 + f7_term pl model j 1 * f7_term pl model j 1 ∧ lkR pl model 3 j 9 0 S 5 = S 5 + f7_term pl model j 1 * f7_term pl model j 2 ∧
    lkR pl model 3 j 9 0 S 6 = S 6 + f7_term pl model j 2 * f7_term pl model j 0 ∧ lkR pl model 3 j 9 0 S 7 = S 7 + f7_term pl model j 2 * f7_term pl model j 1 ∧ lkR pl model 3 j 9 0 S 8 = S 8 + f7_term pl model j 2 * f7_term pl model j 2 := ⟨rfl, rfl, rfl, rfl, rfl, rfl, rfl, rfl, rfl⟩
theorem rel_step3 {S T : Nat → Int64} (h : Rel S T) {pl : Nat → Int32} {model : Int32} {j : Nat} {x y : Int64} (h1 : f7_term pl model j 1 = x) (h2 : f7_term pl model j 2 = y) : Rel (lkR pl model 3 j 9 0 S) (f5_add_T T x y 1) := by
  obtain ⟨a0, a1, a2, a3, a4, a5, a6, a7, a8⟩ := lk3_at pl model j S
  obtain ⟨b0, b1, b2, b3, b4, b5⟩ := add_at T x y 1
  obtain ⟨c0, c1, c2, c3, c4, c5, c6, c7, c8⟩ := h
  unfold Rel
  rw [a0, a1, a2, a3, a4, a5, a6, a7, a8, b0, b1, b2, b3, b4, b5, h1, h2, t_0, c0, c1, c2, c3, c4, c5, c6, c7, c8, one64]
  simp only [Int64.one_mul, Int64.mul_one, Int64.mul_comm]
  simp
theorem rel_step1 {S T : Nat → Int64} (h : Rel S T) {pl : Nat → Int32} {model : Int32} {j : Nat} : Rel (lkR pl model 1 j 1 0 S) (f5_add_T T 0 0 1) := by
  obtain ⟨c0, c1, c2, c3, c4, c5, c6, c7, c8⟩ := h
  obtain ⟨b0, b1, b2, b3, b4, b5⟩ := add_at T 0 0 1
  have a0 : lkR pl model 1 j 1 0 S 0 = S 0 + f7_term pl model j 0 * f7_term pl model j 0 := rfl
  have a1 : lkR pl model 1 j 1 0 S 1 = S 1 ∧ lkR pl model 1 j 1 0 S 2 = S 2 ∧ lkR pl model 1 j 1 0 S 3 = S 3 ∧ lkR pl model 1 j 1 0 S 4 = S 4 ∧ lkR pl model 1 j 1 0 S 5 = S 5 ∧ lkR pl model 1 j 1 0 S 6 = S 6 ∧ lkR pl model 1 j 1 0 S 7 = S 7 ∧ lkR pl model 1 j 1 0 S 8 = S 8 := ⟨rfl, rfl, rfl, rfl, rfl, rfl, rfl, rfl⟩
  obtain ⟨d1, d2, d3, d4, d5, d6, d7, d8⟩ := a1
  unfold Rel
  rw [a0, d1, d2, d3, d4, d5, d6, d7, d8, b0, b1, b2, b3, b4, b5, t_0, c0, c1, c2, c3, c4, c5, c6, c7, c8, one64]
  simp
/-- the loops over the marks -/
theorem rel_loop {M Z : Nat → Nat → Int32} {N lm om : Nat} (h : SimM M Z N lm om) {model : Int32} (hm : model = 0 ∨ model = 1 ∨ model = 2) {s : Nat} (hs : s < 4096) : ∀ (n j : Nat) (S T : Nat → Int64), j + n = N → Rel S T → Rel (layM (Z 0) model (nI s) (ntOf model) n j S) (mkT M model (nI s) n j T)
  | 0, _, _, _, _, hR => hR
  | n + 1, j, S, T, e, hR => by
    have hN := h.1.1
    rw [layM, mkT]
    refine rel_loop h hm hs n (j + 1) _ _ (by omega) ?_
    have hb := g_set1 (s := s) (k := j) hs (by omega)
    have hi := g_isIn (s := s) (k := j) hs (by omega)
    cases hc : s.testBit j
    · rw [if_pos (hi.mpr hc), layK_off (fun q => by rw [hb.mp q] at hc; cases hc)]
      exact hR
    · rw [if_neg (fun q => by rw [hi.mp q] at hc; cases hc), layK_on (hb.mpr hc)]
      rcases hm with rfl | hm
      · exact rel_step1 hR
      · rw [show ntOf model = 3 from by rcases hm with rfl | rfl <;> rfl]
        exact rel_step3 hR (t_1 h hm (by omega)) (t_2 h hm (by omega))
theorem rel_lay {M Z : Nat → Nat → Int32} {N lm om : Nat} (h : SimM M Z N lm om) {model : Int32} (hm : model = 0 ∨ model = 1 ∨ model = 2) {s : Nat} (hs : s < 4096) (S0 T0 : Nat → Int64) : Rel (layS (Z 0) model (nI s) (ntOf model) N S0) (mkT M model (nI s) N 0 (f5_clear_T T0 model)) :=
  rel_loop h hm hs N 0 _ _ (by omega) (rel_clear S0 T0 model)
theorem turn_at (T : Nat → Int64) : f5_turn_T T 0 = T 0 ∧ f5_turn_T T 1 = T 1 ∧ f5_turn_T T 2 = T 2 ∧ f5_turn_T T 3 = T 3 ∧ f5_turn_T T 4 = T 4 ∧ f5_turn_T T 5 = T 5 ∧ f5_turn_T T 6 = T 3 * T 5 - T 4 * T 4 ∧ f5_turn_T T 7 = T 2 * T 4 - T 1 * T 5 ∧ f5_turn_T T 8 = T 1 * T 4 - T 2 * T 3 ∧ f5_turn_T T 9 = T 0 * T 5 - T 2 * T 2 ∧ f5_turn_T T 10 = T 1 * T 2 - T 0 * T 4 ∧ f5_turn_T T 11 = T 0 * T 3 - T 1 * T 1 ∧
    f5_turn_T T 12 = T 0 * (T 3 * T 5 - T 4 * T 4) + T 1 * (T 2 * T 4 - T 1 * T 5) + T 2 * (T 1 * T 4 - T 2 * T 3) := ⟨rfl, rfl, rfl, rfl, rfl, rfl, rfl, rfl, rfl, rfl, rfl, rfl, rfl⟩
theorem layV_at (S T0 : Nat → Int64) : layV S T0 0 = S 4 * S 8 - S 5 * S 7 ∧ layV S T0 1 = S 7 * S 2 - S 8 * S 1 ∧ layV S T0 2 = S 1 * S 5 - S 2 * S 4 ∧ layV S T0 3 = S 5 * S 6 - S 3 * S 8 ∧ layV S T0 4 = S 8 * S 0 - S 6 * S 2 ∧ layV S T0 5 = S 2 * S 3 - S 0 * S 5 ∧ layV S T0 6 = S 3 * S 7 - S 4 * S 6 ∧ layV S T0 7 = S 6 * S 1 - S 7 * S 0 ∧ layV S T0 8 = S 0 * S 4 - S 1 * S 3 := ⟨rfl, rfl, rfl, rfl, rfl, rfl, rfl, rfl, rfl⟩
/-- the turned table and DET -/
def RelV (V : Nat → Int64) (d : Int64) (U : Nat → Int64) : Prop := (V 0 = U 6 ∧ V 1 = U 7 ∧ V 2 = U 8 ∧ V 3 = U 7 ∧ V 4 = U 9 ∧ V 5 = U 10 ∧ V 6 = U 8 ∧ V 7 = U 10 ∧ V 8 = U 11) ∧ d = U 12
theorem relV {S T : Nat → Int64} (h : Rel S T) (V0 : Nat → Int64) : RelV (layV S V0) (layD S (layV S V0)) (f5_turn_T T) := by
  obtain ⟨c0, c1, c2, c3, c4, c5, c6, c7, c8⟩ := h
  obtain ⟨-, -, -, -, -, -, u6, u7, u8, u9, u10, u11, u12⟩ := turn_at T
  obtain ⟨v0, v1, v2, v3, v4, v5, v6, v7, v8⟩ := layV_at S V0
  unfold RelV layD
  rw [v0, v1, v2, v3, v4, v5, v6, v7, v8, u6, u7, u8, u9, u10, u11, u12, c0, c1, c2, c3, c4, c5, c6, c7, c8]
  refine ⟨⟨?_, ?_, ?_, ?_, ?_, ?_, ?_, ?_, ?_⟩, ?_⟩ <;> grind
