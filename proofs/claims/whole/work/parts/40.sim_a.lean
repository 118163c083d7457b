/-! class and reference: lots, offsets, rules -/
theorem oi {v lo hi : Int32} {a b : Int64} (ha : a.toInt = lo.toInt) (hb : b.toInt = hi.toInt) : f6_outside v lo hi = 0 ↔ ¬ f7_in v.toInt64 a b = 0 := by
  rw [q_out, q_in, Int32.toInt_toInt64, ha, hb]
theorem oi_n {v lo hi : Int32} {a b : Int64} (ha : a.toInt = lo.toInt) (hb : b.toInt = hi.toInt) (h : ¬ f6_outside v lo hi = 0) : f7_in v.toInt64 a b = 0 := Classical.byContradiction (fun q => h ((oi ha hb).mpr q))
theorem oi_p {v lo hi : Int32} {a b : Int64} (ha : a.toInt = lo.toInt) (hb : b.toInt = hi.toInt) (h : f6_outside v lo hi = 0) : ¬ f7_in v.toInt64 a b = 0 := (oi ha hb).mp h
def b01 (x : Int32) : Prop := x = 0 ∨ x = 1
def SimB (Bk Z : Nat → Nat → Int32) (L : Nat) : Prop :=
  (L ≤ 60 ∧ Bk 8 0 = nI L ∧ Z 12 1 = nI L ∧ Z 12 2 = Bk 8 1) ∧ (∀ k, k < L → Z 4 k = Bk 0 k ∧ Z 5 k = Bk 1 k) ∧ (∀ k, k < 60 → Z 6 k = Bk 2 k ∧ Z 7 k = Bk 3 k) ∧ (∀ k, L ≤ k → k < 60 → Bk 3 k = 0) ∧ (∀ k, k ≤ 60 → (Z 8 (4 * k) = Bk 4 k ∧ Z 8 (4 * k + 1) = Bk 5 k ∧ Z 8 (4 * k + 2) = Bk 6 k ∧ Z 8 (4 * k + 3) = Bk 7 k) ∧ b01 (Bk 4 k) ∧ b01 (Bk 5 k) ∧ b01 (Bk 6 k) ∧ b01 (Bk 7 k))
def SimR (Rt Z : Nat → Nat → Int32) : Prop :=
  ((Z 12 3 = Rt 7 0 ∧ Z 12 4 = Rt 7 1) ∧ (0 ≤ (Rt 7 0).toInt ∧ (Rt 7 0).toInt ≤ 1998) ∧ 1 ≤ (Rt 7 1).toInt ∧ (Rt 7 1).toInt ≤ 6) ∧ (∀ y, y < 6 → (Z 9 y = Rt 0 y ∧ Z 9 (6 + y) = Rt 1 y ∧ Z 9 (12 + y) = Rt 2 y ∧ Z 9 (18 + y) = Rt 3 y) ∧ bd (Rt 0 y) 999 ∧ bd (Rt 1 y) 999 ∧ bd (Rt 2 y) 999 ∧ bd (Rt 3 y) 999) ∧ rtok Rt ∧ ∀ t, t < 4 → Rt 6 t = 0
theorem tool_in (tool : Int32) : f6_outside tool 0 3 = 0 ↔ ¬ f7_isTool tool = 0 := oi rfl rfl
theorem tool_n {tool : Int32} (h : ¬ f6_outside tool 0 3 = 0) : f7_isTool tool = 0 := Classical.byContradiction (fun q => h ((tool_in tool).mpr q))
theorem add_sub1 (x : Int32) : x + 1 - 1 = x := by grind
theorem lt60 {L : Nat} (h : L ≤ 60) : (nI L < 60) ↔ ¬ nI L = 60 := by
  rw [show (60 : Int32) = nI 60 from rfl, nI_ltI (by omega) (by omega), nI_eq (by omega) (by omega)]
  omega
theorem sim_lot {Bk Z : Nat → Nat → Int32} {L : Nat} (h : SimB Bk Z L) (tool shift : Int32) : f6_lot Bk L tool shift = f7_lot Z L tool shift ∧ ∃ L', SimB (f6_lot_Bk Bk L tool shift) (f7_lot_Z Z L tool shift) L' := by
  obtain ⟨⟨hL, hB, hZ, hg⟩, h1, h2, h3, h4⟩ := id h
  unfold f6_lot f7_lot f6_lot_Bk f7_lot_Z
  by_cases q1 : f6_outside tool 0 3 = 0
  · rw [if_pos q1, if_pos q1, if_neg ((tool_in tool).mp q1), if_neg ((tool_in tool).mp q1)]
    by_cases q2 : f6_outside shift (-9999) 9999 = 0
    · have k2 := oi_p (a := -9999) (b := 9999) rfl rfl q2
      rw [if_pos q2, if_pos q2, if_neg k2, if_neg k2, hB, hZ]
      by_cases q3 : nI L < 60
      · rw [if_pos q3, if_pos q3, if_neg ((lt60 hL).mp q3), if_neg ((lt60 hL).mp q3), add_sub1]
        have hlt : L < 60 := by
          rw [show (60 : Int32) = nI 60 from rfl, nI_ltI (by omega) (by omega)] at q3
          exact q3
        refine ⟨hB, L + 1, ⟨by omega, ?_, ?_, hg⟩, ?_, ?_, ?_, h4⟩
        · show Bk 8 0 + 1 = nI (L + 1)
          rw [hB, nI_1]
        · show nI L + 1 = nI (L + 1)
          rw [nI_1]
        · intro k hk
          show upd (Z 4) L tool k = upd (Bk 0) L tool k ∧ upd (Z 5) L shift k = upd (Bk 1) L shift k
          by_cases e : k = L
          · subst e
            rw [pk_us, pk_us, pk_us, pk_us]
            exact ⟨rfl, rfl⟩
          · rw [pk_un e, pk_un e, pk_un e, pk_un e]
            exact h1 k (by omega)
        · intro k hk
          show Z 6 k = Bk 2 k ∧ upd (Z 7) L 0 k = Bk 3 k
          by_cases e : k = L
          · subst e
            rw [pk_us]
            exact ⟨(h2 k hk).1, (h3 k (Nat.le_refl _) hk).symm⟩
          · rw [pk_un e]
            exact h2 k hk
        · intro k hk hk2
          exact h3 k (by omega) hk2
      · rw [if_neg q3, if_neg q3, if_pos (Classical.byContradiction (fun z => q3 ((lt60 hL).mpr z))), if_pos (Classical.byContradiction (fun z => q3 ((lt60 hL).mpr z)))]
        exact ⟨rfl, L, h⟩
    · have k2 := oi_n (a := -9999) (b := 9999) rfl rfl q2
      rw [if_neg q2, if_neg q2, if_pos k2, if_pos k2]
      exact ⟨rfl, L, h⟩
  · rw [if_neg q1, if_neg q1, if_pos (tool_n q1), if_pos (tool_n q1)]
    exact ⟨rfl, L, h⟩
theorem sim_gain {Bk Z : Nat → Nat → Int32} {L : Nat} (h : SimB Bk Z L) (v : Int32) : f6_gain Bk v = f7_gain Z v ∧ SimB (f6_gain_Bk Bk v) (f7_gain_Z Z v) L := by
  obtain ⟨⟨hL, hB, hZ, hg⟩, h1, h2, h3, h4⟩ := id h
  unfold f6_gain f7_gain f6_gain_Bk f7_gain_Z
  by_cases q : f6_outside v 1 16 = 0
  · have k := oi_p (a := 1) (b := 16) rfl rfl q
    rw [if_pos q, if_pos q, if_neg k, if_neg k]
    exact ⟨hg.symm, ⟨hL, hB, hZ, rfl⟩, h1, h2, h3, h4⟩
  · have k := oi_n (a := 1) (b := 16) rfl rfl q
    rw [if_neg q, if_neg q, if_pos k, if_pos k]
    exact ⟨rfl, h⟩
theorem has_in {Bk Z : Nat → Nat → Int32} {L : Nat} (hL : L ≤ 60) (hB : Bk 8 0 = nI L) (hZ : Z 12 1 = nI L) (x : Int32) : f0_has Bk x = 0 ↔ f7_in x.toInt64 0 ((Z 12 1 - 1).toInt64) = 0 := by
  have e : (Z 12 1 - 1).toInt64.toInt = (L : Int) - 1 := by rw [hZ, Int32.toInt_toInt64, q_pred (by omega)]
  have k := q_in (v := x.toInt64) (lo := 0) (hi := (Z 12 1 - 1).toInt64)
  rw [e, Int32.toInt_toInt64, show (0 : Int64).toInt = 0 from rfl] at k
  have a1 := Int32.lt_iff_toInt_lt (x := x) (y := 0)
  have a2 := Int32.le_iff_toInt_le (x := nI L) (y := x)
  rw [nI_toInt (by omega)] at a2
  rw [show (0 : Int32).toInt = 0 from rfl] at a1
  constructor
  · intro q
    refine Classical.byContradiction (fun z => ?_)
    have kk := k.mp z
    unfold f0_has at q
    rw [if_neg (fun w => by have := a1.mp w; omega), hB, if_neg (fun w => by have := a2.mp w; omega)] at q
    exact absurd q (by decide)
  · intro q
    unfold f0_has
    by_cases w1 : x < 0
    · rw [if_pos w1]
    · rw [if_neg w1, hB]
      by_cases w2 : nI L ≤ x
      · rw [if_pos w2]
      · exact absurd q (k.mpr ⟨by have : ¬ x.toInt < 0 := fun z => w1 (a1.mpr z); omega, by have : ¬ (L : Int) ≤ x.toInt := fun z => w2 (a2.mpr z); omega⟩)
theorem sim_back {Bk Z : Nat → Nat → Int32} {L : Nat} (h : SimB Bk Z L) (x rd : Int32) : f6_back Bk x rd = f7_back Z x rd ∧ SimB (f6_back_Bk Bk x rd) (f7_back_Z Z x rd) L := by
  obtain ⟨⟨hL, hB, hZ, hg⟩, h1, h2, h3, h4⟩ := id h
  have hh := has_in hL hB hZ x
  unfold f6_back f7_back f6_back_Bk f7_back_Z
  by_cases q1 : f0_has Bk x = 0
  · rw [if_pos q1, if_pos q1, if_pos (hh.mp q1), if_pos (hh.mp q1)]
    exact ⟨rfl, h⟩
  · have k1 : ¬ f7_in x.toInt64 0 ((Z 12 1 - 1).toInt64) = 0 := fun z => q1 (hh.mpr z)
    rw [if_neg q1, if_neg q1, if_neg k1, if_neg k1]
    by_cases q2 : f6_outside rd (-9999) 9999 = 0
    · have k2 := oi_p (a := -9999) (b := 9999) rfl rfl q2
      rw [if_pos q2, if_pos q2, if_neg k2, if_neg k2]
      obtain ⟨j, hj, e⟩ := q_hasB hB hL q1
      have hix : ix x = j := by rw [e, ix_nI (by omega)]
      rw [hix]
      refine ⟨rfl, ⟨hL, hB, hZ, hg⟩, h1, ?_, ?_, h4⟩
      · intro k hk
        show upd (Z 6) j rd k = upd (Bk 2) j rd k ∧ upd (Z 7) j 1 k = upd (Bk 3) j 1 k
        by_cases e : k = j
        · subst e
          rw [pk_us, pk_us, pk_us, pk_us]
          exact ⟨rfl, rfl⟩
        · rw [pk_un e, pk_un e, pk_un e, pk_un e]
          exact h2 k hk
      · intro k hk hk2
        show upd (Bk 3) j 1 k = 0
        rw [pk_un (by omega)]
        exact h3 k hk hk2
    · have k2 := oi_n (a := -9999) (b := 9999) rfl rfl q2
      rw [if_neg q2, if_neg q2, if_pos k2, if_pos k2]
      exact ⟨rfl, h⟩
/-- one place of 'mended' -/
theorem mend_row {Bk Z : Nat → Nat → Int32} {L j : Nat} (hj : j < 4) (h4 : ∀ k, k ≤ 60 → (Z 8 (4 * k) = Bk 4 k ∧ Z 8 (4 * k + 1) = Bk 5 k ∧ Z 8 (4 * k + 2) = Bk 6 k ∧ Z 8 (4 * k + 3) = Bk 7 k) ∧ b01 (Bk 4 k) ∧ b01 (Bk 5 k) ∧ b01 (Bk 6 k) ∧ b01 (Bk 7 k)) (Bk' : Nat → Nat → Int32)
    (e : Bk' 4 = (if j = 0 then upd (Bk 4) L 1 else Bk 4) ∧ Bk' 5 = (if j = 1 then upd (Bk 5) L 1 else Bk 5) ∧ Bk' 6 = (if j = 2 then upd (Bk 6) L 1 else Bk 6) ∧ Bk' 7 = (if j = 3 then upd (Bk 7) L 1 else Bk 7)) :
    ∀ k, k ≤ 60 → (upd (Z 8) (4 * L + j) 1 (4 * k) = Bk' 4 k ∧ upd (Z 8) (4 * L + j) 1 (4 * k + 1) = Bk' 5 k ∧ upd (Z 8) (4 * L + j) 1 (4 * k + 2) = Bk' 6 k ∧ upd (Z 8) (4 * L + j) 1 (4 * k + 3) = Bk' 7 k) ∧ b01 (Bk' 4 k) ∧ b01 (Bk' 5 k) ∧ b01 (Bk' 6 k) ∧ b01 (Bk' 7 k) := by
  intro k hk
  obtain ⟨⟨a0, a1, a2, a3⟩, b0, b1, b2, b3⟩ := h4 k hk
  rw [e.1, e.2.1, e.2.2.1, e.2.2.2]
  unfold upd
  by_cases q : k = L
  · subst q
    rcases (show j = 0 ∨ j = 1 ∨ j = 2 ∨ j = 3 by omega) with rfl | rfl | rfl | rfl
    · simp [a1, a2, a3, b1, b2, b3, show b01 1 from Or.inr rfl]
    · simp [a0, a2, a3, b0, b2, b3, show b01 1 from Or.inr rfl]
    · simp [a0, a1, a3, b0, b1, b3, show b01 1 from Or.inr rfl]
    · simp [a0, a1, a2, b0, b1, b2, show b01 1 from Or.inr rfl]
  · have n0 : ¬ 4 * k = 4 * L + j := by omega
    have n1 : ¬ 4 * k + 1 = 4 * L + j := by omega
    have n2 : ¬ 4 * k + 2 = 4 * L + j := by omega
    have n3 : ¬ 4 * k + 3 = 4 * L + j := by omega
    rw [if_neg n0, if_neg n1, if_neg n2, if_neg n3]
    rcases (show j = 0 ∨ j = 1 ∨ j = 2 ∨ j = 3 by omega) with rfl | rfl | rfl | rfl <;> simp [q, a0, a1, a2, a3, b0, b1, b2, b3]
theorem sim_mend {Bk Z : Nat → Nat → Int32} {L : Nat} (h : SimB Bk Z L) (tool : Int32) : f6_mend Bk L tool = f7_mend Z L tool ∧ SimB (f6_mend_Bk Bk L tool) (f7_mend_Z Z L tool) L := by
  obtain ⟨⟨hL, hB, hZ, hg⟩, h1, h2, h3, h4⟩ := id h
  unfold f6_mend f7_mend f6_mend_Bk f7_mend_Z
  by_cases q : f6_outside tool 0 3 = 0
  · rw [if_pos q, if_pos q, if_neg ((tool_in tool).mp q), if_neg ((tool_in tool).mp q)]
    rcases q_tool q with rfl | rfl | rfl | rfl
    · exact ⟨rfl, ⟨hL, hB, hZ, hg⟩, h1, h2, h3, mend_row (j := 0) (by decide) h4 _ ⟨rfl, rfl, rfl, rfl⟩⟩
    · exact ⟨rfl, ⟨hL, hB, hZ, hg⟩, h1, h2, h3, mend_row (j := 1) (by decide) h4 _ ⟨rfl, rfl, rfl, rfl⟩⟩
    · exact ⟨rfl, ⟨hL, hB, hZ, hg⟩, h1, h2, h3, mend_row (j := 2) (by decide) h4 _ ⟨rfl, rfl, rfl, rfl⟩⟩
    · exact ⟨rfl, ⟨hL, hB, hZ, hg⟩, h1, h2, h3, mend_row (j := 3) (by decide) h4 _ ⟨rfl, rfl, rfl, rfl⟩⟩
  · rw [if_neg q, if_neg q, if_pos (tool_n q), if_pos (tool_n q)]
    exact ⟨rfl, h⟩
