/-! read, lose, mark: the marks stay alike -/
def SimX (M Z : Nat → Nat → Int32) (N lm om : Nat) : Prop := SimM M Z N lm om ∧ ∀ k, k < N → lm.testBit k = true → om.testBit k = false ∧ M 4 k = 0 ∧ M 5 k = 0
theorem adf2_tb {a j k : Nat} (hk : k < 12) : (adf a (2 ^ j)).testBit k = (a.testBit k && !decide (j = k)) := by rw [adf_tb _ _ _ hk, Nat.testBit_two_pow]
theorem sim_put {M Z : Nat → Nat → Int32} {N lm om j : Nat} (h : SimX M Z N lm om) (hj : j < N) {al ac : Int32} (ha : bd al 999) (hc : bd ac 999) :
    SimX (f2_setReads_M M j al ac) (uM (uM (uM Z 1 (upd (upd (Z 1) (2 * j) al) (2 * j + 1) ac)) 2 (upd (Z 2) j 0)) 3 (upd (Z 3) j 0)) N (adf lm (2 ^ j)) (adf om (2 ^ j)) := by
  obtain ⟨⟨⟨hN, hM, hZ, hl, ho, hlm, hom⟩, h2, h3, h4, h5, h6⟩, hx⟩ := h
  have e1 : ∀ s : Nat, s < 2 ^ N → nI s &&& (((1 : Int32) <<< (nI j &&& 31)) ^^^ (-1)) = nI (adf s (2 ^ j)) := fun s hs => by
    rw [q_shl1 j (by omega), g_andn (lt4096 hs hN)]
  refine ⟨⟨⟨hN, hM, hZ, ?_, ?_, adf_lt hlm, adf_lt hom⟩, h2, ?_, ?_, ?_, ?_⟩, ?_⟩
  · show M 6 1 &&& _ = _
    rw [hl, e1 lm hlm]
  · show M 6 2 &&& _ = _
    rw [ho, e1 om hom]
  · intro k hk
    show upd (upd (Z 1) (2 * j) al) (2 * j + 1) ac (2 * k) = upd (M 4) j al k ∧ upd (upd (Z 1) (2 * j) al) (2 * j + 1) ac (2 * k + 1) = upd (M 5) j ac k
    by_cases e : k = j
    · subst e
      rw [pk_un (show 2 * k ≠ 2 * k + 1 by omega), pk_us, pk_us, pk_us, pk_us]
      exact ⟨rfl, rfl⟩
    · rw [pk_un (show 2 * k ≠ 2 * j + 1 by omega), pk_un (show 2 * k ≠ 2 * j by omega), pk_un (show 2 * k + 1 ≠ 2 * j + 1 by omega), pk_un (show 2 * k + 1 ≠ 2 * j by omega), pk_un e, pk_un e]
      exact h3 k hk
  · intro k hk
    show upd (Z 2) j 0 k = (if (adf lm (2 ^ j)).testBit k then 1 else 0) ∧ upd (Z 3) j 0 k = (if (adf om (2 ^ j)).testBit k then 1 else 0)
    rw [adf2_tb (by omega), adf2_tb (by omega)]
    by_cases e : k = j
    · subst e
      rw [pk_us, pk_us]
      simp
    · rw [pk_un e, pk_un e, (h4 k hk).1, (h4 k hk).2]
      have e2 : ¬ j = k := fun z => e z.symm
      simp [e2]
  · intro k hk hk2
    show upd (M 4) j al k = 0 ∧ upd (M 5) j ac k = 0
    rw [pk_un (by omega), pk_un (by omega)]
    exact h5 k hk hk2
  · intro k hk
    refine ⟨(h6 k hk).1, ?_⟩
    show bd (upd (M 4) j al k) 999 ∧ bd (upd (M 5) j ac k) 999
    by_cases e : k = j
    · subst e
      rw [pk_us, pk_us]
      exact ⟨ha, hc⟩
    · rw [pk_un e, pk_un e]
      exact (h6 k hk).2
  · intro k hk hb
    rw [adf2_tb (by omega)] at hb
    by_cases e : k = j
    · subst e
      simp at hb
    · have e2 : ¬ j = k := fun z => e z.symm
      have hb2 : lm.testBit k = true := by
        cases hq : lm.testBit k
        · rw [hq] at hb; cases hb
        · rfl
      obtain ⟨a, b, c⟩ := hx k hk hb2
      refine ⟨?_, ?_, ?_⟩
      · rw [adf2_tb (by omega), a]; rfl
      · show upd (M 4) j al k = 0
        rw [pk_un e]; exact b
      · show upd (M 5) j ac k = 0
        rw [pk_un e]; exact c
theorem sim_read {M Z : Nat → Nat → Int32} {N lm om : Nat} (h : SimX M Z N lm om) (x al ac : Int32) : f6_read M x al ac = f7_read Z x al ac ∧ ∃ lm' om', SimX (f6_read_M M x al ac) (f7_read_Z Z x al ac) N lm' om' := by
  obtain ⟨hN, hM, hZ, -⟩ := h.1.1
  have hx := mark_in hN hM hZ x
  unfold f6_read f7_read f6_read_M f7_read_Z
  by_cases q0 : f2_has M x = 0
  · rw [if_pos q0, if_pos q0, if_pos (hx.mp q0), if_pos (hx.mp q0)]
    exact ⟨rfl, lm, om, h⟩
  · have k0 : ¬ f7_isMark Z x = 0 := fun z => q0 (hx.mpr z)
    rw [if_neg q0, if_neg q0, if_neg k0, if_neg k0]
    by_cases q1 : f6_outside al (-999) 999 = 0
    · have k1 := oi_p (a := -999) (b := 999) rfl rfl q1
      rw [if_pos q1, if_pos q1, if_neg k1, if_neg k1]
      by_cases q2 : f6_outside ac (-999) 999 = 0
      · have k2 := oi_p (a := -999) (b := 999) rfl rfl q2
        rw [if_pos q2, if_pos q2, if_neg k2, if_neg k2]
        obtain ⟨j, hj, e⟩ := q_has hM hN q0
        subst e
        rw [ix_nI (by omega)]
        exact ⟨rfl, _, _, sim_put h hj (bd_of (b := 999) rfl rfl q1) (bd_of (b := 999) rfl rfl q2)⟩
      · have k2 := oi_n (a := -999) (b := 999) rfl rfl q2
        rw [if_neg q2, if_neg q2, if_pos k2, if_pos k2]
        exact ⟨rfl, lm, om, h⟩
    · have k1 := oi_n (a := -999) (b := 999) rfl rfl q1
      rw [if_neg q1, if_neg q1, if_pos k1, if_pos k1]
      exact ⟨rfl, lm, om, h⟩
