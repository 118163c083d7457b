/-! states, advice, offsets, rules -/
theorem st_eq {Bk Z : Nat → Nat → Int32} {L t n : Nat} (h : SimB Bk Z L) {mr : Nat → Int32} {ti : Int32} (ht : nI t = ti) (hn : n ≤ L) (hm : ∀ k, k ≤ 60 → Z 8 (4 * k + t) = mr k ∧ b01 (mr k)) : ∀ (r k : Nat) (x : Int32), k + r = n → stL Z t n (r + 1) k x = if mr n = 1 then 0 else saL Bk mr ti r k x
  | 0, k, x, e => by
    have hL := h.1.1
    obtain ⟨a, b⟩ := hm n (by omega)
    rw [show k = n by omega, stL, stL, if_pos (Int32.le_refl _), saL]
    unfold stM
    rw [a]
    rcases b with b | b
    · rw [b]; rfl
    · rw [b]; rfl
  | r + 1, k, x, e => by
    have hL := h.1.1
    obtain ⟨a, b⟩ := hm k (by omega)
    rw [stL, saL, if_neg (nI_ge (by omega) (by omega)), st_eq h ht hn hm r (k + 1) _ (by omega)]
    have e1 : stM Z t k x = saM mr k x := by
      unfold stM saM
      rw [a]
      rcases b with b | b
      · rw [b]; rfl
      · rw [b]; rfl
    have e2 : ∀ y, stU Z t k y = saU Bk ti k y := fun y => by
      unfold stU saU
      rw [(h.2.1 k (by omega)).1, (h.2.1 k (by omega)).2, (h.2.2.1 k (by omega)).1, (h.2.2.1 k (by omega)).2, h.1.2.2.2, ht]
    rw [e1, e2]
theorem st_tool {Bk Z : Nat → Nat → Int32} {L n : Nat} (h : SimB Bk Z L) (hn : n ≤ L) : f7_stateOf Z 0 n = f0_state Bk (Bk 4) 0 n ∧ f7_stateOf Z 1 n = f0_state Bk (Bk 5) 1 n ∧ f7_stateOf Z 2 n = f0_state Bk (Bk 6) 2 n ∧ f7_stateOf Z 3 n = f0_state Bk (Bk 7) 3 n := by
  have h4 := h.2.2.2.2
  exact ⟨st_eq h rfl hn (fun k hk => ⟨(h4 k hk).1.1, (h4 k hk).2.1⟩) n 0 0 (by omega), st_eq h rfl hn (fun k hk => ⟨(h4 k hk).1.2.1, (h4 k hk).2.2.1⟩) n 0 0 (by omega), st_eq h rfl hn (fun k hk => ⟨(h4 k hk).1.2.2.1, (h4 k hk).2.2.2.1⟩) n 0 0 (by omega), st_eq h rfl hn (fun k hk => ⟨(h4 k hk).1.2.2.2, (h4 k hk).2.2.2.2⟩) n 0 0 (by omega)⟩
theorem sim_advice {Bk Z : Nat → Nat → Int32} {L : Nat} (h : SimB Bk Z L) (tool : Int32) : f6_advice Bk L tool = f7_advice Z L tool := by
  unfold f6_advice f7_advice
  obtain ⟨s0, s1, s2, s3⟩ := st_tool h (Nat.le_refl L)
  by_cases q : f6_outside tool 0 3 = 0
  · rw [if_pos q, if_neg ((tool_in tool).mp q)]
    rcases q_tool q with rfl | rfl | rfl | rfl
    · rw [if_pos rfl, show ix 0 = 0 from rfl, s0]
    · rw [if_neg (by decide), if_pos rfl, show ix 1 = 1 from rfl, s1]
    · rw [if_neg (by decide), if_neg (by decide), if_pos rfl, show ix 2 = 2 from rfl, s2]
    · rw [if_neg (by decide), if_neg (by decide), if_neg (by decide), show ix 3 = 3 from rfl, s3]
  · rw [if_neg q, if_pos (tool_n q)]
theorem sim_state {Bk Z : Nat → Nat → Int32} {L : Nat} (h : SimB Bk Z L) (tool n : Int32) : f6_state Bk tool n = f7_state Z tool n := by
  obtain ⟨hL, hB, hZ, -⟩ := h.1
  unfold f6_state f7_state
  by_cases q : f6_outside tool 0 3 = 0
  · rw [if_pos q, if_neg ((tool_in tool).mp q)]
    have hh : (Z 12 1).toInt64.toInt = (Bk 8 0).toInt := by rw [hZ, hB, Int32.toInt_toInt64]
    by_cases q2 : f6_outside n 0 (Bk 8 0) = 0
    · rw [if_pos q2, if_neg (oi_p (a := 0) rfl hh q2)]
      obtain ⟨j, hj, e⟩ := q_outN (n := L + 1) (by rw [hB, nI_toInt (by omega)]; omega) (by omega) q2
      subst e
      rw [ix_nI (by omega)]
      obtain ⟨s0, s1, s2, s3⟩ := st_tool h (show j ≤ L by omega)
      rcases q_tool q with rfl | rfl | rfl | rfl
      · rw [if_pos rfl, show ix 0 = 0 from rfl, s0]
      · rw [if_neg (by decide), if_pos rfl, show ix 1 = 1 from rfl, s1]
      · rw [if_neg (by decide), if_neg (by decide), if_pos rfl, show ix 2 = 2 from rfl, s2]
      · rw [if_neg (by decide), if_neg (by decide), if_neg (by decide), show ix 3 = 3 from rfl, s3]
    · rw [if_neg q2, if_pos (oi_n (a := 0) rfl hh q2)]
  · rw [if_neg q, if_pos (tool_n q)]
theorem bd_of {v : Int32} {b : Nat} {lo hi : Int32} (hl : lo.toInt = -(b : Int)) (hh : hi.toInt = b) (h : f6_outside v lo hi = 0) : bd v b := by
  rw [q_out, hl, hh] at h
  exact h
theorem off_row {Rt Z : Nat → Nat → Int32} {w j : Nat} {v : Int32} (hw : w < 6) (hj : j < 4) (hv : bd v 999) (h2 : ∀ y, y < 6 → (Z 9 y = Rt 0 y ∧ Z 9 (6 + y) = Rt 1 y ∧ Z 9 (12 + y) = Rt 2 y ∧ Z 9 (18 + y) = Rt 3 y) ∧ bd (Rt 0 y) 999 ∧ bd (Rt 1 y) 999 ∧ bd (Rt 2 y) 999 ∧ bd (Rt 3 y) 999) (Rt' : Nat → Nat → Int32)
    (e : Rt' 0 = (if j = 0 then upd (Rt 0) w v else Rt 0) ∧ Rt' 1 = (if j = 1 then upd (Rt 1) w v else Rt 1) ∧ Rt' 2 = (if j = 2 then upd (Rt 2) w v else Rt 2) ∧ Rt' 3 = (if j = 3 then upd (Rt 3) w v else Rt 3)) :
    ∀ y, y < 6 → (upd (Z 9) (6 * j + w) v y = Rt' 0 y ∧ upd (Z 9) (6 * j + w) v (6 + y) = Rt' 1 y ∧ upd (Z 9) (6 * j + w) v (12 + y) = Rt' 2 y ∧ upd (Z 9) (6 * j + w) v (18 + y) = Rt' 3 y) ∧ bd (Rt' 0 y) 999 ∧ bd (Rt' 1 y) 999 ∧ bd (Rt' 2 y) 999 ∧ bd (Rt' 3 y) 999 := by
  intro y hy
  obtain ⟨⟨a0, a1, a2, a3⟩, b0, b1, b2, b3⟩ := h2 y hy
  rw [e.1, e.2.1, e.2.2.1, e.2.2.2]
  unfold upd
  rcases (show j = 0 ∨ j = 1 ∨ j = 2 ∨ j = 3 by omega) with rfl | rfl | rfl | rfl
  · rw [if_neg (show ¬ 6 + y = 6 * 0 + w by omega), if_neg (show ¬ 12 + y = 6 * 0 + w by omega), if_neg (show ¬ 18 + y = 6 * 0 + w by omega)]
    by_cases q : y = w
    · subst q; simp [a1, a2, a3, b1, b2, b3, hv]
    · rw [if_neg (show ¬ y = 6 * 0 + w by omega)]; simp [q, a0, a1, a2, a3, b0, b1, b2, b3]
  · rw [if_neg (show ¬ y = 6 * 1 + w by omega), if_neg (show ¬ 12 + y = 6 * 1 + w by omega), if_neg (show ¬ 18 + y = 6 * 1 + w by omega)]
    by_cases q : y = w
    · subst q; simp [a0, a2, a3, b0, b2, b3, hv]
    · rw [if_neg (show ¬ 6 + y = 6 * 1 + w by omega)]; simp [q, a0, a1, a2, a3, b0, b1, b2, b3]
  · rw [if_neg (show ¬ y = 6 * 2 + w by omega), if_neg (show ¬ 6 + y = 6 * 2 + w by omega), if_neg (show ¬ 18 + y = 6 * 2 + w by omega)]
    by_cases q : y = w
    · subst q; simp [a0, a1, a3, b0, b1, b3, hv]
    · rw [if_neg (show ¬ 12 + y = 6 * 2 + w by omega)]; simp [q, a0, a1, a2, a3, b0, b1, b2, b3]
  · rw [if_neg (show ¬ y = 6 * 3 + w by omega), if_neg (show ¬ 6 + y = 6 * 3 + w by omega), if_neg (show ¬ 12 + y = 6 * 3 + w by omega)]
    by_cases q : y = w
    · subst q; simp [a0, a1, a2, b0, b1, b2, hv]
    · rw [if_neg (show ¬ 18 + y = 6 * 3 + w by omega)]; simp [q, a0, a1, a2, a3, b0, b1, b2, b3]
theorem sim_offset {Rt Z : Nat → Nat → Int32} (h : SimR Rt Z) (tool layer v : Int32) : f6_offset Rt tool layer v = f7_offset Z tool layer v ∧ SimR (f6_offset_Rt Rt tool layer v) (f7_offset_Z Z tool layer v) := by
  obtain ⟨h1, h2, h3, h4⟩ := id h
  unfold f6_offset f7_offset f6_offset_Rt f7_offset_Z
  by_cases q : f6_outside tool 0 3 = 0
  · rw [if_pos q, if_pos q, if_neg ((tool_in tool).mp q), if_neg ((tool_in tool).mp q)]
    by_cases q2 : f6_outside layer 0 5 = 0
    · have k2 := oi_p (a := 0) (b := 5) rfl rfl q2
      rw [if_pos q2, if_pos q2, if_neg k2, if_neg k2]
      by_cases q3 : f6_outside v (-999) 999 = 0
      · have k3 := oi_p (a := -999) (b := 999) rfl rfl q3
        rw [if_pos q3, if_pos q3, if_neg k3, if_neg k3]
        obtain ⟨w, hw, e⟩ := q_outN (n := 6) rfl (by decide) q2
        subst e
        rw [ix_nI (by omega)]
        have hv := bd_of (b := 999) rfl rfl q3
        obtain ⟨⟨a0, a1, a2, a3⟩, -⟩ := h2 w hw
        rcases q_tool q with rfl | rfl | rfl | rfl
        · refine ⟨?_, h1, off_row (j := 0) hw (by decide) hv h2 _ ⟨rfl, rfl, rfl, rfl⟩, h3, h4⟩
          rw [if_pos rfl, show 6 * ix 0 + w = w from by rw [show ix 0 = 0 from rfl]; omega, a0]
        · refine ⟨?_, h1, off_row (j := 1) hw (by decide) hv h2 _ ⟨rfl, rfl, rfl, rfl⟩, h3, h4⟩
          rw [if_neg (by decide), if_pos rfl, show 6 * ix 1 + w = 6 + w from rfl, a1]
        · refine ⟨?_, h1, off_row (j := 2) hw (by decide) hv h2 _ ⟨rfl, rfl, rfl, rfl⟩, h3, h4⟩
          rw [if_neg (by decide), if_neg (by decide), if_pos rfl, show 6 * ix 2 + w = 12 + w from rfl, a2]
        · refine ⟨?_, h1, off_row (j := 3) hw (by decide) hv h2 _ ⟨rfl, rfl, rfl, rfl⟩, h3, h4⟩
          rw [if_neg (by decide), if_neg (by decide), if_neg (by decide), show 6 * ix 3 + w = 18 + w from rfl, a3]
      · have k3 := oi_n (a := -999) (b := 999) rfl rfl q3
        rw [if_neg q3, if_neg q3, if_pos k3, if_pos k3]
        exact ⟨rfl, h⟩
    · have k2 := oi_n (a := 0) (b := 5) rfl rfl q2
      rw [if_neg q2, if_neg q2, if_pos k2, if_pos k2]
      exact ⟨rfl, h⟩
  · rw [if_neg q, if_neg q, if_pos (tool_n q), if_pos (tool_n q)]
    exact ⟨rfl, h⟩
theorem sim_rule {Rt Z : Nat → Nat → Int32} (h : SimR Rt Z) (what v : Int32) : f6_rule Rt what v = f7_rule Z what v ∧ SimR (f6_rule_Rt Rt what v) (f7_rule_Z Z what v) := by
  obtain ⟨⟨⟨hb, hc⟩, h1, h1'⟩, h2, h3, h4⟩ := id h
  unfold f6_rule f7_rule f6_rule_Rt f7_rule_Z
  by_cases q0 : what = 0
  · subst q0
    rw [if_pos rfl, if_pos rfl, if_neg (show ¬ f7_in (0 : Int32).toInt64 0 1 = 0 by decide), if_neg (show ¬ f7_in (0 : Int32).toInt64 0 1 = 0 by decide), if_pos rfl, if_pos rfl]
    by_cases q : f6_outside v 0 1998 = 0
    · have k := oi_p (a := (0 : Int32).toInt64) (b := 1998) rfl rfl q
      rw [if_pos q, if_pos q, if_neg k, if_neg k]
      have hv := q_out.mp q
      rw [show (0 : Int32).toInt = 0 from rfl, show (1998 : Int32).toInt = 1998 from rfl] at hv
      exact ⟨hb.symm, ⟨⟨rfl, hc⟩, hv, h1'⟩, h2, h3, h4⟩
    · have k := oi_n (a := (0 : Int32).toInt64) (b := 1998) rfl rfl q
      rw [if_neg q, if_neg q, if_pos k, if_pos k]
      exact ⟨rfl, h⟩
  · rw [if_neg q0, if_neg q0]
    by_cases q1 : what = 1
    · subst q1
      rw [if_pos rfl, if_pos rfl, if_neg (show ¬ f7_in (1 : Int32).toInt64 0 1 = 0 by decide), if_neg (show ¬ f7_in (1 : Int32).toInt64 0 1 = 0 by decide), if_neg q0, if_neg q0]
      by_cases q : f6_outside v 1 6 = 0
      · have k := oi_p (a := (1 : Int32).toInt64) (b := 6) rfl rfl q
        rw [if_pos q, if_pos q, if_neg k, if_neg k, if_pos rfl]
        have hv := q_out.mp q
        rw [show (1 : Int32).toInt = 1 from rfl, show (6 : Int32).toInt = 6 from rfl] at hv
        exact ⟨hc.symm, ⟨⟨hb, rfl⟩, h1, hv⟩, h2, h3, h4⟩
      · have k := oi_n (a := (1 : Int32).toInt64) (b := 6) rfl rfl q
        rw [if_neg q, if_neg q, if_pos k, if_pos k]
        exact ⟨rfl, h⟩
    · have k : f7_in what.toInt64 0 1 = 0 := by
        refine Classical.byContradiction (fun z => ?_)
        obtain ⟨j, hj, e⟩ := q_inC (n := 2) rfl (by decide) z
        rcases (show j = 0 ∨ j = 1 by omega) with rfl | rfl
        · exact q0 e
        · exact q1 e
      rw [if_neg q1, if_neg q1, if_pos k, if_pos k]
      first | exact ⟨rfl, h⟩ | (rw [if_neg q0]; exact ⟨rfl, h⟩)
