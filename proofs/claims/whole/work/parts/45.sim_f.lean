/-! lose, mark, count -/
theorem upd_self {f : Nat → Int32} {j : Nat} {v : Int32} (h : f j = v) : upd f j v = f := by
  funext k
  by_cases e : k = j
  · subst e; rw [pk_us, h]
  · rw [pk_un e]
theorem uM_self (Z : Nat → Nat → Int32) (i : Nat) : uM Z i (Z i) = Z := by
  funext k
  by_cases e : k = i
  · subst e; rw [uM_same]
  · rw [uM_ne _ _ e]
theorem or_tb {a j k : Nat} : (a ||| 2 ^ j).testBit k = (a.testBit k || decide (j = k)) := by rw [Nat.testBit_or, Nat.testBit_two_pow]
theorem sim_set {M Z : Nat → Nat → Int32} {N lm om j : Nat} (h : SimX M Z N lm om) (hj : j < N) (h0 : M 4 j = 0 ∧ M 5 j = 0) (hb : om.testBit j = false) :
    SimX (uM M 6 (upd (M 6) 1 (M 6 1 ||| ((1 : Int32) <<< (nI j &&& 31))))) (uM Z 2 (upd (Z 2) j 1)) N (lm ||| 2 ^ j) om := by
  obtain ⟨⟨⟨hN, hM, hZ, hl, ho, hlm, hom⟩, h2, h3, h4, h5, h6⟩, hx⟩ := h
  refine ⟨⟨⟨hN, hM, hZ, ?_, ho, ?_, hom⟩, h2, h3, ?_, h5, h6⟩, ?_⟩
  · show M 6 1 ||| ((1 : Int32) <<< (nI j &&& 31)) = _
    rw [hl, q_shl1 j (by omega), g_or]
  · exact Nat.or_lt_two_pow hlm (Nat.pow_lt_pow_right (by decide) hj)
  · intro k hk
    show upd (Z 2) j 1 k = _ ∧ Z 3 k = _
    rw [or_tb]
    by_cases e : k = j
    · subst e
      rw [pk_us]
      refine ⟨?_, (h4 k hk).2⟩
      simp
    · rw [pk_un e, (h4 k hk).1, (h4 k hk).2]
      have e2 : ¬ j = k := fun z => e z.symm
      simp [e2]
  · intro k hk hk2
    rw [or_tb] at hk2
    by_cases e : k = j
    · subst e
      exact ⟨hb, h0⟩
    · have e2 : ¬ j = k := fun z => e z.symm
      refine hx k hk ?_
      simpa [e2] using hk2
theorem bd_0 {b : Int} (h : 0 ≤ b) : bd 0 b := by
  unfold bd
  rw [show (0 : Int32).toInt = 0 from rfl]
  omega
theorem sim_lose {M Z : Nat → Nat → Int32} {N lm om : Nat} (h : SimX M Z N lm om) (x : Int32) : f6_lose M x = f7_lose Z x ∧ ∃ lm' om', SimX (f6_lose_M M x) (f7_lose_Z Z x) N lm' om' := by
  obtain ⟨⟨⟨hN, hM, hZ, hl, ho, hlm, hom⟩, h2, h3, h4, h5, h6⟩, hx⟩ := id h
  have hxx := mark_in hN hM hZ x
  unfold f6_lose f7_lose f6_lose_M f7_lose_Z
  by_cases q0 : f2_has M x = 0
  · rw [if_pos q0, if_pos q0, if_pos (hxx.mp q0), if_pos (hxx.mp q0)]
    exact ⟨rfl, lm, om, h⟩
  · have k0 : ¬ f7_isMark Z x = 0 := fun z => q0 (hxx.mpr z)
    rw [if_neg q0, if_neg q0, if_neg k0, if_neg k0]
    obtain ⟨j, hj, e⟩ := q_has hM hN q0
    subst e
    rw [ix_nI (by omega), hl]
    have i2 := g_isIn (s := lm) (k := j) (lt4096 hlm hN) (by omega)
    obtain ⟨z2, z3⟩ := h4 j hj
    obtain ⟨r1, r2⟩ := h3 j hj
    cases hb : lm.testBit j
    · rw [if_pos (i2.mpr hb), if_pos (i2.mpr hb), if_pos (by rw [z2, hb]; rfl)]
      have hp := sim_put h hj (al := 0) (ac := 0) (bd_0 (by decide)) (bd_0 (by decide))
      have hs := sim_set hp hj ⟨pk_us, pk_us⟩ (by rw [adf2_tb (by omega)]; simp)
      refine ⟨rfl, adf lm (2 ^ j) ||| 2 ^ j, adf om (2 ^ j), ?_⟩
      have e : uM (uM (uM (uM Z 1 (upd (upd (Z 1) (2 * j) 0) (2 * j + 1) 0)) 2 (upd (Z 2) j 0)) 3 (upd (Z 3) j 0)) 2 (upd ((uM (uM (uM Z 1 (upd (upd (Z 1) (2 * j) 0) (2 * j + 1) 0)) 2 (upd (Z 2) j 0)) 3 (upd (Z 3) j 0)) 2) j 1) = uM (uM (uM Z 1 (upd (upd (Z 1) (2 * j) 0) (2 * j + 1) 0)) 2 (upd (Z 2) j 1)) 3 (upd (Z 3) j 0) := by
        have e0 : upd ((uM (uM (uM Z 1 (upd (upd (Z 1) (2 * j) 0) (2 * j + 1) 0)) 2 (upd (Z 2) j 0)) 3 (upd (Z 3) j 0)) 2) j 1 = upd (Z 2) j 1 := by
          show upd (upd (Z 2) j 0) j 1 = _
          funext k
          by_cases e : k = j
          · subst e; rw [pk_us, pk_us]
          · rw [pk_un e, pk_un e, pk_un e]
        rw [e0]
        funext k
        by_cases e2 : k = 2
        · subst e2; rfl
        · by_cases e3 : k = 3
          · subst e3; rfl
          · rw [uM_ne _ _ e2, uM_ne _ _ e3, uM_ne _ _ e2, uM_ne _ _ e3, uM_ne _ _ e2]
      rw [e] at hs
      exact hs
    · have hn : ¬ f6_isIn (nI lm) (nI j) = 0 := fun z => by rw [i2.mp z] at hb; cases hb
      obtain ⟨o1, m4, m5⟩ := hx j hj hb
      rw [if_neg hn, if_neg hn, if_neg (by rw [z2, hb]; decide)]
      refine ⟨rfl, lm, om, ?_⟩
      have e1 : upd (upd (Z 1) (2 * j) 0) (2 * j + 1) 0 = Z 1 := by
        rw [upd_self (show Z 1 (2 * j) = 0 by rw [r1, m4]), upd_self (show Z 1 (2 * j + 1) = 0 by rw [r2, m5])]
      have e2 : upd (Z 2) j 1 = Z 2 := upd_self (by rw [z2, hb]; rfl)
      have e3 : upd (Z 3) j 0 = Z 3 := upd_self (by rw [z3, o1]; rfl)
      rw [e1, e2, e3, uM_self, uM_self, uM_self]
      exact h
theorem sim_mark {M Z : Nat → Nat → Int32} {N lm om : Nat} (h : SimX M Z N lm om) (f g i j : Int32) : f6_mark M N f g i j = f7_mark Z N f g i j ∧ ∃ N' lm' om', SimX (f6_mark_M M N f g i j) (f7_mark_Z Z N f g i j) N' lm' om' := by
  obtain ⟨⟨⟨hN, hM, hZ, hl, ho, hlm, hom⟩, h2, h3, h4, h5, h6⟩, hx⟩ := id h
  unfold f6_mark f7_mark f6_mark_M f7_mark_Z
  by_cases q1 : f6_outside f (-5) 5 = 0
  · have k1 := oi_p (a := -5) (b := 5) rfl rfl q1
    rw [if_pos q1, if_pos q1, if_neg k1, if_neg k1]
    by_cases q2 : f6_outside g (-5) 5 = 0
    · have k2 := oi_p (a := -5) (b := 5) rfl rfl q2
      rw [if_pos q2, if_pos q2, if_neg k2, if_neg k2]
      by_cases q3 : f6_outside i (-3) 3 = 0
      · have k3 := oi_p (a := -3) (b := 3) rfl rfl q3
        rw [if_pos q3, if_pos q3, if_neg k3, if_neg k3]
        by_cases q4 : f6_outside j (-3) 3 = 0
        · have k4 := oi_p (a := -3) (b := 3) rfl rfl q4
          rw [if_pos q4, if_pos q4, if_neg k4, if_neg k4, hM, hZ]
          by_cases q5 : N < 12
          · have c1 : nI N < 12 := by rw [show (12 : Int32) = nI 12 from rfl, nI_ltI (by omega) (by omega)]; exact q5
            have c2 : ¬ nI N = 12 := by rw [show (12 : Int32) = nI 12 from rfl, nI_eq (by omega) (by omega)]; omega
            rw [if_pos c1, if_pos c1, if_neg c2, if_neg c2, add_sub1]
            refine ⟨hM, N + 1, lm ||| 2 ^ N, om, ⟨⟨by omega, ?_, ?_, ?_, ho, ?_, ?_⟩, ?_, ?_, ?_, ?_, ?_⟩, ?_⟩
            · show M 6 0 + 1 = _
              rw [hM, nI_1]
            · show nI N + 1 = _
              rw [nI_1]
            · show M 6 1 ||| ((1 : Int32) <<< (M 6 0 &&& 31)) = _
              rw [hl, hM, q_shl1 N (by omega), g_or]
            · exact Nat.or_lt_two_pow (Nat.lt_trans hlm (Nat.pow_lt_pow_right (by decide) (by omega))) (Nat.pow_lt_pow_right (by decide) (by omega))
            · exact Nat.lt_trans hom (Nat.pow_lt_pow_right (by decide) (by omega))
            · intro k hk
              show upd (upd (upd (upd (Z 0) (4 * N) f) (4 * N + 1) g) (4 * N + 2) i) (4 * N + 3) j (4 * k) = upd (M 0) N f k ∧ upd (upd (upd (upd (Z 0) (4 * N) f) (4 * N + 1) g) (4 * N + 2) i) (4 * N + 3) j (4 * k + 1) = upd (M 1) N g k ∧ upd (upd (upd (upd (Z 0) (4 * N) f) (4 * N + 1) g) (4 * N + 2) i) (4 * N + 3) j (4 * k + 2) = upd (M 2) N i k ∧ upd (upd (upd (upd (Z 0) (4 * N) f) (4 * N + 1) g) (4 * N + 2) i) (4 * N + 3) j (4 * k + 3) = upd (M 3) N j k
              by_cases e : k = N
              · subst e
                unfold upd
                simp
              · have hp := h2 k (by omega)
                rw [pk_un e, pk_un e, pk_un e, pk_un e]
                unfold upd
                simp only [show ¬ 4 * k = 4 * N + 3 by omega, show ¬ 4 * k = 4 * N + 2 by omega, show ¬ 4 * k = 4 * N + 1 by omega, show ¬ 4 * k = 4 * N by omega, show ¬ 4 * k + 1 = 4 * N + 3 by omega, show ¬ 4 * k + 1 = 4 * N + 2 by omega, show ¬ 4 * k + 1 = 4 * N + 1 by omega, show ¬ 4 * k + 1 = 4 * N by omega, show ¬ 4 * k + 2 = 4 * N + 3 by omega, show ¬ 4 * k + 2 = 4 * N + 2 by omega, show ¬ 4 * k + 2 = 4 * N + 1 by omega, show ¬ 4 * k + 2 = 4 * N by omega, show ¬ 4 * k + 3 = 4 * N + 3 by omega, show ¬ 4 * k + 3 = 4 * N + 2 by omega, show ¬ 4 * k + 3 = 4 * N + 1 by omega, show ¬ 4 * k + 3 = 4 * N by omega, if_false]
                exact hp
            · intro k hk
              show upd (upd (Z 1) (2 * N) 0) (2 * N + 1) 0 (2 * k) = M 4 k ∧ upd (upd (Z 1) (2 * N) 0) (2 * N + 1) 0 (2 * k + 1) = M 5 k
              by_cases e : k = N
              · subst e
                rw [pk_un (show 2 * k ≠ 2 * k + 1 by omega), pk_us, pk_us]
                exact ⟨(h5 k (Nat.le_refl _) q5).1.symm, (h5 k (Nat.le_refl _) q5).2.symm⟩
              · rw [pk_un (show 2 * k ≠ 2 * N + 1 by omega), pk_un (show 2 * k ≠ 2 * N by omega), pk_un (show 2 * k + 1 ≠ 2 * N + 1 by omega), pk_un (show 2 * k + 1 ≠ 2 * N by omega)]
                exact h3 k (by omega)
            · intro k hk
              show upd (Z 2) N 1 k = _ ∧ upd (Z 3) N 0 k = _
              rw [or_tb]
              by_cases e : k = N
              · subst e
                rw [pk_us, pk_us, Nat.testBit_lt_two_pow hom]
                simp
              · rw [pk_un e, pk_un e, (h4 k (by omega)).1, (h4 k (by omega)).2]
                have e2 : ¬ N = k := fun z => e z.symm
                simp [e2]
            · intro k hk hk2
              exact h5 k (by omega) hk2
            · intro k hk
              show (bd (upd (M 0) N f k) 5 ∧ bd (upd (M 1) N g k) 5 ∧ bd (upd (M 2) N i k) 3 ∧ bd (upd (M 3) N j k) 3) ∧ bd (M 4 k) 999 ∧ bd (M 5 k) 999
              by_cases e : k = N
              · subst e
                rw [pk_us, pk_us, pk_us, pk_us, (h5 k (Nat.le_refl _) q5).1, (h5 k (Nat.le_refl _) q5).2]
                exact ⟨⟨bd_of (b := 5) rfl rfl q1, bd_of (b := 5) rfl rfl q2, bd_of (b := 3) rfl rfl q3, bd_of (b := 3) rfl rfl q4⟩, bd_0 (by decide), bd_0 (by decide)⟩
              · rw [pk_un e, pk_un e, pk_un e, pk_un e]
                exact h6 k (by omega)
            · intro k hk hk2
              show om.testBit k = false ∧ M 4 k = 0 ∧ M 5 k = 0
              by_cases e : k = N
              · subst e
                exact ⟨Nat.testBit_lt_two_pow hom, h5 k (Nat.le_refl _) q5⟩
              · rw [or_tb] at hk2
                have e2 : ¬ N = k := fun z => e z.symm
                exact hx k (by omega) (by simpa [e2] using hk2)
          · have e : N = 12 := by omega
            subst e
            rw [if_neg (show ¬ nI 12 < 12 by decide), if_neg (show ¬ nI 12 < 12 by decide), if_pos (show nI 12 = 12 from rfl), if_pos (show nI 12 = 12 from rfl)]
            exact ⟨rfl, _, _, _, h⟩
        · have k4 := oi_n (a := -3) (b := 3) rfl rfl q4
          rw [if_neg q4, if_neg q4, if_pos k4, if_pos k4]
          exact ⟨rfl, _, _, _, h⟩
      · have k3 := oi_n (a := -3) (b := 3) rfl rfl q3
        rw [if_neg q3, if_neg q3, if_pos k3, if_pos k3]
        exact ⟨rfl, _, _, _, h⟩
    · have k2 := oi_n (a := -5) (b := 5) rfl rfl q2
      rw [if_neg q2, if_neg q2, if_pos k2, if_pos k2]
      exact ⟨rfl, _, _, _, h⟩
  · have k1 := oi_n (a := -5) (b := 5) rfl rfl q1
    rw [if_neg q1, if_neg q1, if_pos k1, if_pos k1]
    exact ⟨rfl, _, _, _, h⟩
/-! fields -/
theorem fiL_0 (pl : Nat → Int32) (set : Int32) (j : Nat) : ∀ (n k : Nat), fiL pl set j n k 0 = 0
  | 0, _ => rfl
  | n + 1, k => by rw [fiL, if_pos rfl]; exact fiL_0 pl set j n (k + 1)
theorem fi_eq {M Z : Nat → Nat → Int32} {N lm om : Nat} (h : SimM M Z N lm om) {s j : Nat} (hs : s < 4096) (hj : j < N) : ∀ (n k : Nat), k + n = j → fiL (Z 0) (nI s) j n k 1 = (if heL M (nI s) j n k = 0 then 1 else 0)
  | 0, k, e => rfl
  | n + 1, k, e => by
    have hN := h.1.1
    have hb := g_set1 (s := s) (k := k) hs (by omega)
    have hi := g_isIn (s := s) (k := k) hs (by omega)
    have ih := fi_eq h hs hj n (k + 1) (by omega)
    obtain ⟨a0, a1, -⟩ := h.2.1 k (by omega)
    obtain ⟨b0, b1, -⟩ := h.2.1 j hj
    rw [fiL, heL, if_neg (show ¬ (1 : Int32) = 0 by decide), a0, a1, b0, b1]
    cases hc : s.testBit k
    · rw [if_neg (fun q => by rw [hb.mp q] at hc; cases hc), if_pos (hi.mpr hc)]
      exact ih
    · rw [if_pos (hb.mpr hc), if_neg (show ¬ f6_isIn (nI s) (nI k) = 0 from fun q => by rw [hi.mp q] at hc; cases hc)]
      by_cases c0 : M 0 k = M 0 j
      · rw [if_pos c0, if_pos c0]
        by_cases c1 : M 1 k = M 1 j
        · rw [if_pos c1, if_pos c1, fiL_0, if_neg (by decide)]
        · rw [if_neg c1, if_neg c1]
          exact ih
      · rw [if_neg c0, if_neg c0]
        exact ih
theorem fd_eq {M Z : Nat → Nat → Int32} {N lm om : Nat} (h : SimM M Z N lm om) {s : Nat} (hs : s < 4096) : ∀ (n k : Nat) (x : Int32), k + n = N → fdL M (nI s) n k x = foL (Z 0) (nI s) n k x
  | 0, k, x, e => rfl
  | n + 1, k, x, e => by
    have hN := h.1.1
    have hb := g_set1 (s := s) (k := k) hs (by omega)
    have hi := g_isIn (s := s) (k := k) hs (by omega)
    rw [fdL, foL]
    cases hc : s.testBit k
    · rw [if_pos (hi.mpr hc), if_neg (show ¬ ((nI s >>> (nI k &&& 31)) &&& 1) = 1 from fun q => by rw [hb.mp q] at hc; cases hc), fiL_0, if_pos rfl, show x + 0 = x by simp]
      exact fd_eq h hs n (k + 1) _ (by omega)
    · rw [if_neg (fun q => by rw [hi.mp q] at hc; cases hc), if_pos (hb.mpr hc), fi_eq h hs (by omega) k 0 (by omega)]
      unfold f2_earlier
      by_cases c : heL M (nI s) k k 0 = 0
      · rw [if_pos c, if_pos c, if_neg (by decide)]
        exact fd_eq h hs n (k + 1) _ (by omega)
      · rw [if_neg c, if_neg c, if_pos rfl, show x + 0 = x by simp]
        exact fd_eq h hs n (k + 1) _ (by omega)
theorem fields_eq {M Z : Nat → Nat → Int32} {N lm om : Nat} (h : SimM M Z N lm om) {s : Nat} (hs : s < 4096) : f2_fieldsOf M N (nI s) = f7_fieldsOf (Z 0) N (nI s) := fd_eq h hs N 0 0 (by omega)
theorem bits_row {Z : Nat → Nat → Int32} {N t s : Nat} (hN : N ≤ 12) (hs : s < 2 ^ N) (h : ∀ k, k < N → Z t k = (if s.testBit k then 1 else 0)) : bitC (nI s) = cbL (Z t) N 0 0 := by
  rw [g_bc (lt4096 hs hN), g_bitsE (lt4096 hs hN), ctm_le (N := N) (fun k hk => Nat.testBit_lt_two_pow (Nat.lt_of_lt_of_le hs (Nat.pow_le_pow_right (by decide) hk))) 12 hN]
  exact (g_cb (p := fun j => s.testBit j) (fun k hk => by rw [h k hk]; exact tb_row) N 0 (by omega)).symm
theorem sim_count {M Bk Z : Nat → Nat → Int32} {N L lm om : Nat} (h : SimM M Z N lm om) (hB : SimB Bk Z L) (what : Int32) : f6_count M Bk N L what = f7_count Z N L what := by
  obtain ⟨hN, hM, hZ, hl, ho, hlm, hom⟩ := h.1
  have h4 := lt4096 (cC_lt N lm om) hN
  unfold f6_count f7_count
  rw [counting_eq h, counting7_eq h, hM, hZ, hl, ho, hB.1.2.1, hB.1.2.2.1, g_bc h4, fields_eq h h4, bits_row (t := 2) hN hlm (fun k hk => (h.2.2.2.1 k hk).1), bits_row (t := 3) hN hom (fun k hk => (h.2.2.2.1 k hk).2)]
  have e5 : hmL (Bk 3) L 0 0 = cbL (Z 7) L 0 0 := by
    have hp : ∀ k, k < L → (Bk 3 k = 0 ↔ (fun k => !decide (Bk 3 k = 0)) k = false) := fun k _ => by simp
    have hp2 : ∀ k, k < L → (Z 7 k = 0 ↔ (fun k => !decide (Bk 3 k = 0)) k = false) := fun k hk => by
      rw [(hB.2.2.1 k (by have := hB.1.1; omega)).2]; simp
    exact (g_hm hp L 0 (by omega)).trans (g_cb hp2 L 0 (by omega)).symm
  rw [e5]
