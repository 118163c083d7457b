/-! judge -/
theorem le64 {a b : Int64} : a ≤ b ↔ a.toInt ≤ b.toInt := Int64.le_iff_toInt_le
/-- the liar of a round -/
theorem ws_eq {F : Nat → Nat → Int64} {M : Nat → Nat → Int32} {model : Int32} {s N : Nat} {ld : Int64} {V : Nat → Int64} (hN : N ≤ 12) (h0 : 0 ≤ ld.toInt) (hV : ∀ j, j < N → V j = if s.testBit j then f1_great F M model j else -1) :
    ∀ (n k : Nat) (b : Int32) (v : Int64), k + n = N → ((b = -1 ∧ v = 0) ∨ ∃ i, i < N ∧ b = nI i ∧ v = V i ∧ s.testBit i = true) →
    jlL V ld n k b = wsL F M model (nI (mkm (abP F M model s ld) N)) n k b v ∧ (jlL V ld n k b = -1 ∨ ∃ i, i < N ∧ jlL V ld n k b = nI i ∧ s.testBit i = true)
  | 0, k, b, v, e, hb => by
    refine ⟨rfl, ?_⟩
    rcases hb with ⟨rfl, -⟩ | ⟨i, hi, rfl, -, ht⟩
    · exact Or.inl rfl
    · exact Or.inr ⟨i, hi, rfl, ht⟩
  | n + 1, k, b, v, e, hb => by
    have hi := g_isIn (s := mkm (abP F M model s ld) N) (k := k) (lt4096 (mkm_lt _ N) hN) (by omega)
    have hp : abP F M model s ld k = (s.testBit k && !decide (f1_great F M model k ≤ ld)) := rfl
    have hm : (-1 : Int64) ≤ ld := le64.mpr (by rw [m1_I]; omega)
    rw [mkm_tb, decide_eq_true (show k < N by omega), hp] at hi
    have hVk := hV k (by omega)
    rw [jlL, wsL]
    cases hc : s.testBit k
    · rw [hc] at hi hVk
      have e1 : V k = -1 := hVk
      rw [if_pos (hi.mpr rfl), if_pos (show V k ≤ ld by rw [e1]; exact hm)]
      exact ws_eq hN h0 hV n (k + 1) b v (by omega) hb
    · rw [hc] at hi hVk
      have e1 : V k = f1_great F M model k := hVk
      rw [e1]
      by_cases q : f1_great F M model k ≤ ld
      · rw [decide_eq_true q] at hi
        rw [if_pos (hi.mpr rfl), if_pos q]
        exact ws_eq hN h0 hV n (k + 1) b v (by omega) hb
      · rw [decide_eq_false q] at hi
        rw [if_neg (show ¬ f6_isIn (nI (mkm (abP F M model s ld) N)) (nI k) = 0 from fun z => by have := hi.mp z; cases this), if_neg q]
        have nx := ws_eq hN h0 hV n (k + 1) (nI k) (f1_great F M model k) (by omega) (Or.inr ⟨k, by omega, rfl, e1.symm, hc⟩)
        rcases hb with ⟨rfl, rfl⟩ | ⟨i, hiN, rfl, rfl, ht⟩
        · rw [if_pos (show (-1 : Int32) < 0 by decide), if_neg (show ¬ f1_great F M model k ≤ 0 from fun z => q (le64.mpr (by have := le64.mp z; rw [show (0 : Int64).toInt = 0 from rfl] at this; omega)))]
          exact nx
        · rw [if_neg (show ¬ nI i < 0 from by rw [show (0 : Int32) = nI 0 from rfl, nI_ltI (by omega) (by omega)]; omega), ix_nI (by omega)]
          by_cases q2 : f1_great F M model k ≤ V i
          · rw [if_pos q2, if_pos q2]
            exact ws_eq hN h0 hV n (k + 1) (nI i) (V i) (by omega) (Or.inr ⟨i, hiN, rfl, rfl, ht⟩)
          · rw [if_neg q2, if_neg q2]
            exact nx
theorem ctm_less {a b : Nat → Bool} {i : Nat} (ha : a i = true) (hb : b i = false) (h : ∀ k, k ≠ i → b k = a k) : ∀ n : Nat, (i < n → ctm b n + 1 = ctm a n) ∧ (n ≤ i → ctm b n = ctm a n)
  | 0 => ⟨fun z => by omega, fun _ => rfl⟩
  | n + 1 => by
    obtain ⟨h1, h2⟩ := ctm_less ha hb h n
    rw [ctm, ctm]
    refine ⟨fun z => ?_, fun z => ?_⟩
    · by_cases e : n = i
      · subst e
        rw [ha, hb, h2 (Nat.le_refl _)]
        rfl
      · have := h1 (by omega)
        rw [h n e]
        omega
    · rw [h n (by omega), h2 (by omega)]
theorem ctm_none {a : Nat → Bool} : ∀ {n : Nat}, ctm a n = 0 → ∀ k, k < n → a k = false
  | 0, _, k, hk => by omega
  | n + 1, h, k, hk => by
    rw [ctm] at h
    by_cases e : k = n
    · subst e
      cases hq : a k
      · rfl
      · rw [hq] at h
        simp at h
    · exact ctm_none (n := n) (by omega) k (by omega)
theorem juL_end (pl rd : Nat → Int32) (model limit : Int32) (nt N n : Nat) (set : Int32) (Y : Nat → Nat → Int64) : (juL pl rd model limit nt N n set Y 0).1 = set := by
  cases n
  · rfl
  · rw [juL, if_pos rfl]
theorem ju_eq {M Z : Nat → Nat → Int32} {N lm om : Nat} (h : SimM M Z N lm om) {model limit : Int32} (hm : model = 0 ∨ model = 1 ∨ model = 2) (l0 : 0 ≤ limit.toInt) (l9 : limit.toInt ≤ 999) :
    ∀ (r n s : Nat) (F Y : Nat → Nat → Int64) (fm : Int32), r + 1 ≤ n → s < 2 ^ N → ctm (fun j => s.testBit j) N ≤ r → ∃ s', s' < 2 ^ N ∧ (juL (Z 0) (Z 1) model limit (ntOf model) N n (nI s) Y 1).1 = nI s' ∧ (liL M N model limit r (nI s) F fm).1 = nI s' := by
  have hN := h.1.1
  intro r
  induction r with
  | zero =>
    intro n s F Y fm hn hs hc
    obtain ⟨n, rfl⟩ : ∃ m, n = m + 1 := ⟨n - 1, by omega⟩
    have h4 := lt4096 hs hN
    obtain ⟨d, wv⟩ := worst_at h hm h4 F Y
    have h0 := ld_I h model (nI s) F l0 l9
    have w := ws_eq hN h0 wv N 0 (-1) 0 (by omega) (Or.inl ⟨rfl, rfl⟩)
    refine ⟨s, hs, ?_, rfl⟩
    rw [juL, if_neg (by decide), d]
    rcases w.2 with e | ⟨i, hi, -, ht⟩
    · rw [if_pos (by rw [e]; decide), juL_end]
    · have := ctm_none (Nat.le_zero.mp hc) i hi
      rw [ht] at this
      cases this
  | succ r ih =>
    intro n s F Y fm hn hs hc
    obtain ⟨n, rfl⟩ : ∃ m, n = m + 1 := ⟨n - 1, by omega⟩
    have h4 := lt4096 hs hN
    obtain ⟨d, wv⟩ := worst_at h hm h4 F Y
    have h0 := ld_I h model (nI s) F l0 l9
    have w := ws_eq hN h0 wv N 0 (-1) 0 (by omega) (Or.inl ⟨rfl, rfl⟩)
    have ea : f1_above (f1_make M N model (nI s) F) M model N (nI s) limit = _ := ab_eq (F := f1_make M N model (nI s) F) (M := M) (model := model) (s := s) (ld := limit.toInt64 * f1_make M N model (nI s) F 0 12) hN h4 N 0 (by omega)
    have ew : f1_worst (f1_make M N model (nI s) F) M model N (f1_above (f1_make M N model (nI s) F) M model N (nI s) limit) = jlL (f7_findWorst (Z 0) (Z 1) Y model (nI s) (ntOf model) N 4) (limit.toInt64 * f1_make M N model (nI s) F 0 12) N 0 (-1) := by
      rw [ea]
      exact w.1.symm
    rw [juL, if_neg (by decide), d, liL, ew]
    rcases w.2 with e | ⟨i, hi, e, ht⟩
    · refine ⟨s, hs, ?_, ?_⟩
      · rw [if_pos (by rw [e]; decide), juL_end]
      · rw [if_pos e]
    · rw [e, q_shl1 i (by omega), g_andn h4, if_neg (show ¬ nI i < 0 from by rw [show (0 : Int32) = nI 0 from rfl, nI_ltI (by omega) (by omega)]; omega), if_neg (show ¬ nI i = -1 from fun z => by have := congrArg Int32.toInt z; rw [nI_toInt (by omega), show (-1 : Int32).toInt = -1 from rfl] at this; omega)]
      have hs2 : adf s (2 ^ i) < 2 ^ N := adf_lt hs
      have rd := (rel_det h hm (lt4096 hs2 hN) (f1_make M N model (nI s) F) (f7_findWorst (Z 0) (Z 1) Y model (nI s) (ntOf model) N)).2
      by_cases q : f1_ok (f1_make M N model (nI (adf s (2 ^ i))) (f1_make M N model (nI s) F)) = 0
      · rw [if_pos q, if_pos (by rw [rd]; exact (ok_iff _).mp q)]
        exact ⟨s, hs, juL_end _ _ _ _ _ _ _ _ _, rfl⟩
      · rw [if_neg q, if_neg (by rw [rd]; exact fun z => q ((ok_iff _).mpr z))]
        refine ih n (adf s (2 ^ i)) _ _ _ (by omega) hs2 ?_
        have := (ctm_less (a := fun j => s.testBit j) (b := fun j => decide (j < 12) && (adf s (2 ^ i)).testBit j) (i := i) ht (by rw [adf2_tb (by omega)]; simp) (fun k hk => by
          by_cases hk2 : k < 12
          · simp only [hk2, decide_true, Bool.true_and]
            rw [adf2_tb hk2]
            simp [show ¬ i = k from fun z => hk z.symm]
          · simp only [hk2, decide_false, Bool.false_and]
            exact (Nat.testBit_lt_two_pow (Nat.lt_of_lt_of_le hs (Nat.pow_le_pow_right (by decide) (by omega)))).symm) N).1 hi
        have e2 : ctm (fun j => (adf s (2 ^ i)).testBit j) N = ctm (fun j => decide (j < 12) && (adf s (2 ^ i)).testBit j) N := ctm_cong (fun k hk => by simp [show k < 12 by omega])
        omega
theorem js_eq {row : Nat → Int32} {p : Nat → Bool} {N : Nat} (hN : N ≤ 12) (h : ∀ k, k < N → (row k = 0 ↔ p k = true)) : ∀ (n k : Nat), k + n = N → jsL row n k (nI (mkm p k)) = nI (mkm p N)
  | 0, k, e => by rw [jsL, show k = N by omega]
  | n + 1, k, e => by
    rw [jsL]
    have hk := h k (by omega)
    have h2 : nI (mkm p k) ||| (if row k = 0 then (1 : Int32) <<< (nI k &&& 31) else 0) = nI (mkm p (k + 1)) := by
      rw [mkm, ← g_or1 (p k) (by omega)]
      by_cases q : row k = 0
      · rw [if_pos q, hk.mp q]; rfl
      · rw [if_neg q]
        cases hp : p k
        · rfl
        · exact absurd (hk.mpr hp) q
    rw [h2]
    exact js_eq hN h n (k + 1) (by omega)
theorem jsN {M Z : Nat → Nat → Int32} {N lm om : Nat} (h : SimM M Z N lm om) : jsL (Z 2) N 0 0 = nI (cN N lm) := by
  have e := js_eq (row := Z 2) (p := fun k => !lm.testBit k) h.1.1 (fun k hk => by rw [(h.2.2.2.1 k hk).1]; cases lm.testBit k <;> decide) N 0 (by omega)
  rw [show (mkm (fun k => !lm.testBit k) N) = cN N lm from tb_ext (n := N) (mkm_lt _ _) (cN_lt N lm) (fun j hj => by rw [mkm_tb, cN_tb h.1.1 hj]; simp [hj])] at e
  exact e
theorem joL_at {all set : Int32} : ∀ (n k : Nat) (O : Nat → Int32) (j : Nat), joL all set n k O j = if k ≤ j ∧ j < k + n then (if ((all >>> (nI j &&& 31)) &&& 1) = 1 then (if ((set >>> (nI j &&& 31)) &&& 1) = 0 then 1 else 0) else 0) else O j
  | 0, k, O, j => by rw [joL, if_neg (by omega)]
  | n + 1, k, O, j => by
    rw [joL, joL_at n (k + 1)]
    by_cases q : j = k
    · subst q
      rw [if_neg (show ¬ (j + 1 ≤ j ∧ j < j + 1 + n) by omega), if_pos (show j ≤ j ∧ j < j + (n + 1) by omega), pk_us]
    · rw [pk_un q]
      by_cases q2 : k + 1 ≤ j ∧ j < k + 1 + n
      · rw [if_pos q2, if_pos (show k ≤ j ∧ j < k + (n + 1) by omega)]
      · rw [if_neg q2, if_neg (show ¬ (k ≤ j ∧ j < k + (n + 1)) by omega)]
theorem sim_judge {M Z : Nat → Nat → Int32} {N lm om : Nat} (h : SimX M Z N lm om) (F Y : Nat → Nat → Int64) (fm model limit : Int32) : f6_judge M F fm N model limit = f7_judge Z Y N (cN N lm) model limit ∧ ∃ om', SimX (f6_judge_M M F fm N model limit) (f7_judge_Z Z Y N (cN N lm) model limit) N lm om' := by
  have hM := h.1
  obtain ⟨⟨⟨hN, hMM, hZ, hl, ho, hlm, hom⟩, h2, h3, h4, h5, h6⟩, hx⟩ := id h
  unfold f6_judge f7_judge f6_judge_M f7_judge_Z
  by_cases q1 : f6_outside model 0 2 = 0
  · have k1 := (model_in model).mp q1
    rw [if_pos q1, if_pos q1, if_neg k1, if_neg k1]
    by_cases q2 : f6_outside limit 1 999 = 0
    · have k2 := oi_p (a := 1) (b := 999) rfl rfl q2
      have hl2 := q_out.mp q2
      have l0 : 1 ≤ limit.toInt := hl2.1
      have l9 : limit.toInt ≤ 999 := hl2.2
      rw [if_pos q2, if_pos q2, if_neg k2, if_neg k2, notLost_eq hM]
      have c4 := lt4096 (cN_lt N lm) hN
      have rd := (rel_det hM (q_model k1) c4 F Y).2
      by_cases q3 : f1_ok (f1_make M N model (nI (cN N lm)) F) = 0
      · rw [if_pos q3, if_pos q3, if_pos (by rw [rd]; exact (ok_iff _).mp q3), if_pos (by rw [rd]; exact (ok_iff _).mp q3)]
        exact ⟨rfl, om, h⟩
      · have k3 : ¬ f7_lay (Z 0) Y model (nI (cN N lm)) (ntOf model) N 5 0 = 0 := by rw [rd]; exact fun z => q3 ((ok_iff _).mpr z)
        rw [if_neg q3, if_neg q3, if_neg k3, if_neg k3]
        have hct : ctm (fun j => (cN N lm).testBit j) N ≤ 12 := by
          have : ∀ n, ctm (fun j => (cN N lm).testBit j) n ≤ n := by
            intro n
            induction n with
            | zero => exact Nat.le_refl _
            | succ n ih => rw [ctm]; split <;> omega
          exact Nat.le_trans (this N) hN
        obtain ⟨s', hs', e7, e6⟩ := ju_eq hM (q_model k1) (by omega) l9 12 13 (cN N lm) (f1_make M N model (nI (cN N lm)) F) (f7_lay (Z 0) Y model (nI (cN N lm)) (ntOf model) N) model (by omega) (cN_lt N lm) hct
        unfold f1_liars
        rw [notLost_eq hM, e7, e6, g_andn c4]
        have ha : adf (cN N lm) s' < 2 ^ N := adf_lt (cN_lt N lm)
        refine ⟨g_bc (lt4096 ha hN), adf (cN N lm) s', ⟨⟨hN, hMM, hZ, hl, rfl, hlm, ha⟩, h2, h3, ?_, h5, h6⟩, ?_⟩
        · intro k hk
          refine ⟨(h4 k hk).1, ?_⟩
          show joL (nI (cN N lm)) (nI s') N 0 (Z 3) k = _
          rw [joL_at, if_pos (by omega), adf_tb _ _ _ (by omega), g_bit (lt4096 hs' hN) (by omega), g_bit c4 (by omega)]
          cases (cN N lm).testBit k <;> cases s'.testBit k <;> decide
        · intro k hk hb
          refine ⟨?_, (hx k hk hb).2⟩
          rw [adf_tb _ _ _ (by omega), cN_tb hN hk, hb]
          rfl
    · have k2 := oi_n (a := 1) (b := 999) rfl rfl q2
      rw [if_neg q2, if_neg q2, if_pos k2, if_pos k2]
      exact ⟨rfl, om, h⟩
  · rw [if_neg q1, if_neg q1, if_pos (model_n q1), if_pos (model_n q1)]
    exact ⟨rfl, om, h⟩
