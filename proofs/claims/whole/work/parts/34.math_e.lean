/-! rests are small: the greater one by size, both ways -/
theorem sums_I {M Z : Nat → Nat → Int32} {N lm om : Nat} (h : SimM M Z N lm om) (model set : Int32) {w : Nat} (hw : w < 2) : ∀ (n j : Nat) (S : Nat → Int64) (a b c : Int), j + n = N → (S 0 = Int64.ofInt a ∧ S 1 = Int64.ofInt b ∧ S 2 = Int64.ofInt c) → (bN a (4995 * j) ∧ bN b (4995 * j) ∧ bN c (4995 * j)) →
    ∃ a' b' c' : Int, (msL (M (4 + w)) M model set n j S 0 = Int64.ofInt a' ∧ msL (M (4 + w)) M model set n j S 1 = Int64.ofInt b' ∧ msL (M (4 + w)) M model set n j S 2 = Int64.ofInt c') ∧ bN a' 59940 ∧ bN b' 59940 ∧ bN c' 59940
  | 0, j, S, a, b, c, e, h1, h2 => by
    have hN := h.1.1
    exact ⟨a, b, c, h1, bN_le h2.1 (by omega), bN_le h2.2.1 (by omega), bN_le h2.2.2 (by omega)⟩
  | n + 1, j, S, a, b, c, e, h1, h2 => by
    rw [msL]
    by_cases q : f6_isIn set (nI j) = 0
    · rw [if_pos q]
      exact sums_I h model set hw n (j + 1) S a b c (by omega) h1 ⟨bN_le h2.1 (by omega), bN_le h2.2.1 (by omega), bN_le h2.2.2 (by omega)⟩
    · rw [if_neg q]
      obtain ⟨b0, b1, b2, -⟩ := ms4_at (M (4 + w) j).toInt64 (f2_second M model j).toInt64 (f2_third M model j).toInt64 S
      obtain ⟨x1, x2⟩ := bd_second h model (show j < N by omega)
      have hr : bN (M (4 + w) j).toInt 999 := by
        have hh := (h.2.2.2.2.2 j (by omega)).2
        rcases (show w = 0 ∨ w = 1 by omega) with rfl | rfl
        · exact bd_bN (b := 999) hh.1
        · exact bd_bN (b := 999) hh.2
      refine sums_I h model set hw n (j + 1) _ (a + (M (4 + w) j).toInt) (b + (M (4 + w) j).toInt * (f2_second M model j).toInt) (c + (M (4 + w) j).toInt * (f2_third M model j).toInt) (by omega) ⟨?_, ?_, ?_⟩ ⟨bN_le (bN_add h2.1 hr) (by omega), bN_le (bN_add h2.2.1 (bN_mul hr x1)) (by omega), bN_le (bN_add h2.2.2 (bN_mul hr x2)) (by omega)⟩
      · rw [b0, h1.1, oI, oA]
      · rw [b1, h1.2.1, oI, oI, oM, oA]
      · rw [b2, h1.2.2, oI, oI, oM, oA]
theorem fac_b {u v x a b c : Int} (h1 : bN u 181202) (h2 : bN v 181202) (h3 : bN x 181202) (h4 : bN a 59940) (h5 : bN b 59940) (h6 : bN c 59940) : bN (u * a + v * b + x * c) 32583743640 :=
  bN_le (bN_add (bN_add (bN_mul h1 h4) (bN_mul h2 h5)) (bN_mul h3 h6)) (by decide)
theorem rest_I {M Z : Nat → Nat → Int32} {N lm om : Nat} (h : SimM M Z N lm om) (model set : Int32) {w k : Nat} (hw : w < 2) (hk : k < N) (F : Nat → Nat → Int64) :
    ∃ r : Int, f1_rest (M (4 + w)) (f1_make M N model set F (3 + w)) (f1_make M N model set F 0) M model k = Int64.ofInt r ∧ bN r 521882960634 := by
  have hN := h.1.1
  obtain ⟨G, hR, -, hB⟩ := good_mk h model set (F 0)
  obtain ⟨u6, u7, u8, u9, u10, u11, u12⟩ := turn_I hR
  have e0 : f1_make M N model set F 0 = f5_turn_T (mkT M model set N 0 (f5_clear_T (F 0) model)) := rfl
  have ef : ∃ f0 : Nat → Int64, ∃ s0 : Nat → Int64, f1_make M N model set F (3 + w) = f1_fac (f1_make M N model set F 0) (msL (M (4 + w)) M model set N 0 (ms0 s0)) f0 := by
    rcases (show w = 0 ∨ w = 1 by omega) with rfl | rfl
    · exact ⟨F 3, F 1, rfl⟩
    · exact ⟨F 4, F 2, rfl⟩
  obtain ⟨f0, s0, ef⟩ := ef
  obtain ⟨a, b, c, ⟨s1, s2, s3⟩, ba, bb, bc⟩ := sums_I h model set hw N 0 (ms0 s0) 0 0 0 (by omega) ⟨rfl, rfl, rfl⟩ (by unfold bN; exact ⟨by decide, by decide, by decide⟩)
  have v6 := bN_v hN hB (i := 3) (j := 5) (k := 4) (l := 4) (by decide) (by decide) (by decide) (by decide)
  have v7 := bN_v hN hB (i := 2) (j := 4) (k := 1) (l := 5) (by decide) (by decide) (by decide) (by decide)
  have v8 := bN_v hN hB (i := 1) (j := 4) (k := 2) (l := 3) (by decide) (by decide) (by decide) (by decide)
  have v9 := bN_v hN hB (i := 0) (j := 5) (k := 2) (l := 2) (by decide) (by decide) (by decide) (by decide)
  have v10 := bN_v hN hB (i := 1) (j := 2) (k := 0) (l := 4) (by decide) (by decide) (by decide) (by decide)
  have v11 := bN_v hN hB (i := 0) (j := 3) (k := 1) (l := 1) (by decide) (by decide) (by decide) (by decide)
  have hd := bN_dt hN hB
  have fa : ∀ (T s f : Nat → Int64), f1_fac T s f 0 = T 6 * s 0 + T 7 * s 1 + T 8 * s 2 ∧ f1_fac T s f 1 = T 7 * s 0 + T 9 * s 1 + T 10 * s 2 ∧ f1_fac T s f 2 = T 8 * s 0 + T 10 * s 1 + T 11 * s 2 := fun _ _ _ => ⟨rfl, rfl, rfl⟩
  obtain ⟨x1, x2⟩ := bd_second h model hk
  have hr : bN (M (4 + w) k).toInt 999 := by
    have hh := (h.2.2.2.2.2 k hk).2
    rcases (show w = 0 ∨ w = 1 by omega) with rfl | rfl
    · exact bd_bN (b := 999) hh.1
    · exact bd_bN (b := 999) hh.2
  unfold f1_rest
  rw [ef, (fa _ _ _).1, (fa _ _ _).2.1, (fa _ _ _).2.2, e0, u6, u7, u8, u9, u10, u11, u12, s1, s2, s3, oI, oI, oI]
  simp only [oM, oA, oS]
  refine ⟨_, rfl, ?_⟩
  exact bN_le (bN_sub (bN_mul hr hd) (bN_add (bN_add (fac_b v6 v7 v8 ba bb bc) (bN_mul (fac_b v7 v9 v10 ba bb bc) x1)) (bN_mul (fac_b v8 v10 v11 ba bb bc) x2))) (by decide)
theorem oN (a : Int) : -Int64.ofInt a = Int64.ofInt (-a) := (Int64.ofInt_neg a).symm
theorem abs_I {r : Int} (h : bN r 521882960634) : (absL (Int64.ofInt r)).toInt = r.natAbs := by
  unfold bN at h
  have e := oT (a := r) (by omega)
  have hlt := Int64.lt_iff_toInt_lt (x := 0) (y := Int64.ofInt r)
  rw [e, show (0 : Int64).toInt = 0 from rfl] at hlt
  unfold absL
  by_cases q : (0 : Int64) < Int64.ofInt r
  · rw [if_pos q, e]
    have := hlt.mp q
    omega
  · rw [if_neg q, oN, oT (by omega)]
    have : ¬ 0 < r := fun z => q (hlt.mpr z)
    omega
/-- the greater rest, as the class has it: not below 0, and small -/
theorem great_I {M Z : Nat → Nat → Int32} {N lm om : Nat} (h : SimM M Z N lm om) (model set : Int32) {k : Nat} (hk : k < N) (F : Nat → Nat → Int64) :
    0 ≤ (absL (f1_rest (M 4) (f1_make M N model set F 3) (f1_make M N model set F 0) M model k)).toInt ∧ 0 ≤ (absL (f1_rest (M 5) (f1_make M N model set F 4) (f1_make M N model set F 0) M model k)).toInt ∧ 0 ≤ (f1_great (f1_make M N model set F) M model k).toInt := by
  obtain ⟨r0, e0, b0⟩ := rest_I h model set (w := 0) (by decide) hk F
  obtain ⟨r1, e1, b1⟩ := rest_I h model set (w := 1) (by decide) hk F
  have a0 : 0 ≤ (absL (f1_rest (M 4) (f1_make M N model set F 3) (f1_make M N model set F 0) M model k)).toInt := by
    rw [show f1_rest (M 4) (f1_make M N model set F 3) (f1_make M N model set F 0) M model k = Int64.ofInt r0 from e0, abs_I b0]
    omega
  have a1 : 0 ≤ (absL (f1_rest (M 5) (f1_make M N model set F 4) (f1_make M N model set F 0) M model k)).toInt := by
    rw [show f1_rest (M 5) (f1_make M N model set F 4) (f1_make M N model set F 0) M model k = Int64.ofInt r1 from e1, abs_I b1]
    omega
  refine ⟨a0, a1, ?_⟩
  unfold f1_great maxL
  split
  · exact a0
  · exact a1
theorem det_I {M Z : Nat → Nat → Int32} {N lm om : Nat} (h : SimM M Z N lm om) (model set : Int32) (F : Nat → Nat → Int64) : ∃ d : Int, f1_make M N model set F 0 12 = Int64.ofInt d ∧ 0 ≤ d ∧ bN d 163625406 := by
  obtain ⟨G, hR, hP, hB⟩ := good_mk h model set (F 0)
  exact ⟨dt G, (turn_I hR).2.2.2.2.2.2, hP.2.2, bN_dt h.1.1 hB⟩
/-- LIMIT times DET -/
theorem ld_I {M Z : Nat → Nat → Int32} {N lm om : Nat} (h : SimM M Z N lm om) (model set : Int32) (F : Nat → Nat → Int64) {limit : Int32} (h0 : 0 ≤ limit.toInt) (h9 : limit.toInt ≤ 999) : 0 ≤ (limit.toInt64 * f1_make M N model set F 0 12).toInt := by
  obtain ⟨d, e, hd, hb⟩ := det_I h model set F
  rw [e, oI, oM]
  have hb2 : bN (limit.toInt * d) (999 * 163625406) := bN_mul (show bN limit.toInt 999 by unfold bN; omega) hb
  unfold bN at hb2
  rw [oT (by omega)]
  exact Int.mul_nonneg h0 hd
/-! the reference's worst -/
theorem fwA_at : ∀ (n k : Nat) (V : Nat → Int64) (j : Nat), fwA n k V j = if k ≤ j ∧ j < k + n then -1 else V j
  | 0, k, V, j => by rw [fwA, if_neg (by omega)]
  | n + 1, k, V, j => by
    rw [fwA, fwA_at n (k + 1)]
    by_cases q : j = k
    · subst q
      rw [if_neg (by omega), if_pos (by omega), pk_uLs]
    · rw [pk_uLn q]
      by_cases q2 : k + 1 ≤ j ∧ j < k + 1 + n
      · rw [if_pos q2, if_pos (by omega)]
      · rw [if_neg q2, if_neg (by omega)]
theorem fwM_at {pl rd : Nat → Int32} {fac : Nat → Int64} {det : Int64} {model set : Int32} {w nt : Nat} : ∀ (n k : Nat) (V : Nat → Int64) (j : Nat), fwM pl rd fac det model set w nt n k V j = if k ≤ j ∧ j < k + n then (if fwV pl rd fac det model set w nt j ≤ V j then V j else fwV pl rd fac det model set w nt j) else V j
  | 0, k, V, j => by rw [fwM, if_neg (by omega)]
  | n + 1, k, V, j => by
    rw [fwM, fwM_at n (k + 1)]
    by_cases q : j = k
    · subst q
      rw [if_neg (show ¬ (j + 1 ≤ j ∧ j < j + 1 + n) by omega), if_pos (show j ≤ j ∧ j < j + (n + 1) by omega), pk_uLs]
    · rw [pk_uLn q]
      by_cases q2 : k + 1 ≤ j ∧ j < k + 1 + n
      · rw [if_pos q2, if_pos (show k ≤ j ∧ j < k + (n + 1) by omega)]
      · rw [if_neg q2, if_neg (show ¬ (k ≤ j ∧ j < k + (n + 1)) by omega)]
theorem m1_I : (-1 : Int64).toInt = -1 := rfl
theorem max_eq {x y : Int64} : (if y ≤ x then x else y) = maxL x y := by
  unfold maxL
  have hle := Int64.le_iff_toInt_le (x := y) (y := x)
  have hlt := Int64.lt_iff_toInt_lt (x := y) (y := x)
  by_cases q : y ≤ x
  · rw [if_pos q]
    by_cases q2 : y < x
    · rw [if_pos q2]
    · rw [if_neg q2]
      apply Int64.toInt_inj.mp
      have := hle.mp q
      have : ¬ y.toInt < x.toInt := fun z => q2 (hlt.mpr z)
      omega
  · rw [if_neg q, if_neg (fun z => q (hle.mpr (by have := hlt.mp z; omega)))]
theorem gt_m1 {v : Int64} (h : 0 ≤ v.toInt) : ¬ v ≤ -1 := fun q => by
  have := Int64.le_iff_toInt_le.mp q
  rw [m1_I] at this
  omega
theorem worst_at {M Z : Nat → Nat → Int32} {N lm om : Nat} (h : SimM M Z N lm om) {model : Int32} (hm : model = 0 ∨ model = 1 ∨ model = 2) {s : Nat} (hs : s < 4096) (F Y : Nat → Nat → Int64) :
    f7_findWorst (Z 0) (Z 1) Y model (nI s) (ntOf model) N 5 0 = f1_make M N model (nI s) F 0 12 ∧ ∀ j, j < N → f7_findWorst (Z 0) (Z 1) Y model (nI s) (ntOf model) N 4 j = if s.testBit j then f1_great (f1_make M N model (nI s) F) M model j else -1 := by
  have hN := h.1.1
  have fA := rel_fit h hm hs (w := 0) (by decide) F (uM Y 4 (fwA N 0 (Y 4)))
  have fB := rel_fit h hm hs (w := 1) (by decide) F (fwY (Z 0) (Z 1) (uM Y 4 (fwA N 0 (Y 4))) model 0 (nI s) (ntOf model) N)
  refine ⟨fB.1.2, fun j hj => ?_⟩
  have e1 : f7_findWorst (Z 0) (Z 1) Y model (nI s) (ntOf model) N 4 j = fwM (Z 0) (Z 1) (f7_findFit (Z 0) (Z 1) (fwY (Z 0) (Z 1) (uM Y 4 (fwA N 0 (Y 4))) model 0 (nI s) (ntOf model) N) model 1 (nI s) (ntOf model) N 3) (f7_findFit (Z 0) (Z 1) (fwY (Z 0) (Z 1) (uM Y 4 (fwA N 0 (Y 4))) model 0 (nI s) (ntOf model) N) model 1 (nI s) (ntOf model) N 5 0) model (nI s) 1 (ntOf model) N 0
    (fwM (Z 0) (Z 1) (f7_findFit (Z 0) (Z 1) (uM Y 4 (fwA N 0 (Y 4))) model 0 (nI s) (ntOf model) N 3) (f7_findFit (Z 0) (Z 1) (uM Y 4 (fwA N 0 (Y 4))) model 0 (nI s) (ntOf model) N 5 0) model (nI s) 0 (ntOf model) N 0 (fwA N 0 (Y 4))) j := rfl
  rw [e1, fwM_at, fwM_at, fwA_at, if_pos (show 0 ≤ j ∧ j < 0 + N by omega), if_pos (show 0 ≤ j ∧ j < 0 + N by omega), if_pos (show 0 ≤ j ∧ j < 0 + N by omega)]
  have hb := g_set1 (s := s) (k := j) hs (by omega)
  unfold fwV
  cases hc : s.testBit j
  · have hn : ¬ ((nI s >>> (nI j &&& 31)) &&& 1) = 1 := fun q => by rw [hb.mp q] at hc; cases hc
    rw [if_neg hn, if_neg hn]
    rw [if_pos (Int64.le_refl _), if_pos (Int64.le_refl _)]
    rfl
  · have hn := hb.mpr hc
    rw [if_pos hn, if_pos hn, rel_rest h hm (w := 0) (by decide) hj fA.2.2 fA.1.2, rel_rest h hm (w := 1) (by decide) hj fB.2.2 fB.1.2, size_abs, size_abs]
    obtain ⟨g0, g1, -⟩ := great_I h model (nI s) hj F
    show (if absL (f1_rest (M 5) (f1_make M N model (nI s) F 4) (f1_make M N model (nI s) F 0) M model j) ≤ (if absL (f1_rest (M 4) (f1_make M N model (nI s) F 3) (f1_make M N model (nI s) F 0) M model j) ≤ -1 then -1 else absL (f1_rest (M 4) (f1_make M N model (nI s) F 3) (f1_make M N model (nI s) F 0) M model j)) then (if absL (f1_rest (M 4) (f1_make M N model (nI s) F 3) (f1_make M N model (nI s) F 0) M model j) ≤ -1 then -1 else absL (f1_rest (M 4) (f1_make M N model (nI s) F 3) (f1_make M N model (nI s) F 0) M model j)) else absL (f1_rest (M 5) (f1_make M N model (nI s) F 4) (f1_make M N model (nI s) F 0) M model j)) = f1_great (f1_make M N model (nI s) F) M model j
    rw [if_neg (gt_m1 g0)]
    exact max_eq
