/-! fits, rests, fractions -/
def RelS (S s : Nat → Int64) : Prop := S 0 = s 0 ∧ S 1 = s 1 ∧ S 2 = s 2
theorem ms4_at (r x y : Int64) (S : Nat → Int64) : ms4 r x y S 0 = S 0 + r ∧ ms4 r x y S 1 = S 1 + r * x ∧ ms4 r x y S 2 = S 2 + r * y ∧ ms4 r x y S 3 = S 3 + r * r := ⟨rfl, rfl, rfl, rfl⟩
def fkR (pl rd : Nat → Int32) (model : Int32) (w j : Nat) : Nat → Nat → (Nat → Int64) → Nat → Int64
  | 0, _, S => S
  | n + 1, t, S => fkR pl rd model w j n (t + 1) (vp_updL S t (S t + f7_term pl model j t * (rd (2 * j + w)).toInt64))
theorem ffK_on {pl rd : Nat → Int32} {model set : Int32} {w j : Nat} (h : ((set >>> (nI j &&& 31)) &&& 1) = 1) : ∀ (n k : Nat) (S : Nat → Int64), ffK pl rd model set w j n k S = fkR pl rd model w j n k S
  | 0, _, _ => rfl
  | n + 1, k, S => by rw [ffK, if_pos h, fkR, ffK_on h n]
theorem ffK_off {pl rd : Nat → Int32} {model set : Int32} {w j : Nat} (h : ¬ ((set >>> (nI j &&& 31)) &&& 1) = 1) (n k : Nat) (S : Nat → Int64) : ffK pl rd model set w j n k S = S := by
  cases n
  · rfl
  · rw [ffK, if_neg h]
theorem read_w {M Z : Nat → Nat → Int32} {N lm om : Nat} (h : SimM M Z N lm om) {w k : Nat} (hw : w < 2) (hk : k < N) : Z 1 (2 * k + w) = M (4 + w) k := by
  have hp := h.2.2.1 k hk
  rcases (show w = 0 ∨ w = 1 by omega) with rfl | rfl
  · exact hp.1
  · exact hp.2
theorem relS_loop {M Z : Nat → Nat → Int32} {N lm om : Nat} (h : SimM M Z N lm om) {model : Int32} (hm : model = 0 ∨ model = 1 ∨ model = 2) {s w : Nat} (hs : s < 4096) (hw : w < 2) : ∀ (n j : Nat) (S T : Nat → Int64), j + n = N → RelS S T → RelS (ffM (Z 0) (Z 1) model (nI s) w (ntOf model) n j S) (msL (M (4 + w)) M model (nI s) n j T)
  | 0, _, _, _, _, hR => hR
  | n + 1, j, S, T, e, hR => by
    have hN := h.1.1
    rw [ffM, msL]
    refine relS_loop h hm hs hw n (j + 1) _ _ (by omega) ?_
    have hb := g_set1 (s := s) (k := j) hs (by omega)
    have hi := g_isIn (s := s) (k := j) hs (by omega)
    obtain ⟨c0, c1, c2⟩ := hR
    cases hc : s.testBit j
    · rw [if_pos (hi.mpr hc), ffK_off (fun q => by rw [hb.mp q] at hc; cases hc)]
      exact ⟨c0, c1, c2⟩
    · rw [if_neg (fun q => by rw [hi.mp q] at hc; cases hc), ffK_on (hb.mpr hc)]
      obtain ⟨b0, b1, b2, -⟩ := ms4_at (M (4 + w) j).toInt64 (f2_second M model j).toInt64 (f2_third M model j).toInt64 T
      have hr := read_w h hw (show j < N by omega)
      rcases hm with rfl | hm
      · have a : fkR (Z 0) (Z 1) 0 w j 1 0 S 0 = S 0 + f7_term (Z 0) 0 j 0 * (Z 1 (2 * j + w)).toInt64 ∧ fkR (Z 0) (Z 1) 0 w j 1 0 S 1 = S 1 ∧ fkR (Z 0) (Z 1) 0 w j 1 0 S 2 = S 2 := ⟨rfl, rfl, rfl⟩
        show RelS (fkR (Z 0) (Z 1) 0 w j 1 0 S) _
        unfold RelS
        rw [a.1, a.2.1, a.2.2, b0, b1, b2, hr, t_0, c0, c1, c2, show (f2_second M 0 j).toInt64 = 0 from rfl, show (f2_third M 0 j).toInt64 = 0 from rfl]
        simp
      · rw [show ntOf model = 3 from by rcases hm with rfl | rfl <;> rfl]
        have a : fkR (Z 0) (Z 1) model w j 3 0 S 0 = S 0 + f7_term (Z 0) model j 0 * (Z 1 (2 * j + w)).toInt64 ∧ fkR (Z 0) (Z 1) model w j 3 0 S 1 = S 1 + f7_term (Z 0) model j 1 * (Z 1 (2 * j + w)).toInt64 ∧ fkR (Z 0) (Z 1) model w j 3 0 S 2 = S 2 + f7_term (Z 0) model j 2 * (Z 1 (2 * j + w)).toInt64 := ⟨rfl, rfl, rfl⟩
        unfold RelS
        rw [a.1, a.2.1, a.2.2, b0, b1, b2, hr, t_0, t_1 h hm (by omega), t_2 h hm (by omega), c0, c1, c2]
        unfold tX tY
        refine ⟨?_, ?_, ?_⟩ <;> grind
theorem relS {M Z : Nat → Nat → Int32} {N lm om : Nat} (h : SimM M Z N lm om) {model : Int32} (hm : model = 0 ∨ model = 1 ∨ model = 2) {s w : Nat} (hs : s < 4096) (hw : w < 2) (S0 T0 : Nat → Int64) : RelS (ffS (Z 0) (Z 1) model (nI s) w (ntOf model) N S0) (f1_sums (M (4 + w)) M model (nI s) N T0) :=
  relS_loop h hm hs hw N 0 _ _ (by omega) ⟨rfl, rfl, rfl⟩
theorem relF {V U S s : Nat → Int64} {d : Int64} (hV : RelV V d U) (hS : RelS S s) (F0 f0 : Nat → Int64) : RelS (ffF V S 3 0 F0) (f1_fac U s f0) := by
  obtain ⟨⟨v0, v1, v2, v3, v4, v5, v6, v7, v8⟩, -⟩ := hV
  obtain ⟨c0, c1, c2⟩ := hS
  have a : ffF V S 3 0 F0 0 = V 0 * S 0 + V 1 * S 1 + V 2 * S 2 ∧ ffF V S 3 0 F0 1 = V 3 * S 0 + V 4 * S 1 + V 5 * S 2 ∧ ffF V S 3 0 F0 2 = V 6 * S 0 + V 7 * S 1 + V 8 * S 2 := ⟨rfl, rfl, rfl⟩
  have b : f1_fac U s f0 0 = U 6 * s 0 + U 7 * s 1 + U 8 * s 2 ∧ f1_fac U s f0 1 = U 7 * s 0 + U 9 * s 1 + U 10 * s 2 ∧ f1_fac U s f0 2 = U 8 * s 0 + U 10 * s 1 + U 11 * s 2 := ⟨rfl, rfl, rfl⟩
  unfold RelS
  rw [a.1, a.2.1, a.2.2, b.1, b.2.1, b.2.2, v0, v1, v2, v3, v4, v5, v6, v7, v8, c0, c1, c2]
  exact ⟨rfl, rfl, rfl⟩
/-- all of a fit -/
theorem rel_fit {M Z : Nat → Nat → Int32} {N lm om : Nat} (h : SimM M Z N lm om) {model : Int32} (hm : model = 0 ∨ model = 1 ∨ model = 2) {s w : Nat} (hs : s < 4096) (hw : w < 2) (F Y : Nat → Nat → Int64) :
    RelV (f7_findFit (Z 0) (Z 1) Y model w (nI s) (ntOf model) N 1) (f7_findFit (Z 0) (Z 1) Y model w (nI s) (ntOf model) N 5 0) (f1_make M N model (nI s) F 0) ∧
    RelS (f7_findFit (Z 0) (Z 1) Y model w (nI s) (ntOf model) N 2) (f1_make M N model (nI s) F (1 + w)) ∧
    RelS (f7_findFit (Z 0) (Z 1) Y model w (nI s) (ntOf model) N 3) (f1_make M N model (nI s) F (3 + w)) := by
  have hV : RelV (layV (layS (Z 0) model (nI s) (ntOf model) N (Y 0)) (Y 1)) (layD (layS (Z 0) model (nI s) (ntOf model) N (Y 0)) (layV (layS (Z 0) model (nI s) (ntOf model) N (Y 0)) (Y 1))) (fitT M model (nI s) N (F 0)) := relV (rel_lay h hm hs _ _) _
  rcases (show w = 0 ∨ w = 1 by omega) with rfl | rfl
  · exact ⟨hV, relS h hm hs hw _ _, relF hV (relS h hm hs hw _ _) _ _⟩
  · exact ⟨hV, relS h hm hs hw _ _, relF hV (relS h hm hs hw _ _) _ _⟩
theorem rel_det {M Z : Nat → Nat → Int32} {N lm om : Nat} (h : SimM M Z N lm om) {model : Int32} (hm : model = 0 ∨ model = 1 ∨ model = 2) {s : Nat} (hs : s < 4096) (F Y : Nat → Nat → Int64) :
    RelV (f7_lay (Z 0) Y model (nI s) (ntOf model) N 1) (f7_lay (Z 0) Y model (nI s) (ntOf model) N 5 0) (f1_make M N model (nI s) F 0) := relV (rel_lay h hm hs _ _) _
theorem rel_rest {M Z : Nat → Nat → Int32} {N lm om : Nat} (h : SimM M Z N lm om) {model : Int32} (hm : model = 0 ∨ model = 1 ∨ model = 2) {w k : Nat} (hw : w < 2) (hk : k < N) {fac f T : Nat → Int64} {det : Int64} (hF : RelS fac f) (hd : det = T 12) :
    f7_restOf (Z 0) (Z 1) fac det model w k (ntOf model) = f1_rest (M (4 + w)) f T M model k := by
  obtain ⟨c0, c1, c2⟩ := hF
  have hr := read_w h hw hk
  unfold f1_rest
  rcases hm with rfl | hm
  · have a : f7_restOf (Z 0) (Z 1) fac det 0 w k 1 = (Z 1 (2 * k + w)).toInt64 * det - fac 0 * f7_term (Z 0) 0 k 0 := rfl
    show f7_restOf (Z 0) (Z 1) fac det 0 w k 1 = _
    rw [a, t_0, hr, hd, c0, show (f2_second M 0 k).toInt64 = 0 from rfl, show (f2_third M 0 k).toInt64 = 0 from rfl]
    grind
  · rw [show ntOf model = 3 from by rcases hm with rfl | rfl <;> rfl]
    have a : f7_restOf (Z 0) (Z 1) fac det model w k 3 = (Z 1 (2 * k + w)).toInt64 * det - fac 0 * f7_term (Z 0) model k 0 - fac 1 * f7_term (Z 0) model k 1 - fac 2 * f7_term (Z 0) model k 2 := rfl
    rw [a, t_0, t_1 h hm hk, t_2 h hm hk, hr, hd, c0, c1, c2]
    unfold tX tY
    grind
/-! Euclid's steps -/
def fin : Nat → Int64 → Int64 → Prop
  | 0, _, y => y = 0
  | n + 1, x, y => y = 0 ∨ fin n y (x - x / y * y)
theorem cdL_eq : ∀ (n m : Nat) (x y : Int64), fin n x y → fin m x y → cdL n x y = cdL m x y
  | 0, 0, _, _, _, _ => rfl
  | 0, m + 1, x, y, h, _ => by rw [cdL, cdL, if_pos (show y = 0 from h)]
  | n + 1, 0, x, y, _, h => by rw [cdL, cdL, if_pos (show y = 0 from h)]
  | n + 1, m + 1, x, y, h1, h2 => by
    rw [cdL, cdL]
    by_cases q : y = 0
    · rw [if_pos q, if_pos q]
    · rw [if_neg q, if_neg q]
      exact cdL_eq n m _ _ (h1.resolve_left q) (h2.resolve_left q)
theorem cdL_ne : ∀ (n : Nat) (x y : Int64), fin n x y → ¬ (x = 0 ∧ y = 0) → ¬ cdL n x y = 0
  | 0, x, y, h, hn => fun q => hn ⟨q, h⟩
  | n + 1, x, y, h, hn => by
    rw [cdL]
    by_cases q : y = 0
    · rw [if_pos q]
      exact fun q2 => hn ⟨q2, q⟩
    · rw [if_neg q]
      exact cdL_ne n _ _ (h.resolve_left q) (fun q2 => q q2.1)
theorem nz64 {y : Int64} (h : ¬ y = 0) : 0 < y.toInt.natAbs := Int.natAbs_pos.mpr (fun q => h (Int64.toInt_inj.mp (by rw [q]; rfl)))
theorem fin_abs : ∀ (n : Nat) (x y : Int64), y.toInt.natAbs ≤ n → fin n x y
  | 0, x, y, h => Int64.toInt_inj.mp (Int.natAbs_eq_zero.mp (Nat.le_zero.mp h))
  | n + 1, x, y, h => by
    by_cases q : y = 0
    · exact Or.inl q
    · exact Or.inr (fin_abs n _ _ (Nat.le_of_lt_succ (Nat.lt_of_lt_of_le (q_rem_lt x q) h)))
def fbA : Nat → Nat → Nat → Nat
  | 0, a, _ => a
  | n + 1, a, b => fbA n b (a + b)
theorem fbA_add : ∀ (n a b : Nat), fbA (n + 2) a b = fbA (n + 1) a b + fbA n a b
  | 0, a, b => by simp [fbA]; omega
  | n + 1, a, b => by
    show fbA (n + 2) b (a + b) = fbA (n + 1) b (a + b) + fbA n b (a + b)
    exact fbA_add n b (a + b)
theorem fin_fib : ∀ (n : Nat) (x y : Int64), ¬ fin n x y → y.toInt.natAbs < x.toInt.natAbs → fbA (n + 1) 0 1 ≤ y.toInt.natAbs ∧ fbA (n + 2) 0 1 ≤ x.toInt.natAbs
  | 0, x, y, h, hxy => by
    have := nz64 (y := y) h
    show 1 ≤ _ ∧ 1 ≤ _
    omega
  | n + 1, x, y, h, hxy => by
    have hy : ¬ y = 0 := fun q => h (Or.inl q)
    have h2 : ¬ fin n y (x - x / y * y) := fun q => h (Or.inr q)
    obtain ⟨a, b⟩ := fin_fib n _ _ h2 (q_rem_lt x hy)
    refine ⟨b, ?_⟩
    rw [show n + 1 + 2 = (n + 1) + 2 from rfl, fbA_add]
    have hr : (x - x / y * y).toInt.natAbs = x.toInt.natAbs % y.toInt.natAbs := by rw [q_remL, Int.natAbs_tmod]
    rw [hr] at a
    have hp := nz64 hy
    have hm := Nat.div_add_mod x.toInt.natAbs y.toInt.natAbs
    have hq : 1 ≤ x.toInt.natAbs / y.toInt.natAbs := (Nat.one_le_div_iff hp).mpr (by omega)
    have := Nat.mul_le_mul_left y.toInt.natAbs hq
    have hb : fbA (n + 1 + 1) 0 1 ≤ y.toInt.natAbs := b
    omega
theorem fin_100 (x y : Int64) : fin 100 x y := by
  rcases Classical.em (fin 100 x y) with h | h
  · exact h
  · exfalso
    have hy : ¬ y = 0 := fun q => h (Or.inl q)
    have h2 : ¬ fin 99 y (x - x / y * y) := fun q => h (Or.inr q)
    obtain ⟨-, b⟩ := fin_fib 99 _ _ h2 (q_rem_lt x hy)
    have h1 := Int64.toInt_lt y
    have h3 := Int64.le_toInt y
    have h4 : fbA (99 + 2) 0 1 = 573147844013817084101 := by decide +kernel
    rw [h4] at b
    omega
theorem size_abs (v : Int64) : f7_size v = absL v := by
  unfold f7_size absL
  have hle := Int64.le_iff_toInt_le (x := 0) (y := v)
  have hlt := Int64.lt_iff_toInt_lt (x := 0) (y := v)
  have h0 : (0 : Int64).toInt = 0 := rfl
  rw [h0] at hle hlt
  by_cases h : 0 < v
  · rw [if_pos (hle.mpr (by have := hlt.mp h; omega)), if_pos h]
  · by_cases h2 : v = 0
    · rw [if_neg h, h2]; rfl
    · rw [if_neg (fun q => h (hlt.mpr (by
        have := hle.mp q
        have h3 : v.toInt ≠ 0 := fun q2 => h2 (Int64.toInt_inj.mp (by rw [q2]; rfl))
        omega))), if_neg h]
theorem share_eq {up lo : Int64} (what : Int32) (h : ¬ lo = 0) : f7_share up lo what = f6_partOf up lo what := by
  have he : f7_gc (f7_size up) lo = f6_cd (absL up) lo := by
    rw [size_abs]
    exact cdL_eq _ _ _ _ (fin_abs _ _ _ (Nat.le_refl _)) (fin_100 _ _)
  have hn : ¬ f6_cd (absL up) lo = 0 := cdL_ne 100 _ _ (fin_100 _ _) (fun q => h q.2)
  unfold f7_share f6_partOf
  rw [he, if_neg hn]
