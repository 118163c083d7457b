/-! route: the class's walk and all codes in order -/
def rSt (o : Nat → Nat → Int) (T : Nat → Nat) (y : Nat) : Nat := if y = 0 then 0 else (o (T y) y - o (T (y - 1)) (y - 1)).natAbs
def rGd (o : Nat → Nat → Int) (cap bud : Nat) (T : Nat → Nat) (y : Nat) : Prop := ctm (fun j => decide (T j = T y)) (y + 1) ≤ cap ∧ rSt o T y ≤ bud
def rOk (o : Nat → Nat → Int) (cap bud : Nat) (T : Nat → Nat) (k : Nat) : Prop := ∀ j, j < k → rGd o cap bud T j
def rM (o : Nat → Nat → Int) (T : Nat → Nat) : Nat → Nat
  | 0 => 0
  | k + 1 => rM o T k + rSt o T k
theorem rSt_cong {o : Nat → Nat → Int} {T U : Nat → Nat} {y : Nat} (h : ∀ j, j ≤ y → T j = U j) : rSt o T y = rSt o U y := by
  unfold rSt
  rw [h y (Nat.le_refl _), h (y - 1) (by omega)]
theorem rGd_cong {o : Nat → Nat → Int} {cap bud : Nat} {T U : Nat → Nat} {y : Nat} (h : ∀ j, j ≤ y → T j = U j) : rGd o cap bud T y ↔ rGd o cap bud U y := by
  unfold rGd
  rw [rSt_cong h, ctm_cong (p := fun j => decide (T j = T y)) (q := fun j => decide (U j = U y)) (fun k hk => by rw [h k (by omega), h y (Nat.le_refl _)])]
theorem rOk_cong {o : Nat → Nat → Int} {cap bud : Nat} {T U : Nat → Nat} {k : Nat} (h : ∀ j, j < k → T j = U j) : rOk o cap bud T k ↔ rOk o cap bud U k :=
  ⟨fun z j hj => (rGd_cong (fun i hi => h i (by omega))).mp (z j hj), fun z j hj => (rGd_cong (fun i hi => h i (by omega))).mpr (z j hj)⟩
theorem rM_cong {o : Nat → Nat → Int} {T U : Nat → Nat} : ∀ {k : Nat}, (∀ j, j < k → T j = U j) → rM o T k = rM o U k
  | 0, _ => rfl
  | k + 1, h => by rw [rM, rM, rM_cong (fun j hj => h j (by omega)), rSt_cong (fun j hj => h j (by omega))]
theorem rM_mono {o : Nat → Nat → Int} {T : Nat → Nat} {k : Nat} : ∀ n, k ≤ n → rM o T k ≤ rM o T n
  | 0, h => by rw [show k = 0 by omega]; exact Nat.le_refl _
  | n + 1, h => by
    by_cases q : k = n + 1
    · rw [q]; exact Nat.le_refl _
    · have := rM_mono (o := o) (T := T) n (show k ≤ n by omega)
      rw [rM]; omega
theorem rM_b {o : Nat → Nat → Int} {T : Nat → Nat} (hT : ∀ j, T j < 4) (ho : ∀ t, t < 4 → ∀ y, y < 6 → (o t y).natAbs ≤ 999) : ∀ k, k ≤ 6 → rM o T k ≤ 1998 * k
  | 0, _ => Nat.le_refl _
  | k + 1, h => by
    have := rM_b hT ho k (by omega)
    have h1 := ho (T k) (hT k) k (by omega)
    have h2 := ho (T (k - 1)) (hT (k - 1)) (k - 1) (by omega)
    rw [rM]
    have : rSt o T k ≤ 1998 := by
      unfold rSt
      split <;> omega
    omega
theorem rSt_b {o : Nat → Nat → Int} {T : Nat → Nat} (hT : ∀ j, T j < 4) (ho : ∀ t, t < 4 → ∀ y, y < 6 → (o t y).natAbs ≤ 999) {k : Nat} (hk : k < 6) : rSt o T k ≤ 1998 := by
  have h1 := ho (T k) (hT k) k (by omega)
  have h2 := ho (T (k - 1)) (hT (k - 1)) (k - 1) (by omega)
  unfold rSt
  split <;> omega
def dig (n q j : Nat) : Nat := (q / 4 ^ (n - 1 - j)) % 4
theorem dig_4 (n q j : Nat) : dig n q j < 4 := Nat.mod_lt _ (by decide)
theorem dig_pre {n q p y d j : Nat} (hq : q / 4 ^ d = p) (e : y + d = n) (hj : j < y) : dig n q j = dig y p j := by
  unfold dig
  rw [← hq, Nat.div_div_eq_div_mul, ← Nat.pow_add, show n - 1 - j = d + (y - 1 - j) by omega]
theorem dig_init {y p t j : Nat} (ht : t < 4) (hj : j < y) : dig (y + 1) (4 * p + t) j = dig y p j := dig_pre (d := 1) (by rw [Nat.pow_one]; omega) rfl hj
theorem dig_last {y p t : Nat} (ht : t < 4) : dig (y + 1) (4 * p + t) y = t := by
  unfold dig
  rw [show y + 1 - 1 - y = 0 by omega, Nat.pow_zero, Nat.div_one]
  omega
theorem lr_dig : ∀ (n q : Nat) (T : Nat → Int32) (k : Nat), k < n → lrL n q T k = nI (dig n q k)
  | 0, _, _, _, h => absurd h (Nat.not_lt_zero _)
  | n + 1, q, T, k, h => by
    rw [lrL]
    by_cases e : k = n
    · subst e
      rw [lrL_ge _ _ _ _ (Nat.le_refl _), pk_us]
      unfold dig
      rw [show k + 1 - 1 - k = 0 by omega, Nat.pow_zero, Nat.div_one]
    · rw [lr_dig n (q / 4) _ k (by omega)]
      congr 1
      exact (dig_pre (d := 1) (by rw [Nat.pow_one]) rfl (by omega)).symm
/-- the first of the least -/
def Bst (Ok : Nat → Prop) (S : Nat → Nat) (c b : Nat) : Prop := b < c ∧ Ok b ∧ (∀ q, q < c → Ok q → S b ≤ S q) ∧ ∀ q, q < b → Ok q → S b < S q
theorem bst_uniq {Ok : Nat → Prop} {S : Nat → Nat} {c a b : Nat} (h1 : Bst Ok S c a) (h2 : Bst Ok S c b) : a = b := by
  rcases Nat.lt_trichotomy a b with q | q | q
  · have := h2.2.2.2 a q h1.2.1
    have := h1.2.2.1 b h2.1 h2.2.1
    omega
  · exact q
  · have := h1.2.2.2 b q h2.2.1
    have := h2.2.2.1 a h1.1 h1.2.1
    omega
theorem bst_skip {Ok : Nat → Prop} {S : Nat → Nat} {c c' b : Nat} (h : Bst Ok S c b) (hc : c ≤ c') (hs : ∀ q, c ≤ q → q < c' → Ok q → S b ≤ S q) : Bst Ok S c' b :=
  ⟨by have := h.1; omega, h.2.1, fun q hq ho => by
    by_cases z : q < c
    · exact h.2.2.1 q z ho
    · exact hs q (by omega) hq ho, h.2.2.2⟩
theorem bst_new {Ok : Nat → Prop} {S : Nat → Nat} {c : Nat} (h : ∀ q, q < c → Ok q → S c < S q) (ho : Ok c) : Bst Ok S (c + 1) c :=
  ⟨by omega, ho, fun q hq hq2 => by
    by_cases z : q = c
    · rw [z]; exact Nat.le_refl _
    · exact Nat.le_of_lt (h q (by omega) hq2), h⟩
/-! the class -/
def oF (Rt0 : Nat → Nat → Int32) (t y : Nat) : Int := (Rt0 t y).toInt
def cOk (Rt0 : Nat → Nat → Int32) (cap bud n q : Nat) : Prop := rOk (oF Rt0) cap bud (dig n q) n
def cS (Rt0 : Nat → Nat → Int32) (n q : Nat) : Nat := rM (oF Rt0) (dig n q) n
theorem nI_nm1 {k : Nat} (hk : k < 2 ^ 31) : ¬ nI k = (-1) := fun z => by
  have w := congrArg Int32.toInt z
  rw [nI_toInt (by omega), show (-1 : Int32).toInt = -1 from rfl] at w
  omega
def cst (Rt0 : Nat → Nat → Int32) (cap bud n c : Nat) (Rt : Nat → Nat → Int32) : Prop :=
  (Rt 7 2 = (-1) ∧ ∀ q, q < c → ¬ cOk Rt0 cap bud n q) ∨ ∃ b, Bst (cOk Rt0 cap bud n) (cS Rt0 n) c b ∧ Rt 7 2 = nI (cS Rt0 n b) ∧ ∀ k, k < n → Rt 5 k = nI (dig n b k)
theorem cst_skip {Rt0 Rt : Nat → Nat → Int32} {cap bud n c c' : Nat} (h : cst Rt0 cap bud n c Rt) (hc : c ≤ c') (hs : ∀ q, c ≤ q → q < c' → ¬ cOk Rt0 cap bud n q) : cst Rt0 cap bud n c' Rt := by
  rcases h with ⟨a, g⟩ | ⟨b, o, r⟩
  · refine Or.inl ⟨a, fun q hq => ?_⟩
    by_cases z : q < c
    · exact g q z
    · exact hs q (by omega) hq
  · exact Or.inr ⟨b, bst_skip o hc (fun q h1 h2 h3 => absurd h3 (hs q h1 h2)), r⟩
def cI (Rt0 Rt : Nat → Nat → Int32) (y p : Nat) : Prop :=
  (∀ t, t < 4 → Rt t = Rt0 t) ∧ Rt 7 0 = Rt0 7 0 ∧ Rt 7 1 = Rt0 7 1 ∧ (∀ j, j < y → Rt 4 j = nI (dig y p j)) ∧ ∀ t, t < 4 → Rt 6 t = nI (ctm (fun j => decide (dig y p j = t)) y)
theorem cnt_new {y p t u : Nat} (ht : t < 4) : ctm (fun j => decide (dig (y + 1) (4 * p + t) j = u)) (y + 1) = ctm (fun j => decide (dig y p j = u)) y + (if t = u then 1 else 0) := by
  rw [ctm, ctm_cong (p := fun j => decide (dig (y + 1) (4 * p + t) j = u)) (q := fun j => decide (dig y p j = u)) (fun j hj => by rw [dig_init ht hj]), dig_last ht]
  by_cases z : t = u
  · simp [z]
  · simp [z]
theorem cnt_le {p : Nat → Bool} : ∀ n, ctm p n ≤ n
  | 0 => Nat.le_refl _
  | n + 1 => by
    have := cnt_le (p := p) n
    rw [ctm]; split <;> omega
theorem i_sub {a b : Int32} (h : -2147483648 ≤ a.toInt - b.toInt) (h2 : a.toInt - b.toInt < 2147483648) : (a - b).toInt = a.toInt - b.toInt := by
  have e : a - b = Int32.ofInt (a.toInt - b.toInt) := by rw [Int32.ofInt_sub, Int32.ofInt_toInt, Int32.ofInt_toInt]
  rw [e, Int32.toInt_ofInt_of_le (by omega) (by omega)]
theorem ab_I {a b : Int32} (ha : bd a 999) (hb : bd b 999) : absI (a - b) = nI (a.toInt - b.toInt).natAbs ∧ (if 0 ≤ a - b then a - b else -(a - b)) = nI (a.toInt - b.toInt).natAbs := by
  unfold bd at ha hb
  have e := i_sub (a := a) (b := b) (by omega) (by omega)
  have hle := Int32.le_iff_toInt_le (x := 0) (y := a - b)
  rw [e, show (0 : Int32).toInt = 0 from rfl] at hle
  have en : (0 - (a - b)).toInt = -(a.toInt - b.toInt) := by
    rw [i_sub (by rw [e, show (0 : Int32).toInt = 0 from rfl]; omega) (by rw [e, show (0 : Int32).toInt = 0 from rfl]; omega), e, show (0 : Int32).toInt = 0 from rfl]
    omega
  unfold absI
  by_cases q : 0 ≤ a - b
  · rw [if_pos q, if_pos q]
    have := hle.mp q
    have e2 : a - b = nI (a.toInt - b.toInt).natAbs := Int32.toInt_inj.mp (by rw [e, nI_toInt (by omega)]; omega)
    exact ⟨e2, e2⟩
  · rw [if_neg q, if_neg q]
    have : ¬ 0 ≤ a.toInt - b.toInt := fun z => q (hle.mpr z)
    have e2 : 0 - (a - b) = nI (a.toInt - b.toInt).natAbs := Int32.toInt_inj.mp (by rw [en, nI_toInt (by omega)]; omega)
    exact ⟨e2, by rw [← e2]; grind⟩
theorem step_I {Rt0 Rt : Nat → Nat → Int32} (ho : ∀ t, t < 4 → ∀ y, y < 6 → bd (Rt0 t y) 999) {y p t : Nat} (hy : y < 6) (ht : t < 4) (h : cI Rt0 Rt y p) : f4_step Rt y t = nI (rSt (oF Rt0) (dig (y + 1) (4 * p + t)) y) := by
  unfold f4_step rSt
  by_cases q : y = 0
  · rw [if_pos (by rw [q]; rfl), if_pos q]; rfl
  · rw [if_neg (show ¬ nI y = 0 by rw [show (0 : Int32) = nI 0 from rfl, nI_eq (by omega) (by omega)]; exact q), if_neg q, h.2.2.2.1 (y - 1) (by omega)]
    have h4 := dig_4 y p (y - 1)
    rw [ix_nI (by omega), h.1 t ht, h.1 _ h4, (ab_I (ho t ht y hy) (ho _ h4 (y - 1) (by omega))).1, dig_last ht, dig_init ht (show y - 1 < y by omega)]
    rfl
theorem ho_n {Rt0 : Nat → Nat → Int32} (ho : ∀ t, t < 4 → ∀ y, y < 6 → bd (Rt0 t y) 999) : ∀ t, t < 4 → ∀ y, y < 6 → (oF Rt0 t y).natAbs ≤ 999 := fun t ht y hy => by
  have := ho t ht y hy
  unfold bd at this
  unfold oF
  omega
theorem pre_div {q p d : Nat} (h1 : p * 4 ^ d ≤ q) (h2 : q < (p + 1) * 4 ^ d) : q / 4 ^ d = p := by
  rw [Nat.div_eq_iff (Nat.pow_pos (by decide))]
  rw [Nat.add_mul, Nat.one_mul] at h2
  have := Nat.pow_pos (n := d) (show 0 < 4 by decide)
  constructor
  · have e : p * 4 ^ d = 4 ^ d * p := Nat.mul_comm _ _
    omega
  · have e : p * 4 ^ d = 4 ^ d * p := Nat.mul_comm _ _
    omega
theorem send_eq {Rt0 : Nat → Nat → Int32} {n cap bud : Nat} (hn : n ≤ 6) (ho : ∀ t, t < 4 → ∀ y, y < 6 → bd (Rt0 t y) 999) (hc : Rt0 7 1 = nI cap) (hc6 : cap ≤ 6) (hd : Rt0 7 0 = nI bud) (hd9 : bud ≤ 1998) : ∀ (d y p : Nat) (Rt : Nat → Nat → Int32), y + d = n → rOk (oF Rt0) cap bud (dig y p) y → cI Rt0 Rt y p → cst Rt0 cap bud n (p * 4 ^ d) Rt →
    cI Rt0 (sdS n d y (nI (rM (oF Rt0) (dig y p) y)) Rt) y p ∧ cst Rt0 cap bud n ((p + 1) * 4 ^ d) (sdS n d y (nI (rM (oF Rt0) (dig y p) y)) Rt) := by
  have sB : ∀ y p, y ≤ 6 → rM (oF Rt0) (dig y p) y ≤ 11988 := fun y p hy => by
    have := rM_b (T := dig y p) (fun j => dig_4 y p j) (ho_n ho) y hy
    omega
  intro d
  induction d with
  | zero =>
    intro y p Rt e hok hI hst
    have ey : y = n := by omega
    subst ey
    rw [sdS]
    rw [Nat.pow_zero, Nat.mul_one] at *
    have b1 := sB y p hn
    have new : (∀ q, q < p → cOk Rt0 cap bud y q → cS Rt0 y p < cS Rt0 y q) → cI Rt0 (uM (uM Rt 5 (va_cpy (Rt 4) (Rt 5) 0 0 y)) 7 (upd (Rt 7) 2 (nI (rM (oF Rt0) (dig y p) y)))) y p ∧ cst Rt0 cap bud y (p + 1) (uM (uM Rt 5 (va_cpy (Rt 4) (Rt 5) 0 0 y)) 7 (upd (Rt 7) 2 (nI (rM (oF Rt0) (dig y p) y)))) := by
      intro hl
      obtain ⟨i1, i2, i3, i4, i5⟩ := hI
      refine ⟨⟨fun t ht => ?_, i2, i3, i4, i5⟩, Or.inr ⟨p, bst_new hl hok, rfl, fun k hk => ?_⟩⟩
      · rw [uM_ne _ _ (by omega), uM_ne _ _ (by omega)]
        exact i1 t ht
      · show va_cpy (Rt 4) (Rt 5) 0 0 y k = _
        unfold va_cpy
        rw [if_pos (by omega), show 0 + (k - 0) = k by omega]
        exact i4 k hk
    rcases id hst with ⟨a, g⟩ | ⟨b, o, e1, e2⟩
    · rw [if_pos (Or.inl a)]
      exact new (fun q hq h2 => absurd h2 (g q hq))
    · have b2 := sB y b hn
      by_cases q : Rt 7 2 = (-1) ∨ nI (rM (oF Rt0) (dig y p) y) < Rt 7 2
      · rw [if_pos q]
        rw [e1] at q
        have q := q.resolve_left (nI_nm1 (by unfold cS; omega))
        have q2 : rM (oF Rt0) (dig y p) y < cS Rt0 y b := (nI_ltI (by omega) (by unfold cS; omega)).mp q
        exact new (fun x hx h2 => Nat.lt_of_lt_of_le q2 (o.2.2.1 x hx h2))
      · rw [if_neg q]
        rw [e1] at q
        refine ⟨hI, Or.inr ⟨b, bst_skip o (by omega) (fun x h1 h2 h3 => ?_), e1, e2⟩⟩
        have : x = p := by omega
        subst this
        have q2 : ¬ rM (oF Rt0) (dig y x) y < cS Rt0 y b := fun z => q (Or.inr ((nI_ltI (by omega) (by unfold cS; omega)).mpr z))
        exact Nat.not_lt.mp q2
  | succ d ih =>
    intro y p Rt e hok hI hst
    have hy : y < 6 := by omega
    have b1 := sB y p (by omega)
    have pw : (4 : Nat) ^ (d + 1) = 4 * 4 ^ d := by rw [Nat.pow_succ, Nat.mul_comm]
    rw [sdS]
    by_cases q : Rt 7 2 = (-1) ∨ nI (rM (oF Rt0) (dig y p) y) < Rt 7 2
    · rw [if_pos q]
      have loop : ∀ (r t : Nat) (Rt : Nat → Nat → Int32), t + r = 4 → cI Rt0 Rt y p → cst Rt0 cap bud n ((4 * p + t) * 4 ^ d) Rt → cI Rt0 (sdF (sdS n d (y + 1)) y (nI (rM (oF Rt0) (dig y p) y)) r t Rt) y p ∧ cst Rt0 cap bud n ((4 * p + 4) * 4 ^ d) (sdF (sdS n d (y + 1)) y (nI (rM (oF Rt0) (dig y p) y)) r t Rt) := by
        intro r
        induction r with
        | zero =>
          intro t Rt e4 hI hst
          rw [sdF]
          rw [show t = 4 by omega] at hst
          exact ⟨hI, hst⟩
        | succ r ihr =>
          intro t Rt e4 hI hst
          have ht : t < 4 := by omega
          obtain ⟨i1, i2, i3, i4, i5⟩ := id hI
          have skip : ¬ rGd (oF Rt0) cap bud (dig (y + 1) (4 * p + t)) y → cst Rt0 cap bud n ((4 * p + (t + 1)) * 4 ^ d) Rt := fun hg => by
            refine cst_skip hst (Nat.mul_le_mul_right _ (by omega)) (fun x h1 h2 h3 => hg ?_)
            have hx := pre_div h1 (by rw [show 4 * p + t + 1 = 4 * p + (t + 1) by omega]; exact h2)
            exact (rGd_cong (fun j hj => dig_pre hx (show y + 1 + d = n by omega) (by omega))).mp (h3 y (by omega))
          have cl := cnt_le (p := fun j => decide (dig y p j = t)) y
          have hcn := cnt_new (y := y) (p := p) (u := t) ht
          rw [if_pos rfl] at hcn
          have gd : rGd (oF Rt0) cap bud (dig (y + 1) (4 * p + t)) y ↔ ctm (fun j => decide (dig y p j = t)) y + 1 ≤ cap ∧ rSt (oF Rt0) (dig (y + 1) (4 * p + t)) y ≤ bud := by
            unfold rGd
            rw [dig_last ht, hcn]
          have sb := rSt_b (T := dig (y + 1) (4 * p + t)) (fun j => dig_4 (y + 1) (4 * p + t) j) (ho_n ho) hy
          rw [sdF, step_I ho hy ht hI, i2, i3, i5 t ht, hc, hd]
          by_cases q1 : nI cap ≤ nI (ctm (fun j => decide (dig y p j = t)) y)
          · rw [if_pos q1]
            have q1 := (nI_leI (by omega) (by omega)).mp q1
            exact ihr (t + 1) Rt (by omega) hI (skip (fun z => by have := (gd.mp z).1; omega))
          · rw [if_neg q1]
            have q1 : ¬ cap ≤ ctm (fun j => decide (dig y p j = t)) y := fun z => q1 ((nI_leI (by omega) (by omega)).mpr z)
            by_cases q2 : nI bud < nI (rSt (oF Rt0) (dig (y + 1) (4 * p + t)) y)
            · rw [if_pos q2]
              have q2 := (nI_ltI (by omega) (by omega)).mp q2
              exact ihr (t + 1) Rt (by omega) hI (skip (fun z => by have := (gd.mp z).2; omega))
            · rw [if_neg q2]
              have q2 : ¬ bud < rSt (oF Rt0) (dig (y + 1) (4 * p + t)) y := fun z => q2 ((nI_ltI (by omega) (by omega)).mpr z)
              have es : nI (rM (oF Rt0) (dig y p) y) + nI (rSt (oF Rt0) (dig (y + 1) (4 * p + t)) y) = nI (rM (oF Rt0) (dig (y + 1) (4 * p + t)) (y + 1)) := by
                rw [nI_add, rM, rM_cong (T := dig (y + 1) (4 * p + t)) (U := dig y p) (fun j hj => dig_init ht hj)]
              rw [es]
              have hok2 : rOk (oF Rt0) cap bud (dig (y + 1) (4 * p + t)) (y + 1) := fun j hj => by
                by_cases z : j = y
                · rw [z]; exact gd.mpr ⟨by omega, by omega⟩
                · exact (rOk_cong (k := y) (fun i hi => dig_init ht hi)).mpr hok j (by omega)
              have hI2 : cI Rt0 (uM (uM Rt 4 (upd (Rt 4) y (nI t))) 6 (upd (Rt 6) t (nI (ctm (fun j => decide (dig y p j = t)) y) + 1))) (y + 1) (4 * p + t) := by
                refine ⟨fun u hu => ?_, i2, i3, fun j hj => ?_, fun u hu => ?_⟩
                · rw [uM_ne _ _ (by omega), uM_ne _ _ (by omega)]; exact i1 u hu
                · show upd (Rt 4) y (nI t) j = _
                  by_cases z : j = y
                  · rw [z, pk_us, dig_last ht]
                  · rw [pk_un z, i4 j (by omega), dig_init ht (by omega)]
                · show upd (Rt 6) t (nI (ctm (fun j => decide (dig y p j = t)) y) + 1) u = _
                  rw [cnt_new ht]
                  by_cases z : u = t
                  · subst z
                    rw [pk_us, nI_1, if_pos rfl]
                  · rw [pk_un z, i5 u hu, if_neg (fun w => z w.symm)]; rfl
              obtain ⟨⟨j1, j2, j3, j4, j5⟩, hst2⟩ := ih (y + 1) (4 * p + t) _ (by omega) hok2 hI2 (by
                rcases hst with ⟨a, g⟩ | ⟨b, o, r⟩
                · exact Or.inl ⟨a, g⟩
                · exact Or.inr ⟨b, o, r⟩)
              rw [j5 t ht]
              refine ihr (t + 1) _ (by omega) ⟨fun u hu => ?_, j2, j3, fun j hj => ?_, fun u hu => ?_⟩ (by
                rcases hst2 with ⟨a, g⟩ | ⟨b, o, r⟩
                · exact Or.inl ⟨a, g⟩
                · exact Or.inr ⟨b, o, r⟩)
              · rw [uM_ne _ _ (by omega)]; exact j1 u hu
              · rw [← dig_init ht hj]; exact j4 j (by omega)
              · show upd _ t _ u = _
                by_cases z : u = t
                · subst z
                  rw [pk_us, hcn, ← nI_1, add_sub1]
                · rw [pk_un z, j5 u hu, cnt_new ht, if_neg (fun w => z w.symm)]; rfl
      have := loop 4 0 Rt rfl hI (by rw [show (4 * p + 0) * 4 ^ d = p * 4 ^ (d + 1) by rw [pw]; grind]; exact hst)
      rw [show (4 * p + 4) * 4 ^ d = (p + 1) * 4 ^ (d + 1) by rw [pw]; grind] at this
      exact this
    · rw [if_neg q]
      refine ⟨hI, ?_⟩
      rcases hst with ⟨a, g⟩ | ⟨b, o, e1, e2⟩
      · exact absurd (Or.inl a) q
      · have b2 := sB n b hn
        rw [e1] at q
        have q2 : ¬ rM (oF Rt0) (dig y p) y < cS Rt0 n b := fun z => q (Or.inr ((nI_ltI (by omega) (by unfold cS; omega)).mpr z))
        refine Or.inr ⟨b, bst_skip o (Nat.mul_le_mul_right _ (by omega)) (fun x h1 h2 h3 => ?_), e1, e2⟩
        have hx := pre_div h1 h2
        have em : rM (oF Rt0) (dig y p) y = rM (oF Rt0) (dig n x) y := rM_cong (fun j hj => (dig_pre hx e hj).symm)
        have := rM_mono (o := oF Rt0) (T := dig n x) n (show y ≤ n by omega)
        unfold cS at *
        omega
