/-! route: the reference -/
theorem so_eq {Rt0 : Nat → Nat → Int32} {off T32 : Nat → Int32} {T : Nat → Nat} {n cap bud : Nat} (hn : n ≤ 6) (ho : ∀ t, t < 4 → ∀ y, y < 6 → bd (Rt0 t y) 999) (hf : ∀ t, t < 4 → ∀ y, y < 6 → off (6 * t + y) = Rt0 t y) (hc6 : cap ≤ 6) (hd9 : bud ≤ 1998) (hT : ∀ j, T j < 4) (hT2 : ∀ j, j < n → T32 j = nI (T j)) :
    ∀ (r k : Nat) (V : Nat → Int32), k + r = n → (∀ t, t < 4 → V t = nI (ctm (fun j => decide (T j = t)) k)) →
    ((∀ j, k ≤ j → j < n → rGd (oF Rt0) cap bud T j) → (soL off T32 (nI bud) (nI cap) r k (nI (rM (oF Rt0) T k)) V).1 = nI (rM (oF Rt0) T n)) ∧ ((¬ ∀ j, k ≤ j → j < n → rGd (oF Rt0) cap bud T j) → (soL off T32 (nI bud) (nI cap) r k (nI (rM (oF Rt0) T k)) V).1 = -1)
  | 0, k, V, e, hV => by
    rw [soL, show k = n by omega]
    exact ⟨fun _ => rfl, fun z => absurd (fun j h1 h2 => by omega) z⟩
  | r + 1, k, V, e, hV => by
    have hk : k < n := by omega
    have cl := cnt_le (p := fun j => decide (T j = T k)) k
    have hcn : ctm (fun j => decide (T j = T k)) (k + 1) = ctm (fun j => decide (T j = T k)) k + 1 := by
      rw [ctm]; simp
    have sb := rSt_b hT (ho_n ho) (show k < 6 by omega)
    have eT : ix (T32 k) = T k := by rw [hT2 k hk, ix_nI (by have := hT k; omega)]
    have hV2 : ∀ t, t < 4 → upd V (T k) (V (T k) + 1) t = nI (ctm (fun j => decide (T j = t)) (k + 1)) := fun t ht => by
      by_cases z : t = T k
      · rw [z, pk_us, hV _ (hT k), nI_1, hcn]
      · rw [pk_un z, hV t ht, ctm]
        simp [show ¬ T k = t from fun w => z w.symm]
    have bad : ¬ rGd (oF Rt0) cap bud T k → ((∀ j, k ≤ j → j < n → rGd (oF Rt0) cap bud T j) → (-1 : Int32) = nI (rM (oF Rt0) T n)) := fun z w => absurd (w k (Nat.le_refl _) hk) z
    have nxt := so_eq hn ho hf hc6 hd9 hT hT2 r (k + 1) (upd V (T k) (V (T k) + 1)) (by omega) hV2
    have mv : rGd (oF Rt0) cap bud T k → ((∀ j, k ≤ j → j < n → rGd (oF Rt0) cap bud T j) ↔ (∀ j, k + 1 ≤ j → j < n → rGd (oF Rt0) cap bud T j)) := fun g => ⟨fun z j h1 h2 => z j (by omega) h2, fun z j h1 h2 => by
      by_cases w : j = k
      · rw [w]; exact g
      · exact z j (by omega) h2⟩
    rw [soL, eT, hV2 _ (hT k), hcn]
    by_cases q1 : nI (ctm (fun j => decide (T j = T k)) k + 1) ≤ nI cap
    · rw [if_pos q1]
      have q1 := (nI_leI (by omega) (by omega)).mp q1
      by_cases q0 : k = 0
      · rw [if_pos (show nI k ≤ 0 by rw [q0]; decide)]
        have g : rGd (oF Rt0) cap bud T k := ⟨by rw [hcn]; exact q1, by unfold rSt; rw [if_pos q0]; omega⟩
        have er : rM (oF Rt0) T k = rM (oF Rt0) T (k + 1) := by
          rw [rM]
          unfold rSt
          rw [if_pos q0]
          rfl
        rw [mv g, er]
        exact nxt
      · rw [if_neg (show ¬ nI k ≤ 0 by rw [show (0 : Int32) = nI 0 from rfl, nI_leI (by omega) (by omega)]; omega)]
        have ea : soA off T32 k = nI (rSt (oF Rt0) T k) := by
          unfold soA soD rSt
          rw [if_neg q0, eT, hT2 (k - 1) (by omega), ix_nI (by have := hT (k - 1); omega), show 6 * T (k - 1) + k - 1 = 6 * T (k - 1) + (k - 1) by omega, hf _ (hT k) k (by omega), hf _ (hT (k - 1)) (k - 1) (by omega)]
          exact (ab_I (ho _ (hT k) k (by omega)) (ho _ (hT (k - 1)) (k - 1) (by omega))).2
        rw [ea]
        by_cases q2 : nI (rSt (oF Rt0) T k) ≤ nI bud
        · rw [if_pos q2, nI_add]
          have q2 := (nI_leI (by omega) (by omega)).mp q2
          have g : rGd (oF Rt0) cap bud T k := ⟨by rw [hcn]; exact q1, q2⟩
          rw [mv g]
          exact nxt
        · rw [if_neg q2]
          have q2 : ¬ rSt (oF Rt0) T k ≤ bud := fun z => q2 ((nI_leI (by omega) (by omega)).mpr z)
          exact ⟨bad (fun z => q2 z.2), fun _ => rfl⟩
    · rw [if_neg q1]
      have q1 : ¬ ctm (fun j => decide (T j = T k)) k + 1 ≤ cap := fun z => q1 ((nI_leI (by omega) (by omega)).mpr z)
      exact ⟨bad (fun z => q1 (by rw [← hcn]; exact z.1)), fun _ => rfl⟩
theorem soZ_at (V : Nat → Int32) : soZ 4 0 V 0 = 0 ∧ soZ 4 0 V 1 = 0 ∧ soZ 4 0 V 2 = 0 ∧ soZ 4 0 V 3 = 0 := ⟨rfl, rfl, rfl, rfl⟩
theorem sum_eq {Rt0 : Nat → Nat → Int32} {off : Nat → Int32} {n q cap bud : Nat} (hn : n ≤ 6) (ho : ∀ t, t < 4 → ∀ y, y < 6 → bd (Rt0 t y) 999) (hf : ∀ t, t < 4 → ∀ y, y < 6 → off (6 * t + y) = Rt0 t y) (hc6 : cap ≤ 6) (hd9 : bud ≤ 1998) (T0 V : Nat → Int32) :
    (cOk Rt0 cap bud n q → (f7_sumOf off (lrL n q T0) (nI bud) (nI cap) n V).1 = nI (cS Rt0 n q)) ∧ (¬ cOk Rt0 cap bud n q → (f7_sumOf off (lrL n q T0) (nI bud) (nI cap) n V).1 = -1) := by
  have h := so_eq hn ho hf hc6 hd9 (T := dig n q) (T32 := lrL n q T0) (fun j => dig_4 n q j) (fun j hj => lr_dig n q T0 j hj) n 0 (soZ 4 0 V) (by omega) (fun t ht => by
    obtain ⟨a, b, g, d⟩ := soZ_at V
    rcases (show t = 0 ∨ t = 1 ∨ t = 2 ∨ t = 3 by omega) with rfl | rfl | rfl | rfl
    · rw [a]; rfl
    · rw [b]; rfl
    · rw [g]; rfl
    · rw [d]; rfl)
  exact ⟨fun z => h.1 (fun j _ hj => z j hj), fun z => h.2 (fun w => z (fun j hj => w j (by omega) hj))⟩
def rst (Rt0 : Nat → Nat → Int32) (cap bud n c : Nat) (b w : Int32) : Prop :=
  (b < 0 ∧ ∀ q, q < c → ¬ cOk Rt0 cap bud n q) ∨ ∃ b0, Bst (cOk Rt0 cap bud n) (cS Rt0 n) c b0 ∧ b = nI b0 ∧ w = nI (cS Rt0 n b0)
theorem rt_eq {Rt0 Z : Nat → Nat → Int32} {n cap bud : Nat} (hn : n ≤ 6) (ho : ∀ t, t < 4 → ∀ y, y < 6 → bd (Rt0 t y) 999) (hf : ∀ t, t < 4 → ∀ y, y < 6 → Z 9 (6 * t + y) = Rt0 t y) (hc : Z 12 4 = nI cap) (hc6 : cap ≤ 6) (hd : Z 12 3 = nI bud) (hd9 : bud ≤ 1998) : ∀ (r q : Nat) (b w : Int32) (T V : Nat → Int32), q + r = 4 ^ n → rst Rt0 cap bud n q b w →
    rst Rt0 cap bud n (4 ^ n) (rtL Z n r q b w T V).1 (rtL Z n r q b w T V).2.1 := by
  have n6 : 4 ^ n ≤ 4096 := (Nat.pow_le_pow_right (by decide) hn : 4 ^ n ≤ 4 ^ 6)
  have sB : ∀ x, cS Rt0 n x ≤ 11988 := fun x => by
    have := rM_b (T := dig n x) (fun j => dig_4 n x j) (ho_n ho) n hn
    unfold cS
    omega
  intro r
  induction r with
  | zero =>
    intro q b w T V e h
    rw [rtL]
    rw [show q = 4 ^ n by omega] at h
    exact h
  | succ r ih =>
    intro q b w T V e h
    obtain ⟨s1, s2⟩ := sum_eq (q := q) hn ho hf hc6 hd9 T V
    rw [rtL, hc, hd]
    by_cases q1 : cOk Rt0 cap bud n q
    · have b1 := sB q
      rw [s1 q1, if_neg (show ¬ nI (cS Rt0 n q) < 0 by rw [show (0 : Int32) = nI 0 from rfl, nI_ltI (by omega) (by omega)]; omega)]
      rcases h with ⟨a, g⟩ | ⟨b0, o, rfl, rfl⟩
      · rw [if_pos a]
        exact ih (q + 1) _ _ _ _ (by omega) (Or.inr ⟨q, bst_new (fun x hx h2 => absurd h2 (g x hx)) q1, rfl, rfl⟩)
      · have b2 := sB b0
        have := o.1
        rw [if_neg (show ¬ nI b0 < 0 by rw [show (0 : Int32) = nI 0 from rfl, nI_ltI (by omega) (by omega)]; omega)]
        by_cases q2 : nI (cS Rt0 n b0) ≤ nI (cS Rt0 n q)
        · rw [if_pos q2]
          have q2 := (nI_leI (by omega) (by omega)).mp q2
          refine ih (q + 1) _ _ _ _ (by omega) (Or.inr ⟨b0, bst_skip o (by omega) (fun x h1 h2 h3 => ?_), rfl, rfl⟩)
          rw [show x = q by omega]
          exact q2
        · rw [if_neg q2]
          have q2 : ¬ cS Rt0 n b0 ≤ cS Rt0 n q := fun z => q2 ((nI_leI (by omega) (by omega)).mpr z)
          exact ih (q + 1) _ _ _ _ (by omega) (Or.inr ⟨q, bst_new (fun x hx h2 => by have := o.2.2.1 x hx h2; omega) q1, rfl, rfl⟩)
    · rw [s2 q1, if_pos (by decide)]
      refine ih (q + 1) _ _ _ _ (by omega) ?_
      rcases h with ⟨a, g⟩ | ⟨b0, o, r1⟩
      · refine Or.inl ⟨a, fun x hx => ?_⟩
        by_cases z : x = q
        · rw [z]; exact q1
        · exact g x (by omega)
      · refine Or.inr ⟨b0, bst_skip o (by omega) (fun x h1 h2 h3 => ?_), r1⟩
        rw [show x = q by omega] at h3
        exact absurd h3 q1
theorem sim_route {Rt Z : Nat → Nat → Int32} (h : SimR Rt Z) (nn layer : Int32) : f6_route Rt nn layer = f7_route Z nn layer ∧ SimR (f6_route_Rt Rt nn layer) (f7_route_Z Z nn layer) := by
  obtain ⟨⟨⟨z3, z4⟩, ⟨b0, b1⟩, c0, c1⟩, hof, hrt, hus⟩ := id h
  unfold f6_route f7_route f6_route_Rt f7_route_Z
  by_cases q1 : f6_outside nn 1 6 = 0
  · have k1 := oi_p (a := 1) (b := 6) rfl rfl q1
    rw [if_pos q1, if_pos q1, if_neg k1, if_neg k1]
    by_cases q2 : f6_outside layer (-1) (nn - 1) = 0
    · have k2 := oi_p (a := -1) (b := (nn - 1).toInt64) rfl (Int32.toInt_toInt64 _) q2
      rw [if_pos q2, if_pos q2, if_neg k2, if_neg k2]
      obtain ⟨n, n1, n6, rfl⟩ := q_16 k1
      have hl := q_lay n1 n6 k2
      rw [ix_nI (by omega)]
      obtain ⟨cap, hc, hc6⟩ : ∃ cap : Nat, Rt 7 1 = nI cap ∧ cap ≤ 6 := ⟨(Rt 7 1).toInt.toNat, Int32.toInt_inj.mp (by rw [nI_toInt (by omega)]; omega), by omega⟩
      obtain ⟨bud, hd, hd9⟩ : ∃ bud : Nat, Rt 7 0 = nI bud ∧ bud ≤ 1998 := ⟨(Rt 7 0).toInt.toNat, Int32.toInt_inj.mp (by rw [nI_toInt (by omega)]; omega), by omega⟩
      have ho : ∀ t, t < 4 → ∀ y, y < 6 → bd (uM Rt 7 (upd (Rt 7) 2 (-1)) t y) 999 := fun t ht y hy => by
        obtain ⟨-, x0, x1, x2, x3⟩ := hof y hy
        rw [uM_ne _ _ (by omega)]
        rcases (show t = 0 ∨ t = 1 ∨ t = 2 ∨ t = 3 by omega) with rfl | rfl | rfl | rfl
        · exact x0
        · exact x1
        · exact x2
        · exact x3
      have hf : ∀ t, t < 4 → ∀ y, y < 6 → Z 9 (6 * t + y) = uM Rt 7 (upd (Rt 7) 2 (-1)) t y := fun t ht y hy => by
        obtain ⟨⟨x0, x1, x2, x3⟩, -⟩ := hof y hy
        rw [uM_ne _ _ (by omega)]
        rcases (show t = 0 ∨ t = 1 ∨ t = 2 ∨ t = 3 by omega) with rfl | rfl | rfl | rfl
        · rw [show 6 * 0 + y = y by omega]; exact x0
        · exact x1
        · exact x2
        · exact x3
      have Q := send_eq (Rt0 := uM Rt 7 (upd (Rt 7) 2 (-1))) (n := n) n6 ho hc hc6 hd hd9 n 0 0 (uM Rt 7 (upd (Rt 7) 2 (-1))) (by omega) (fun j hj => absurd hj (Nat.not_lt_zero _)) ⟨fun t ht => rfl, rfl, rfl, fun j hj => absurd hj (Nat.not_lt_zero _), fun t ht => hus t ht⟩ (Or.inl ⟨rfl, fun q hq => by rw [Nat.zero_mul] at hq; omega⟩)
      have eM : sdS n n 0 (nI (rM (oF (uM Rt 7 (upd (Rt 7) 2 (-1)))) (dig 0 0) 0)) (uM Rt 7 (upd (Rt 7) 2 (-1))) = f4_make n Rt := rfl
      rw [eM, show (0 + 1) * 4 ^ n = 4 ^ n by omega] at Q
      obtain ⟨⟨i1, i2, i3, -, i5⟩, Q⟩ := Q
      have R := rt_eq (Z := Z) n6 ho hf (by rw [z4]; exact hc) hc6 (by rw [z3]; exact hd) hd9 (4 ^ n) 0 (-1) 0 (Z 10) (Z 11) (by omega) (Or.inl ⟨by decide, fun q hq => absurd hq (Nat.not_lt_zero _)⟩)
      have p2 : (2 : Nat) ^ (2 * n) = 4 ^ n := by rw [Nat.pow_mul]
      rw [p2]
      have n46 : 4 ^ n ≤ 4096 := (Nat.pow_le_pow_right (by decide) n6 : 4 ^ n ≤ 4 ^ 6)
      have hR : ∀ Z' : Nat → Nat → Int32, Z' 12 = Z 12 → Z' 9 = Z 9 → SimR (f4_make n Rt) Z' := fun Z' e12 e9 => by
        have f7 : f4_make n Rt 7 0 = Rt 7 0 := i2
        have f71 : f4_make n Rt 7 1 = Rt 7 1 := i3
        have ft : ∀ t, t < 4 → f4_make n Rt t = Rt t := fun t ht => by rw [i1 t ht, uM_ne _ _ (by omega)]
        unfold SimR
        rw [f7, f71, e12, e9, ft 0 (by decide), ft 1 (by decide), ft 2 (by decide), ft 3 (by decide)]
        exact ⟨⟨⟨z3, z4⟩, ⟨b0, b1⟩, c0, c1⟩, hof, sdS_ok n n 0 0 _ hrt, fun t ht => i5 t ht⟩
      rcases R with ⟨a, g⟩ | ⟨b, o, e1, e2⟩
      · have hr : ¬ 0 ≤ (rtL Z n (4 ^ n) 0 (-1) 0 (Z 10) (Z 11)).1 := fun z => by
          have x1 := Int32.lt_iff_toInt_lt.mp a
          have x2 := Int32.le_iff_toInt_le.mp z
          omega
        rw [if_neg hr, if_neg hr]
        rcases Q with ⟨a2, -⟩ | ⟨b2, o2, -⟩
        · unfold f4_ok
          rw [if_pos (show (if f4_make n Rt 7 2 = (-1) then (0 : Int32) else 1) = 0 by rw [if_pos a2])]
          exact ⟨rfl, hR _ rfl rfl⟩
        · exact absurd o2.2.1 (g b2 o2.1)
      · rcases Q with ⟨a2, g2⟩ | ⟨b2, o2, x1, x2⟩
        · exact absurd o.2.1 (g2 b o.1)
        · have eb := bst_uniq o o2
          subst eb
          have sB := rM_b (T := dig n b) (fun j => dig_4 n b j) (ho_n ho) n n6
          have sB : cS (uM Rt 7 (upd (Rt 7) 2 (-1))) n b ≤ 11988 := by unfold cS; omega
          have := o.1
          have hr : 0 ≤ (rtL Z n (4 ^ n) 0 (-1) 0 (Z 10) (Z 11)).1 := by rw [e1, show (0 : Int32) = nI 0 from rfl, nI_leI (by omega) (by omega)]; omega
          rw [if_pos hr, if_pos hr]
          have hk : ¬ f4_ok (f4_make n Rt) = 0 := by
            unfold f4_ok
            rw [x1, if_neg (nI_nm1 (by omega))]
            decide
          rw [if_neg hk]
          refine ⟨?_, hR _ rfl rfl⟩
          rcases hl with rfl | ⟨k, hk, rfl⟩
          · rw [if_pos rfl, if_neg (by decide), x1, e2]
          · rw [if_neg (show ¬ nI k = -1 from fun z => by have := congrArg Int32.toInt z; rw [nI_toInt (by omega), show (-1 : Int32).toInt = -1 from rfl] at this; omega), if_pos (show 0 ≤ nI k by rw [show (0 : Int32) = nI 0 from rfl, nI_leI (by omega) (by omega)]; omega), ix_nI (by omega), x2 k hk, e1, ix_nI (by omega), lr_dig n b _ k hk]
    · have k2 := oi_n (a := -1) (b := (nn - 1).toInt64) rfl (Int32.toInt_toInt64 _) q2
      rw [if_neg q2, if_neg q2, if_pos k2, if_pos k2]
      exact ⟨rfl, h⟩
  · have k1 := oi_n (a := 1) (b := 6) rfl rfl q1
    rw [if_neg q1, if_neg q1, if_pos k1, if_pos k1]
    exact ⟨rfl, h⟩
