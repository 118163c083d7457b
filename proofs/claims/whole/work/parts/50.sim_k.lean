/-! plan: the reference's walk -/
theorem mk_rel {M : Nat → Nat → Int32} {model : Int32} {s N : Nat} (hs : s < 4096) (hN : N ≤ 12) (T0 : Nat → Int64) : RelI (mkT M model (nI s) N 0 (f5_clear_T T0 model)) (pG M model N s) := by
  have loop : ∀ (n k : Nat) (T : Nat → Int64), k + n = N → RelI T (gK (pX M model) (pY M model) (gC model) s k) → RelI (mkT M model (nI s) n k T) (pG M model N s) := by
    intro n
    induction n with
    | zero =>
      intro k T e hT
      rw [mkT]
      unfold pG
      rw [show N = k by omega]
      exact hT
    | succ n ih =>
      intro k T e hT
      rw [mkT]
      have hi := g_isIn (s := s) (k := k) hs (by omega)
      cases hc : s.testBit k
      · rw [if_pos (hi.mpr hc)]
        exact ih (k + 1) T (by omega) (by rw [gK, hc]; exact hT)
      · rw [if_neg (fun z => by rw [hi.mp z] at hc; cases hc)]
        exact ih (k + 1) _ (by omega) (by rw [gK, hc]; exact RelI_add hT _ _)
  exact loop N 0 _ (by omega) (RelI_C T0 model)
theorem woV_0 (pl : Nat → Int32) (V : Nat → Int64) (j : Nat) : woV pl V 0 j 9 0 0 = 0 + f7_term pl 0 j 0 * V 0 * f7_term pl 0 j 0 + 0 + 0 + 0 + 0 + 0 + 0 + 0 + 0 := rfl
theorem woV_1 (pl : Nat → Int32) (V : Nat → Int64) (j : Nat) : woV pl V 1 j 9 0 0 = 0 + f7_term pl 1 j 0 * V 0 * f7_term pl 1 j 0 + f7_term pl 1 j 0 * V 1 * f7_term pl 1 j 1 + f7_term pl 1 j 0 * V 2 * f7_term pl 1 j 2 + f7_term pl 1 j 1 * V 3 * f7_term pl 1 j 0 + f7_term pl 1 j 1 * V 4 * f7_term pl 1 j 1 + f7_term pl 1 j 1 * V 5 * f7_term pl 1 j 2 + f7_term pl 1 j 2 * V 6 * f7_term pl 1 j 0 + f7_term pl 1 j 2 * V 7 * f7_term pl 1 j 1 + f7_term pl 1 j 2 * V 8 * f7_term pl 1 j 2 := rfl
theorem woV_2 (pl : Nat → Int32) (V : Nat → Int64) (j : Nat) : woV pl V 2 j 9 0 0 = 0 + f7_term pl 2 j 0 * V 0 * f7_term pl 2 j 0 + f7_term pl 2 j 0 * V 1 * f7_term pl 2 j 1 + f7_term pl 2 j 0 * V 2 * f7_term pl 2 j 2 + f7_term pl 2 j 1 * V 3 * f7_term pl 2 j 0 + f7_term pl 2 j 1 * V 4 * f7_term pl 2 j 1 + f7_term pl 2 j 1 * V 5 * f7_term pl 2 j 2 + f7_term pl 2 j 2 * V 6 * f7_term pl 2 j 0 + f7_term pl 2 j 2 * V 7 * f7_term pl 2 j 1 + f7_term pl 2 j 2 * V 8 * f7_term pl 2 j 2 := rfl
theorem woV_12 (pl : Nat → Int32) (V : Nat → Int64) {model : Int32} (hm : model = 1 ∨ model = 2) (j : Nat) : woV pl V model j 9 0 0 = 0 + f7_term pl model j 0 * V 0 * f7_term pl model j 0 + f7_term pl model j 0 * V 1 * f7_term pl model j 1 + f7_term pl model j 0 * V 2 * f7_term pl model j 2 + f7_term pl model j 1 * V 3 * f7_term pl model j 0 + f7_term pl model j 1 * V 4 * f7_term pl model j 1 + f7_term pl model j 1 * V 5 * f7_term pl model j 2 + f7_term pl model j 2 * V 6 * f7_term pl model j 0 + f7_term pl model j 2 * V 7 * f7_term pl model j 1 + f7_term pl model j 2 * V 8 * f7_term pl model j 2 := by
  rcases hm with rfl | rfl
  · exact woV_1 pl V j
  · exact woV_2 pl V j
theorem wo_form {M Z : Nat → Nat → Int32} {N lm om : Nat} (h : SimM M Z N lm om) {model : Int32} (hm : model = 0 ∨ model = 1 ∨ model = 2) {V U : Nat → Int64} {d : Int64} (hV : RelV V d U) {j : Nat} (hj : j < N) : woV (Z 0) V model j 9 0 0 = f5_form U (f2_second M model j).toInt64 (f2_third M model j).toInt64 := by
  obtain ⟨⟨v0, v1, v2, v3, v4, v5, v6, v7, v8⟩, -⟩ := hV
  unfold f5_form
  rcases hm with rfl | hm
  · rw [woV_0, t_0, v0, show (f2_second M 0 j).toInt64 = 0 from rfl, show (f2_third M 0 j).toInt64 = 0 from rfl]
    grind
  · rw [woV_12 _ _ hm, t_0, t_1 h hm hj, t_2 h hm hj, v0, v1, v2, v3, v4, v5, v6, v7, v8]
    unfold tX tY
    grind
theorem worst_I {M Z : Nat → Nat → Int32} {N lm om : Nat} (h : SimM M Z N lm om) {model : Int32} (hm : model = 0 ∨ model = 1 ∨ model = 2) {s : Nat} (hs : s < 2 ^ N) (Y : Nat → Nat → Int64) :
    f7_worstOf (Z 0) (f7_lay (Z 0) Y model (nI s) (ntOf model) N 1) model N = Int64.ofInt (pW M model N s) ∧ f7_lay (Z 0) Y model (nI s) (ntOf model) N 5 0 = Int64.ofInt (pD M model N s) := by
  have hN := h.1.1
  have h4 := lt4096 hs hN
  have hT := mk_rel (M := M) (model := model) (s := s) h4 hN (fun _ => 0)
  have hV := rel_det h hm h4 (fun _ _ => 0) Y
  have hV : RelV (f7_lay (Z 0) Y model (nI s) (ntOf model) N 1) (f7_lay (Z 0) Y model (nI s) (ntOf model) N 5 0) (f5_turn_T (mkT M model (nI s) N 0 (f5_clear_T (fun _ => 0) model))) := hV
  refine ⟨?_, hV.2.trans (turn_I hT).2.2.2.2.2.2⟩
  have loop : ∀ n k, k + n = N → woL (Z 0) (f7_lay (Z 0) Y model (nI s) (ntOf model) N 1) model n k (Int64.ofInt (wK (pX M model) (pY M model) (pG M model N s) k)) = Int64.ofInt (pW M model N s) := by
    intro n
    induction n with
    | zero =>
      intro k e
      rw [woL, show k = N by omega]
      rfl
    | succ n ih =>
      intro k e
      have b1 := (p_Wk h model s (show k ≤ N by omega)).2
      have b2 := af_b h.1.1 (p_good h model s).2 (bd_second h model (show k < N by omega)).1 (bd_second h model (show k < N by omega)).2
      unfold bN at b1 b2
      rw [woL, wo_form h hm hV (show k < N by omega), form_I hT, max_eq, max_I (by omega) (by omega)]
      exact ih (k + 1) (by omega)
  exact loop N 0 (by omega)
def pSf (M : Nat → Nat → Int32) (model : Int32) (N : Nat) (A : Nat → Prop) (b : Int32) (u w : Int64) : Prop :=
  (b < 0 ∧ ∀ t, A t → ¬ 0 < pD M model N t) ∨ ∃ b0, Opt (pW M model N) (pD M model N) A b0 ∧ b0 < 2 ^ N ∧ b = nI b0 ∧ u = Int64.ofInt (pW M model N b0) ∧ w = Int64.ofInt (pD M model N b0)
theorem pSf_cong {M : Nat → Nat → Int32} {model : Int32} {N : Nat} {A B : Nat → Prop} {b : Int32} {u w : Int64} (h : pSf M model N A b u w) (hB : ∀ t, B t ↔ A t) : pSf M model N B b u w := by
  rcases h with ⟨a, g⟩ | ⟨b0, o, r⟩
  · exact Or.inl ⟨a, fun t ht => g t ((hB t).mp ht)⟩
  · exact Or.inr ⟨b0, opt_cong o hB, r⟩
theorem nI_nn {b : Nat} (h : b < 4096) : ¬ nI b < 0 := by
  rw [show (0 : Int32) = nI 0 from rfl, nI_ltI (by omega) (by omega)]
  omega
theorem pl_eq {M Z : Nat → Nat → Int32} {N lm om : Nat} (h : SimM M Z N lm om) {model : Int32} (hm : model = 0 ∨ model = 1 ∨ model = 2) {K : Nat} (hK : K ≤ 12) : ∀ (n q : Nat) (b : Int32) (u w : Int64) (Y : Nat → Nat → Int64), q + n = 2 ^ N → pSf M model N (fun t => t < q ∧ ctm (fun j => t.testBit j) N = K) b u w →
    pSf M model N (fun t => t < 2 ^ N ∧ ctm (fun j => t.testBit j) N = K) (plL (Z 0) (nI K) model (ntOf model) N n q b u w Y).1 (plL (Z 0) (nI K) model (ntOf model) N n q b u w Y).2.1 (plL (Z 0) (nI K) model (ntOf model) N n q b u w Y).2.2.1 := by
  have hN := h.1.1
  intro n
  induction n with
  | zero =>
    intro q b u w Y e hst
    rw [plL]
    rw [show q = 2 ^ N by omega] at hst
    exact hst
  | succ n ih =>
    intro q b u w Y e hst
    have hq : q < 2 ^ N := by omega
    have q4 := lt4096 hq hN
    have e1 : f7_bits (nI q) = nI (ctm (fun j => q.testBit j) N) := by
      rw [g_bitsE q4, ctm_le (p := fun j => q.testBit j) (N := N) (fun k hk => tb_big hq hk) 12 hN]
    have hcl : ctm (fun j => q.testBit j) N ≤ N := by
      have := (ctm_up (p := fun j => q.testBit j) (k := 0) N (by omega)).2
      have h0 : ctm (fun j => q.testBit j) 0 = 0 := rfl
      omega
    rw [plL, e1]
    by_cases qc : ctm (fun j => q.testBit j) N = K
    · rw [if_pos (by rw [qc])]
      have hB : ∀ t, (t < q + 1 ∧ ctm (fun j => t.testBit j) N = K) ↔ ((t < q ∧ ctm (fun j => t.testBit j) N = K) ∨ t = q) := fun t => by
        constructor
        · rintro ⟨a, g⟩
          by_cases z : t = q
          · exact Or.inr z
          · exact Or.inl ⟨by omega, g⟩
        · rintro (⟨a, g⟩ | rfl)
          · exact ⟨by omega, g⟩
          · exact ⟨by omega, qc⟩
      obtain ⟨eW, eD⟩ := worst_I h hm hq Y
      have dp := (p_D h model q).1
      have dI : (Int64.ofInt (pD M model N q)).toInt = pD M model N q := oT (by have := (p_D h model q).2; unfold bN at this; omega)
      rw [eW, eD]
      by_cases z : Int64.ofInt (pD M model N q) = 0
      · rw [if_pos z]
        have hz : pD M model N q = 0 := by rw [← dI, z]; rfl
        refine ih (q + 1) b u w _ (by omega) ?_
        rcases hst with ⟨a, g⟩ | ⟨b0, o, r⟩
        · refine Or.inl ⟨a, fun t ht => ?_⟩
          rcases (hB t).mp ht with y | y
          · exact g t y
          · rw [y]; omega
        · exact Or.inr ⟨b0, opt_keep o hB (fun y => by omega), r⟩
      · rw [if_neg z]
        have hp : 0 < pD M model N q := by
          have : pD M model N q ≠ 0 := fun y => z (by rw [y]; rfl)
          omega
        rcases hst with ⟨a, g⟩ | ⟨b0, o, bl, rfl, rfl, rfl⟩
        · rw [if_pos a]
          exact ih (q + 1) _ _ _ _ (by omega) (Or.inr ⟨q, opt_first g hB hp, hq, rfl, rfl, rfl⟩)
        · rw [if_neg (nI_nn (lt4096 bl hN)), oM, oM, oS]
          have m1 := mul_62 (p_W h model q).2 (p_D h model b0).2
          have m2 := mul_62 (p_W h model b0).2 (p_D h model q).2
          have hbn : bN (pW M model N q * pD M model N b0 - pW M model N b0 * pD M model N q) (21925442 * 163625406 + 21925442 * 163625406) := bN_sub (bN_mul (p_W h model q).2 (p_D h model b0).2) (bN_mul (p_W h model b0).2 (p_D h model q).2)
          unfold bN at hbn
          have tI := oT (a := pW M model N q * pD M model N b0 - pW M model N b0 * pD M model N q) (by omega)
          have hlt := Int64.lt_iff_toInt_lt (x := Int64.ofInt (pW M model N q * pD M model N b0 - pW M model N b0 * pD M model N q)) (y := 0)
          rw [tI, show (0 : Int64).toInt = 0 from rfl] at hlt
          by_cases y : Int64.ofInt (pW M model N q * pD M model N b0 - pW M model N b0 * pD M model N q) < 0
          · rw [if_pos y]
            have := hlt.mp y
            exact ih (q + 1) _ _ _ _ (by omega) (Or.inr ⟨q, opt_new o hB hp (Or.inl (by omega)), hq, rfl, rfl, rfl⟩)
          · rw [if_neg y]
            have y2 : ¬ pW M model N q * pD M model N b0 - pW M model N b0 * pD M model N q < 0 := fun x => y (hlt.mpr x)
            by_cases v : Int64.ofInt (pW M model N q * pD M model N b0 - pW M model N b0 * pD M model N q) = 0
            · rw [if_pos v]
              have v2 : pW M model N q * pD M model N b0 - pW M model N b0 * pD M model N q = 0 := by rw [← tI, v]; rfl
              have ha := isAhead_iff q4 (lt4096 bl hN)
              by_cases f : f7_isAhead (nI q) (nI b0) = 0
              · rw [if_pos f]
                refine ih (q + 1) _ _ _ _ (by omega) (Or.inr ⟨b0, opt_keep o hB (fun _ => Or.inr ⟨by omega, ?_⟩), bl, rfl, rfl, rfl⟩)
                have hne : q ≠ b0 := by have := o.1.1; omega
                exact (ahead_to hne).resolve_left (fun x => ha.mpr x f)
              · rw [if_neg f]
                exact ih (q + 1) _ _ _ _ (by omega) (Or.inr ⟨q, opt_new o hB hp (Or.inr ⟨by omega, ha.mp f⟩), hq, rfl, rfl, rfl⟩)
            · rw [if_neg v]
              have v2 : pW M model N q * pD M model N b0 - pW M model N b0 * pD M model N q ≠ 0 := fun x => v (by rw [x]; rfl)
              exact ih (q + 1) _ _ _ _ (by omega) (Or.inr ⟨b0, opt_keep o hB (fun _ => Or.inl (by omega)), bl, rfl, rfl, rfl⟩)
    · rw [if_neg (fun z => qc ((nI_eq (by omega) (by omega)).mp z))]
      refine ih (q + 1) b u w Y (by omega) (pSf_cong hst (fun t => ?_))
      constructor
      · rintro ⟨a, g⟩
        refine ⟨?_, g⟩
        by_cases z : t = q
        · rw [z] at g; exact absurd g qc
        · omega
      · rintro ⟨a, g⟩
        exact ⟨by omega, g⟩
theorem sim_plan {M Z : Nat → Nat → Int32} {N lm om : Nat} (h : SimM M Z N lm om) (Pt Y : Nat → Nat → Int64) (pi : Nat → Int32) (kk model what : Int32) : f6_plan M Pt pi N kk model what = f7_plan Z Y N kk model what := by
  have hN := h.1.1
  unfold f6_plan f7_plan
  by_cases q1 : f6_outside kk 1 6 = 0
  · have k1 := oi_p (a := 1) (b := 6) rfl rfl q1
    have r1 := q_out.mp q1
    rw [if_pos q1, if_neg k1]
    by_cases q2 : f6_outside model 0 2 = 0
    · have k2 := (model_in model).mp q2
      rw [if_pos q2, if_neg k2]
      by_cases q3 : f6_outside what 0 2 = 0
      · have k3 := oi_p (a := 0) (b := 2) rfl rfl q3
        rw [if_pos q3, if_neg k3]
        obtain ⟨K, hK1, hK6, rfl⟩ : ∃ K : Nat, 1 ≤ K ∧ K ≤ 6 ∧ kk = nI K := by
          have a : (1 : Int) ≤ kk.toInt := r1.1
          have b : kk.toInt ≤ (6 : Int) := r1.2
          refine ⟨kk.toInt.toNat, by omega, by omega, Int32.toInt_inj.mp ?_⟩
          rw [nI_toInt (by omega)]
          omega
        rw [ix_nI (by omega)]
        have e0 : (2 : Nat) ^ N = 0 + 2 ^ N := by omega
        have R := pl_eq h (q_model k2) (K := K) (by omega) (2 ^ N) 0 (-1) 0 1 Y (by omega) (Or.inl ⟨by decide, fun t ht => absurd ht.1 (by omega)⟩)
        have Q := walk_eq h (model := model) (K := K) hK1 K 0 0 (fun _ => False) (uM Pt 0 (f5_clear_T (Pt 0) model)) (upd (upd pi 0 model) 1 0) (by decide) (by omega) (by show 0 + K = K; omega) (by
          show RelI (f5_clear_T (Pt 0) model) (gK (pX M model) (pY M model) (gC model) 0 N)
          rw [gK_up (k := 0) (by decide) N (by omega)]
          exact RelI_C _ _) rfl (Or.inl ⟨rfl, fun t ht => ht.elim⟩) (fun a ha => ha.elim)
        have Q := Q.2.2
        rw [show chS M N K 0 (nI 0) (uM Pt 0 (f5_clear_T (Pt 0) model)) (upd (upd pi 0 model) 1 0) = f3_make M N K model Pt pi from rfl] at Q
        have Q := pSt_cong (B := fun t => t < 2 ^ N ∧ ctm (fun j => t.testBit j) N = K) Q (fun t => ⟨fun z => Or.inr ⟨z.1, z.2, fun j hj => by omega⟩, fun z => z.elim (fun z => z.elim) (fun z => ⟨z.1, z.2.1⟩)⟩) rfl
        rcases R with ⟨a, g⟩ | ⟨b, o, bl, e1, e2, e3⟩
        · have hr : ¬ 0 ≤ (plL (Z 0) (nI K) model (ntOf model) N (2 ^ N) 0 (-1) 0 1 Y).1 := fun z => by
            have x1 := Int32.lt_iff_toInt_lt.mp a
            have x2 := Int32.le_iff_toInt_le.mp z
            omega
          rw [if_neg hr]
          rcases Q with ⟨a2, -⟩ | ⟨b2, o2, -⟩
          · unfold f3_ok
            rw [if_pos (show (if (f3_make M N K model Pt pi).2 1 = 0 then (0 : Int32) else 1) = 0 by rw [if_pos a2])]
          · exact absurd o2.2.1 (g b2 o2.1)
        · have b4 := lt4096 bl hN
          rcases Q with ⟨a2, g2⟩ | ⟨b2, o2, b0, bl2, x1, x2, x3⟩
          · exact absurd o.2.1 (g2 b o.1)
          · have eb := opt_uniq o o2
            subst eb
            have hd0 : ¬ Int64.ofInt (pD M model N b) = 0 := fun z => by
              have := congrArg Int64.toInt z
              rw [oT (by have := (p_D h model b).2; unfold bN at this; omega), show (0 : Int64).toInt = 0 from rfl] at this
              have := o.2.1
              omega
            unfold f3_ok
            rw [x1, x2, x3, e1, e2, e3, if_neg (show ¬ (if nI b = 0 then (0 : Int32) else 1) = 0 by rw [if_neg (p_ne0 b0 b4)]; decide), if_pos (show 0 ≤ nI b by rw [Int32.le_iff_toInt_le, nI_toInt (by omega)]; exact Int.natCast_nonneg b)]
            by_cases q4 : what = 0
            · rw [if_pos q4, if_pos q4]
            · rw [if_neg q4, if_neg q4, share_eq _ hd0]
      · rw [if_neg q3, if_pos (oi_n (a := 0) (b := 2) rfl rfl q3)]
    · rw [if_neg q2, if_pos (model_n q2)]
  · rw [if_neg q1, if_pos (oi_n (a := 1) (b := 6) rfl rfl q1)]
