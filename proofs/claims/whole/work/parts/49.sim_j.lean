/-! plan: the class's walk -/
def pX (M : Nat → Nat → Int32) (model : Int32) (k : Nat) : Int := (f2_second M model k).toInt
def pY (M : Nat → Nat → Int32) (model : Int32) (k : Nat) : Int := (f2_third M model k).toInt
def pG (M : Nat → Nat → Int32) (model : Int32) (N s : Nat) : Nat → Int := gK (pX M model) (pY M model) (gC model) s N
def pD (M : Nat → Nat → Int32) (model : Int32) (N s : Nat) : Int := dt (pG M model N s)
def pW (M : Nat → Nat → Int32) (model : Int32) (N s : Nat) : Int := wK (pX M model) (pY M model) (pG M model N s) N
theorem p_good {M Z : Nat → Nat → Int32} {N lm om : Nat} (h : SimM M Z N lm om) (model : Int32) (s : Nat) : PSD (pG M model N s) ∧ GB N (pG M model N s) := gK_good (PSD_C model) (GB_C model) N (fun _ hk => bd_second h model hk)
theorem p_D {M Z : Nat → Nat → Int32} {N lm om : Nat} (h : SimM M Z N lm om) (model : Int32) (s : Nat) : 0 ≤ pD M model N s ∧ bN (pD M model N s) 163625406 := ⟨(p_good h model s).1.2.2, bN_dt h.1.1 (p_good h model s).2⟩
theorem p_Wk {M Z : Nat → Nat → Int32} {N lm om : Nat} (h : SimM M Z N lm om) (model : Int32) (s : Nat) {k : Nat} (hk : k ≤ N) : 0 ≤ wK (pX M model) (pY M model) (pG M model N s) k ∧ bN (wK (pX M model) (pY M model) (pG M model N s) k) 21925442 := wK_b (p_good h model s).1 h.1.1 (p_good h model s).2 k (fun _ hj => bd_second h model (by omega))
theorem p_W {M Z : Nat → Nat → Int32} {N lm om : Nat} (h : SimM M Z N lm om) (model : Int32) (s : Nat) : 0 ≤ pW M model N s ∧ bN (pW M model N s) 21925442 := p_Wk h model s (Nat.le_refl _)
theorem mul_62 {a b : Int} (ha : bN a 21925442) (hb : bN b 163625406) : (a * b).natAbs < 2 ^ 62 := by
  have := bN_mul ha hb
  unfold bN at this
  omega
theorem form_I {T : Nat → Int64} {G : Nat → Int} (h : RelI T G) (x y : Int32) : f5_form (f5_turn_T T) x.toInt64 y.toInt64 = Int64.ofInt (af G 1 x.toInt y.toInt) := by
  obtain ⟨u6, u7, u8, u9, u10, u11, u12⟩ := turn_I h
  unfold f5_form
  rw [u6, u7, u8, u9, u10, u11, oI, oI, show (2 : Int64) = Int64.ofInt 2 from rfl]
  simp only [oM, oA]
  unfold af
  simp only [Int.one_mul, Int.mul_one]
theorem RelI_turn {T : Nat → Int64} {G : Nat → Int} (h : RelI T G) : RelI (f5_turn_T T) G := by
  obtain ⟨c0, c1, c2, c3, c4, c5⟩ := h
  obtain ⟨u0, u1, u2, u3, u4, u5, -⟩ := turn_at T
  exact ⟨u0.trans c0, u1.trans c1, u2.trans c2, u3.trans c3, u4.trans c4, u5.trans c5⟩
theorem RelI_sub {T : Nat → Int64} {G : Nat → Int} (x y : Int32) (h : RelI T (gAdd G x.toInt y.toInt)) : RelI (f5_add_T T x.toInt64 y.toInt64 (-1)) G := by
  obtain ⟨b0, b1, b2, b3, b4, b5⟩ := add_at T x.toInt64 y.toInt64 (-1)
  obtain ⟨c0, c1, c2, c3, c4, c5⟩ := h
  obtain ⟨h0, h1, h2, h3, h4, h5⟩ := gAdd_at G x.toInt y.toInt
  unfold RelI
  rw [b0, b1, b2, b3, b4, b5, c0, c1, c2, c3, c4, c5, h0, h1, h2, h3, h4, h5, show (-1 : Int32).toInt64 = Int64.ofInt (-1) from rfl, oI x, oI y]
  simp only [oM, oA]
  refine ⟨?_, ?_, ?_, ?_, ?_, ?_⟩ <;> congr 1 <;> grind
theorem wg_0 {M Z : Nat → Nat → Int32} {N lm om : Nat} (h : SimM M Z N lm om) {model : Int32} {s : Nat} {T : Nat → Int64} (hT : RelI T (pG M model N s)) (bu bl : Int64) : ∀ n k, k + n = N → wgL M model (f5_turn_T T) bu bl 0 n k (Int64.ofInt (wK (pX M model) (pY M model) (pG M model N s) k)) = (1, Int64.ofInt (pW M model N s))
  | 0, k, e => by rw [wgL, show k = N by omega]; rfl
  | n + 1, k, e => by
    have b1 := (p_Wk h model s (show k ≤ N by omega)).2
    have b2 := af_b h.1.1 (p_good h model s).2 (bd_second h model (show k < N by omega)).1 (bd_second h model (show k < N by omega)).2
    unfold bN at b1 b2
    rw [wgL, if_pos rfl, form_I hT, max_I (by omega) (by omega)]
    exact wg_0 h hT bu bl n (k + 1) (by omega)
theorem wg_n {M Z : Nat → Nat → Int32} {N lm om : Nat} (h : SimM M Z N lm om) {model : Int32} {s b : Nat} {T : Nat → Int64} (hT : RelI T (pG M model N s)) {best : Int32} (hb : ¬ best = 0) : ∀ n k, k + n = N → (0 < n ∨ wK (pX M model) (pY M model) (pG M model N s) k * pD M model N b < pW M model N b * pD M model N s) →
    (pW M model N s * pD M model N b < pW M model N b * pD M model N s ∧ wgL M model (f5_turn_T T) (Int64.ofInt (pW M model N b)) (Int64.ofInt (pD M model N b)) best n k (Int64.ofInt (wK (pX M model) (pY M model) (pG M model N s) k)) = (1, Int64.ofInt (pW M model N s))) ∨
    (¬ pW M model N s * pD M model N b < pW M model N b * pD M model N s ∧ (wgL M model (f5_turn_T T) (Int64.ofInt (pW M model N b)) (Int64.ofInt (pD M model N b)) best n k (Int64.ofInt (wK (pX M model) (pY M model) (pG M model N s) k))).1 = 0)
  | 0, k, e, hk => by
    have hk := hk.resolve_left (by omega)
    have ek : k = N := by omega
    subst ek
    exact Or.inl ⟨hk, rfl⟩
  | n + 1, k, e, hk => by
    have b1 := (p_Wk h model s (show k ≤ N by omega)).2
    have b2 := af_b h.1.1 (p_good h model s).2 (bd_second h model (show k < N by omega)).1 (bd_second h model (show k < N by omega)).2
    have b3 := (p_Wk h model s (show k + 1 ≤ N by omega)).2
    have m1 := mul_62 b3 (p_D h model b).2
    have m2 := mul_62 (p_W h model b).2 (p_D h model s).2
    unfold bN at b1 b2
    rw [wgL, if_neg hb, form_I hT, max_I (by omega) (by omega), (turn_I hT).2.2.2.2.2.2, oM, oM]
    have ew : (if wK (pX M model) (pY M model) (pG M model N s) k < af (pG M model N s) 1 (f2_second M model k).toInt (f2_third M model k).toInt then af (pG M model N s) 1 (f2_second M model k).toInt (f2_third M model k).toInt else wK (pX M model) (pY M model) (pG M model N s) k) = wK (pX M model) (pY M model) (pG M model N s) (k + 1) := rfl
    rw [ew]
    have hlt := Int64.lt_iff_toInt_lt (x := Int64.ofInt (wK (pX M model) (pY M model) (pG M model N s) (k + 1) * pD M model N b)) (y := Int64.ofInt (pW M model N b * dt (pG M model N s)))
    rw [oT m1, oT (show (pW M model N b * dt (pG M model N s)).natAbs < 2 ^ 62 from m2)] at hlt
    by_cases q : Int64.ofInt (wK (pX M model) (pY M model) (pG M model N s) (k + 1) * pD M model N b) < Int64.ofInt (pW M model N b * dt (pG M model N s))
    · rw [if_pos q]
      exact wg_n h hT hb n (k + 1) (by omega) (Or.inr (hlt.mp q))
    · rw [if_neg q]
      refine Or.inr ⟨fun z => q (hlt.mpr ?_), rfl⟩
      have hm : wK (pX M model) (pY M model) (pG M model N s) (k + 1) * pD M model N b ≤ pW M model N s * pD M model N b := Int.mul_le_mul_of_nonneg_right (wK_mono N (by omega)) (p_D h model b).1
      exact Int.lt_of_le_of_lt hm z
/-- what the planner holds -/
def pSt (M : Nat → Nat → Int32) (model : Int32) (N : Nat) (A : Nat → Prop) (Pt : Nat → Nat → Int64) (pi : Nat → Int32) : Prop :=
  (pi 1 = 0 ∧ ∀ t, A t → ¬ 0 < pD M model N t) ∨ ∃ b, Opt (pW M model N) (pD M model N) A b ∧ b ≠ 0 ∧ b < 2 ^ N ∧ pi 1 = nI b ∧ Pt 1 0 = Int64.ofInt (pW M model N b) ∧ Pt 1 1 = Int64.ofInt (pD M model N b)
theorem pSt_cong {M : Nat → Nat → Int32} {model : Int32} {N : Nat} {A B : Nat → Prop} {Pt Pt' : Nat → Nat → Int64} {pi : Nat → Int32} (h : pSt M model N A Pt pi) (hB : ∀ t, B t ↔ A t) (e : Pt' 1 = Pt 1) : pSt M model N B Pt' pi := by
  rcases h with ⟨a, b⟩ | ⟨b, o, b0, bl, e1, e2, e3⟩
  · exact Or.inl ⟨a, fun t ht => b t ((hB t).mp ht)⟩
  · exact Or.inr ⟨b, opt_cong o hB, b0, bl, e1, by rw [e]; exact e2, by rw [e]; exact e3⟩
theorem p_ne0 {b : Nat} (h0 : b ≠ 0) (h : b < 4096) : ¬ nI b = 0 := fun z => by
  have := congrArg Int32.toInt z
  rw [nI_toInt (by omega), show (0 : Int32).toInt = 0 from rfl] at this
  omega
theorem weigh_eq {M Z : Nat → Nat → Int32} {N lm om : Nat} (h : SimM M Z N lm om) {model : Int32} {s : Nat} {A : Nat → Prop} {Pt : Nat → Nat → Int64} {pi : Nat → Int32} (hN1 : 1 ≤ N) (hs : s < 2 ^ N) (hs0 : s ≠ 0) (hT : RelI (Pt 0) (pG M model N s)) (hm : pi 0 = model) (hst : pSt M model N A Pt pi) (ha : ∀ a, A a → aheadN a s) :
    RelI (f3_wP M N Pt pi 0) (pG M model N s) ∧ f3_wI M N (nI s) Pt pi 0 = model ∧ pSt M model N (fun t => A t ∨ t = s) (f3_wP M N Pt pi) (f3_wI M N (nI s) Pt pi) := by
  have hN := h.1.1
  have hd := (turn_I hT).2.2.2.2.2.2
  have dI : (f5_turn_T (Pt 0) 12).toInt = pD M model N s := by
    rw [hd, oT]
    · rfl
    · have := (p_D h model s).2
      unfold bN at this
      show (pD M model N s).natAbs < _
      omega
  have hdp := (p_D h model s).1
  have keep : ∀ B : Nat → Prop, (∀ t, B t ↔ (A t ∨ t = s)) → (0 < pD M model N s → ∃ b, Opt (pW M model N) (pD M model N) A b ∧ b ≠ 0 ∧ b < 2 ^ N ∧ pi 1 = nI b ∧ Pt 1 0 = Int64.ofInt (pW M model N b) ∧ Pt 1 1 = Int64.ofInt (pD M model N b) ∧ better (pW M model N) (pD M model N) b s) → pSt M model N B (uM Pt 0 (f5_turn_T (Pt 0))) pi := by
    intro B hB hk
    by_cases q : 0 < pD M model N s
    · obtain ⟨b, o, b0, bl, e1, e2, e3, bt⟩ := hk q
      exact Or.inr ⟨b, opt_keep o hB (fun _ => bt), b0, bl, e1, e2, e3⟩
    · rcases hst with ⟨a, b⟩ | ⟨b, o, b0, bl, e1, e2, e3⟩
      · refine Or.inl ⟨a, fun t ht => ?_⟩
        rcases (hB t).mp ht with w | w
        · exact b t w
        · rw [w]; exact q
      · exact Or.inr ⟨b, opt_keep o hB (fun w => absurd w q), b0, bl, e1, e2, e3⟩
  unfold f3_wP f3_wI
  by_cases q : f5_turn_T (Pt 0) 12 = 0
  · rw [if_pos q, if_pos q]
    refine ⟨RelI_turn hT, hm, keep _ (fun _ => Iff.rfl) (fun w => ?_)⟩
    rw [q, show (0 : Int64).toInt = 0 from rfl] at dI
    omega
  · rw [if_neg q, if_neg q]
    have hpos : 0 < pD M model N s := by
      have : pD M model N s ≠ 0 := fun z => q (Int64.toInt_inj.mp (by rw [dI, z]; rfl))
      omega
    have take : (f3_wg M N Pt pi).1 = 1 → (f3_wg M N Pt pi).2 = Int64.ofInt (pW M model N s) → Opt (pW M model N) (pD M model N) (fun t => A t ∨ t = s) s →
        RelI ((if (f3_wg M N Pt pi).1 = 0 then uM Pt 0 (f5_turn_T (Pt 0)) else uM (uM Pt 0 (f5_turn_T (Pt 0))) 1 (vp_updL (vp_updL (Pt 1) 0 (f3_wg M N Pt pi).2) 1 (f5_turn_T (Pt 0) 12))) 0) (pG M model N s) ∧ (if (f3_wg M N Pt pi).1 = 0 then pi else upd pi 1 (nI s)) 0 = model ∧ pSt M model N (fun t => A t ∨ t = s) (if (f3_wg M N Pt pi).1 = 0 then uM Pt 0 (f5_turn_T (Pt 0)) else uM (uM Pt 0 (f5_turn_T (Pt 0))) 1 (vp_updL (vp_updL (Pt 1) 0 (f3_wg M N Pt pi).2) 1 (f5_turn_T (Pt 0) 12))) (if (f3_wg M N Pt pi).1 = 0 then pi else upd pi 1 (nI s)) := by
      intro e1 e2 o
      rw [if_neg (by rw [e1]; decide), if_neg (by rw [e1]; decide)]
      refine ⟨RelI_turn hT, hm, Or.inr ⟨s, o, hs0, hs, rfl, e2, hd⟩⟩
    rcases id hst with ⟨a, b⟩ | ⟨b, o, b0, bl, e1, e2, e3⟩
    · have ew : f3_wg M N Pt pi = (1, Int64.ofInt (pW M model N s)) := by
        unfold f3_wg
        rw [a, hm]
        exact wg_0 h hT _ _ N 0 (by omega)
      exact take (by rw [ew]) (by rw [ew]) (opt_first b (fun _ => Iff.rfl) hpos)
    · have ew := wg_n h (b := b) hT (best := pi 1) (by rw [e1]; exact p_ne0 b0 (lt4096 bl hN)) N 0 (by omega) (Or.inl (by omega))
      rw [← e2, ← e3] at ew
      have e4 : f3_wg M N Pt pi = wgL M model (f5_turn_T (Pt 0)) (Pt 1 0) (Pt 1 1) (pi 1) N 0 (Int64.ofInt (wK (pX M model) (pY M model) (pG M model N s) 0)) := by
        unfold f3_wg
        rw [hm]
        rfl
      rw [← e4] at ew
      rcases ew with ⟨w, z⟩ | ⟨w, z⟩
      · exact take (by rw [z]) (by rw [z]) (opt_new o (fun _ => Iff.rfl) hpos (Or.inl w))
      · rw [if_pos z, if_pos z]
        refine ⟨RelI_turn hT, hm, keep _ (fun _ => Iff.rfl) (fun _ => ⟨b, o, b0, bl, e1, e2, e3, ?_⟩)⟩
        have hah := ha b o.1
        unfold better
        rcases Int.lt_or_eq_of_le (Int.not_lt.mp w) with z | z
        · exact Or.inl z
        · exact Or.inr ⟨z, hah⟩
/-- the sets that agree with s below nx and have K members -/
def pE (N K nx s : Nat) (t : Nat) : Prop := t < 2 ^ N ∧ ctm (fun j => t.testBit j) N = K ∧ ∀ j, j < nx → t.testBit j = s.testBit j
theorem ctm_up {p : Nat → Bool} {k : Nat} : ∀ n, k ≤ n → ctm p k ≤ ctm p n ∧ ctm p n ≤ ctm p k + (n - k)
  | 0, h => by rw [show k = 0 by omega]; omega
  | n + 1, h => by
    by_cases q : k = n + 1
    · rw [q]; omega
    · obtain ⟨a, b⟩ := ctm_up (p := p) n (show k ≤ n by omega)
      rw [ctm]
      split <;> omega
theorem ctm_all {p : Nat → Bool} {k : Nat} : ∀ n, k ≤ n → ctm p n = ctm p k → ∀ j, k ≤ j → j < n → p j = false
  | 0, h, _, j, _, hj => by omega
  | n + 1, h, e, j, h1, h2 => by
    by_cases q : k = n + 1
    · omega
    · have hu := ctm_up (p := p) n (show k ≤ n by omega)
      rw [ctm] at e
      cases hp : p n
      · by_cases z : j = n
        · rw [z]; exact hp
        · rw [hp] at e
          exact ctm_all n (by omega) (by simpa using e) j h1 (by omega)
      · rw [hp] at e
        simp at e
        omega
theorem tb_big {s k j : Nat} (hs : s < 2 ^ k) (hj : k ≤ j) : s.testBit j = false := Nat.testBit_lt_two_pow (Nat.lt_of_lt_of_le hs (Nat.pow_le_pow_right (by decide) hj))
theorem lt_up {s k n : Nat} (hs : s < 2 ^ k) (hk : k ≤ n) : s < 2 ^ n := Nat.lt_of_lt_of_le hs (Nat.pow_le_pow_right (by decide) hk)
theorem pE_leaf {N K nx s : Nat} (hs : s < 2 ^ nx) (hn : nx ≤ N) (hc : ctm (fun j => s.testBit j) nx = K) (t : Nat) : pE N K nx s t ↔ t = s := by
  constructor
  · rintro ⟨h1, h2, h3⟩
    have e1 : ctm (fun j => t.testBit j) nx = K := by rw [← hc]; exact ctm_cong h3
    refine tb_ext (n := N) h1 (lt_up hs hn) (fun j hj => ?_)
    by_cases q : j < nx
    · exact h3 j q
    · have h4 : t.testBit j = false := ctm_all (p := fun j => t.testBit j) N hn (by rw [h2, e1]) j (by omega) hj
      rw [h4]
      exact (tb_big hs (by omega)).symm
  · rintro rfl
    exact ⟨lt_up hs hn, by rw [ctm_le (p := fun j => t.testBit j) (N := nx) (fun k hk => tb_big hs hk) N hn]; exact hc, fun _ _ => rfl⟩
theorem pE_split {N K nx s k : Nat} (hs : s < 2 ^ nx) (hn : nx ≤ k) (t : Nat) : pE N K k s t ↔ pE N K (k + 1) (s ||| 2 ^ k) t ∨ pE N K (k + 1) s t := by
  have hk0 : s.testBit k = false := tb_big hs hn
  constructor
  · rintro ⟨h1, h2, h3⟩
    cases hc : t.testBit k
    · refine Or.inr ⟨h1, h2, fun j hj => ?_⟩
      by_cases q : j = k
      · rw [q, hc, hk0]
      · exact h3 j (by omega)
    · refine Or.inl ⟨h1, h2, fun j hj => ?_⟩
      rw [or2_tb]
      by_cases q : j = k
      · rw [q, hc]; simp
      · rw [h3 j (by omega)]; simp [show ¬ k = j by omega]
  · rintro (⟨h1, h2, h3⟩ | ⟨h1, h2, h3⟩)
    · refine ⟨h1, h2, fun j hj => ?_⟩
      rw [h3 j (by omega), or2_tb]
      simp [show ¬ k = j by omega]
    · exact ⟨h1, h2, fun j hj => h3 j (by omega)⟩
theorem pE_ahead {N K nx s k a t : Nat} (hs : s < 2 ^ nx) (hn : nx ≤ k) (ha : pE N K (k + 1) (s ||| 2 ^ k) a) (ht : pE N K (k + 1) s t) : aheadN a t := by
  refine ⟨k, ?_, ?_, fun j hj => ?_⟩
  · rw [ha.2.2 k (by omega), or2_tb]; simp
  · rw [ht.2.2 k (by omega)]; exact tb_big hs hn
  · rw [ha.2.2 j (by omega), ht.2.2 j (by omega), or2_tb]; simp [show ¬ k = j by omega]
theorem pE_none {N K nx s k d : Nat} (hs : s < 2 ^ nx) (hn : nx ≤ k) (hk : k ≤ N) (hc : ctm (fun j => s.testBit j) nx + (d + 1) = K) (hd : N ≤ k + d) (t : Nat) : ¬ pE N K k s t := by
  rintro ⟨h1, h2, h3⟩
  have e1 : ctm (fun j => t.testBit j) k = ctm (fun j => s.testBit j) nx := by
    rw [ctm_cong h3]
    exact ctm_le (p := fun j => s.testBit j) (N := nx) (fun i hi => tb_big hs hi) k hn
  have := (ctm_up (p := fun j => t.testBit j) N hk).2
  omega
theorem walk_eq {M Z : Nat → Nat → Int32} {N lm om : Nat} (h : SimM M Z N lm om) {model : Int32} {K : Nat} (hK : 1 ≤ K) : ∀ (d nx s : Nat) (A : Nat → Prop) (Pt : Nat → Nat → Int64) (pi : Nat → Int32), s < 2 ^ nx → nx ≤ N → ctm (fun j => s.testBit j) nx + d = K → RelI (Pt 0) (pG M model N s) → pi 0 = model → pSt M model N A Pt pi → (∀ a, A a → ∀ t, pE N K nx s t → aheadN a t) →
    RelI ((chS M N d nx (nI s) Pt pi).1 0) (pG M model N s) ∧ (chS M N d nx (nI s) Pt pi).2 0 = model ∧ pSt M model N (fun t => A t ∨ pE N K nx s t) (chS M N d nx (nI s) Pt pi).1 (chS M N d nx (nI s) Pt pi).2 := by
  have hN := h.1.1
  intro d
  induction d with
  | zero =>
    intro nx s A Pt pi hs hn hc hT hm hst ha
    have hE := pE_leaf (N := N) hs hn (by omega : ctm (fun j => s.testBit j) nx = K)
    have hs0 : s ≠ 0 := fun z => by
      subst z
      have : ∀ n, ctm (fun j => (0 : Nat).testBit j) n = 0 := by
        intro n
        induction n with
        | zero => rfl
        | succ n ih => rw [ctm, ih]; simp
      rw [this] at hc
      omega
    have hN1 : 1 ≤ N := by
      rcases Nat.eq_zero_or_pos nx with z | z
      · rw [z] at hc
        have : ctm (fun j => s.testBit j) 0 = 0 := rfl
        omega
      · omega
    obtain ⟨a, b, g⟩ := weigh_eq h hN1 (lt_up hs hn) hs0 hT hm hst (fun a ha1 => ha a ha1 s ((hE s).mpr rfl))
    refine ⟨a, b, pSt_cong g (fun t => ?_) rfl⟩
    rw [hE t]
  | succ d ih =>
    intro nx s A Pt pi hs hn hc
    have loop : ∀ (r k : Nat) (A : Nat → Prop) (Pt : Nat → Nat → Int64) (pi : Nat → Int32), nx ≤ k → k ≤ N → r = N + 1 - (d + 1) - k → RelI (Pt 0) (pG M model N s) → pi 0 = model → pSt M model N A Pt pi → (∀ a, A a → ∀ t, pE N K k s t → aheadN a t) →
        RelI ((chF M (chS M N d) (nI s) r k Pt pi).1 0) (pG M model N s) ∧ (chF M (chS M N d) (nI s) r k Pt pi).2 0 = model ∧ pSt M model N (fun t => A t ∨ pE N K k s t) (chF M (chS M N d) (nI s) r k Pt pi).1 (chF M (chS M N d) (nI s) r k Pt pi).2 := by
      intro r
      induction r with
      | zero =>
        intro k A Pt pi h1 h2 hr hT hm hst ha
        rw [chF]
        refine ⟨hT, hm, pSt_cong hst (fun t => ?_) rfl⟩
        have := pE_none (K := K) (d := d) hs h1 h2 hc (by omega) t
        exact ⟨fun z => z.resolve_right this, Or.inl⟩
      | succ r ihr =>
        intro k A Pt pi h1 h2 hr hT hm hst ha
        rw [chF, hm, q_shl1 k (by omega), g_or]
        have hk : k < N := by omega
        have hs2 := lt_up hs h1
        have hT2 : RelI (uM Pt 0 (f5_add_T (Pt 0) (f2_second M model k).toInt64 (f2_third M model k).toInt64 1) 0) (pG M model N (s ||| 2 ^ k)) := by
          unfold pG
          rw [gK_or hs2 hk]
          exact RelI_add hT _ _
        have hc2 : ctm (fun j => (s ||| 2 ^ k).testBit j) (k + 1) + d = K := by
          rw [ctm, ctm_cong (p := fun j => (s ||| 2 ^ k).testBit j) (q := fun j => s.testBit j) (fun j hj => by rw [or2_tb]; simp [show ¬ k = j by omega]), ctm_le (p := fun j => s.testBit j) (N := nx) (fun i hi => tb_big hs hi) k h1, or2_tb]
          simp
          omega
        have hsp := fun t => pE_split (N := N) (K := K) hs h1 t
        obtain ⟨a, b, g⟩ := ih (k + 1) (s ||| 2 ^ k) A (uM Pt 0 (f5_add_T (Pt 0) (f2_second M model k).toInt64 (f2_third M model k).toInt64 1)) pi (or2_lt hs2) (by omega) hc2 hT2 hm (pSt_cong hst (fun _ => Iff.rfl) rfl) (fun a ha1 t ht => ha a ha1 t ((hsp t).mpr (Or.inl ht)))
        unfold pG at a
        rw [gK_or hs2 hk] at a
        obtain ⟨a2, b2, g2⟩ := ihr (k + 1) (fun t => A t ∨ pE N K (k + 1) (s ||| 2 ^ k) t) (uM (chS M N d (k + 1) (nI (s ||| 2 ^ k)) (uM Pt 0 (f5_add_T (Pt 0) (f2_second M model k).toInt64 (f2_third M model k).toInt64 1)) pi).1 0 (f5_add_T ((chS M N d (k + 1) (nI (s ||| 2 ^ k)) (uM Pt 0 (f5_add_T (Pt 0) (f2_second M model k).toInt64 (f2_third M model k).toInt64 1)) pi).1 0) (f2_second M model k).toInt64 (f2_third M model k).toInt64 (-1))) (chS M N d (k + 1) (nI (s ||| 2 ^ k)) (uM Pt 0 (f5_add_T (Pt 0) (f2_second M model k).toInt64 (f2_third M model k).toInt64 1)) pi).2 (by omega) (by omega) (by omega) (RelI_sub _ _ a) b (pSt_cong g (fun _ => Iff.rfl) rfl) (fun x hx t ht => by
          rcases hx with hx | hx
          · exact ha x hx t ((hsp t).mpr (Or.inr ht))
          · exact pE_ahead hs h1 hx ht)
        refine ⟨a2, b2, pSt_cong g2 (fun t => ?_) rfl⟩
        rw [hsp t]
        exact ⟨fun z => z.elim (fun z => Or.inl (Or.inl z)) (fun z => z.elim (fun z => Or.inl (Or.inr z)) Or.inr), fun z => z.elim (fun z => z.elim Or.inl (fun z => Or.inr (Or.inl z))) (fun z => Or.inr (Or.inr z))⟩
    intro hT hm hst ha
    exact loop _ nx A Pt pi (Nat.le_refl _) hn rfl hT hm hst ha
