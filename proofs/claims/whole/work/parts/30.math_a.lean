/-! sets of marks as numbers -/
theorem g_and (a b : Nat) : nI a &&& nI b = nI (a &&& b) := by
  apply Int32.toBitVec_inj.1
  show BitVec.ofNat 32 a &&& BitVec.ofNat 32 b = BitVec.ofNat 32 (a &&& b)
  apply BitVec.eq_of_getLsbD_eq
  intro i hi
  simp [hi]
theorem g_or (a b : Nat) : nI a ||| nI b = nI (a ||| b) := by
  apply Int32.toBitVec_inj.1
  show BitVec.ofNat 32 a ||| BitVec.ofNat 32 b = BitVec.ofNat 32 (a ||| b)
  apply BitVec.eq_of_getLsbD_eq
  intro i hi
  simp [hi]
theorem g_sh : ∀ k : Nat, k < 31 → ((nI k &&& 31).toBitVec.smod 32).toNat = k := by decide +kernel
theorem g_bit {s k : Nat} (hs : s < 4096) (hk : k < 12) : (nI s >>> (nI k &&& 31)) &&& 1 = nI (if s.testBit k then 1 else 0) := by
  rw [pk_shrN (by omega) _ k (g_sh k (by omega))]
  rw [show (1 : Int32) = nI 1 from rfl, g_and]
  rw [Nat.and_one_is_mod, Nat.testBit_eq_decide_div_mod_eq]
  congr 1
  have := Nat.mod_two_eq_zero_or_one (s / 2 ^ k)
  rcases this with h | h <;> simp [h]
theorem g_set1 {s k : Nat} (hs : s < 4096) (hk : k < 12) : ((nI s >>> (nI k &&& 31)) &&& 1) = 1 ↔ s.testBit k = true := by
  rw [g_bit hs hk]
  cases s.testBit k
  · exact ⟨fun h => absurd h (by decide), fun h => by cases h⟩
  · exact ⟨fun _ => rfl, fun _ => rfl⟩
theorem g_isIn {s k : Nat} (hs : s < 4096) (hk : k < 12) : f6_isIn (nI s) (nI k) = 0 ↔ s.testBit k = false := by
  unfold f6_isIn
  rw [g_bit hs hk]
  cases s.testBit k
  · exact ⟨fun _ => rfl, fun _ => rfl⟩
  · exact ⟨fun h => absurd h (by decide), fun h => by cases h⟩
/-- a without b, of twelve -/
def adf (a b : Nat) : Nat := a &&& (b ^^^ 4095)
theorem tb4095 (j : Nat) : (4095 : Nat).testBit j = decide (j < 12) := by
  rw [show (4095 : Nat) = 2 ^ 12 - 1 from rfl, Nat.testBit_two_pow_sub_one]
theorem adf_tb (a b j : Nat) (hj : j < 12) : (adf a b).testBit j = (a.testBit j && !b.testBit j) := by
  unfold adf
  rw [Nat.testBit_and, Nat.testBit_xor, tb4095]
  simp [hj]
theorem adf_lt {a b n : Nat} (h : a < 2 ^ n) : adf a b < 2 ^ n := Nat.lt_of_le_of_lt Nat.and_le_left h
theorem g_andn {a b : Nat} (ha : a < 4096) : nI a &&& (nI b ^^^ (-1)) = nI (adf a b) := by
  apply Int32.toBitVec_inj.1
  show BitVec.ofNat 32 a &&& (BitVec.ofNat 32 b ^^^ BitVec.allOnes 32) = BitVec.ofNat 32 (adf a b)
  apply BitVec.eq_of_getLsbD_eq
  intro i hi
  simp only [BitVec.getLsbD_and, BitVec.getLsbD_xor, BitVec.getLsbD_ofNat, BitVec.getLsbD_allOnes, hi, decide_true, Bool.true_and]
  by_cases h12 : i < 12
  · rw [adf_tb _ _ _ h12]
    cases b.testBit i <;> simp
  · have h1 : a.testBit i = false := Nat.testBit_lt_two_pow (Nat.lt_of_lt_of_le ha (by exact (Nat.pow_le_pow_right (by decide) (by omega) : 2 ^ 12 ≤ 2 ^ i)))
    have h2 : (adf a b).testBit i = false := by unfold adf; rw [Nat.testBit_and, h1]; rfl
    rw [h1, h2]
    rfl
/-- the number of a set given by a test -/
def mkm (p : Nat → Bool) : Nat → Nat
  | 0 => 0
  | n + 1 => mkm p n ||| (if p n then 2 ^ n else 0)
theorem mkm_tb (p : Nat → Bool) : ∀ (n j : Nat), (mkm p n).testBit j = (decide (j < n) && p j)
  | 0, j => by simp [mkm]
  | n + 1, j => by
    rw [mkm, Nat.testBit_or, mkm_tb p n j]
    by_cases h : j = n
    · subst h
      cases p j <;> simp
    · have h2 : (if p n then 2 ^ n else 0 : Nat).testBit j = false := by
        split
        · rw [Nat.testBit_two_pow]; simp; omega
        · simp
      rw [h2]
      by_cases h3 : j < n
      · simp [h3, Nat.lt_succ_of_lt h3]
      · simp [h3, show ¬ j < n + 1 by omega]
theorem mkm_lt (p : Nat → Bool) : ∀ n : Nat, mkm p n < 2 ^ n
  | 0 => by simp [mkm]
  | n + 1 => by
    rw [mkm]
    refine Nat.or_lt_two_pow (Nat.lt_trans (mkm_lt p n) (Nat.pow_lt_pow_right (by decide) (by omega))) ?_
    split
    · exact Nat.pow_lt_pow_right (by decide) (by omega)
    · exact Nat.two_pow_pos _
theorem tb_ext {a b n : Nat} (ha : a < 2 ^ n) (hb : b < 2 ^ n) (h : ∀ j, j < n → a.testBit j = b.testBit j) : a = b := by
  apply Nat.eq_of_testBit_eq
  intro j
  by_cases hj : j < n
  · exact h j hj
  · rw [Nat.testBit_lt_two_pow (Nat.lt_of_lt_of_le ha (Nat.pow_le_pow_right (by decide) (by omega))), Nat.testBit_lt_two_pow (Nat.lt_of_lt_of_le hb (Nat.pow_le_pow_right (by decide) (by omega)))]
theorem mkm_cong {p q : Nat → Bool} {n : Nat} (h : ∀ k, k < n → p k = q k) : mkm p n = mkm q n := by
  refine tb_ext (n := n) (mkm_lt _ _) (mkm_lt _ _) (fun j hj => ?_)
  rw [mkm_tb, mkm_tb, h j hj]
theorem mkm_self {s n : Nat} (hs : s < 2 ^ n) : mkm (fun k => s.testBit k) n = s := by
  refine tb_ext (n := n) (mkm_lt _ _) hs (fun j hj => ?_)
  rw [mkm_tb]
  simp [hj]
theorem lt4096 {a N : Nat} (h : a < 2 ^ N) (hN : N ≤ 12) : a < 4096 := Nat.lt_of_lt_of_le h (Nat.pow_le_pow_right (by decide) hN : 2 ^ N ≤ 2 ^ 12)
theorem g_or1 {a k : Nat} (c : Bool) (hk : k < 31) : nI a ||| (if c then (1 : Int32) <<< (nI k &&& 31) else 0) = nI (a ||| (if c then 2 ^ k else 0)) := by
  cases c
  · show nI a ||| 0 = nI (a ||| 0)
    rw [show (0 : Int32) = nI 0 from rfl, g_or]
  · show nI a ||| (1 : Int32) <<< (nI k &&& 31) = nI (a ||| 2 ^ k)
    rw [q_shl1 k hk, g_or]
/-- a loop that gathers a set -/
theorem g_cnt {Z : Nat → Nat → Int32} {p : Nat → Bool} {N : Nat} (hN : N ≤ 12) (h : ∀ k, k < N → (f7_counts Z k = 0 ↔ p k = false)) : ∀ (n k : Nat), k + n = N → cntL Z n k (nI (mkm p k)) = nI (mkm p N)
  | 0, k, e => by rw [cntL, show k = N by omega]
  | n + 1, k, e => by
    rw [cntL]
    have hk := h k (by omega)
    have h2 : nI (mkm p k) ||| (if f7_counts Z k = 0 then 0 else (1 : Int32) <<< (nI k &&& 31)) = nI (mkm p (k + 1)) := by
      rw [mkm, ← g_or1 (p k) (by omega)]
      by_cases q : f7_counts Z k = 0
      · rw [if_pos q, hk.mp q]; rfl
      · rw [if_neg q]
        cases hp : p k
        · exact absurd (hk.mpr hp) q
        · rfl
    rw [h2]
    exact g_cnt hN h n (k + 1) (by omega)
theorem g_counting {Z : Nat → Nat → Int32} {p : Nat → Bool} {N : Nat} (hN : N ≤ 12) (h : ∀ k, k < N → (f7_counts Z k = 0 ↔ p k = false)) : f7_counting Z N = nI (mkm p N) := g_cnt hN h N 0 (by omega)
/-- how many -/
def ctm (p : Nat → Bool) : Nat → Nat
  | 0 => 0
  | n + 1 => ctm p n + (if p n then 1 else 0)
theorem g_cb {row : Nat → Int32} {p : Nat → Bool} {N : Nat} (h : ∀ k, k < N → (row k = 0 ↔ p k = false)) : ∀ (n k : Nat), k + n = N → cbL row n k (nI (ctm p k)) = nI (ctm p N)
  | 0, k, e => by rw [cbL, show k = N by omega]
  | n + 1, k, e => by
    rw [cbL]
    have hk := h k (by omega)
    have h2 : nI (ctm p k) + (if row k = 0 then 0 else 1) = nI (ctm p (k + 1)) := by
      rw [ctm]
      by_cases q : row k = 0
      · rw [if_pos q, hk.mp q, show (0 : Int32) = nI 0 from rfl, nI_add]; rfl
      · rw [if_neg q]
        cases hp : p k
        · exact absurd (hk.mpr hp) q
        · rw [show (1 : Int32) = nI 1 from rfl, nI_add]; rfl
    rw [h2]
    exact g_cb h n (k + 1) (by omega)
theorem g_hm {row : Nat → Int32} {p : Nat → Bool} {N : Nat} (h : ∀ k, k < N → (row k = 0 ↔ p k = false)) : ∀ (n k : Nat), k + n = N → hmL row n k (nI (ctm p k)) = nI (ctm p N)
  | 0, k, e => by rw [hmL, show k = N by omega]
  | n + 1, k, e => by
    rw [hmL]
    have hk := h k (by omega)
    by_cases q : row k = 0
    · rw [if_pos q]
      have := g_hm h n (k + 1) (by omega)
      rw [ctm, hk.mp q] at this
      exact this
    · rw [if_neg q]
      cases hp : p k
      · exact absurd (hk.mpr hp) q
      · have := g_hm h n (k + 1) (by omega)
        rw [ctm, hp] at this
        rw [nI_1]
        exact this
theorem g_bits {s : Nat} (hs : s < 4096) : ∀ (n k : Nat), k + n = 12 → bitsL (nI s) n k (nI (ctm (fun j => s.testBit j) k)) = nI (ctm (fun j => s.testBit j) 12)
  | 0, k, e => by rw [bitsL, show k = 12 by omega]
  | n + 1, k, e => by
    rw [bitsL, g_bit hs (by omega), nI_add]
    exact g_bits hs n (k + 1) (by omega)
theorem g_bitsE {s : Nat} (hs : s < 4096) : f7_bits (nI s) = nI (ctm (fun j => s.testBit j) 12) := g_bits hs 12 0 rfl
theorem ctm_le {p : Nat → Bool} {N : Nat} (h : ∀ k, N ≤ k → p k = false) : ∀ n, N ≤ n → ctm p n = ctm p N
  | 0, e => by rw [show N = 0 by omega]
  | n + 1, e => by
    rcases Nat.lt_or_ge N (n + 1) with q | q
    · rw [ctm, h n (by omega), ctm_le h n (by omega)]; rfl
    · rw [show N = n + 1 by omega]
theorem ctm_cong {p q : Nat → Bool} : ∀ {n : Nat}, (∀ k, k < n → p k = q k) → ctm p n = ctm q n
  | 0, _ => rfl
  | n + 1, h => by rw [ctm, ctm, ctm_cong (fun k hk => h k (by omega)), h n (by omega)]
theorem g_bc0 : ∀ a : Nat, a < 64 → ∀ b : Nat, b < 64 → bitC (nI (64 * a + b)) = f7_bits (nI (64 * a + b)) := by decide +kernel
theorem g_bc {s : Nat} (hs : s < 4096) : bitC (nI s) = f7_bits (nI s) := by
  have h := g_bc0 (s / 64) (by omega) (s % 64) (by omega)
  rw [show 64 * (s / 64) + s % 64 = s by omega] at h
  exact h
