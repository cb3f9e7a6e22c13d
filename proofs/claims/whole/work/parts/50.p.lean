/-! PURE PART. numbers -/
theorem bm {x : Int} (h1 : -2147483648 ≤ x) (h2 : x < 2147483648) : x.bmod (2 ^ 32) = x := by
  rw [Int.bmod_eq_of_le] <;> omega
theorem ti_add {a b : Int32} (h1 : -2147483648 ≤ a.toInt + b.toInt) (h2 : a.toInt + b.toInt < 2147483648) : (a + b).toInt = a.toInt + b.toInt := by
  rw [Int32.toInt_add, bm h1 h2]
theorem ti_sub {a b : Int32} (h1 : -2147483648 ≤ a.toInt - b.toInt) (h2 : a.toInt - b.toInt < 2147483648) : (a - b).toInt = a.toInt - b.toInt := by
  rw [Int32.toInt_sub, bm h1 h2]
theorem ti_mul {a b : Int32} (h1 : -2147483648 ≤ a.toInt * b.toInt) (h2 : a.toInt * b.toInt < 2147483648) : (a * b).toInt = a.toInt * b.toInt := by
  rw [Int32.toInt_mul, bm h1 h2]
theorem ti_neg {a : Int32} (h1 : -2147483648 < a.toInt) : (-a).toInt = -a.toInt := by
  have := Int32.toInt_lt a
  rw [Int32.toInt_neg, bm (by omega) (by omega)]
theorem ti_le {a b : Int32} : a ≤ b ↔ a.toInt ≤ b.toInt := Int32.le_iff_toInt_le
theorem ti_lt {a b : Int32} : a < b ↔ a.toInt < b.toInt := Int32.lt_iff_toInt_lt
theorem ti_eq {a b : Int32} : a = b ↔ a.toInt = b.toInt := Int32.toInt_inj.symm
theorem ti_ofn {n : Nat} (h : n < 2147483648) : (Int32.ofNat n).toInt = n := ofn_toInt h
theorem ti_0 : (0 : Int32).toInt = 0 := by decide
theorem ti_1 : (1 : Int32).toInt = 1 := by decide
theorem ti_m1 : (-1 : Int32).toInt = -1 := by decide
theorem ti_2 : (2 : Int32).toInt = 2 := by decide
theorem ti_3 : (3 : Int32).toInt = 3 := by decide
theorem ti_4 : (4 : Int32).toInt = 4 := by decide
theorem ti_5 : (5 : Int32).toInt = 5 := by decide
theorem ti_6 : (6 : Int32).toInt = 6 := by decide
theorem ti_7 : (7 : Int32).toInt = 7 := by decide
theorem ti_8 : (8 : Int32).toInt = 8 := by decide
theorem ti_9 : (9 : Int32).toInt = 9 := by decide
theorem ti_10 : (10 : Int32).toInt = 10 := by decide
theorem ti_12 : (12 : Int32).toInt = 12 := by decide
theorem ti_14 : (14 : Int32).toInt = 14 := by decide
theorem ti_20 : (20 : Int32).toInt = 20 := by decide
theorem ti_40 : (40 : Int32).toInt = 40 := by decide
theorem ti_45 : (45 : Int32).toInt = 45 := by decide
theorem ti_60 : (60 : Int32).toInt = 60 := by decide
theorem ti_99 : (99 : Int32).toInt = 99 := by decide
theorem ti_100 : (100 : Int32).toInt = 100 := by decide
theorem ti_400 : (400 : Int32).toInt = 400 := by decide
theorem ti_9999 : (9999 : Int32).toInt = 9999 := by decide
theorem ti_mill : (1000000 : Int32).toInt = 1000000 := by decide
theorem ofn_le {a b : Nat} (ha : a < 2147483648) (hb : b < 2147483648) : Int32.ofNat a ≤ Int32.ofNat b ↔ a ≤ b := Int32.ofNat_le_ofNat ha hb
theorem ofn_lt {a b : Nat} (ha : a < 2147483648) (hb : b < 2147483648) : Int32.ofNat a < Int32.ofNat b ↔ a < b := by
  rw [ti_lt, ti_ofn ha, ti_ofn hb]; omega
theorem ofn_eq {a b : Nat} (ha : a < 2147483648) (hb : b < 2147483648) : Int32.ofNat a = Int32.ofNat b ↔ a = b := by
  rw [ti_eq, ti_ofn ha, ti_ofn hb]; omega
theorem ofn_succ (n : Nat) : Int32.ofNat n + (1 : Int32) = Int32.ofNat (n + 1) := (Int32.ofNat_add n 1).symm
theorem ofn_ne_m1 {n : Nat} (h : n < 2147483648) : ¬ Int32.ofNat n = (-1 : Int32) := by
  rw [ti_eq, ti_ofn h, ti_m1]; omega
/-- a number is a small one, or it isn't -/
theorem nat_or (x : Int32) (n : Nat) (hn : n < 2147483648) : (∃ d, d < n ∧ x = Int32.ofNat d) ∨ (x < 0 ∨ Int32.ofNat n ≤ x) := by
  by_cases h0 : x < 0
  · exact Or.inr (Or.inl h0)
  · by_cases h1 : Int32.ofNat n ≤ x
    · exact Or.inr (Or.inr h1)
    · left
      rw [ti_lt, ti_0] at h0
      rw [ti_le, ti_ofn hn] at h1
      refine ⟨x.toInt.toNat, by omega, ?_⟩
      rw [ti_eq, ti_ofn (by omega)]
      omega
theorem inB_ofn {i n : Nat} (h : i < n) (hi : i < 2147483648) : inB (Int32.ofNat i) n = true := by
  unfold inB
  rw [ofn_clamp hi]
  simp [h, ofn_nneg hi]
theorem ald_ofn {α : Type} {n i : Nat} {f : Nat → α} (h : i < n) (hi : i < 2147483648) : ald n f (Int32.ofNat i) = some (f i) := by
  unfold ald
  rw [if_pos (inB_ofn h hi), ofn_clamp hi]
theorem up2_up2 {α : Type} (f : Nat → Nat → α) (a k : Nat) (x y : α) : up2 (up2 f a k x) a k y = up2 f a k y := by
  funext b j
  simp only [up2_get]
  split <;> simp_all
theorem up2_row {α : Type} (f : Nat → Nat → α) {a b : Nat} (k : Nat) (x : α) (h : b ≠ a) : up2 f a k x b = f b := up2_ne f k x h
/-! loops -/
def lp {σ : Type} (f : Nat → σ → σ) : Nat → Nat → σ → σ
  | _, 0, s => s
  | i, k + 1, s => lp f (i + 1) k (f i s)
theorem lp_congr {σ : Type} {f g : Nat → σ → σ} : ∀ (k i : Nat) (s : σ), (∀ d s, i ≤ d → d < i + k → f d s = g d s) → lp f i k s = lp g i k s := by
  intro k
  induction k with
  | zero => intro i s h; rfl
  | succ k ih =>
    intro i s h
    show lp f (i + 1) k (f i s) = lp g (i + 1) k (g i s)
    rw [h i s (Nat.le_refl _) (by omega)]
    exact ih (i + 1) _ (fun d s h1 h2 => h d s (by omega) (by omega))
theorem lp_rule {σ ρ : Type} (L : σ → Int32 → Option ρ) (n : Nat) (hn : n < 2147483647) (step : Nat → σ → σ) (fin : σ → ρ) (h1 : ∀ s, L s (Int32.ofNat n) = some (fin s)) (h2 : ∀ i s, i < n → L s (Int32.ofNat i) = L (step i s) (Int32.ofNat i + 1)) : ∀ (k i : Nat) (s : σ), i + k = n → L s (Int32.ofNat i) = some (fin (lp step i k s)) := by
  intro k
  induction k with
  | zero => intro i s h; rw [show i = n by omega]; exact h1 s
  | succ k ih =>
    intro i s h
    rw [h2 i s (by omega), ofn_succ]
    exact ih (i + 1) _ (by omega)
theorem lp_inv {σ : Type} {f : Nat → σ → σ} (Q : Nat → σ → Prop) : ∀ (k i : Nat) (s : σ), Q i s → (∀ d s, i ≤ d → d < i + k → Q d s → Q (d + 1) (f d s)) → Q (i + k) (lp f i k s) := by
  intro k
  induction k with
  | zero => intro i s h _; exact h
  | succ k ih =>
    intro i s h hs
    show Q (i + (k + 1)) (lp f (i + 1) k (f i s))
    rw [show i + (k + 1) = (i + 1) + k by omega]
    exact ih (i + 1) _ (hs i s (Nat.le_refl _) (by omega) h) (fun d s h1 h2 => hs d s (by omega) (by omega))
/-! sets of dishes as bits -/
def bitN (d : Nat) : Int32 := (1 : Int32) <<< (Int32.ofNat d &&& 31)
def bits (n : Nat) (P : Nat → Bool) : Int32 := lp (fun d s => if P d = true then s ||| bitN d else s) 0 n 0
def tb (x : Int32) (j : Nat) : Bool := x.toBitVec.getLsbD j
theorem bitN_dec : ∀ d, d < 31 → ∀ j, j < 32 → tb (bitN d) j = decide (j = d) := by decide +kernel
theorem tb_bitN {d j : Nat} (hd : d < 31) : tb (bitN d) j = decide (j = d) := by
  rcases Nat.lt_or_ge j 32 with h | h
  · exact bitN_dec d hd j h
  · unfold tb
    rw [BitVec.getLsbD_of_ge _ _ h]
    simp; omega
theorem tb_or (x y : Int32) (j : Nat) : tb (x ||| y) j = (tb x j || tb y j) := by unfold tb; rw [Int32.toBitVec_or, BitVec.getLsbD_or]
theorem tb_and (x y : Int32) (j : Nat) : tb (x &&& y) j = (tb x j && tb y j) := by unfold tb; rw [Int32.toBitVec_and, BitVec.getLsbD_and]
theorem tb_xor (x y : Int32) (j : Nat) : tb (x ^^^ y) j = (tb x j ^^ tb y j) := by unfold tb; rw [Int32.toBitVec_xor, BitVec.getLsbD_xor]
theorem tb_0 (j : Nat) : tb 0 j = false := by unfold tb; simp
theorem tb_m1 {j : Nat} (h : j < 32) : tb (-1) j = true := by
  unfold tb
  have : ∀ j, j < 32 → (-1 : Int32).toBitVec.getLsbD j = true := by decide +kernel
  exact this j h
theorem tb_ext {x y : Int32} (h : ∀ j, j < 32 → tb x j = tb y j) : x = y := by
  apply Int32.toBitVec.inj
  exact BitVec.eq_of_getLsbD_eq (fun i hi => h i hi)
theorem tb_bits {n : Nat} {P : Nat → Bool} (hn : n ≤ 31) (j : Nat) : tb (bits n P) j = (decide (j < n) && P j) := by
  have key := lp_inv (f := fun d s => if P d = true then s ||| bitN d else s) (fun i s => tb s j = (decide (j < i) && P j)) n 0 (0 : Int32) (by simp [tb_0]) (fun d s h1 h2 hs => by
    split
    · rename_i hp
      rw [tb_or, hs, tb_bitN (by omega)]
      by_cases hj : j = d
      · subst hj; simp [hp]
      · simp [hj]
        congr 1
        simp
        omega
    · rename_i hp
      rw [hs]
      by_cases hj : j = d
      · subst hj; simp [hp]
      · congr 1
        simp
        omega)
  rw [Nat.zero_add] at key
  exact key
theorem bits_congr {n : Nat} {P Q : Nat → Bool} (h : ∀ d, d < n → P d = Q d) : bits n P = bits n Q := by
  unfold bits
  refine lp_congr _ _ _ (fun d s _ h2 => ?_)
  rw [h d (by omega)]
/-- the bit d, by shifting -/
theorem sh_dec : ∀ d, d < 32 → ((Int32.ofNat d &&& 31).toBitVec.smod 32).toNat = d := by decide +kernel
theorem sh_tb {x : Int32} {d : Nat} (hd : d < 32) : ((x >>> (Int32.ofNat d &&& 31)) &&& (1 : Int32)) = if tb x d = true then 1 else 0 := by
  apply tb_ext
  intro j hj
  rw [tb_and]
  have h1 : tb (1 : Int32) j = decide (j = 0) := by
    have : ∀ j, j < 32 → tb (1 : Int32) j = decide (j = 0) := by decide +kernel
    exact this j hj
  rw [h1]
  by_cases h0 : j = 0
  · subst h0
    have e : tb (x >>> (Int32.ofNat d &&& 31)) 0 = tb x d := by
      unfold tb
      rw [Int32.toBitVec_shiftRight, BitVec.sshiftRight_eq', BitVec.getLsbD_sshiftRight, sh_dec d hd]
      have : d < 32 := hd
      simp [this]
    rw [e]
    simp only [decide_true, Bool.and_true]
    split
    · rename_i h; rw [h]; decide
    · rename_i h; simp at h; rw [h]; decide
  · simp only [h0, decide_false, Bool.and_false]
    split
    · rw [h1]; simp [h0]
    · rw [tb_0]
theorem lp_ruleI {σ ρ : Type} (L : σ → Int32 → Option ρ) (n : Nat) (hn : n < 2147483647) (step : Nat → σ → σ) (fin : σ → ρ) (Q : Nat → σ → Prop) (h1 : ∀ s, Q n s → L s (Int32.ofNat n) = some (fin s)) (h2 : ∀ i s, i < n → Q i s → L s (Int32.ofNat i) = L (step i s) (Int32.ofNat i + 1) ∧ Q (i + 1) (step i s)) : ∀ (k i : Nat) (s : σ), i + k = n → Q i s → L s (Int32.ofNat i) = some (fin (lp step i k s)) ∧ Q n (lp step i k s) := by
  intro k
  induction k with
  | zero => intro i s h hq; rw [show i = n by omega] at hq ⊢; exact ⟨h1 s hq, hq⟩
  | succ k ih =>
    intro i s h hq
    obtain ⟨e, hq'⟩ := h2 i s (by omega) hq
    rw [e, ofn_succ]
    exact ih (i + 1) _ (by omega) hq'
theorem lp_last {σ : Type} (f : Nat → σ → σ) : ∀ (k i : Nat) (s : σ), lp f i (k + 1) s = f (i + k) (lp f i k s) := by
  intro k
  induction k with
  | zero => intro i s; rfl
  | succ k ih =>
    intro i s
    show lp f (i + 1) (k + 1) (f i s) = f (i + (k + 1)) (lp f (i + 1) k (f i s))
    rw [ih, show i + 1 + k = i + (k + 1) by omega]
