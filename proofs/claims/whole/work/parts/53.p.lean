/-! how many dishes there are in a set -/
def pc0 (x : Int32) : Int32 := (F_J6_bitCount_0f7a4 (fun _ _ => 0) x).getD 0
theorem bc_pc0 {I : HI} {x : Int32} : F_J6_bitCount_0f7a4 I x = some (pc0 x) := rfl
def cntN (n : Nat) (P : Nat → Bool) : Nat := lp (fun d s => if P d = true then s + 1 else s) 0 n 0
theorem pc_all0 : ∀ a, a < 64 → ∀ b, b < 64 → pc0 (Int32.ofNat (64 * a + b)) = Int32.ofNat (cntN 12 (fun d => (64 * a + b).testBit d)) := by decide +kernel
theorem pc_all {m : Nat} (h : m < 4096) : pc0 (Int32.ofNat m) = Int32.ofNat (cntN 12 (fun d => m.testBit d)) := by
  have := pc_all0 (m / 64) (by omega) (m % 64) (by omega)
  rw [show 64 * (m / 64) + m % 64 = m by omega] at this
  exact this
theorem pc_tb {x : Int32} (h : ∀ j, 12 ≤ j → j < 32 → tb x j = false) : pc0 x = Int32.ofNat (cntN 12 (tb x)) := by
  have hx : x = Int32.ofNat x.toBitVec.toNat := by
    apply Int32.toBitVec.inj
    rw [Int32.toBitVec_ofNat', BitVec.ofNat_toNat]
    simp
  have hm : x.toBitVec.toNat < 4096 := by
    refine Nat.lt_pow_two_of_testBit (n := 12) _ (fun i hi => ?_)
    rw [BitVec.testBit_toNat]
    rcases Nat.lt_or_ge i 32 with q | q
    · exact h i hi q
    · exact BitVec.getLsbD_of_ge _ _ q
  have e : (fun d => x.toBitVec.toNat.testBit d) = tb x := by
    funext d
    rw [BitVec.testBit_toNat]
    rfl
  have := pc_all hm
  rw [e, ← hx] at this
  exact this
theorem cntN_congr {n : Nat} {P Q : Nat → Bool} (h : ∀ d, d < n → P d = Q d) : cntN n P = cntN n Q := by
  unfold cntN
  refine lp_congr _ _ _ (fun d s _ h2 => ?_)
  rw [h d (by omega)]
theorem cntN_succ (n : Nat) (P : Nat → Bool) : cntN (n + 1) P = cntN n P + (if P n = true then 1 else 0) := by
  unfold cntN
  rw [lp_last, Nat.zero_add]
  split <;> rfl
theorem cntN_le (n : Nat) (P : Nat → Bool) : cntN n P ≤ n := by
  induction n with
  | zero => exact Nat.le_refl _
  | succ n ih => rw [cntN_succ]; split <;> omega
theorem cntN_not (n : Nat) (P : Nat → Bool) : cntN n P + cntN n (fun d => !P d) = n := by
  induction n with
  | zero => rfl
  | succ n ih =>
    rw [cntN_succ, cntN_succ]
    cases h : P n <;> simp <;> omega
theorem cntN_ext {n m : Nat} {P : Nat → Bool} (h : n ≤ m) (hp : ∀ d, n ≤ d → d < m → P d = false) : cntN m P = cntN n P := by
  induction m with
  | zero => rw [show n = 0 by omega]
  | succ m ih =>
    rcases Nat.lt_or_ge m n with q | q
    · rw [show n = m + 1 by omega]
    · rw [cntN_succ, ih q (fun d h1 h2 => hp d h1 (by omega)), hp m q (by omega)]
      simp
theorem pc_bits {n : Nat} {P : Nat → Bool} (hn : n ≤ 12) : pc0 (bits n P) = Int32.ofNat (cntN n P) := by
  rw [pc_tb (fun j h1 h2 => by rw [tb_bits (by omega)]; simp; omega)]
  rw [cntN_ext (n := n) (m := 12) hn (fun d h1 h2 => by rw [tb_bits (by omega)]; simp; omega)]
  rw [cntN_congr (Q := P) (fun d hd => by rw [tb_bits (by omega)]; simp [hd])]
