/-! the odds -/
section
variable {C C' M M' : HI} {n s : Nat} {x1 x2 : Int32}
/-- in how many of 100 to the n-th there are k slips at least -/
def slN (s : Nat) : Nat → Nat → Nat
  | 0, 0 => 1
  | 0, _ + 1 => 0
  | n + 1, 0 => s * slN s n 0 + (100 - s) * slN s n 0
  | n + 1, k + 1 => s * slN s n k + (100 - s) * slN s n (k + 1)
theorem i64_add (a b : Nat) : Int64.ofNat a + Int64.ofNat b = Int64.ofNat (a + b) := (Int64.ofNat_add a b).symm
theorem i64_mul (a b : Nat) : Int64.ofNat a * Int64.ofNat b = Int64.ofNat (a * b) := (Int64.ofNat_mul a b).symm
theorem i32_64 {a : Nat} (h : a < 2147483648) : (Int32.ofNat a).toInt64 = Int64.ofNat a := by
  apply Int64.toInt_inj.mp
  rw [Int32.toInt_toInt64, ti_ofn h, Int64.toInt_ofNat_of_lt (by omega)]
theorem cl_slip (hs : s ≤ 100) : ∀ (q n : Nat) (x : Int32) (k : Nat), n < q → n ≤ 6 → ((x = Int32.ofNat k ∧ k ≤ 6) ∨ (k = 0 ∧ -10 ≤ x.toInt - n ∧ x.toInt ≤ 0)) → F_X11_slipParts q C (Int32.ofNat n) x (Int32.ofNat s) = some (Int64.ofNat (slN s n k)) := by
  intro q
  induction q with
  | zero => intro n x k h; omega
  | succ q ih =>
    intro n x k hq hn hx
    have e100 : (100 : Int32) - Int32.ofNat s = Int32.ofNat (100 - s) := by
      rw [show (100 : Int32) = Int32.ofNat 100 from rfl, show (100 : Nat) = (100 - s) + s by omega, Int32.ofNat_add, Int32.add_sub_cancel, Nat.add_sub_cancel]
    show (if 0 < Int32.ofNat n then _ else _) = _
    rcases n with _ | n
    · rw [if_neg (by decide)]
      rcases hx with ⟨rfl, hk⟩ | ⟨rfl, -, h2⟩
      · rcases k with _ | k
        · rw [if_neg (by decide)]; rfl
        · rw [if_pos (by rw [show (0 : Int32) = Int32.ofNat 0 from rfl, ofn_lt (by omega) (by omega)]; omega)]; rfl
      · rw [if_neg (by rw [ti_lt, ti_0]; omega)]; rfl
    · rw [if_pos (by rw [show (0 : Int32) = Int32.ofNat 0 from rfl, ofn_lt (by omega) (by omega)]; omega), ofn_p1]
      have fin : ∀ (k1 k2 : Nat), F_X11_slipParts q C (Int32.ofNat n) (x - 1) (Int32.ofNat s) = some (Int64.ofNat (slN s n k1)) → F_X11_slipParts q C (Int32.ofNat n) x (Int32.ofNat s) = some (Int64.ofNat (slN s n k2)) → slN s (n + 1) k = s * slN s n k1 + (100 - s) * slN s n k2 → ((F_X11_slipParts q C (Int32.ofNat n) (x - 1) (Int32.ofNat s)) >>= fun r2 => (F_X11_slipParts q C (Int32.ofNat n) x (Int32.ofNat s)) >>= fun r4 => some (((Int32.ofNat s).toInt64 * r2) + (((100 : Int32) - Int32.ofNat s).toInt64 * r4))) = some (Int64.ofNat (slN s (n + 1) k)) := by
        intro k1 k2 h1 h2 h3
        rw [h1, h2, Option.bind_eq_bind, Option.bind_some, Option.bind_some, e100, i32_64 (by omega), i32_64 (by omega), i64_mul, i64_mul, i64_add, h3]
      rcases hx with ⟨rfl, hk⟩ | ⟨rfl, h1, h2⟩
      · rcases k with _ | k
        · refine fin 0 0 (ih n _ 0 (by omega) (by omega) (Or.inr ⟨rfl, ?_, ?_⟩)) (ih n _ 0 (by omega) (by omega) (Or.inl ⟨rfl, by omega⟩)) rfl
          · rw [show (Int32.ofNat 0 - 1).toInt = -1 by decide]; omega
          · rw [show (Int32.ofNat 0 - 1).toInt = -1 by decide]; omega
        · refine fin k (k + 1) ?_ (ih n _ (k + 1) (by omega) (by omega) (Or.inl ⟨rfl, by omega⟩)) rfl
          rw [ofn_p1]
          exact ih n _ k (by omega) (by omega) (Or.inl ⟨rfl, by omega⟩)
      · have e1 : (x - 1).toInt = x.toInt - 1 := by rw [ti_sub (by rw [ti_1]; omega) (by rw [ti_1]; omega), ti_1]
        refine fin 0 0 (ih n _ 0 (by omega) (by omega) (Or.inr ⟨rfl, by rw [e1]; omega, by rw [e1]; omega⟩)) (ih n _ 0 (by omega) (by omega) (Or.inr ⟨rfl, by omega, h2⟩)) rfl
theorem slN_le (hs : s ≤ 100) : ∀ (n k : Nat), slN s n k ≤ 100 ^ n := by
  intro n
  induction n with
  | zero => intro k; cases k <;> simp [slN]
  | succ n ih =>
    intro k
    have key : ∀ a b : Nat, a ≤ 100 ^ n → b ≤ 100 ^ n → s * a + (100 - s) * b ≤ 100 ^ (n + 1) := by
      intro a b ha hb
      have h1 := Nat.mul_le_mul_left s ha
      have h2 := Nat.mul_le_mul_left (100 - s) hb
      have h3 : s * 100 ^ n + (100 - s) * 100 ^ n = 100 ^ (n + 1) := by
        rw [← Nat.add_mul, show s + (100 - s) = 100 by omega, Nat.pow_succ, Nat.mul_comm]
      omega
    cases k with
    | zero => exact key _ _ (ih 0) (ih 0)
    | succ k => exact key _ _ (ih k) (ih (k + 1))
theorem i64_div {a b : Nat} (ha : a < 2 ^ 62) (hb : 0 < b) (hb2 : b < 2 ^ 62) : Int64.ofNat a / Int64.ofNat b = Int64.ofNat (a / b) := by
  have h1 : a / b ≤ a := Nat.div_le_self _ _
  apply Int64.toInt_inj.mp
  rw [Int64.toInt_div, Int64.toInt_ofNat_of_lt (by omega), Int64.toInt_ofNat_of_lt (by omega), Int64.toInt_ofNat_of_lt (by omega), ← Int.ofNat_tdiv]
  generalize a / b = z at *
  rw [Int.bmod_eq_of_le] <;> omega
theorem i64_32 (a : Nat) : (Int64.ofNat a).toInt32 = Int32.ofNat a := by
  apply Int32.toBitVec.inj
  show (Int64.ofNat a).toBitVec.signExtend 32 = _
  rw [Int64.toBitVec_ofNat', Int32.toBitVec_ofNat']
  apply BitVec.eq_of_toNat_eq
  rw [BitVec.signExtend_eq_setWidth_of_le _ (by decide), BitVec.toNat_setWidth, BitVec.toNat_ofNat, BitVec.toNat_ofNat]
  exact Nat.mod_mod_of_dvd _ ⟨2 ^ 32, by decide⟩
/-- four figures of it -/
def fig : Nat → Nat → Nat
  | 0, p => p * 100 * 100
  | 1, p => p * 100
  | 2, p => p
  | n + 3, p => fig (n + 2) (p / 100)
theorem cl_fig : ∀ (n p : Nat), n ≤ 4 → p < 2 ^ 62 → L_X11_odds_68 C (Int64.ofNat p) (Int32.ofNat (n + 2)) = some (Sum.inl (Int32.ofNat (fig (n + 2) p))) := by
  intro n
  induction n with
  | zero =>
    intro p _ _
    rw [L_X11_odds_68, if_pos (by decide), i64_32]; rfl
  | succ n ih =>
    intro p hn hp
    rw [L_X11_odds_68, if_neg (by rw [show (2 : Int32) = Int32.ofNat 2 from rfl, ofn_le (by omega) (by omega)]; omega), show (100 : Int64) = Int64.ofNat 100 from rfl, i64_div hp (by omega) (by decide), show n + 1 + 2 = (n + 2) + 1 by omega, ofn_m1, ih _ (by omega) (Nat.lt_of_le_of_lt (Nat.div_le_self _ _) hp)]
    rfl
theorem cl_fig47 {n p : Nat} (hn : n ≤ 6) (hp : p < 2 ^ 62) : L_X11_odds_47 C (Int32.ofNat n) (Int64.ofNat p) (Int32.ofNat n) = some (Sum.inl (Int32.ofNat (fig n p))) := by
  rcases n with _ | _ | n
  · have e : L_X11_odds_68 C (Int64.ofNat (p * 100 * 100)) (Int32.ofNat 0) = some (Sum.inl (Int32.ofNat (p * 100 * 100))) := by
      rw [L_X11_odds_68, if_pos (by decide), i64_32]
    rw [L_X11_odds_47, if_neg (by decide), L_X11_odds_47, if_neg (by decide), L_X11_odds_47, if_pos (by decide), show (100 : Int64) = Int64.ofNat 100 from rfl, i64_mul, i64_mul, e]
    rfl
  · have e : L_X11_odds_68 C (Int64.ofNat (p * 100)) (Int32.ofNat 1) = some (Sum.inl (Int32.ofNat (p * 100))) := by
      rw [L_X11_odds_68, if_pos (by decide), i64_32]
    rw [L_X11_odds_47, if_neg (by decide), L_X11_odds_47, if_pos (by decide), show (100 : Int64) = Int64.ofNat 100 from rfl, i64_mul]
    exact e
  · rw [L_X11_odds_47, if_pos (by rw [show (2 : Int32) = Int32.ofNat 2 from rfl, ofn_le (by omega) (by omega)]; omega)]
    exact cl_fig n p (by omega) hp
/-- the reference's ways -/
def wyN (s : Nat) : Nat → Nat → Nat
  | 0, i => if i = 0 then 1 else 0
  | t + 1, i => wyN s t i * (100 - s) + (if i = 0 then 0 else wyN s t (i - 1) * s)
def smW (s n : Nat) : Nat → Nat → Nat
  | _, 0 => 0
  | i, r + 1 => wyN s n i + smW s n (i + 1) r
theorem odds_eq : ∀ s, s < 101 → ∀ n, n < 7 → ∀ k, k < 7 → fig n (slN s n k) = 10000 * smW s n k (7 - k) / 100 ^ n := by decide +kernel
end
