section
variable {C M : HI} {n d : Nat} {W : Nat → Int32} {x1 x2 x3 : Int32}
theorem tb_nat {s j : Nat} (h : j < 32) : tb (Int32.ofNat s) j = s.testBit j := by
  unfold tb
  rw [Int32.toBitVec_ofNat', BitVec.getLsbD_ofNat]
  simp [h]
def Ag (W : Nat → Int32) (d : Nat) : Nat := (W (22 + 8 * d)).toInt.toNat / 100
theorem Ag_div {x : Int32} (h : rg x 0 9999) : x / 100 = Int32.ofNat (x.toInt.toNat / 100) := by
  obtain ⟨h1, h2⟩ := h
  obtain ⟨m, hm, rfl⟩ : ∃ m, m < 10000 ∧ x = Int32.ofNat m := ⟨x.toInt.toNat, by omega, by rw [ti_eq, ti_ofn (by omega)]; omega⟩
  rw [show (100 : Int32) = Int32.ofNat 100 from rfl, ofn_div (by omega) (by omega) (by omega), ti_ofn (by omega)]
  rfl
def wsN (w : Nat → Nat) (P : Nat → Bool) : Nat → Nat
  | 0 => 0
  | n + 1 => wsN w P n + if P n = true then w n else 0
theorem ws_or (w : Nat → Nat) (P P' : Nat → Bool) (l : Nat) : ∀ n, (∀ d, d < n → P' d = (P d || decide (d = l))) → wsN w P' n ≤ wsN w P n + if l < n then w l else 0 := by
  intro n
  induction n with
  | zero => intro _; exact Nat.zero_le _
  | succ n ih =>
    intro h
    have := ih (fun d hd => h d (by omega))
    show wsN w P' n + (if P' n = true then w n else 0) ≤ wsN w P n + (if P n = true then w n else 0) + _
    rw [h n (by omega)]
    by_cases q : n = l
    · subst q
      rw [if_neg (by omega)] at this
      rw [if_pos (show n < n + 1 by omega)]
      cases P n <;> simp <;> omega
    · have e : (if l < n + 1 then w l else 0) = if l < n then w l else 0 := by
        by_cases z : l < n
        · rw [if_pos z, if_pos (by omega)]
        · rw [if_neg z, if_neg (by omega)]
      rw [e]
      simp only [q, decide_false, Bool.or_false]
      omega
theorem ws_get (w : Nat → Nat) (P : Nat → Bool) {d : Nat} (hp : P d = true) : ∀ n, d < n → w d ≤ wsN w P n := by
  intro n
  induction n with
  | zero => intro h; omega
  | succ n ih =>
    intro h
    show w d ≤ wsN w P n + (if P n = true then w n else 0)
    by_cases q : d = n
    · subst q
      rw [if_pos hp]; omega
    · have := ih (by omega); omega
theorem ws_split (w : Nat → Nat) (P : Nat → Bool) (A : Nat → Nat) (k : Nat) : ∀ n, wsN w (fun d => P d && decide (A d < k + 1)) n = wsN w (fun d => P d && decide (A d < k)) n + wsN w (fun d => P d && decide (A d = k)) n := by
  intro n
  induction n with
  | zero => rfl
  | succ n ih =>
    show wsN w _ n + _ = (wsN w _ n + _) + (wsN w _ n + _)
    rw [ih]
    cases hP : P n
    · simp [hP]
    · rcases Nat.lt_trichotomy (A n) k with q | q | q
      · simp [hP, q, show A n < k + 1 by omega, show ¬ A n = k by omega]; omega
      · simp [hP, q]; omega
      · simp [hP, show ¬ A n < k + 1 by omega, show ¬ A n < k by omega, show ¬ A n = k by omega]
theorem ws_mono (w : Nat → Nat) (P P' : Nat → Bool) (h : ∀ d, P d = true → P' d = true) : ∀ n, wsN w P n ≤ wsN w P' n := by
  intro n
  induction n with
  | zero => exact Nat.le_refl _
  | succ n ih =>
    show wsN w P n + (if P n = true then w n else 0) ≤ wsN w P' n + (if P' n = true then w n else 0)
    by_cases q : P n = true
    · rw [if_pos q, if_pos (h n q)]; omega
    · rw [if_neg q]; omega
theorem ws_pow (s : Nat) : ∀ n, wsN (fun d => 2 ^ d) (fun d => s.testBit d) n = s % 2 ^ n := by
  intro n
  induction n with
  | zero => rw [Nat.pow_zero, Nat.mod_one]; rfl
  | succ n ih =>
    show wsN _ _ n + (if s.testBit n = true then 2 ^ n else 0) = _
    rw [ih, Nat.mod_pow_succ, Nat.testBit_eq_decide_div_mod_eq]
    have : s / 2 ^ n % 2 < 2 := Nat.mod_lt _ (by omega)
    by_cases q : s / 2 ^ n % 2 = 1
    · simp [q]
    · simp [q, show s / 2 ^ n % 2 = 0 by omega]
theorem ws_cnt (P : Nat → Bool) : ∀ n, wsN (fun _ => 1) P n = cntN n P := by
  intro n
  induction n with
  | zero => rfl
  | succ n ih =>
    rw [cntN_succ, ← ih]
    rfl
/-- d is a dish of the age a -/
def Qa (W : Nat → Int32) (a d : Nat) : Prop := ¬ W (22 + 8 * d) = -1 ∧ Ag W d = a
theorem had_rg {n : Nat} (hW : DOk n W) {d : Nat} (hd : d < 12) (h : ¬ W (22 + 8 * d) = -1) : rg (W (22 + 8 * d)) 0 9999 := by
  obtain ⟨h1, h2⟩ := (hW.2.2 d hd).2.1
  rw [ti_eq, ti_m1] at h
  exact ⟨by omega, h2⟩
theorem inAge_iff {n : Nat} (hW : DOk n W) {a d : Nat} (ha : a < 10) (hd : d < 12) : (¬ W (22 + 8 * d) = -1 ∧ ¬ W (22 + 8 * d) < Int32.ofNat a * 100 ∧ ¬ (Int32.ofNat a * 100 + 99) < W (22 + 8 * d)) ↔ Qa W a d := by
  unfold Qa
  refine and_congr_right (fun h => ?_)
  obtain ⟨h1, h2⟩ := had_rg hW hd h
  have e1 : Int32.ofNat a * (100 : Int32) = Int32.ofNat (a * 100) := by rw [Int32.ofNat_mul]; rfl
  have e2 : Int32.ofNat (a * 100) + (99 : Int32) = Int32.ofNat (a * 100 + 99) := by rw [Int32.ofNat_add]; rfl
  rw [e1, e2, ti_lt, ti_lt, ti_ofn (by omega), ti_ofn (by omega)]
  unfold Ag
  omega
theorem cl_lst8 {S : Int32} (h0 : C 4 0 = Int32.ofNat n) (hn : n ≤ 12) : ∀ r i, i + r = n → ∃ o, L_X1_leastOfAge_8 C 4 S (Int32.ofNat i) = some (enc o) ∧ ((o = none ∧ ∀ d, i ≤ d → d < n → tb S d = false) ∨ ∃ l, o = some l ∧ i ≤ l ∧ l < n ∧ tb S l = true ∧ ∀ d, i ≤ d → d < n → tb S d = true → l ≤ d) := by
  intro r
  induction r with
  | zero =>
    intro i h
    refine ⟨none, ?_, Or.inl ⟨rfl, fun d h1 h2 => by omega⟩⟩
    rw [L_X1_leastOfAge_8, h0, show i = n by omega, if_pos (Int32.le_refl _)]
    rfl
  | succ r ih =>
    intro i h
    rw [L_X1_leastOfAge_8, h0, if_neg (by rw [ofn_le (by omega) (by omega)]; omega), sh_tb (by omega)]
    by_cases q : tb S i = true
    · rw [if_pos q, if_neg (by decide)]
      exact ⟨some i, rfl, Or.inr ⟨i, rfl, Nat.le_refl _, by omega, q, fun d h1 _ _ => h1⟩⟩
    · rw [if_neg q, if_pos rfl, ofn_succ]
      obtain ⟨o, e, f⟩ := ih (i + 1) (by omega)
      refine ⟨o, e, ?_⟩
      have q' : tb S i = false := by cases z : tb S i <;> simp_all
      rcases f with ⟨f1, f2⟩ | ⟨l, f1, f2, f3, f4, f5⟩
      · refine Or.inl ⟨f1, fun d h1 h2 => ?_⟩
        by_cases z : d = i
        · rw [z, q']
        · exact f2 d (by omega) h2
      · refine Or.inr ⟨l, f1, by omega, f3, f4, fun d h1 h2 h3 => ?_⟩
        by_cases z : d = i
        · rw [z, q'] at h3; cases h3
        · exact f5 d (by omega) h2 h3
theorem cl_lst (hD : DR C 4 W) (hW : DOk n W) {a : Nat} (ha : a < 10) : ∃ o, F_X1_leastOfAge C 4 (Int32.ofNat a) = some (enc o) ∧ ((o = none ∧ ∀ d, d < n → ¬ Qa W a d) ∨ ∃ l, o = some l ∧ l < n ∧ Qa W a l ∧ ∀ d, d < n → Qa W a d → l ≤ d) := by
  have hn := hW.2.1
  unfold F_X1_leastOfAge F_X1_inAge
  rw [cl_firstIn hD hW]
  simp only [Option.bind_eq_bind, Option.bind_some]
  have hb : ∀ d, d < n → (tb (bits n (fun d => decide (¬ W (22 + 8 * d) = -1 ∧ ¬ W (22 + 8 * d) < Int32.ofNat a * 100 ∧ ¬ (Int32.ofNat a * 100 + 99) < W (22 + 8 * d)))) d = true ↔ Qa W a d) := by
    intro d hd
    rw [tb_bits (by omega)]
    simp only [hd, decide_true, Bool.true_and, decide_eq_true_eq]
    exact inAge_iff hW ha (by omega)
  obtain ⟨o, e, f⟩ := cl_lst8 (C := C) (S := bits n (fun d => decide (¬ W (22 + 8 * d) = -1 ∧ ¬ W (22 + 8 * d) < Int32.ofNat a * 100 ∧ ¬ (Int32.ofNat a * 100 + 99) < W (22 + 8 * d)))) (cl_n hD hW) hn n 0 (by omega)
  refine ⟨o, e, ?_⟩
  rcases f with ⟨f1, f2⟩ | ⟨l, f1, -, f3, f4, f5⟩
  · exact Or.inl ⟨f1, fun d hd q => by have := f2 d (by omega) hd; rw [(hb d hd).mpr q] at this; cases this⟩
  · exact Or.inr ⟨l, f1, f3, (hb l f3).mp f4, fun d hd q => f5 d (by omega) hd ((hb d hd).mpr q)⟩
/-- what the class has put together at the age a -/
def FwI (W : Nat → Int32) (n : Nat) (x1 : Int32) (a : Nat) (B : Int32) : Prop := (∀ j, tb B j = true → j < n ∧ ∃ k, k < a ∧ tb x1 k = true ∧ Qa W k j) ∧ (∀ k, k < a → tb x1 k = true → ∃ j, tb B j = true ∧ Qa W k j) ∧ ∀ (w : Nat → Nat) (S : Nat → Bool), (∀ i j, i ≤ j → w i ≤ w j) → (∀ k, k < 10 → tb x1 k = true → ∃ d, d < n ∧ S d = true ∧ Qa W k d) → wsN w (tb B) n ≤ wsN w (fun d => S d && decide (Ag W d < a)) n
theorem cl_fw (hD : DR C 4 W) (hW : DOk n W) : ∀ r a B, a + r = 10 → FwI W n x1 a B → ∃ z, L_X11_fewest_46 C x1 B (Int32.ofNat a) = some (Sum.inl z) ∧ ((z = -1 ∧ ∃ k, k < 10 ∧ tb x1 k = true ∧ ∀ d, d < n → ¬ Qa W k d) ∨ FwI W n x1 10 z) := by
  have hn := hW.2.1
  intro r
  induction r with
  | zero =>
    intro a B h hI
    refine ⟨B, ?_, Or.inr ?_⟩
    · rw [L_X11_fewest_46, show a = 10 by omega, if_pos (by decide)]
    · rw [show a = 10 by omega] at hI; exact hI
  | succ r ih =>
    intro a B h hI
    rw [L_X11_fewest_46, if_neg (by rw [show (10 : Int32) = Int32.ofNat 10 from rfl, ofn_le (by omega) (by omega)]; omega), sh_tb (by omega), ofn_succ]
    obtain ⟨i1, i2, i3⟩ := hI
    by_cases q : tb x1 a = true
    · rw [if_pos q, if_neg (by decide)]
      obtain ⟨o, e, f⟩ := cl_lst hD hW (show a < 10 by omega)
      rw [e, Option.bind_eq_bind, Option.bind_some]
      rcases f with ⟨f1, f2⟩ | ⟨l, f1, f2, f3, f4⟩
      · rw [f1, if_pos (show enc none = -1 from rfl)]
        exact ⟨-1, rfl, Or.inl ⟨rfl, a, by omega, q, f2⟩⟩
      · rw [f1, if_neg (show ¬ enc (some l) = -1 from ofn_ne_m1 (by omega))]
        refine ih (a + 1) _ (by omega) ⟨?_, ?_, ?_⟩
        · intro j hj
          rw [tb_or] at hj
          by_cases z : tb B j = true
          · obtain ⟨g1, k, g2, g3⟩ := i1 j z
            exact ⟨g1, k, by omega, g3⟩
          · have z' : tb B j = false := by cases y : tb B j <;> simp_all
            rw [z', Bool.false_or] at hj
            have hj2 : tb (bitN l) j = true := hj
            rw [tb_bitN (by omega)] at hj2
            have : j = l := by simpa using hj2
            subst this
            exact ⟨f2, a, by omega, q, f3⟩
        · intro k hk hk1
          by_cases z : k = a
          · refine ⟨l, ?_, by rw [z]; exact f3⟩
            rw [tb_or]
            have : tb (bitN l) l = true := by rw [tb_bitN (by omega)]; simp
            have t2 : tb ((1 : Int32) <<< (enc (some l) &&& 31)) l = true := this
            rw [t2, Bool.or_true]
          · obtain ⟨j, g1, g2⟩ := i2 k (by omega) hk1
            exact ⟨j, by rw [tb_or, g1, Bool.true_or], g2⟩
        · intro w S hw hS
          have h3 := i3 w S hw hS
          have h4 := ws_or w (tb B) (tb (B ||| ((1 : Int32) <<< (enc (some l) &&& 31)))) l n (fun d hd => by
            rw [tb_or]
            have t2 : tb ((1 : Int32) <<< (enc (some l) &&& 31)) d = tb (bitN l) d := rfl
            rw [t2, tb_bitN (by omega)])
          rw [if_pos f2] at h4
          rw [ws_split]
          obtain ⟨d, g1, g2, g3⟩ := hS a (by omega) q
          have h5 := ws_get w (fun d => S d && decide (Ag W d = a)) (d := d) (by simp [g2, g3.2]) n g1
          have h6 := hw l d (f4 d g1 g3)
          omega
    · rw [if_neg q, if_pos rfl]
      refine ih (a + 1) B (by omega) ⟨?_, ?_, ?_⟩
      · intro j hj
        obtain ⟨g1, k, g2, g3⟩ := i1 j hj
        exact ⟨g1, k, by omega, g3⟩
      · intro k hk hk1
        by_cases z : k = a
        · rw [z] at hk1; exact absurd hk1 q
        · exact i2 k (by omega) hk1
      · intro w S hw hS
        have h3 := i3 w S hw hS
        rw [ws_split]; omega
end
