section
variable {C C' M M' : HI} {n N T d b : Nat} {x1 x2 : Int32} {W : Nat → Int32}
theorem fst_nat (hD : DOk n W) (hd : d < 12) (h : ¬ W (22 + 8 * d) = -1) : ∃ f, f ≤ 9999 ∧ W (22 + 8 * d) = Int32.ofNat f := by
  obtain ⟨h1, h2⟩ := (hD.2.2 d hd).2.1
  rw [ti_eq, ti_m1] at h
  refine ⟨(W (22 + 8 * d)).toInt.toNat, by omega, ?_⟩
  rw [ti_eq, ti_ofn (by omega)]; omega
theorem byI_and : ∀ v, v < 256 → byI v &&& 255 = Int32.ofNat v := by decide +kernel
/-- dish d fits the look v -/
def fitV (W : Nat → Int32) (d v : Nat) : Bool := decide (¬ W (22 + 8 * d) = -1 ∧ (W (22 + 8 * d)).toInt / 10 ≤ v ∧ (v : Int) ≤ (W (22 + 8 * d)).toInt / 10 + 1)
theorem tb_dec (hD : DR C b W) (hW : DOk n W) {v : Nat} (hv : v < 256) : ∃ x y, F_X1_inDecade C b (Int32.ofNat v) = some x ∧ F_X1_inDecade C b (Int32.ofNat v - 1) = some y ∧ ∀ j, tb (x ||| y) j = (decide (j < n) && fitV W j v) := by
  have hn := hW.2.1
  have e1 : F_X1_inDecade C b (Int32.ofNat v) = some (bits n (fun d => decide (¬ W (22 + 8 * d) = -1 ∧ ¬ W (22 + 8 * d) < Int32.ofNat v * 10 ∧ ¬ Int32.ofNat v * 10 + 9 < W (22 + 8 * d)))) := by
    unfold F_X1_inDecade
    rw [if_pos (by rw [show (0 : Int32) = Int32.ofNat 0 from rfl, ofn_le (by omega) (by omega)]; omega), cl_firstIn hD hW]; rfl
  have m1 : (Int32.ofNat v * 10).toInt = 10 * v := by
    have : Int32.ofNat v * 10 = Int32.ofNat (v * 10) := by rw [Int32.ofNat_mul]; rfl
    rw [this, ti_ofn (by omega)]; omega
  have m2 : (Int32.ofNat v * 10 + 9).toInt = 10 * v + 9 := by rw [ti_add (by rw [m1, ti_9]; omega) (by rw [m1, ti_9]; omega), m1, ti_9]
  rcases v with _ | w
  · refine ⟨_, 0, e1, ?_, fun j => ?_⟩
    · unfold F_X1_inDecade
      rw [if_neg (by decide)]
    · rw [tb_or, tb_0, Bool.or_false, tb_bits (by omega)]
      by_cases hj : j < n
      rotate_left
      · simp [hj]
      congr 1
      unfold fitV
      congr 1
      apply propext
      constructor
      · rintro ⟨h1, h2, h3⟩
        rw [ti_lt, m1] at h2
        rw [ti_lt, m2] at h3
        exact ⟨h1, by omega, by omega⟩
      · rintro ⟨h1, h2, h3⟩
        refine ⟨h1, ?_, ?_⟩
        · rw [ti_lt, m1]
          by_cases q : j < 12
          · have := (hW.2.2 j q).2.1.1
            rw [ti_eq, ti_m1] at h1
            omega
          · omega
        · rw [ti_lt, m2]; omega
  · have e2 : F_X1_inDecade C b (Int32.ofNat (w + 1) - 1) = some (bits n (fun d => decide (¬ W (22 + 8 * d) = -1 ∧ ¬ W (22 + 8 * d) < Int32.ofNat w * 10 ∧ ¬ Int32.ofNat w * 10 + 9 < W (22 + 8 * d)))) := by
      unfold F_X1_inDecade
      rw [ofn_p1, if_pos (by rw [show (0 : Int32) = Int32.ofNat 0 from rfl, ofn_le (by omega) (by omega)]; omega), cl_firstIn hD hW]; rfl
    have m3 : (Int32.ofNat w * 10).toInt = 10 * w := by
      have : Int32.ofNat w * 10 = Int32.ofNat (w * 10) := by rw [Int32.ofNat_mul]; rfl
      rw [this, ti_ofn (by omega)]; omega
    have m4 : (Int32.ofNat w * 10 + 9).toInt = 10 * w + 9 := by rw [ti_add (by rw [m3, ti_9]; omega) (by rw [m3, ti_9]; omega), m3, ti_9]
    refine ⟨_, _, e1, e2, fun j => ?_⟩
    rw [tb_or, tb_bits (by omega), tb_bits (by omega), ← Bool.and_or_distrib_left]
    congr 1
    unfold fitV
    rw [← Bool.decide_or]
    congr 1
    apply propext
    constructor
    · rintro (⟨h1, h2, h3⟩ | ⟨h1, h2, h3⟩)
      · rw [ti_lt, m1] at h2
        rw [ti_lt, m2] at h3
        exact ⟨h1, by omega, by omega⟩
      · rw [ti_lt, m3] at h2
        rw [ti_lt, m4] at h3
        exact ⟨h1, by omega, by omega⟩
    · rintro ⟨h1, h2, h3⟩
      rw [ti_lt, ti_lt, ti_lt, ti_lt, m1, m2, m3, m4]
      by_cases q : (W (22 + 8 * j)).toInt < 10 * ((w + 1 : Nat) : Int)
      · exact Or.inr ⟨h1, by omega, by omega⟩
      · exact Or.inl ⟨h1, by omega, by omega⟩
/-- the dishes that fit all looks -/
def fitA (W : Nat → Int32) (vs : Nat → Nat) (T d : Nat) : Bool := decide (¬ W (22 + 8 * d) = -1 ∧ ∀ i, i < T → fitV W d (vs i) = true)
theorem cl_fit (hL : LR C 3 W) (hW : DOk n W) (hT : T ≤ 400) {vs : Nat → Nat} (hv : ∀ i, i < T → vs i < 256 ∧ C 2 i = Int32.ofNat (vs i)) : F_X11_fitting C (Int32.ofNat T) = some (bits n (fitA W vs T)) := by
  have hD := hL.D
  have hn := hW.2.1
  unfold F_X11_fitting F_X1_allHad
  rw [cl_firstIn hD hW]
  simp only [Option.bind_eq_bind, Option.bind_some]
  have key : ∀ (k i : Nat) (acc : Int32), i + k = T → (∀ j, tb acc j = (decide (j < n) && fitA W vs i j)) → L_X11_fitting_13 C (Int32.ofNat T) acc (Int32.ofNat i) = some (bits n (fitA W vs T)) := by
    intro k
    induction k with
    | zero =>
      intro i acc hi ha
      rw [L_X11_fitting_13, show i = T by omega, if_pos (Int32.le_refl _)]
      congr 1
      apply tb_ext
      intro j _
      rw [ha j, tb_bits (by omega), show i = T by omega]
    | succ k ih =>
      intro i acc hi ha
      obtain ⟨v1, v2⟩ := hv i (by omega)
      obtain ⟨x, y, e1, e2, e3⟩ := tb_dec (b := 3 + 1) hD hW v1
      have e1' : F_X1_inDecade C 4 (Int32.ofNat (vs i)) = some x := e1
      have e2' : F_X1_inDecade C 4 (Int32.ofNat (vs i) - 1) = some y := e2
      rw [L_X11_fitting_13, if_neg (by rw [ofn_le (by omega) (by omega)]; omega), if_neg (by rw [show (400 : Int32) = Int32.ofNat 400 from rfl, ofn_le (by omega) (by omega)]; omega), ald_ofn (by omega) (by omega), v2]
      simp only [Option.bind_eq_bind, Option.bind_some]
      rw [e1', Option.bind_some, e2', Option.bind_some, ofn_succ]
      refine ih (i + 1) _ (by omega) (fun j => ?_)
      rw [tb_and, ha j, e3 j]
      by_cases hj : j < n
      · simp only [hj, decide_true, Bool.true_and]
        unfold fitA
        rw [← Bool.decide_eq_true (b := fitV W j (vs i)), ← Bool.decide_and]
        congr 1
        apply propext
        constructor
        · rintro ⟨⟨h1, h2⟩, h3⟩
          refine ⟨h1, fun i' hi' => ?_⟩
          rcases Nat.lt_or_ge i' i with q | q
          · exact h2 i' q
          · rw [show i' = i by omega]; exact h3
        · rintro ⟨h1, h2⟩
          exact ⟨⟨h1, fun i' hi' => h2 i' (by omega)⟩, h2 i (by omega)⟩
      · simp [hj]
  refine key T 0 _ (by omega) (fun j => ?_)
  rw [tb_bits (by omega)]
  by_cases hj : j < n
  · simp only [hj, decide_true, Bool.true_and]
    unfold fitA
    congr 1
    apply propext
    constructor
    · rintro ⟨h1, -, -⟩; exact ⟨h1, fun i hi => by omega⟩
    · rintro ⟨h1, -⟩
      obtain ⟨f, f1, f2⟩ := fst_nat hW (show j < 12 by omega) h1
      refine ⟨h1, ?_, ?_⟩
      · rw [f2]; exact ofn_nneg (by omega)
      · rw [f2, show (9999 : Int32) = Int32.ofNat 9999 from rfl, ofn_lt (by omega) (by omega)]; omega
  · simp [hj]
theorem m_fits (hW : DOk n (M 206)) (h11 : M 205 11 = Int32.ofNat T) (hT : T ≤ 400) {vs : Nat → Nat} (hv : ∀ i, i < T → vs i < 256 ∧ M 211 i = byI (vs i)) (hd : d < 12) : F_X12_fits M (Int32.ofNat d) = some (if fitA (M 206) vs T d = true then 1 else 0) := by
  unfold F_X12_fits
  rw [m_isNew hd, Option.bind_eq_bind, Option.bind_some]
  have z : ∀ i, i ≤ T → L_X12_fits_16 M (Int32.ofNat d) 0 (Int32.ofNat i) = some 0 := by
    intro i _
    rw [L_X12_fits_16]
    split
    · rfl
    · rfl
  by_cases h0 : M 206 (22 + 8 * d) = -1
  · rw [if_pos h0, if_neg (by decide)]
    have := z 0 (by omega)
    rw [show Int32.ofNat 0 = 0 from rfl] at this
    rw [this]
    have : fitA (M 206) vs T d = false := by unfold fitA; simp [h0]
    rw [this]; rfl
  · rw [if_neg h0, if_pos rfl]
    obtain ⟨f, f1, f2⟩ := fst_nat hW hd h0
    have key : ∀ (k i : Nat), i + k = T → L_X12_fits_16 M (Int32.ofNat d) 1 (Int32.ofNat i) = some (if (∀ i', i' < T → i ≤ i' → fitV (M 206) d (vs i') = true) then 1 else 0) := by
      intro k
      induction k with
      | zero =>
        intro i hi
        rw [L_X12_fits_16, h11, show i = T by omega, if_pos (Int32.le_refl _), if_pos (Or.inr rfl), if_pos (fun i' h1 h2 => by omega)]
      | succ k ih =>
        intro i hi
        obtain ⟨v1, v2⟩ := hv i (by omega)
        have e1 : (byI (vs i) &&& 255) - Int32.ofNat f / 10 = Int32.ofNat (vs i) - Int32.ofNat (f / 10) := by
          rw [byI_and _ v1, show (10 : Int32) = Int32.ofNat 10 from rfl, ofn_div (by omega) (by omega) (by omega)]
        have e2 : (Int32.ofNat (vs i) - Int32.ofNat (f / 10)).toInt = (vs i : Int) - (f / 10 : Nat) := by
          rw [ti_sub (by rw [ti_ofn (by omega), ti_ofn (by omega)]; omega) (by rw [ti_ofn (by omega), ti_ofn (by omega)]; omega), ti_ofn (by omega), ti_ofn (by omega)]
        have e3 : fitV (M 206) d (vs i) = true ↔ (¬ (Int32.ofNat (vs i) - Int32.ofNat (f / 10)) < 0 ∧ ¬ (1 : Int32) < Int32.ofNat (vs i) - Int32.ofNat (f / 10)) := by
          unfold fitV
          rw [decide_eq_true_eq, f2, ti_ofn (by omega), ti_lt, ti_lt, e2, ti_0, ti_1, ← f2]
          constructor
          · rintro ⟨-, h2, h3⟩; omega
          · rintro ⟨h2, h3⟩; exact ⟨h0, by omega, by omega⟩
        rw [L_X12_fits_16, h11, if_neg (by rw [ofn_le (by omega) (by omega)]; omega), if_neg (by decide), ald_ofn (by omega) (by omega), v2, Option.bind_eq_bind, Option.bind_some, m_fst hd, Option.bind_some, f2, e1, ofn_succ]
        by_cases q : fitV (M 206) d (vs i) = true
        · rw [m_in1 (e3.mp q), Option.bind_some, ih (i + 1) (by omega)]
          congr 1
          have : (∀ i', i' < T → i + 1 ≤ i' → fitV (M 206) d (vs i') = true) ↔ (∀ i', i' < T → i ≤ i' → fitV (M 206) d (vs i') = true) := by
            constructor
            · intro w i' h1 h2
              rcases Nat.lt_or_ge i i' with y | y
              · exact w i' h1 y
              · rw [show i' = i by omega]; exact q
            · intro w i' h1 h2; exact w i' h1 (by omega)
          simp only [this]
        · have : Int32.ofNat (vs i) - Int32.ofNat (f / 10) < 0 ∨ (1 : Int32) < Int32.ofNat (vs i) - Int32.ofNat (f / 10) := by
            rcases in_or (Int32.ofNat (vs i) - Int32.ofNat (f / 10)) 0 1 with w | w
            · exact absurd (e3.mpr w) q
            · exact w
          rw [m_in0 this, Option.bind_some, z (i + 1) (by omega), if_neg (fun w => q (w i (by omega) (Nat.le_refl _)))]
    have := key T 0 (by omega)
    rw [show Int32.ofNat 0 = 0 from rfl] at this
    rw [this]
    congr 1
    unfold fitA
    simp only [decide_eq_true_eq]
    by_cases w : ∀ i, i < T → fitV (M 206) d (vs i) = true
    · rw [if_pos (show ∀ i', i' < T → 0 ≤ i' → fitV (M 206) d (vs i') = true from fun i' h2 _ => w i' h2), if_pos ⟨h0, w⟩]
    · rw [if_neg (show ¬ ∀ i', i' < T → 0 ≤ i' → fitV (M 206) d (vs i') = true from fun y => w (fun i hi => y i hi (by omega))), if_neg (show ¬ (¬ M 206 (22 + 8 * d) = -1 ∧ ∀ i, i < T → fitV (M 206) d (vs i) = true) from fun y => w y.2)]
theorem m_fit (hW : DOk n (M 206)) (h11 : M 205 11 = Int32.ofNat T) (hT : T ≤ 400) {vs : Nat → Nat} (hv : ∀ i, i < T → vs i < 256 ∧ M 211 i = byI (vs i)) : F_X12_allThatFit M = some (bits n (fitA (M 206) vs T)) := by
  have hn := hW.2.1
  unfold F_X12_allThatFit bits
  refine lp_rule (fun s i => L_X12_allThatFit_4 M s i) n (by omega) _ (fun s => s) (fun s => ?_) (fun i s hi => ?_) n 0 0 (by omega)
  · rw [L_X12_allThatFit_4]
    unfold F_X12_dishes
    rw [Option.bind_eq_bind, Option.bind_some, hW.1, if_pos (Int32.le_refl _)]
  · try simp only
    rw [L_X12_allThatFit_4]
    unfold F_X12_dishes
    rw [m_fits hW h11 hT hv (show i < 12 by omega)]
    simp only [Option.bind_eq_bind, Option.bind_some]
    rw [hW.1, if_neg (by rw [ofn_le (by omega) (by omega)]; omega)]
    by_cases q : fitA (M 206) vs T i = true
    · simp [q, bitN]
    · simp [q]
end
