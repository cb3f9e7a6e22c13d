section
variable {C M : HI} {n d : Nat} {x1 x2 x3 : Int32}
theorem m_ages4 (hW : DOk n (M 206)) {S : Int32} : ∀ r i x, i + r = n → ∃ z, L_X12_agesOf_4 M S x (Int32.ofNat i) = some z ∧ ((z = -1 ∧ ∃ d, i ≤ d ∧ d < n ∧ tb S d = true ∧ M 206 (22 + 8 * d) = -1) ∨ ((∀ d, i ≤ d → d < n → tb S d = true → ¬ M 206 (22 + 8 * d) = -1) ∧ ∀ j, j < 32 → (tb z j = true ↔ tb x j = true ∨ (j < 10 ∧ ∃ d, i ≤ d ∧ d < n ∧ tb S d = true ∧ Ag (M 206) d = j)))) := by
  have hn := hW.2.1
  intro r
  induction r with
  | zero =>
    intro i x h
    refine ⟨x, ?_, Or.inr ⟨fun d h1 h2 => by omega, fun j _ => ⟨Or.inl, fun q => ?_⟩⟩⟩
    · rw [L_X12_agesOf_4]
      unfold F_X12_dishes
      rw [Option.bind_eq_bind, Option.bind_some, hW.1, show i = n by omega, if_pos (Int32.le_refl _)]
    · rcases q with q | ⟨-, d, h1, h2, -⟩
      · exact q
      · omega
  | succ r ih =>
    intro i x h
    rw [L_X12_agesOf_4]
    unfold F_X12_dishes
    simp only [Option.bind_eq_bind]
    rw [Option.bind_some, hW.1, if_neg (by rw [ofn_le (by omega) (by omega)]; omega), has_tb (by omega), Option.bind_some, ofn_succ]
    by_cases q : tb S i = true
    · rw [if_pos q, if_neg (by decide), m_isNew (by omega), Option.bind_some]
      by_cases w : M 206 (22 + 8 * i) = -1
      · rw [if_pos w, if_neg (by decide)]
        exact ⟨-1, rfl, Or.inl ⟨rfl, i, Nat.le_refl _, by omega, q, w⟩⟩
      · rw [if_neg w, if_pos rfl]
        have ea : F_X12_ageOf M (Int32.ofNat i) = some (Int32.ofNat (Ag (M 206) i)) := by
          unfold F_X12_ageOf
          rw [m_fst (by omega), Option.bind_eq_bind, Option.bind_some, Ag_div (had_rg hW (by omega) w)]
          rfl
        have hA : Ag (M 206) i < 100 := by
          have := (had_rg hW (show i < 12 by omega) w).2
          unfold Ag; omega
        rw [ea, Option.bind_some]
        have fin : ∀ y, (∀ j, j < 32 → (tb y j = true ↔ tb x j = true ∨ (j < 10 ∧ Ag (M 206) i = j))) → ∃ z, L_X12_agesOf_4 M S y (Int32.ofNat (i + 1)) = some z ∧ ((z = -1 ∧ ∃ d, i ≤ d ∧ d < n ∧ tb S d = true ∧ M 206 (22 + 8 * d) = -1) ∨ ((∀ d, i ≤ d → d < n → tb S d = true → ¬ M 206 (22 + 8 * d) = -1) ∧ ∀ j, j < 32 → (tb z j = true ↔ tb x j = true ∨ (j < 10 ∧ ∃ d, i ≤ d ∧ d < n ∧ tb S d = true ∧ Ag (M 206) d = j)))) := by
          intro y hy
          obtain ⟨z, e, f⟩ := ih (i + 1) y (by omega)
          refine ⟨z, e, ?_⟩
          rcases f with ⟨f1, d, f2, f3, f4⟩ | ⟨f1, f2⟩
          · exact Or.inl ⟨f1, d, by omega, f3, f4⟩
          · refine Or.inr ⟨fun d h1 h2 h3 => ?_, fun j hj => ?_⟩
            · by_cases v : d = i
              · rw [v]; exact w
              · exact f1 d (by omega) h2 h3
            · rw [f2 j hj, hy j hj]
              constructor
              · rintro ((g | ⟨g1, g2⟩) | ⟨g1, d, g2, g3⟩)
                · exact Or.inl g
                · exact Or.inr ⟨g1, i, Nat.le_refl _, by omega, q, g2⟩
                · exact Or.inr ⟨g1, d, by omega, g3⟩
              · rintro (g | ⟨g1, d, g2, g3, g4, g5⟩)
                · exact Or.inl (Or.inl g)
                · by_cases v : d = i
                  · rw [v] at g5; exact Or.inl (Or.inr ⟨g1, g5⟩)
                  · exact Or.inr ⟨g1, d, by omega, g3, g4, g5⟩
        by_cases v : 10 ≤ Ag (M 206) i
        · rw [if_pos (by rw [show (10 : Int32) = Int32.ofNat 10 from rfl, ofn_le (by omega) (by omega)]; exact v)]
          refine fin _ (fun j hj => ?_)
          rw [tb_or, tb_0, Bool.or_false]
          exact ⟨Or.inl, fun g => g.elim id (fun ⟨g1, g2⟩ => by omega)⟩
        · rw [if_neg (by rw [show (10 : Int32) = Int32.ofNat 10 from rfl, ofn_le (by omega) (by omega)]; exact v), Option.bind_some]
          refine fin _ (fun j hj => ?_)
          have t2 : tb ((1 : Int32) <<< (Int32.ofNat (Ag (M 206) i) &&& 31)) j = tb (bitN (Ag (M 206) i)) j := rfl
          rw [tb_or, t2, tb_bitN (by omega), Bool.or_eq_true, decide_eq_true_eq]
          refine or_congr_right ⟨fun g => ⟨by omega, g.symm⟩, fun g => g.2.symm⟩
    · rw [if_neg q, if_pos rfl]
      obtain ⟨z, e, f⟩ := ih (i + 1) x (by omega)
      refine ⟨z, e, ?_⟩
      rcases f with ⟨f1, d, f2, f3, f4⟩ | ⟨f1, f2⟩
      · exact Or.inl ⟨f1, d, by omega, f3, f4⟩
      · refine Or.inr ⟨fun d h1 h2 h3 => ?_, fun j hj => ?_⟩
        · by_cases v : d = i
          · rw [v] at h3; exact absurd h3 q
          · exact f1 d (by omega) h2 h3
        · rw [f2 j hj]
          refine or_congr_right (and_congr_right (fun _ => ⟨fun ⟨d, g1, g2⟩ => ⟨d, by omega, g2⟩, fun ⟨d, g1, g2, g3, g4⟩ => ⟨d, ?_, g2, g3, g4⟩⟩))
          by_cases v : d = i
          · rw [v] at g3; exact absurd g3 q
          · omega
/-- the sets by which the told ages are had, and the others not -/
def Vs (W : Nat → Int32) (n : Nat) (x1 x2 : Int32) (s : Nat) : Prop := (∀ d, d < n → s.testBit d = true → ¬ W (22 + 8 * d) = -1) ∧ (∀ j, j < 10 → tb x1 j = true → ∃ d, d < n ∧ s.testBit d = true ∧ Ag W d = j) ∧ ∀ j, j < 10 → tb x2 j = true → ∀ d, d < n → s.testBit d = true → ¬ Ag W d = j
theorem m_fwstep (hW : DOk n (M 206)) (h1 : ∀ j, tb x1 j = true → j < 10) (h2 : ∀ j, tb x2 j = true → j < 10) {s m : Nat} (hs : s < 2 ^ n) (hm : m ≤ 1000000) : (Vs (M 206) n x1 x2 s ∧ cntN n (fun d => s.testBit d) < m → L_X12_fewest_43 M x1 x2 x3 (Int32.ofNat m) (Int32.ofNat s) = L_X12_fewest_43 M x1 x2 (Int32.ofNat s) (Int32.ofNat (cntN n (fun d => s.testBit d))) (Int32.ofNat (s + 1))) ∧ (¬ (Vs (M 206) n x1 x2 s ∧ cntN n (fun d => s.testBit d) < m) → L_X12_fewest_43 M x1 x2 x3 (Int32.ofNat m) (Int32.ofNat s) = L_X12_fewest_43 M x1 x2 x3 (Int32.ofNat m) (Int32.ofNat (s + 1))) := by
  have hn := hW.2.1
  have h2n : 2 ^ n ≤ 2 ^ 12 := Nat.pow_le_pow_right (by omega) hn
  have e12 : 2 ^ 12 = 4096 := by decide
  have hall : F_X12_allDishes M = some (Int32.ofNat (2 ^ n - 1)) := by
    unfold F_X12_allDishes F_X12_dishes
    rw [Option.bind_eq_bind, Option.bind_some, hW.1]
    have : ∀ n, n < 13 → ((1 : Int32) <<< (Int32.ofNat n &&& 31)) - (1 : Int32) = Int32.ofNat (2 ^ n - 1) := by decide +kernel
    rw [this n (by omega)]
  have hz : ∀ j, n ≤ j → s.testBit j = false := fun j hj => Nat.testBit_lt_two_pow (Nat.lt_of_lt_of_le hs (Nat.pow_le_pow_right (by omega) hj))
  have hbc : F_J6_bitCount_0f7a4 M (Int32.ofNat s) = some (Int32.ofNat (cntN n (fun d => s.testBit d))) := by
    rw [bc_pc0, pc_all (by omega), cntN_ext hn (fun d h1 h2 => hz d h1)]
  have hc := cntN_le n (fun d => s.testBit d)
  obtain ⟨z, e, f⟩ := m_ages4 hW (S := Int32.ofNat s) n 0 0 (by omega)
  have ea : F_X12_agesOf M (Int32.ofNat s) = some z := e
  generalize hcc : cntN n (fun d => s.testBit d) = c at *
  rw [L_X12_fewest_43, hall]
  simp only [Option.bind_eq_bind]
  rw [Option.bind_some, if_neg (by rw [ofn_lt (by omega) (by omega)]; omega), hbc, Option.bind_some, ofn_succ, ea, Option.bind_some]
  by_cases q : c < m
  · rw [if_pos (by rw [ofn_lt (by omega) (by omega)]; exact q)]
    have hv : z = -1 ∧ ¬ Vs (M 206) n x1 x2 s ∨ ¬ z = -1 ∧ ((x1 &&& (z ^^^ (-1 : Int32))) = 0 ∧ (z &&& x2) = 0 ↔ Vs (M 206) n x1 x2 s) := by
      rcases f with ⟨f1, d, -, f3, f4, f5⟩ | ⟨f1, f2⟩
      · rw [tb_nat (by omega)] at f4
        exact Or.inl ⟨f1, fun v => v.1 d f3 f4 f5⟩
      · right
        have g : ∀ j, j < 32 → (tb z j = true ↔ (j < 10 ∧ ∃ d, d < n ∧ s.testBit d = true ∧ Ag (M 206) d = j)) := by
          intro j hj
          rw [f2 j hj, tb_0]
          constructor
          · rintro (g | ⟨g1, d, -, g2, g3, g4⟩)
            · cases g
            · rw [tb_nat (by omega)] at g3
              exact ⟨g1, d, g2, g3, g4⟩
          · rintro ⟨g1, d, g2, g3, g4⟩
            exact Or.inr ⟨g1, d, Nat.zero_le _, g2, by rw [tb_nat (by omega)]; exact g3, g4⟩
        constructor
        · intro w
          have := (g 20 (by omega)).mp (by rw [w]; exact tb_m1 (by omega))
          omega
        · rw [eq0_tb, eq0_tb]
          constructor
          · rintro ⟨a1, a2⟩
            refine ⟨fun d hd h3 => f1 d (Nat.zero_le _) hd (by rw [tb_nat (by omega)]; exact h3), fun j hj h3 => ?_, fun j hj h3 d hd h4 h5 => ?_⟩
            · have := a1 j (by omega)
              rw [tb_and, tb_xor, tb_m1 (by omega), h3] at this
              have w : tb z j = true := by cases y : tb z j <;> simp_all
              exact ((g j (by omega)).mp w).2
            · have := a2 j (by omega)
              rw [tb_and, h3, (g j (by omega)).mpr ⟨hj, d, hd, h4, h5⟩] at this
              cases this
          · rintro ⟨b1, b2, b3⟩
            refine ⟨fun j hj => ?_, fun j hj => ?_⟩
            · rw [tb_and, tb_xor, tb_m1 hj]
              by_cases w : tb x1 j = true
              · obtain ⟨d, g1, g2, g3⟩ := b2 j (h1 j w) w
                rw [(g j hj).mpr ⟨h1 j w, d, g1, g2, g3⟩, w]; rfl
              · simp [w]
            · rw [tb_and]
              by_cases w : tb x2 j = true
              · by_cases v : tb z j = true
                · obtain ⟨g0, d, g1, g2, g3⟩ := (g j hj).mp v
                  exact absurd g3 (b3 j g0 w d g1 g2)
                · simp [v]
              · simp [w]
    rcases hv with ⟨v1, v2⟩ | ⟨v1, v2⟩
    · refine ⟨fun w => absurd w.1 v2, fun _ => ?_⟩
      rw [if_pos v1]
    · refine ⟨fun w => ?_, fun w => ?_⟩
      · obtain ⟨w1, w2⟩ := v2.mpr w.1
        rw [if_neg v1, if_pos w1, if_pos w2, Option.bind_some]
      · rw [if_neg v1]
        by_cases w1 : (x1 &&& (z ^^^ (-1 : Int32))) = 0
        · rw [if_pos w1, if_neg (fun w2 => w ⟨v2.mp ⟨w1, w2⟩, q⟩)]
        · rw [if_neg w1]
  · rw [if_neg (by rw [ofn_lt (by omega) (by omega)]; exact q)]
    exact ⟨fun w => absurd w.2 q, fun _ => rfl⟩
theorem m_fwend (hW : DOk n (M 206)) {x4 : Int32} : L_X12_fewest_43 M x1 x2 x3 x4 (Int32.ofNat (2 ^ n)) = some (x3, M) := by
  have hn := hW.2.1
  have h2n : 2 ^ n ≤ 2 ^ 12 := Nat.pow_le_pow_right (by omega) hn
  have e12 : 2 ^ 12 = 4096 := by decide
  have h0 : 0 < 2 ^ n := Nat.pow_pos (by omega)
  have hall : F_X12_allDishes M = some (Int32.ofNat (2 ^ n - 1)) := by
    unfold F_X12_allDishes F_X12_dishes
    rw [Option.bind_eq_bind, Option.bind_some, hW.1]
    have : ∀ n, n < 13 → ((1 : Int32) <<< (Int32.ofNat n &&& 31)) - (1 : Int32) = Int32.ofNat (2 ^ n - 1) := by decide +kernel
    rw [this n (by omega)]
  rw [L_X12_fewest_43, hall, Option.bind_eq_bind, Option.bind_some, if_pos (by rw [ofn_lt (by omega) (by omega)]; omega)]
/-- while nothing better is met -/
theorem m_fwskip (hW : DOk n (M 206)) (h1 : ∀ j, tb x1 j = true → j < 10) (h2 : ∀ j, tb x2 j = true → j < 10) {m t : Nat} (hm : m ≤ 1000000) (ht : t ≤ 2 ^ n) : ∀ r s, s + r = t → (∀ u, s ≤ u → u < t → ¬ (Vs (M 206) n x1 x2 u ∧ cntN n (fun d => u.testBit d) < m)) → L_X12_fewest_43 M x1 x2 x3 (Int32.ofNat m) (Int32.ofNat s) = L_X12_fewest_43 M x1 x2 x3 (Int32.ofNat m) (Int32.ofNat t) := by
  intro r
  induction r with
  | zero => intro s h _; rw [show s = t by omega]
  | succ r ih =>
    intro s h hu
    rw [(m_fwstep hW h1 h2 (show s < 2 ^ n by omega) hm).2 (hu s (Nat.le_refl _) (by omega))]
    exact ih (s + 1) (by omega) (fun u a b => hu u (by omega) b)
theorem m_noAges0 {x : Int32} (h : ¬ x < 0 ∧ ¬ (1023 : Int32) < x) : F_X12_noAges M x = some 0 := by
  unfold F_X12_noAges
  rw [m_in1 h]; rfl
theorem m_noAges1 {x : Int32} (h : x < 0 ∨ (1023 : Int32) < x) : F_X12_noAges M x = some 1 := by
  unfold F_X12_noAges
  rw [m_in0 h]; rfl
theorem tb_1023 {x : Int32} (h : ¬ x < 0 ∧ ¬ (1023 : Int32) < x) : ∀ j, tb x j = true → j < 10 := by
  obtain ⟨a, b⟩ := h
  have e : (1023 : Int32).toInt = 1023 := by decide
  rw [ti_lt, ti_0] at a
  rw [ti_lt, e] at b
  obtain ⟨m, hm, rfl⟩ : ∃ m, m < 1024 ∧ x = Int32.ofNat m := ⟨x.toInt.toNat, by omega, by rw [ti_eq, ti_ofn (by omega)]; omega⟩
  intro j hj
  rcases Nat.lt_or_ge j 32 with q | q
  · rw [tb_nat q] at hj
    rcases Nat.lt_or_ge j 10 with z | z
    · exact z
    · have hp : 2 ^ 10 ≤ 2 ^ j := Nat.pow_le_pow_right (by omega) z
      have e2 : 2 ^ 10 = 1024 := by decide
      rw [Nat.testBit_lt_two_pow (by omega)] at hj
      cases hj
  · unfold tb at hj
    rw [BitVec.getLsbD_of_ge _ _ q] at hj
    cases hj
theorem q_fewest (hL : LR C 3 (M 206)) (hW : WOk n (M 206)) : ∃ r b k, F_X11_fewest C x1 x2 = some r ∧ F_X12_fewest M x1 x2 = some (b, up2 M 205 0 k) ∧ same ["java/lang/IllegalArgumentException"] r k b := by
  have hD := hL.D
  have hn := hW.1.2.1
  have hW0 : DOk n (up2 M 205 0 0 206) := hW.1
  have thr : ∃ r b k, some (Sum.inr "java/lang/IllegalArgumentException" : Int32 ⊕ String) = some r ∧ (F_X12_throwsIf (up2 M 205 0 (0 : Int32)) (1 : Int32) (1 : Int32)).bind (fun r4 => if r4.1 = 0 then L_X12_fewest_43 r4.2 x1 x2 (-1 : Int32) (1000000 : Int32) (0 : Int32) else some ((0 : Int32), r4.2)) = some (b, up2 M 205 0 k) ∧ same ["java/lang/IllegalArgumentException"] r k b := by
    rw [m_thr1, Option.bind_some, if_neg (show ¬ (1 : Int32) = 0 by decide)]
    exact ⟨_, _, 1, rfl, by rw [up2_up2], 0, rfl, rfl⟩
  unfold F_X11_fewest F_X12_fewest
  simp only [Option.bind_eq_bind]
  by_cases a1 : x1 < 0
  · rw [if_pos a1, m_noAges1 (Or.inl a1), Option.bind_some, if_neg (show ¬ (1 : Int32) = 0 by decide)]
    exact thr
  rw [if_neg a1]
  by_cases a2 : (1023 : Int32) < x1
  · rw [if_pos a2, m_noAges1 (Or.inr a2), Option.bind_some, if_neg (show ¬ (1 : Int32) = 0 by decide)]
    exact thr
  rw [if_neg a2, m_noAges0 ⟨a1, a2⟩, Option.bind_some, if_pos rfl]
  by_cases a3 : x2 < 0
  · rw [if_pos a3, m_noAges1 (Or.inl a3), Option.bind_some, if_neg (show ¬ (1 : Int32) = 0 by decide)]
    exact thr
  rw [if_neg a3]
  by_cases a4 : (1023 : Int32) < x2
  · rw [if_neg (show ¬ x2 ≤ (1023 : Int32) by rw [ti_lt] at a4; rw [ti_le]; omega), m_noAges1 (Or.inr a4), Option.bind_some, if_neg (show ¬ (1 : Int32) = 0 by decide)]
    exact thr
  rw [if_pos (show x2 ≤ (1023 : Int32) by rw [ti_lt] at a4; rw [ti_le]; omega), m_noAges0 ⟨a3, a4⟩, Option.bind_some, if_pos rfl, m_thr0, Option.bind_some, if_pos rfl]
  have t1 := tb_1023 ⟨a1, a2⟩
  have t2 := tb_1023 ⟨a3, a4⟩
  have none : (∀ u, ¬ Vs (M 206) n x1 x2 u) → L_X12_fewest_43 (up2 M 205 0 0) x1 x2 (-1) 1000000 0 = some (-1, up2 M 205 0 0) := by
    intro hu
    have e := m_fwskip (x3 := -1) hW0 t1 t2 (m := 1000000) (t := 2 ^ n) (Nat.le_refl _) (Nat.le_refl _) (2 ^ n) 0 (by omega) (fun u _ _ w => hu u w.1)
    rw [m_fwend hW0] at e
    exact e
  by_cases a5 : x1 &&& x2 = 0
  · rw [if_pos a5]
    have i0 : FwI (M 206) n x1 0 0 := by
      refine ⟨fun j hj => ?_, fun k hk => by omega, fun w S _ _ => ?_⟩
      · rw [tb_0] at hj
        exact absurd hj (by decide)
      · have : ∀ n, wsN w (tb 0) n = 0 := by
          intro n
          induction n with
          | zero => rfl
          | succ n ih => show wsN w (tb 0) n + (if tb 0 n = true then w n else 0) = 0; rw [ih, tb_0]; rfl
        rw [this]; exact Nat.zero_le _
    obtain ⟨z, e, f⟩ := cl_fw (x1 := x1) hD hW.1 10 0 0 (by omega) i0
    refine ⟨_, z, 0, e, ?_, rfl, rfl⟩
    rcases f with ⟨f1, k, f2, f3, f4⟩ | ⟨f1, f2, f3⟩
    · rw [f1]
      exact none (fun u v => by
        obtain ⟨d, g1, g2, g3⟩ := v.2.1 k f2 f3
        exact f4 d g1 ⟨v.1 d g1 g2, g3⟩)
    · obtain ⟨B, hB, rfl⟩ : ∃ B, B < 2 ^ n ∧ z = Int32.ofNat B := by
        have hx : z = Int32.ofNat z.toBitVec.toNat := by
          apply Int32.toBitVec.inj
          rw [Int32.toBitVec_ofNat', BitVec.ofNat_toNat]
          simp
        refine ⟨_, ?_, hx⟩
        refine Nat.lt_pow_two_of_testBit (n := n) _ (fun i hi => ?_)
        rw [BitVec.testBit_toNat]
        by_cases q : tb z i = true
        · have := (f1 i q).1; omega
        · unfold tb at q
          cases y : z.toBitVec.getLsbD i
          · rfl
          · exact absurd y q
      have h2n : 2 ^ n ≤ 2 ^ 12 := Nat.pow_le_pow_right (by omega) hn
      have e12 : 2 ^ 12 = 4096 := by decide
      have bt : ∀ j, j < n → tb (Int32.ofNat B) j = B.testBit j := fun j hj => tb_nat (by omega)
      have vB : Vs (M 206) n x1 x2 B := by
        refine ⟨fun d hd h => ?_, fun j hj h => ?_, fun j hj h d hd hb hg => ?_⟩
        · rw [← bt d hd] at h
          obtain ⟨-, k, -, -, g⟩ := f1 d h
          exact g.1
        · obtain ⟨d, g1, g2⟩ := f2 j hj h
          have hd := (f1 d g1).1
          rw [bt d hd] at g1
          exact ⟨d, hd, g1, g2.2⟩
        · rw [← bt d hd] at hb
          obtain ⟨-, k, hk, g1, g2⟩ := f1 d hb
          have : k = j := by rw [← g2.2]; exact hg
          rw [this] at g1
          have := (eq0_tb.mp a5) j (by omega)
          rw [tb_and, g1, h] at this
          cases this
      have low : ∀ (w : Nat → Nat), (∀ i j, i ≤ j → w i ≤ w j) → ∀ u, Vs (M 206) n x1 x2 u → wsN w (fun d => B.testBit d) n ≤ wsN w (fun d => u.testBit d) n := by
        intro w hw u hu
        have h3 := f3 w (fun d => u.testBit d) hw (fun k hk hk1 => by
          obtain ⟨d, g1, g2, g3⟩ := hu.2.1 k hk hk1
          exact ⟨d, g1, g2, hu.1 d g1 g2, g3⟩)
        have h4 := ws_mono w (fun d => u.testBit d && decide (Ag (M 206) d < 10)) (fun d => u.testBit d) (fun d hd => by simp at hd; exact hd.1) n
        have h5 := ws_mono w (fun d => B.testBit d) (tb (Int32.ofNat B)) (fun d hd => by
          rcases Nat.lt_or_ge d 32 with q | q
          · rw [tb_nat q]; exact hd
          · rw [Nat.testBit_lt_two_pow (Nat.lt_of_lt_of_le hB (Nat.pow_le_pow_right (by omega) (by omega)))] at hd
            cases hd) n
        omega
      have s1 := m_fwskip (x3 := -1) hW0 t1 t2 (m := 1000000) (t := B) (Nat.le_refl _) (by omega) B 0 (by omega) (fun u _ hu w => by
        have := low (fun d => 2 ^ d) (fun i j h => Nat.pow_le_pow_right (by omega) h) u w.1
        rw [ws_pow, ws_pow, Nat.mod_eq_of_lt hB, Nat.mod_eq_of_lt (by omega)] at this
        omega)
      have hc := cntN_le n (fun d => B.testBit d)
      have s2 := (m_fwstep (x3 := -1) hW0 t1 t2 hB (m := 1000000) (Nat.le_refl _)).1 ⟨vB, by omega⟩
      have s3 := m_fwskip (x3 := Int32.ofNat B) hW0 t1 t2 (m := cntN n (fun d => B.testBit d)) (t := 2 ^ n) (by omega) (Nat.le_refl _) (2 ^ n - (B + 1)) (B + 1) (by omega) (fun u _ _ w => by
        have := low (fun _ => 1) (fun _ _ _ => Nat.le_refl _) u w.1
        rw [ws_cnt, ws_cnt] at this
        omega)
      rw [m_fwend hW0] at s3
      exact s1.trans (s2.trans s3)
  · rw [if_neg a5]
    refine ⟨_, -1, 0, rfl, none (fun u v => a5 ?_), rfl, rfl⟩
    rw [eq0_tb]
    intro j hj
    rw [tb_and]
    by_cases q : tb x1 j = true
    · by_cases w : tb x2 j = true
      · obtain ⟨d, g1, g2, g3⟩ := v.2.1 j (t1 j q) q
        exact absurd g3 (v.2.2 j (t1 j q) w d g1 g2)
      · simp [w]
    · simp [q]
end
