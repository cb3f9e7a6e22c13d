section
variable {C C' M M' : HI} {n s k : Nat} {x1 x2 : Int32} {J : HJ}
theorem smW_lt : ∀ s, s < 101 → ∀ n, n < 7 → ∀ k, k < 7 → 10000 * smW s n k (7 - k) < 2 ^ 62 := by decide +kernel
theorem m_42 (i : Nat) (J : HJ) (I : HI) : i ≤ 7 → (∀ j, j < i → J 217 j = Int64.ofNat (wyN s 0 j)) → ∃ J', L_X12_odds_42 I x1 x2 (Int32.ofNat i) J = L_X12_odds_74 I x1 x2 1 0 J' ∧ (∀ j, j < 7 → J' 217 j = Int64.ofNat (wyN s 0 j)) ∧ ∀ b, b ≠ 217 → J' b = J b := by
  intro hi h
  obtain ⟨r, hr⟩ : ∃ r, i + r = 7 := ⟨7 - i, by omega⟩
  induction r generalizing i J with
  | zero =>
    refine ⟨J, ?_, fun j hj => h j (by omega), fun _ _ => rfl⟩
    rw [L_X12_odds_42, show i = 7 by omega, if_pos (by decide)]
  | succ r ih =>
    have step : ∀ v : Int64, v = Int64.ofNat (wyN s 0 i) → ∃ J', L_X12_odds_42 I x1 x2 (Int32.ofNat i + 1) (up2 J 217 i v) = L_X12_odds_74 I x1 x2 1 0 J' ∧ (∀ j, j < 7 → J' 217 j = Int64.ofNat (wyN s 0 j)) ∧ ∀ b, b ≠ 217 → J' b = J b := by
      intro v hv
      rw [ofn_succ]
      obtain ⟨J', e1, e2, e3⟩ := ih (i + 1) (up2 J 217 i v) (by omega) (fun j hj => by
        rw [up2_get]
        by_cases q : j = i
        · rw [if_pos ⟨rfl, q⟩, hv, q]
        · rw [if_neg (fun w => q w.2)]; exact h j (by omega)) (by omega)
      exact ⟨J', e1, e2, fun b hb => by rw [e3 b hb, up2_ne _ _ _ hb]⟩
    rw [L_X12_odds_42, if_neg (by rw [show (6 : Int32) = Int32.ofNat 6 from rfl, ofn_lt (by omega) (by omega)]; omega), if_pos (inB_ofn (by omega) (by omega)), if_pos (inB_ofn (by omega) (by omega)), ofn_clamp (by omega)]
    by_cases q : i = 0
    · rw [if_pos (by rw [q]; rfl)]
      exact step 1 (by rw [q]; rfl)
    · rw [if_neg (by rw [show (0 : Int32) = Int32.ofNat 0 from rfl, ofn_eq (by omega) (by omega)]; exact q)]
      exact step 0 (by unfold wyN; rw [if_neg q]; rfl)
theorem m_84 {I : HI} (hs : I 206 11 = Int32.ofNat s) (h100 : s ≤ 100) {x3 : Int64} {x5 : Int32} {t : Nat} : ∀ (i : Nat) (J : HJ), i ≤ 7 → (∀ j, j < i → J 217 j = Int64.ofNat (wyN s t j)) → (∀ j, i ≤ j → j < 7 → J 217 j = Int64.ofNat (wyN s (t + 1) j)) → ∃ z J', L_X12_odds_84 I x1 x2 x3 x5 (Int32.ofNat i + (-1)) J = some (z, J') ∧ (∀ j, j < 7 → J' 217 j = Int64.ofNat (wyN s (t + 1) j)) ∧ ∀ b, b ≠ 217 → J' b = J b := by
  have e100 : ((100 : Int32) - Int32.ofNat s).toInt64 = Int64.ofNat (100 - s) := by
    have : (100 : Int32) - Int32.ofNat s = Int32.ofNat (100 - s) := by
      rw [show (100 : Int32) = Int32.ofNat 100 from rfl, show (100 : Nat) = (100 - s) + s by omega, Int32.ofNat_add, Int32.add_sub_cancel, Nat.add_sub_cancel]
    rw [this, i32_64 (by omega)]
  intro i
  induction i with
  | zero =>
    intro J _ _ h2
    exact ⟨Int32.ofNat 0 + -1, J, by rw [L_X12_odds_84, if_pos (by decide)], fun j hj => h2 j (by omega) hj, fun _ _ => rfl⟩
  | succ i ih =>
    intro J hi h1 h2
    have step : ∀ v : Int64, v = Int64.ofNat (wyN s (t + 1) i) → ∃ z J', L_X12_odds_84 I x1 x2 x3 x5 (Int32.ofNat i + (-1)) (up2 J 217 i v) = some (z, J') ∧ (∀ j, j < 7 → J' 217 j = Int64.ofNat (wyN s (t + 1) j)) ∧ ∀ b, b ≠ 217 → J' b = J b := by
      intro v hv
      obtain ⟨z, J', e1, e2, e3⟩ := ih (up2 J 217 i v) (by omega) (fun j hj => by rw [up2_get, if_neg (by omega)]; exact h1 j (by omega)) (fun j hj hj7 => by
        rw [up2_get]
        by_cases q : j = i
        · rw [if_pos ⟨rfl, q⟩, hv, q]
        · rw [if_neg (fun w => q w.2)]; exact h2 j (by omega) hj7)
      exact ⟨z, J', e1, e2, fun b hb => by rw [e3 b hb, up2_ne _ _ _ hb]⟩
    rw [ofn_m1, L_X12_odds_84, if_neg (ofn_nneg (by omega)), ald_ofn (by omega) (by omega), Option.bind_eq_bind, Option.bind_some, h1 i (by omega), hs, e100, i32_64 (show s < 2147483648 by omega), i64_mul]
    rcases i with _ | i
    · rw [if_pos (show Int32.ofNat 0 = 0 from rfl), if_pos (inB_ofn (by omega) (by omega)), ofn_clamp (by omega)]
      exact step _ (by show Int64.ofNat _ + Int64.ofNat 0 = _; rw [i64_add]; rfl)
    · rw [if_neg (by rw [show (0 : Int32) = Int32.ofNat 0 from rfl, ofn_eq (by omega) (by omega)]; omega), ofn_p1, ald_ofn (by omega) (by omega), Option.bind_some, h1 i (by omega), if_pos (inB_ofn (by omega) (by omega)), ofn_clamp (by omega), i64_mul, i64_add]
      exact step _ rfl
theorem m_167 {I : HI} {x3 : Int64} (h0 : ¬ x3 = 0) (hJ : ∀ j, j < 7 → J 217 j = Int64.ofNat (wyN s n j)) : ∀ (r i acc : Nat), i + r = 7 → L_X12_odds_167 I J x3 (Int64.ofNat acc) (Int32.ofNat i) = some ((((10000 : Int64) * Int64.ofNat (acc + smW s n i r)) / x3).toInt32, I, J) := by
  intro r
  induction r with
  | zero =>
    intro i acc hi
    rw [L_X12_odds_167, show i = 7 by omega, if_pos (by decide), if_pos h0]
    rfl
  | succ r ih =>
    intro i acc hi
    rw [L_X12_odds_167, if_neg (by rw [show (6 : Int32) = Int32.ofNat 6 from rfl, ofn_lt (by omega) (by omega)]; omega), ald_ofn (by omega) (by omega), Option.bind_eq_bind, Option.bind_some, hJ i (by omega), i64_add, ofn_succ, ih (i + 1) _ (by omega)]
    congr 6
    show acc + wyN s n i + smW s n (i + 1) r = acc + (wyN s n i + smW s n (i + 1) r)
    omega
theorem m_74 {I : HI} (hs : I 206 11 = Int32.ofNat s) (h100 : s ≤ 100) (hn : n ≤ 6) (hk : k ≤ 6) : ∀ (r t : Nat) (J : HJ), t + r = n → (∀ j, j < 7 → J 217 j = Int64.ofNat (wyN s t j)) → ∃ J', L_X12_odds_74 I (Int32.ofNat n) (Int32.ofNat k) (Int64.ofNat (100 ^ t)) (Int32.ofNat t) J = some (Int32.ofNat (10000 * smW s n k (7 - k) / 100 ^ n), I, J') ∧ ∀ b, b ≠ 217 → J' b = J b := by
  intro r
  have hp : 100 ^ n < 2 ^ 62 := by
    have := Nat.pow_le_pow_right (n := 100) (by omega) hn
    have e : (100 : Nat) ^ 6 = 1000000000000 := by decide
    omega
  have hp0 : 0 < 100 ^ n := Nat.pow_pos (by omega)
  induction r with
  | zero =>
    intro t J ht h
    have htn : t = n := by omega
    subst htn
    refine ⟨J, ?_, fun _ _ => rfl⟩
    have h0 : ¬ Int64.ofNat (100 ^ t) = 0 := by
      intro q
      have q2 := congrArg Int64.toInt q
      rw [Int64.toInt_ofNat_of_lt (by omega)] at q2
      have : (0 : Int64).toInt = 0 := by decide
      rw [this] at q2
      omega
    rw [L_X12_odds_74, if_pos (Int32.le_refl _), show (0 : Int64) = Int64.ofNat 0 from rfl, m_167 h0 h (7 - k) k 0 (by omega), show (10000 : Int64) = Int64.ofNat 10000 from rfl, i64_mul, Nat.zero_add, i64_div (smW_lt s (by omega) t (by omega) k (by omega)) hp0 hp, i64_32]
  | succ r ih =>
    intro t J ht h
    obtain ⟨z, J1, e1, e2, e3⟩ := m_84 (I := I) (x1 := Int32.ofNat n) (x2 := Int32.ofNat k) (x3 := Int64.ofNat (100 ^ t)) (x5 := Int32.ofNat t) hs h100 7 J (by omega) h (fun j h1 h2 => by omega)
    rw [show Int32.ofNat 7 + (-1) = 6 by decide] at e1
    obtain ⟨J2, f1, f2⟩ := ih (t + 1) J1 (by omega) e2
    refine ⟨J2, ?_, fun b hb => by rw [f2 b hb, e3 b hb]⟩
    rw [L_X12_odds_74, if_neg (by rw [ofn_le (by omega) (by omega)]; omega), e1, Option.bind_eq_bind, Option.bind_some, show (100 : Int64) = Int64.ofNat 100 from rfl, i64_mul, ofn_succ, ← Nat.pow_succ]
    exact f1
theorem q_odds (h : GR C M n) (J : HJ) : ∃ r b J2 k, F_X11_odds C x1 x2 = some r ∧ F_X12_odds M J x1 x2 = some (b, up2 M 205 0 k, J2) ∧ J2 218 0 = J 218 0 ∧ same ["java/lang/IllegalArgumentException"] r k b := by
  obtain ⟨s, hs, es⟩ : ∃ s, s ≤ 100 ∧ M 206 11 = Int32.ofNat s := by
    obtain ⟨r1, r2⟩ := h.1.2.1.2.2.2.2.2.2.2.2.2.1
    refine ⟨(M 206 11).toInt.toNat, by omega, ?_⟩
    rw [ti_eq, ti_ofn (by omega)]; omega
  have lc : C 3 10 = Int32.ofNat s := (h.1.1.1.2.2.2.2.2.2.2.2.2.1).trans es
  have six : ∀ x : Int32, (∃ N, N ≤ 6 ∧ x = Int32.ofNat N) ∨ (x < 0 ∨ (6 : Int32) < x) := by
    intro x
    rcases nat_or x 7 (by omega) with ⟨N, hN, rfl⟩ | hx
    · exact Or.inl ⟨N, by omega, rfl⟩
    · right
      rcases hx with q | q
      · exact Or.inl q
      · right
        rw [ti_le, ti_ofn (by omega)] at q
        rw [ti_lt, ti_6]; omega
  have out : ∀ N, N ≤ 6 → ¬ Int32.ofNat N < 0 ∧ ¬ (6 : Int32) < Int32.ofNat N := fun N hN => ⟨ofn_nneg (by omega), by rw [show (6 : Int32) = Int32.ofNat 6 from rfl, ofn_lt (by omega) (by omega)]; omega⟩
  unfold F_X11_odds F_X12_odds
  simp only [Option.bind_eq_bind]
  rcases six x1 with ⟨N, hN, rfl⟩ | q1
  · rw [if_neg (out N hN).1, if_neg (out N hN).2, m_in1 (out N hN), Option.bind_some, if_neg (show ¬ (1 : Int32) = 0 by decide)]
    rcases six x2 with ⟨k, hk, rfl⟩ | q2
    · rw [if_neg (out k hk).1, if_pos (ile_of_not_lt (out k hk).2), m_in1 (out k hk), Option.bind_some, if_neg (show ¬ (1 : Int32) = 0 by decide), m_thr0, Option.bind_some, if_pos rfl, lc, cl_slip hs 8 N _ k (by omega) hN (Or.inl ⟨rfl, hk⟩), Option.bind_some, cl_fig47 hN (by
        have h1 := slN_le hs N k
        have h2 := Nat.pow_le_pow_right (n := 100) (by omega) hN
        have e : (100 : Nat) ^ 6 = 1000000000000 := by decide
        omega)]
      obtain ⟨J1, a1, a2, a3⟩ := m_42 (s := s) (x1 := Int32.ofNat N) (x2 := Int32.ofNat k) 0 J (up2 M 205 0 0) (by omega) (fun j hj => by omega)
      obtain ⟨J2, b1, b2⟩ := m_74 (I := up2 M 205 0 0) es hs hN hk N 0 J1 (by omega) a2
      rw [show Int32.ofNat 0 = 0 from rfl] at a1 b1
      rw [show Int64.ofNat (100 ^ 0) = 1 from rfl] at b1
      refine ⟨_, _, J2, 0, rfl, a1.trans b1, by rw [b2 218 (by decide), a3 218 (by decide)], rfl, ?_⟩
      rw [odds_eq s (by omega) N (by omega) k (by omega)]
    · have e9 : ∀ z : Option (Int32 ⊕ String), (if x2 < 0 then some (Sum.inr "java/lang/IllegalArgumentException" : Int32 ⊕ String) else if x2 ≤ (6 : Int32) then z else some (Sum.inr "java/lang/IllegalArgumentException")) = some (Sum.inr "java/lang/IllegalArgumentException") := by
        intro z
        by_cases w : x2 < 0
        · rw [if_pos w]
        · rw [if_neg w, if_neg (by have := q2.resolve_left w; rw [ti_lt] at this; rw [ti_le]; omega)]
      rw [e9, m_in0 q2, Option.bind_some, if_pos rfl, m_thr1, Option.bind_some, if_neg (show ¬ (1 : Int32) = 0 by decide), M0_up]
      exact ⟨_, _, _, 1, rfl, rfl, rfl, 0, rfl, rfl⟩
  · have e9 : ∀ z : Option (Int32 ⊕ String), (if x1 < 0 then some (Sum.inr "java/lang/IllegalArgumentException" : Int32 ⊕ String) else if (6 : Int32) < x1 then some (Sum.inr "java/lang/IllegalArgumentException") else z) = some (Sum.inr "java/lang/IllegalArgumentException") := by
      intro z
      by_cases w : x1 < 0
      · rw [if_pos w]
      · rw [if_neg w, if_pos (q1.resolve_left w)]
    rw [e9, m_in0 q1, Option.bind_some, if_pos rfl, m_thr1, Option.bind_some, if_neg (show ¬ (1 : Int32) = 0 by decide), M0_up]
    exact ⟨_, _, _, 1, rfl, rfl, rfl, 0, rfl, rfl⟩
end
