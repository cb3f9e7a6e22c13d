section
variable {C C' M M' : HI} {n d e : Nat} {x x1 x2 : Int32} {W : Nat → Int32}
theorem now_sim (h : GR C M n) (hd : d < n) : ∃ (c : Option Nat) (t p : Int32) (C2 : HI), cup (M 206) n d (M 206 8) = enc c ∧ rg t (-720) 720 ∧ rg p 0 770 ∧ F_X11_turnsNow C (Int32.ofNat d) = some (t, C2) ∧ F_X11_paysNow C (Int32.ofNat d) = some (p, C2) ∧ GR C2 M n ∧ fcl C C2 ∧ (∀ M1, M1 206 = M 206 → ∃ M2, F_X12_turnsBy M1 (Int32.ofNat d) = some (t, M2) ∧ ∀ b, b ≠ 213 → M2 b = M1 b) ∧ (∀ M1, M1 206 = M 206 → ∃ M2, F_X12_paysBy M1 (Int32.ofNat d) = some (p, M2) ∧ ∀ b, b ≠ 213 → M2 b = M1 b) := by
  obtain ⟨c, t, p, s1, s2, s3, s4, ⟨C1, C2, q1, q2, q3, q4, q5, q6, q7⟩, s5, s6⟩ := serve_sim h.1.1 h.1.2.1 ap3.S apL9 h.1.2.2.2 hd
  refine ⟨c, t, p, C2, s1, s3, s4, ?_, ?_, h.congr (fun b h1 h2 => q7 b (by omega) (by omega) (by omega)) (fun _ _ _ _ _ => rfl) (fun _ _ => rfl), fun b hb => q7 b (by omega) (by omega) (by omega), s5, s6⟩
  · unfold F_X11_turnsNow
    rw [q1, Option.bind_eq_bind, Option.bind_some, q2, Option.bind_some, q3]
  · unfold F_X11_paysNow
    rw [q1, Option.bind_eq_bind, Option.bind_some, q2, Option.bind_some, q4]
/-- the reference changes its row of values alone -/
theorem GR.val (h : GR C M n) (hm : ∀ b, b ≠ 213 → M' b = M b) : GR C M' n := h.congr (fun _ _ _ => rfl) (fun b h1 h2 _ _ => hm b (by omega)) (fun k _ => by rw [hm 205 (by omega)])
theorem s_dish (h : GR C M n) : ∃ r C' b M', F_X11_dish C x1 x2 = some (r, C') ∧ F_X12_dish M x1 x2 = some (b, M') ∧ Qs ["java/lang/IndexOutOfBoundsException", "java/util/NoSuchElementException"] r b M' ∧ (∃ n', GR C' M' n') ∧ fcl C C' ∧ fmo M M' := by
  have hD := h.1.1.D
  have hW := h.1.2.1
  have hn := hW.1.2.1
  have hW0 : DOk n (M0 M 206) := hW.1
  unfold F_X11_dish F_X12_dish
  rcases nat_or x1 n (by omega) with ⟨d, hd, rfl⟩ | hx
  · rw [cl_has hD hW.1 hd, m_noDish hW0 hd]
    simp only [Option.bind_eq_bind, Option.bind_some, m_thr0, i10, if_true, if_false]
    rcases nat_or x2 11 (by omega) with ⟨k, hk, rfl⟩ | hx
    · rw [if_neg (ofn_nneg (by omega)), if_pos (by rw [show (10 : Int32) = Int32.ofNat 10 from rfl, ofn_le (by omega) (by omega)]; omega), m_in1 ⟨ofn_nneg (by omega), by rw [show (10 : Int32) = Int32.ofNat 10 from rfl, ofn_lt (by omega) (by omega)]; omega⟩]
      simp only [Option.bind_some, m_thr0, i10, if_true, if_false]
      rcases Nat.lt_or_ge k 5 with hk5 | hk5
      · have e1 : ald 60 (C 5) (Int32.ofNat d * 5 + Int32.ofNat k) = some (M 206 (17 + 8 * d + k)) := cl_tst hD (by omega) hk5
        have e2 : F_X12_of (up2 M 205 0 0) (Int32.ofNat d) (Int32.ofNat k) = some (M 206 (17 + 8 * d + k)) := m_of (M := M0 M) (by omega) (by omega)
        rw [if_neg (by rw [show (5 : Int32) = Int32.ofNat 5 from rfl, ofn_le (by omega) (by omega)]; omega), e1, if_neg (by rw [show (8 : Int32) = Int32.ofNat 8 from rfl, ofn_eq (by omega) (by omega)]; omega), if_neg (by rw [show (9 : Int32) = Int32.ofNat 9 from rfl, ofn_eq (by omega) (by omega)]; omega), if_neg (by rw [show (10 : Int32) = Int32.ofNat 10 from rfl, ofn_eq (by omega) (by omega)]; omega), e2]
        exact ⟨_, _, _, _, rfl, rfl, ⟨0, rfl, rfl, rfl⟩, ⟨n, h.thr 0⟩, fcl.refl _, fmo_thr _ _⟩
      · rw [if_pos (by rw [show (5 : Int32) = Int32.ofNat 5 from rfl, ofn_le (by omega) (by omega)]; omega)]
        rcases (show k = 5 ∨ k = 6 ∨ k = 7 ∨ k = 8 ∨ k = 9 ∨ k = 10 by omega) with rfl | rfl | rfl | rfl | rfl | rfl
        · have e1 : ald 12 (C 6) (Int32.ofNat d) = some (M 206 (22 + 8 * d)) := cl_fst hD (by omega)
          have e2 : F_X12_of (up2 M 205 0 0) (Int32.ofNat d) (Int32.ofNat 5) = some (M 206 (22 + 8 * d)) := m_fst (M := M0 M) (by omega)
          rw [if_pos (by decide), e1, if_neg (by decide), if_neg (by decide), if_neg (by decide), e2]
          exact ⟨_, _, _, _, rfl, rfl, ⟨0, rfl, rfl, rfl⟩, ⟨n, h.thr 0⟩, fcl.refl _, fmo_thr _ _⟩
        · have e1 : ald 12 (C 7) (Int32.ofNat d) = some (M 206 (23 + 8 * d)) := cl_plc hD (by omega)
          have e2 : F_X12_of (up2 M 205 0 0) (Int32.ofNat d) (Int32.ofNat 6) = some (M 206 (23 + 8 * d)) := m_plc (M := M0 M) (by omega)
          rw [if_neg (by decide), if_pos (by decide), e1, if_neg (by decide), if_neg (by decide), if_neg (by decide), e2]
          exact ⟨_, _, _, _, rfl, rfl, ⟨0, rfl, rfl, rfl⟩, ⟨n, h.thr 0⟩, fcl.refl _, fmo_thr _ _⟩
        · have e1 : ald 12 (C 8) (Int32.ofNat d) = some (M 206 (24 + 8 * d)) := cl_com hD (by omega)
          have e2 : F_X12_of (up2 M 205 0 0) (Int32.ofNat d) (Int32.ofNat 7) = some (M 206 (24 + 8 * d)) := m_com (M := M0 M) (by omega)
          rw [if_neg (by decide), if_neg (by decide), if_pos (by decide), e1, if_neg (by decide), if_neg (by decide), if_neg (by decide), e2]
          exact ⟨_, _, _, _, rfl, rfl, ⟨0, rfl, rfl, rfl⟩, ⟨n, h.thr 0⟩, fcl.refl _, fmo_thr _ _⟩
        · have e1 : F_X1_calledUp C 4 (Int32.ofNat d) (C 3 7) = some (cup (M 206) n d (M 206 8)) := by
            rw [h.1.1.1.2.2.2.2.2.2.1]; exact cl_calledUp hD hW.1 hd
          have e2 : F_X12_callsBy (up2 M 205 0 0) (Int32.ofNat d) = some (cup (M 206) n d (M 206 8)) := m_callsBy (M := M0 M) hW0 hW.2.2.2.2.2.2.1 hd
          rw [if_neg (by decide), if_neg (by decide), if_neg (by decide), if_pos (by decide), e1, if_pos (by decide), e2]
          exact ⟨_, _, _, _, rfl, rfl, ⟨0, rfl, rfl, rfl⟩, ⟨n, h.thr 0⟩, fcl.refl _, fmo_thr _ _⟩
        · obtain ⟨c, t, p, C2, s1, s2, s3, s4, s5, s6, s7, s8, s9⟩ := now_sim h hd
          obtain ⟨M2, m1, m2⟩ := s8 (up2 M 205 0 0) rfl
          rw [if_neg (by decide), if_neg (by decide), if_neg (by decide), if_neg (by decide), if_pos (by decide), s4, if_neg (by decide), if_pos (by decide), m1]
          refine ⟨_, _, _, _, rfl, rfl, ⟨0, ?_, rfl, rfl⟩, ⟨n, (s6.thr 0).val m2⟩, s7, fun b hb => (m2 b (by omega)).trans (up2_ne _ _ _ (by omega))⟩
          show some (M2 205 0) = some 0
          rw [m2 205 (by omega), up2_get, if_pos ⟨rfl, rfl⟩]
        · obtain ⟨c, t, p, C2, s1, s2, s3, s4, s5, s6, s7, s8, s9⟩ := now_sim h hd
          obtain ⟨M2, m1, m2⟩ := s9 (up2 M 205 0 0) rfl
          rw [if_neg (by decide), if_neg (by decide), if_neg (by decide), if_neg (by decide), if_neg (by decide), s5, if_neg (by decide), if_neg (by decide), if_pos (by decide), m1]
          refine ⟨_, _, _, _, rfl, rfl, ⟨0, ?_, rfl, rfl⟩, ⟨n, (s6.thr 0).val m2⟩, s7, fun b hb => (m2 b (by omega)).trans (up2_ne _ _ _ (by omega))⟩
          show some (M2 205 0) = some 0
          rw [m2 205 (by omega), up2_get, if_pos ⟨rfl, rfl⟩]
    · have hi : x2 < 0 ∨ (10 : Int32) < x2 := by
        rcases hx with q | q
        · exact Or.inl q
        · right
          rw [ti_le, ti_ofn (by omega)] at q
          rw [ti_lt, ti_10]; omega
      have e1 : ∀ z : Option ((Int32 ⊕ String) × HI), (if x2 < 0 then some ((Sum.inr "java/util/NoSuchElementException" : Int32 ⊕ String), C) else if x2 ≤ (10 : Int32) then z else some ((Sum.inr "java/util/NoSuchElementException" : Int32 ⊕ String), C)) = some ((Sum.inr "java/util/NoSuchElementException" : Int32 ⊕ String), C) := by
        intro z
        by_cases q : x2 < 0
        · rw [if_pos q]
        · rw [if_neg q, if_neg (by have := hi.resolve_left q; rw [ti_lt] at this; rw [ti_le]; omega)]
      rw [e1, m_in0 hi]
      simp only [Option.bind_some, m_thr1, i10, if_true, if_false]
      rw [M0_up]
      exact ⟨_, _, _, _, rfl, rfl, ⟨2, rfl, 1, rfl, rfl⟩, ⟨n, h.thr 2⟩, fcl.refl _, fmo_thr _ _⟩
  · rw [cl_hasN hD hW.1 hx, m_noDishN hW0 hx]
    simp only [Option.bind_eq_bind, Option.bind_some, m_thr1, i10, if_true, if_false]
    rw [M0_up]
    exact ⟨_, _, _, _, rfl, rfl, ⟨1, rfl, 0, rfl, rfl⟩, ⟨n, h.thr 1⟩, fcl.refl _, fmo_thr _ _⟩
theorem s_sad (h : GR C M n) : ∃ r C' b M', F_X11_sad C = some (r, C') ∧ F_X12_sad M = some (b, M') ∧ r = b ∧ (∃ n', GR C' M' n') ∧ fcl C C' ∧ fmo M M' := by
  have hn := h.1.2.1.1.2.1
  unfold F_X11_sad F_X12_sad
  have key : ∀ (k i : Nat) (best mc mm : Int32) (C M : HI), i + k = n → GR C M n → ((best = -1 ∧ mm = -1000000) ∨ (¬ best = -1 ∧ mc = mm)) → ∃ r C' M', L_X11_sad_6 best mc (Int32.ofNat i) C = some (r, C') ∧ L_X12_sad_13 best mm (Int32.ofNat i) M = some (r, M') ∧ GR C' M' n ∧ fcl C C' ∧ fmo M M' := by
    intro k
    induction k with
    | zero =>
      intro i best mc mm C M hi h hb
      refine ⟨best, C, M, ?_, ?_, h, fcl.refl _, fmo.refl _⟩
      · rw [L_X11_sad_6, show C 4 0 = Int32.ofNat n from cl_n h.1.1.D h.1.2.1.1, show i = n by omega, if_pos (Int32.le_refl _)]
      · rw [L_X12_sad_13]
        unfold F_X12_dishes
        rw [Option.bind_eq_bind, Option.bind_some, h.1.2.1.1.1, show i = n by omega, if_pos (Int32.le_refl _)]
    | succ k ih =>
      intro i best mc mm C M hi h hb
      obtain ⟨c, t, p, C2, s1, s2, s3, s4, s5, s6, s7, s8, s9⟩ := now_sim h (show i < n by omega)
      obtain ⟨M2, m1, m2⟩ := s8 M rfl
      have h2 : GR C2 M2 n := s6.val m2
      have f2 : fmo M M2 := fun b hb => m2 b (by omega)
      have ec : L_X11_sad_6 best mc (Int32.ofNat i) C = (if best = -1 then L_X11_sad_6 (Int32.ofNat i) t (Int32.ofNat (i + 1)) C2 else if t ≤ mc then L_X11_sad_6 best mc (Int32.ofNat (i + 1)) C2 else L_X11_sad_6 (Int32.ofNat i) t (Int32.ofNat (i + 1)) C2) := by
        rw [L_X11_sad_6, show C 4 0 = Int32.ofNat n from cl_n h.1.1.D h.1.2.1.1, if_neg (by rw [ofn_le (by omega) (by omega)]; omega), s4, Option.bind_eq_bind, Option.bind_some, ofn_succ]
      have em : L_X12_sad_13 best mm (Int32.ofNat i) M = (if t ≤ mm then L_X12_sad_13 best (if mm < t then t else mm) (Int32.ofNat (i + 1)) M2 else L_X12_sad_13 (Int32.ofNat i) (if mm < t then t else mm) (Int32.ofNat (i + 1)) M2) := by
        rw [L_X12_sad_13]
        unfold F_X12_dishes
        rw [Option.bind_eq_bind, Option.bind_some, h.1.2.1.1.1, if_neg (by rw [ofn_le (by omega) (by omega)]; omega), m1, Option.bind_eq_bind, Option.bind_some, ofn_succ]
      rw [ec, em]
      have ne : ¬ Int32.ofNat i = -1 := ofn_ne_m1 (by omega)
      rcases hb with ⟨rfl, rfl⟩ | ⟨b1, rfl⟩
      · have q : ¬ t ≤ -1000000 := by rw [ti_le, show (-1000000 : Int32).toInt = -1000000 by decide]; have := s2.1; omega
        have q2 : (-1000000 : Int32) < t := ilt_of_not_le q
        rw [if_pos rfl, if_neg q, if_pos q2]
        obtain ⟨r, C', M', e1, e2, e3, e4, e5⟩ := ih (i + 1) (Int32.ofNat i) t t C2 M2 (by omega) h2 (Or.inr ⟨ne, rfl⟩)
        exact ⟨r, C', M', e1, e2, e3, s7.trans e4, f2.trans e5⟩
      · rw [if_neg b1]
        by_cases q : t ≤ mc
        · rw [if_pos q, if_pos q, if_neg (show ¬ mc < t by rw [ti_le] at q; rw [ti_lt]; omega)]
          obtain ⟨r, C', M', e1, e2, e3, e4, e5⟩ := ih (i + 1) best mc mc C2 M2 (by omega) h2 (Or.inr ⟨b1, rfl⟩)
          exact ⟨r, C', M', e1, e2, e3, s7.trans e4, f2.trans e5⟩
        · rw [if_neg q, if_neg q, if_pos (ilt_of_not_le q)]
          obtain ⟨r, C', M', e1, e2, e3, e4, e5⟩ := ih (i + 1) (Int32.ofNat i) t t C2 M2 (by omega) h2 (Or.inr ⟨ne, rfl⟩)
          exact ⟨r, C', M', e1, e2, e3, s7.trans e4, f2.trans e5⟩
  obtain ⟨r, C', M', e1, e2, e3, e4, e5⟩ := key n 0 (-1) 0 (-1000000) C (M0 M) (by omega) (h.thr 0) (Or.inl ⟨rfl, rfl⟩)
  exact ⟨r, C', r, M', e1, e2, rfl, ⟨n, e3⟩, e4, (fmo_thr M 0).trans e5⟩
end
