section
variable {C C' M M' : HI} {n n' a d : Nat} {x x1 x2 x3 x4 lo hi : Int32} {W : Nat → Int32}
theorem m_in1 (h : ¬ x < lo ∧ ¬ hi < x) : F_X12_in M x lo hi = some 1 := by unfold F_X12_in; rw [if_neg h.1, if_neg h.2]
theorem m_in0 (h : x < lo ∨ hi < x) : F_X12_in M x lo hi = some 0 := by
  unfold F_X12_in
  by_cases q : x < lo
  · rw [if_pos q]
  · rw [if_neg q, if_pos (h.resolve_left q)]
theorem in_or (x lo hi : Int32) : (¬ x < lo ∧ ¬ hi < x) ∨ (x < lo ∨ hi < x) := by
  by_cases h : x < lo
  · exact Or.inr (Or.inl h)
  · by_cases h2 : hi < x
    · exact Or.inr (Or.inr h2)
    · exact Or.inl ⟨h, h2⟩
theorem cl_fst6 (hL : LR C 3 W) (h : d < 12) : ald 12 (C 6) (Int32.ofNat d) = some (W (22 + 8 * d)) := cl_fst hL.D h
theorem had_tail (hd : d < 12) : ((F_X12_of M (Int32.ofNat d) (5 : Int32)).bind fun r75 => (F_X12_at M (Int32.ofNat d) (5 : Int32)).bind fun r77 => if inB r77 2051 = true then (F_X12_at (up2 M 206 (r77).toNatClampNeg x2) (Int32.ofNat d) (6 : Int32)).bind fun r80 => if inB r80 2051 = true then (F_X12_at (up2 (up2 M 206 (r77).toNatClampNeg x2) 206 (r80).toNatClampNeg x3) (Int32.ofNat d) (7 : Int32)).bind fun r83 => if inB r83 2051 = true then some (r75, (up2 (up2 (up2 M 206 (r77).toNatClampNeg x2) 206 (r80).toNatClampNeg x3) 206 (r83).toNatClampNeg x4)) else none else none else none) = some (M 206 (22 + 8 * d), up2 (up2 (up2 M 206 (17 + 8 * d + 5) x2) 206 (17 + 8 * d + 6) x3) 206 (17 + 8 * d + 7) x4) := by
  rw [m_fst hd, Option.bind_some, show (5 : Int32) = Int32.ofNat 5 from rfl, m_at, Option.bind_some, if_pos (inB_ofn (by omega) (by omega)), ofn_clamp (by omega), show (6 : Int32) = Int32.ofNat 6 from rfl, m_at, Option.bind_some, if_pos (inB_ofn (by omega) (by omega)), ofn_clamp (by omega), show (7 : Int32) = Int32.ofNat 7 from rfl, m_at, Option.bind_some, if_pos (inB_ofn (by omega) (by omega)), ofn_clamp (by omega)]
theorem s_had (h : GR C M n) : ∃ r C' b M', F_X11_had C x1 x2 x3 x4 = some (r, C') ∧ F_X12_had M x1 x2 x3 x4 = some (b, M') ∧ Qs ["java/lang/IndexOutOfBoundsException", "java/lang/IllegalArgumentException"] r b M' ∧ (∃ n', GR C' M' n') ∧ fcl C C' ∧ fmo M M' := by
  have hD := h.1.1.D
  have hW := h.1.2.1
  have hn := hW.1.2.1
  have hW0 : DOk n (M0 M 206) := hW.1
  unfold F_X11_had F_X12_had
  rcases nat_or x1 n (by omega) with ⟨d, hd, rfl⟩ | hx
  · rw [cl_has hD hW.1 hd, m_noDish hW0 hd]
    simp only [Option.bind_eq_bind, Option.bind_some, i10, if_true, if_false]
    rcases pl_cases x3 with q3 | q3
    · rw [cl_pl q3, m_pl q3]
      simp only [Option.bind_some, i10, if_true, if_false, m_thr0]
      rcases in_or x2 0 9999 with q2 | q2
      · rw [if_neg q2.1, if_neg q2.2, m_in1 q2]
        simp only [Option.bind_some, i10, if_false]
        rcases in_or x4 (-1) 7 with q4 | q4
        · rw [if_neg q4.1, if_pos (ile_of_not_lt q4.2), m_in1 q4]
          simp only [Option.bind_some, i10, if_false, m_thr0, if_true]
          obtain ⟨C1, M1, e1, e2, e3, e4, e5, e6⟩ := rem0 h
          rw [e1, e2]
          simp only [Option.bind_some]
          rw [cl_fst6 e3.1.1 (show d < 12 by omega), had_tail (show d < 12 by omega), Option.bind_some]
          have r2 : rg x2 (-1) 9999 := by
            obtain ⟨z1, z2⟩ := q2
            rw [ti_lt, ti_0] at z1; rw [ti_lt, ti_9999] at z2; exact ⟨by omega, by omega⟩
          have r3 : rg x3 (-1) 7 := by
            obtain ⟨z1, z2⟩ := q3
            rw [ti_lt, ti_0] at z1; rw [ti_lt, ti_7] at z2; exact ⟨by omega, by omega⟩
          have r4 : rg x4 (-1) 7 := by
            obtain ⟨z1, z2⟩ := q4
            rw [ti_lt, ti_m1] at z1; rw [ti_lt, ti_7] at z2; exact ⟨by omega, by omega⟩
          obtain ⟨C2, g1, g2, g3⟩ := e3.tell hd r2 r3 r4 (M' := up2 (up2 (up2 M1 206 (17 + 8 * d + 5) x2) 206 (17 + 8 * d + 6) x3) 206 (17 + 8 * d + 7) x4) (m_tdW (by omega) _ _ _) (fun b hb => by rw [up2_ne _ _ _ hb, up2_ne _ _ _ hb, up2_ne _ _ _ hb])
          rw [g1]
          refine ⟨_, _, _, _, rfl, rfl, ⟨0, ?_, rfl, rfl⟩, ⟨n, g2⟩, e4.trans g3, e5.trans (fun b hb => ?_)⟩
          · show some (up2 (up2 (up2 M1 206 (17 + 8 * d + 5) x2) 206 (17 + 8 * d + 6) x3) 206 (17 + 8 * d + 7) x4 205 0) = some 0
            rw [up2_ne _ _ _ (by omega), up2_ne _ _ _ (by omega), up2_ne _ _ _ (by omega), e6]
          · rw [up2_ne _ _ _ (by omega), up2_ne _ _ _ (by omega), up2_ne _ _ _ (by omega)]
        · rw [m_in0 q4]
          have e9 : (if x4 < -1 then some ((Sum.inr "java/lang/IllegalArgumentException" : Int32 ⊕ String), C) else if x4 ≤ 7 then (F_X0_remember C 3 15).bind fun r11 => (ald 12 (r11 6) (Int32.ofNat d)).bind fun v13 => (F_X1_tell r11 4 (Int32.ofNat d) x2 x3 x4).bind fun r15 => some (Sum.inl v13, r15) else some (Sum.inr "java/lang/IllegalArgumentException", C)) = some (Sum.inr "java/lang/IllegalArgumentException", C) := by
            by_cases z : x4 < -1
            · rw [if_pos z]
            · rw [if_neg z, if_neg (by have := q4.resolve_left z; rw [ti_lt] at this; rw [ti_le]; omega)]
          rw [e9]
          simp only [Option.bind_some, i10, if_false, m_thr1, if_true]
          rw [M0_up]
          exact ⟨_, _, _, _, rfl, rfl, ⟨2, rfl, 1, rfl, rfl⟩, ⟨n, h.thr 2⟩, fcl.refl _, fmo_thr _ _⟩
      · rw [m_in0 q2]
        have e9 : ∀ z : Option ((Int32 ⊕ String) × HI), (if x2 < 0 then some ((Sum.inr "java/lang/IllegalArgumentException" : Int32 ⊕ String), C) else if (9999 : Int32) < x2 then some (Sum.inr "java/lang/IllegalArgumentException", C) else z) = some (Sum.inr "java/lang/IllegalArgumentException", C) := by
          intro z
          by_cases z : x2 < 0
          · rw [if_pos z]
          · rw [if_neg z, if_pos (q2.resolve_left z)]
        rw [e9]
        simp only [Option.bind_some, i10, if_false, m_thr1, if_true]
        rw [M0_up]
        exact ⟨_, _, _, _, rfl, rfl, ⟨2, rfl, 1, rfl, rfl⟩, ⟨n, h.thr 2⟩, fcl.refl _, fmo_thr _ _⟩
    · rw [cl_plN q3, m_plN q3]
      simp only [Option.bind_some, m_thr1, i10, if_true, if_false]
      rw [M0_up]
      exact ⟨_, _, _, _, rfl, rfl, ⟨1, rfl, 0, rfl, rfl⟩, ⟨n, h.thr 1⟩, fcl.refl _, fmo_thr _ _⟩
  · rw [cl_hasN hD hW.1 hx, m_noDishN hW0 hx]
    simp only [Option.bind_eq_bind, Option.bind_some, m_thr1, i10, if_true, if_false]
    rw [M0_up]
    exact ⟨_, _, _, _, rfl, rfl, ⟨1, rfl, 0, rfl, rfl⟩, ⟨n, h.thr 1⟩, fcl.refl _, fmo_thr _ _⟩
theorem s_forget (h : GR C M n) : ∃ r C' b M', F_X11_forget C x1 = some (r, C') ∧ F_X12_forget M x1 = some (b, M') ∧ Qs ["java/lang/IndexOutOfBoundsException", "java/lang/IllegalStateException"] r b M' ∧ (∃ n', GR C' M' n') ∧ fcl C C' ∧ fmo M M' := by
  have hD := h.1.1.D
  have hW := h.1.2.1
  have hn := hW.1.2.1
  have hW0 : DOk n (M0 M 206) := hW.1
  unfold F_X11_forget F_X12_forget
  rcases nat_or x1 n (by omega) with ⟨d, hd, rfl⟩ | hx
  · rw [cl_has hD hW.1 hd, m_noDish hW0 hd]
    simp only [Option.bind_eq_bind, Option.bind_some, i10, if_true, if_false, m_thr0]
    rw [cl_isHad hD hW.1 hd, m_isNew (show d < 12 by omega), show up2 M 205 0 0 206 (22 + 8 * d) = M 206 (22 + 8 * d) from rfl]
    by_cases h0 : M 206 (22 + 8 * d) = -1
    · rw [if_pos h0, if_pos h0]
      simp only [Option.bind_some, i10, if_false, m_thr1, if_true]
      rw [M0_up]
      exact ⟨_, _, _, _, rfl, rfl, ⟨2, rfl, 1, rfl, rfl⟩, ⟨n, h.thr 2⟩, fcl.refl _, fmo_thr _ _⟩
    · rw [if_neg h0, if_neg h0]
      simp only [Option.bind_some, i10, if_false, m_thr0, if_true]
      obtain ⟨C1, M1, e1, e2, e3, e4, e5, e6⟩ := rem0 h
      rw [e1, e2]
      simp only [Option.bind_some]
      rw [cl_fst6 e3.1.1 (show d < 12 by omega), m_fst (show d < 12 by omega)]
      simp only [Option.bind_some]
      have el : ∀ r : Int32, L_X12_forget_46 (Int32.ofNat d) r 5 M1 = some (r, up2 (up2 (up2 M1 206 (17 + 8 * d + 5) (-1)) 206 (17 + 8 * d + 6) (-1)) 206 (17 + 8 * d + 7) (-1)) := by
        intro r
        rw [L_X12_forget_46, if_neg (by decide), show (5 : Int32) = Int32.ofNat 5 from rfl, m_at]
        simp only [Option.bind_eq_bind, Option.bind_some]
        rw [if_pos (inB_ofn (by omega) (by omega)), ofn_clamp (by omega), ofn_succ, L_X12_forget_46, if_neg (by decide), m_at]
        simp only [Option.bind_eq_bind, Option.bind_some]
        rw [if_pos (inB_ofn (by omega) (by omega)), ofn_clamp (by omega), ofn_succ, L_X12_forget_46, if_neg (by decide), m_at]
        simp only [Option.bind_eq_bind, Option.bind_some]
        rw [if_pos (inB_ofn (by omega) (by omega)), ofn_clamp (by omega), ofn_succ, L_X12_forget_46, if_pos (by decide)]
      rw [el]
      have r1 : rg (-1 : Int32) (-1) 9999 := by constructor <;> rw [ti_m1] <;> decide
      have r2 : rg (-1 : Int32) (-1) 7 := by constructor <;> rw [ti_m1] <;> decide
      obtain ⟨C2, g1, g2, g3⟩ := e3.tell hd r1 r2 r2 (M' := up2 (up2 (up2 M1 206 (17 + 8 * d + 5) (-1)) 206 (17 + 8 * d + 6) (-1)) 206 (17 + 8 * d + 7) (-1)) (m_tdW (by omega) _ _ _) (fun b hb => by rw [up2_ne _ _ _ hb, up2_ne _ _ _ hb, up2_ne _ _ _ hb])
      rw [g1]
      refine ⟨_, _, _, _, rfl, rfl, ⟨0, ?_, rfl, rfl⟩, ⟨n, g2⟩, e4.trans g3, e5.trans (fun b hb => ?_)⟩
      · show some (up2 (up2 (up2 M1 206 (17 + 8 * d + 5) (-1)) 206 (17 + 8 * d + 6) (-1)) 206 (17 + 8 * d + 7) (-1) 205 0) = some 0
        rw [up2_ne _ _ _ (by omega), up2_ne _ _ _ (by omega), up2_ne _ _ _ (by omega), e6]
      · rw [up2_ne _ _ _ (by omega), up2_ne _ _ _ (by omega), up2_ne _ _ _ (by omega)]
  · rw [cl_hasN hD hW.1 hx, m_noDishN hW0 hx]
    simp only [Option.bind_eq_bind, Option.bind_some, m_thr1, i10, if_true, if_false]
    rw [M0_up]
    exact ⟨_, _, _, _, rfl, rfl, ⟨1, rfl, 0, rfl, rfl⟩, ⟨n, h.thr 1⟩, fcl.refl _, fmo_thr _ _⟩
theorem s_undo (h : GR C M n) : ∃ r C' b M', F_X11_undo C = some (r, C') ∧ F_X12_undo M = some (b, M') ∧ r = b ∧ (∃ n', GR C' M' n') ∧ fcl C C' ∧ fmo M M' := by
  obtain ⟨⟨g1, g2, g3, g4⟩, ⟨m, fr, a1, a2, a3, a4, a5, a6⟩, g6, g7, g8⟩ := h
  rcases m with _ | m
  · unfold F_X11_undo F_X0_recall F_X12_undo
    rw [a3, a5, if_neg (by decide), if_pos (show Int32.ofNat 0 = 0 from rfl)]
    simp only [Option.bind_eq_bind, Option.bind_some]
    rw [if_pos (Or.inl trivial)]
    exact ⟨_, _, _, _, rfl, rfl, rfl, ⟨n, GR.thr ⟨⟨g1, g2, g3, g4⟩, ⟨0, fr, a1, a2, a3, a4, a5, a6⟩, g6, g7, g8⟩ 0⟩, fcl.refl _, fmo_thr _ _⟩
  · obtain ⟨p1, p2, ⟨np, p3⟩, p4⟩ := a6 0 (by omega)
    rw [show m + 1 - 1 - 0 = m by omega] at p1 p2 p3 p4
    have hs := slot_lt fr 0
    have es : slot fr 0 = (fr + 11) % 12 := rfl
    have e2 := m_undo M (m := m) (by omega) a5
    -- the class
    have ex : ((C 17 1 + 12) - 1) - ((C 17 1 + 12) - 1) / (12 : Int32) * (12 : Int32) = Int32.ofNat (slot fr 0) := by
      have e : C 17 1 + 12 - 1 = Int32.ofNat (fr + 11) := by
        rw [a4, show (12 : Int32) = Int32.ofNat 12 from rfl, ← Int32.ofNat_add, show fr + 12 = (fr + 11) + 1 by omega, ofn_p1]
      rw [e, show (12 : Int32) = Int32.ofNat 12 from rfl, ofn_mod (by omega) (by omega) (by omega), es]
    generalize hs0 : slot fr 0 = s0 at *
    obtain ⟨C1, c1, c2, c3⟩ := cl_copyL (C := up2 (up2 C 17 1 (Int32.ofNat s0)) 17 0 (Int32.ofNat m)) (a := 3) (b := 20 + 8 * s0) (fun i j hi hj => by omega)
    obtain ⟨C2, d1, d2, d3⟩ := cl_copyG (C := C1) (a := 15) (b := 26 + 8 * s0) (by omega) (by omega) (by omega)
    have f0 : ∀ b, b ≠ 17 → (up2 (up2 C 17 1 (Int32.ofNat s0)) 17 0 (Int32.ofNat m)) b = C b := fun b hb => by rw [up2_ne _ _ _ hb, up2_ne _ _ _ hb]
    have f1 : ∀ b, 9 ≤ b → C1 b = (up2 (up2 C 17 1 (Int32.ofNat s0)) 17 0 (Int32.ofNat m)) b := fun b hb => c3 b (fun j hj => by omega)
    have h17 : (up2 (up2 C 17 1 (Int32.ofNat s0)) 17 0 (Int32.ofNat m)) 17 1 = Int32.ofNat s0 := by simp [up2_get]
    have hcl : F_X0_recall C 3 15 = some (1, C2) := by
      unfold F_X0_recall
      rw [a3, if_pos (by rw [show (0 : Int32) = Int32.ofNat 0 from rfl, ofn_lt (by omega) (by omega)]; omega), ofn_p1, ex, if_neg (ofn_nneg (by omega)), if_neg (by rw [show (12 : Int32) = Int32.ofNat 12 from rfl, ofn_le (by omega) (by omega)]; omega), if_pos (inB_ofn (by omega) (by omega)), ofn_clamp (by omega), c1]
      simp only [Option.bind_eq_bind, Option.bind_some]
      rw [f1 17 (by omega), h17, if_pos (inB_ofn (by omega) (by omega)), ofn_clamp (by omega), d1]
      rfl
    have f2 : ∀ b, b ≠ 17 → (9 ≤ b ∧ b < 15 ∨ 17 < b ∨ b < 3) → C2 b = C b := fun b h1 h2 => by
      rw [d3 b (by omega) (by omega), c3 b (fun j hj => by omega), f0 b h1]
    generalize hM' : cpR (up2 (M0 M) 205 7 (Int32.ofNat m)) 206 0 210 (353 * m) 353 = M' at e2
    have w1 : ∀ k, k < 353 → M' 206 k = rowA M m k := fun k hk => by
      rw [← hM', cpR_in _ (by omega), up2_ne _ _ _ (by decide)]
      show M 210 (353 * m + (k - 0)) = M 210 (353 * m + k)
      rw [Nat.sub_zero]
    have w2 : ∀ k, 353 ≤ k → M' 206 k = M 206 k := fun k hk => by
      rw [← hM', cpR_out _ (by omega), up2_ne _ _ _ (by decide)]; rfl
    have w3 : ∀ b, b ≠ 205 → b ≠ 206 → M' b = M b := fun b h1 h2 => by rw [← hM', cpR_ne _ h2, up2_ne _ _ _ h1]; exact up2_ne _ _ _ h1
    have w4 : ∀ k, k ≠ 0 → k ≠ 7 → M' 205 k = M 205 k := fun k h1 h2 => by rw [← hM', cpR_ne _ (by decide), up2_get, if_neg (fun q => h2 q.2)]; show up2 M 205 0 0 205 k = _; rw [up2_get, if_neg (fun q => h1 q.2)]
    have w5 : M' 205 7 = Int32.ofNat m := by rw [← hM', cpR_ne _ (by decide), up2_get, if_pos ⟨rfl, rfl⟩]
    have hL3 : LR C2 3 (M' 206) := by
      have q := c2 (rowA M m) (p1.congr (fun i hi => f0 _ (by omega)))
      exact (q.congrW (fun k h1 _ => w1 k (by omega))).congr (fun i hi => d3 _ (by omega) (by omega))
    have hW' : WOk np (M' 206) := p3.congr (fun k h1 _ => w1 k (by omega)) (by obtain ⟨q, q1, q2⟩ := p3.2.2.2.2.2.2.2.2.2.2.2.2.2; exact ⟨q, q1, by rw [w1 15 (by omega)]; exact q2⟩)
    have hLog : LogR C2 15 (M' 206) := by
      have q : LogR C1 (26 + 8 * s0) (rowA M m) := p2.congr (by rw [f1 _ (by omega), f0 _ (by omega)]) (by rw [f1 _ (by omega), f0 _ (by omega)])
      exact (d2 _ q).congrW (w1 15 (by omega)) (fun k h1 h2 => w1 k (by omega))
    have hLaw : LawR C2 9 (M' 206) := g4.congr (fun j hj => f2 _ (by omega) (by omega)) (by rw [w1 2 (by omega)]; exact p4) (fun k h1 _ => w2 k h1)
    refine ⟨1, C2, 1, M', ?_, e2, rfl, ⟨np, ⟨hL3, hW', hLog, hLaw⟩, ?_, ?_, ?_, ?_⟩, fun b hb => f2 b (by omega) (by omega), fun b hb => ?_⟩
    · unfold F_X11_undo
      rw [hcl]
      rfl
    · refine ⟨m, s0, by omega, hs, ?_, ?_, w5, fun j hj => ?_⟩
      · rw [d3 17 (by omega) (by omega), f1 17 (by omega)]; simp [up2_get]
      · rw [d3 17 (by omega) (by omega), f1 17 (by omega)]; exact h17
      · obtain ⟨q1, q2, q3, q4⟩ := a6 (j + 1) (by omega)
        have e1 : slot s0 j = slot fr (j + 1) := by rw [← hs0]; unfold slot; omega
        have e3 : rowA M' (m - 1 - j) = rowA M (m + 1 - 1 - (j + 1)) := by unfold rowA; rw [w3 210 (by omega) (by omega), show m + 1 - 1 - (j + 1) = m - 1 - j by omega]
        have hsl := slot_lt fr (j + 1)
        rw [e1, e3]
        exact ⟨q1.congr (fun i hi => f2 _ (by omega) (by omega)), q2.congr (f2 _ (by omega) (by omega)) (f2 _ (by omega) (by omega)), q3, by rw [w1 2 (by omega), p4]; exact q4⟩
    · exact g6.congr (fun b h1 h2 => f2 b (by omega) (by omega)) (by rw [f2 1 (by omega) (by omega)]) (w4 6 (by omega) (by omega)) (w3 207 (by omega) (by omega))
    · exact g7.congr (by rw [f2 1 (by omega) (by omega)]) (f2 2 (by omega) (by omega)) (w4 9 (by omega) (by omega)) (w3 211 (by omega) (by omega))
    · rw [f2 1 (by omega) (by omega), w4 14 (by omega) (by omega)]; exact g8
    · exact w3 b (by omega) (by omega)
end
