/-! acts -/
section
variable {C C' M M' : HI} {n n' a : Nat} {x1 x2 x3 x4 : Int32} {W : Nat → Int32}
def Qs (ns : List String) (r : Int32 ⊕ String) (b : Int32) (M' : HI) : Prop := ∃ k, F_X12_thrown M' = some k ∧ same ns r k b
theorem thrn (M : HI) : F_X12_thrown M = some (M 205 0) := rfl
theorem GR.R (h : GR C M n) : Run true C 3 M n := ⟨h.1.1, h.1.2.1, h.1.2.2.2, fun _ => h.1.2.2.1⟩
theorem ap3 : apA 3 := Or.inl (by omega)
theorem GR.run (h : GR C M n) (hR : Run true C' 3 M' n') (hc : frC true 3 C C') (hm : frM M M') : GR C' M' n' := by
  obtain ⟨-, g5, g6, g7, g8⟩ := h
  have f : ∀ b, b = 1 ∨ b = 2 ∨ (17 ≤ b ∧ b < 130) → C' b = C b := fun b hb => hc b (fun j hj => by omega) (by omega) (by omega) (by omega) (fun _ => by omega)
  have m5 : M' 205 = M 205 := hm.1 205 (by omega) (by omega)
  refine ⟨⟨hR.1, hR.2.1, hR.2.2.2 rfl, hR.2.2.1⟩, ?_, ?_, ?_, ?_⟩
  · exact g5.congr (fun b hb => f b (by omega)) (by rw [m5]) (hm.1 210 (by omega) (by omega)) hm.2.1
  · exact g6.congr (fun b h1 h2 => f b (by omega)) (by rw [f 1 (by omega)]) (by rw [m5]) (hm.1 207 (by omega) (by omega))
  · exact g7.congr (by rw [f 1 (by omega)]) (f 2 (by omega)) (by rw [m5]) (hm.1 211 (by omega) (by omega))
  · rw [f 1 (by omega), m5]; exact g8
theorem frC.fcl (h : frC true 3 C C') : fcl C C' := fun b hb => h b (fun j hj => by omega) (by omega) (by omega) (by omega) (fun _ => by omega)
theorem frM.fmo (h : frM M M') : fmo M M' := fun b hb => h.1 b (by omega) (by omega)
theorem Run.step6 {lg : Bool} (ha : apA a) (h : Run lg C a M n) (hL : LR C' a (M' 206)) (hW : WOk n (M' 206)) (hc : ∀ b, (∀ j, j < 6 → b ≠ a + j) → C' b = C b) (hm : ∀ b, b ≠ 206 → M' b = M b) (hw : ∀ k, k = 2 ∨ k = 15 ∨ 113 ≤ k → M' 206 k = M 206 k) : Run lg C' a M' n ∧ frC lg a C C' ∧ frM M M' := by
  have a9 : ∀ j, j < 8 → C' (9 + j) = C (9 + j) := fun j hj => hc _ (fun i hi => by unfold apA at ha; omega)
  refine ⟨⟨hL, hW, h.2.2.1.congr (fun j hj => a9 j (by omega)) (hw 2 (by omega)) (fun k h1 _ => hw k (by omega)), fun q => ?_⟩, fun b q1 _ _ _ _ => hc b q1, ⟨fun b h1 _ => hm b h1, hw 2 (by omega), fun k hk => hw k (by omega)⟩⟩
  exact ((h.2.2.2 q).congr (a9 6 (by omega)) (a9 7 (by omega))).congrW (hw 15 (by omega)) (fun k h1 h2 => hw k (by omega))
/-- remember, with the reference's thrown set to 0 first -/
theorem rem0 (h : GR C M n) : ∃ C' M', F_X0_remember C 3 15 = some C' ∧ F_X12_remembers (M0 M) = some M' ∧ GR C' M' n ∧ fcl C C' ∧ fmo M M' ∧ M' 205 0 = 0 := by
  obtain ⟨C', M', e1, e2, e3, e4, e5, e6⟩ := rem_sim (h.thr 0)
  exact ⟨C', M', e1, e2, e3, fun b hb => e4 b (by omega) (by omega), fun b hb => by rw [e5 b (by omega) (by omega)]; exact up2_ne _ _ _ (by omega), by rw [e6 0 (by omega), up2_get, if_pos ⟨rfl, rfl⟩]⟩
theorem fcl.trans {A B D : HI} (h1 : fcl A B) (h2 : fcl B D) : fcl A D := fun b hb => by rw [h2 b hb, h1 b hb]
theorem fmo.trans {A B D : HI} (h1 : fmo A B) (h2 : fmo B D) : fmo A D := fun b hb => by rw [h2 b hb, h1 b hb]
theorem m_tn1 (h : M 206 5 = 99) : F_X12_takesNone M = some 1 := by unfold F_X12_takesNone; rw [if_pos h]
theorem m_tn0 (h : ¬ M 206 5 = 99) : F_X12_takesNone M = some 0 := by unfold F_X12_takesNone; rw [if_neg h]
theorem s_spoon (h : GR C M n) : ∃ r C' b M', F_X11_spoon C x1 = some (r, C') ∧ F_X12_spoon M x1 = some (b, M') ∧ Qs ["java/lang/IndexOutOfBoundsException", "java/lang/IllegalStateException"] r b M' ∧ (∃ n', GR C' M' n') ∧ fcl C C' ∧ fmo M M' := by
  have hD := h.1.1.D
  have hW := h.1.2.1
  have hn := hW.1.2.1
  have hW0 : DOk n (M0 M 206) := hW.1
  have hs := hW.2.2.2.2.1
  have l4 : C 3 4 = M 206 5 := h.1.1.1.2.2.2.1
  unfold F_X11_spoon F_X12_spoon
  rcases nat_or x1 n (by omega) with ⟨d, hd, rfl⟩ | hx
  · rw [cl_has hD hW.1 hd, m_noDish hW0 hd]
    simp only [Option.bind_eq_bind, Option.bind_some, m_thr0, i10, if_true, if_false]
    rw [l4]
    by_cases h99 : M 206 5 = 99
    · rw [if_neg (by rw [h99]; exact Int32.lt_irrefl), m_tn1 (M := up2 M 205 0 0) h99]
      simp only [Option.bind_some, m_thr1, i10, if_false]
      rw [M0_up]
      exact ⟨_, _, _, _, rfl, rfl, ⟨2, rfl, 1, rfl, rfl⟩, ⟨n, h.thr 2⟩, fcl.refl _, fmo_thr _ _⟩
    · rw [if_pos (by rw [ti_eq, ti_99] at h99; rw [ti_lt, ti_99]; have := hs.2; omega), m_tn0 (M := up2 M 205 0 0) h99]
      simp only [Option.bind_some, m_thr0, if_true]
      obtain ⟨C1, M1, e1, e2, e3, e4, e5, e6⟩ := rem0 h
      have m16 : M1 206 5 = M 206 5 := by
        have a1 := e3.1.1.1.2.2.2.1
        obtain ⟨C1', M1', p1, p2, p3, p4, p5, p6⟩ := rem_sim (h.thr 0)
        have : M1 = M1' := Option.some.inj (e2.symm.trans p2)
        subst this
        rw [p5 206 (by omega) (by omega)]; rfl
      rw [e1, e2]
      simp only [Option.bind_some]
      obtain ⟨c, p, C2, C3, M2, b1, b2, b3, b4, b5, b6, b7, b8, b9, b10⟩ := run_bite ap3 e3.R hd (by rw [m16]; exact h99)
      rw [b1, b4]
      simp only [Option.bind_some]
      rw [b3 rfl]
      simp only [Option.bind_some]
      refine ⟨_, _, _, _, rfl, rfl, ⟨0, ?_, rfl, b8.1.1.2.2.1⟩, ⟨n, e3.run b8 b9 b10⟩, e4.trans b9.fcl, e5.trans b10.fmo⟩
      rw [thrn, b10.1 205 (by omega) (by omega), e6]
  · rw [cl_hasN hD hW.1 hx, m_noDishN hW0 hx]
    simp only [Option.bind_eq_bind, Option.bind_some, m_thr1, i10, if_true, if_false]
    rw [M0_up]
    exact ⟨_, _, _, _, rfl, rfl, ⟨1, rfl, 0, rfl, rfl⟩, ⟨n, h.thr 1⟩, fcl.refl _, fmo_thr _ _⟩
theorem s_crust (h : GR C M n) : ∃ r C' b M', F_X11_crust C = some (r, C') ∧ F_X12_crust M = some (b, M') ∧ r = b ∧ (∃ n', GR C' M' n') ∧ fcl C C' ∧ fmo M M' := by
  unfold F_X11_crust F_X12_crust
  obtain ⟨C1, M1, e1, e2, e3, e4, e5, e6⟩ := rem0 h
  rw [e1, e2]
  simp only [Option.bind_eq_bind, Option.bind_some]
  obtain ⟨C2, M2, b1, b2, b3, b4, b5⟩ := run_crust ap3 e3.R
  rw [b1, b2]
  exact ⟨_, _, _, _, rfl, rfl, b3.1.1.2.1, ⟨n, e3.run b3 b4 b5⟩, e4.trans b4.fcl, e5.trans b5.fmo⟩
theorem s_look (h : GR C M n) : ∃ r C' b M', F_X11_look C = some (r, C') ∧ F_X12_look M = some (b, M') ∧ r = b ∧ (∃ n', GR C' M' n') ∧ fcl C C' ∧ fmo M M' := by
  unfold F_X11_look F_X12_look
  obtain ⟨C1, M1, e1, e2, e3, e4, e5, e6⟩ := rem0 h
  rw [e1, e2]
  simp only [Option.bind_eq_bind, Option.bind_some]
  obtain ⟨C2, M2, v, v1, b1, b2, b3, b4, b5, b6, b7⟩ := run_draw ap3 e3.R (q := 100) (by omega) (by omega)
  rw [b1, show (100 : Int32) = Int32.ofNat 100 from rfl, b2]
  simp only [Option.bind_some]
  have l3 : C2 3 3 = M2 206 4 := b3.1.1.2.2.1
  have l10 : C2 3 10 = M2 206 11 := b3.1.1.2.2.2.2.2.2.2.2.2.1
  rw [ofn_mod (by omega) (by omega) (by omega), l3, l10, ← b7 4 (by omega)]
  by_cases q : M2 206 11 ≤ Int32.ofNat (v % 100)
  · rw [if_pos q, if_pos q]
    exact ⟨_, _, _, _, rfl, rfl, rfl, ⟨n, e3.run b3 b4 b5⟩, e4.trans b4.fcl, e5.trans b5.fmo⟩
  · rw [if_neg q, if_neg q]
    exact ⟨_, _, _, _, rfl, rfl, rfl, ⟨n, e3.run b3 b4 b5⟩, e4.trans b4.fcl, e5.trans b5.fmo⟩
theorem run_evs (N : Nat) (hN : N ≤ 60) : ∀ (k i : Nat) (acc : Int32) (C M : HI), i + k = N → Run true C 3 M n → ∃ r C' M', L_X11_evenings_41 (Int32.ofNat N) acc (Int32.ofNat i) C = some (Sum.inl r, C') ∧ L_X12_goesOn_4 (Int32.ofNat N) acc (Int32.ofNat i) M = some (r, M') ∧ Run true C' 3 M' n ∧ frC true 3 C C' ∧ frM M M' := by
  intro k
  induction k with
  | zero =>
    intro i acc C M hi R
    refine ⟨acc, C, M, ?_, ?_, R, frC.refl _, frM.refl _⟩
    · rw [L_X11_evenings_41, show i = N by omega, if_pos (Int32.le_refl _)]
    · rw [L_X12_goesOn_4, show i = N by omega, if_pos (Int32.le_refl _)]
  | succ k ih =>
    intro i acc C M hi R
    obtain ⟨r, C1, M1, e1, e2, R1, f1, f2⟩ := run_eve ap3 R
    obtain ⟨r2, C2, M2, g1, g2, R2, f3, f4⟩ := ih (i + 1) (acc + r) C1 M1 (by omega) R1
    refine ⟨r2, C2, M2, ?_, ?_, R2, f1.trans f3, f2.trans f4⟩
    · rw [L_X11_evenings_41, if_neg (by rw [ofn_le (by omega) (by omega)]; omega), show (1 : Int32) = lgI true from rfl, e1]
      simp only [Option.bind_eq_bind, Option.bind_some]
      rw [show lgI true = 1 from rfl, ofn_succ]; exact g1
    · rw [L_X12_goesOn_4, if_neg (by rw [ofn_le (by omega) (by omega)]; omega), e2]
      simp only [Option.bind_eq_bind, Option.bind_some]
      rw [ofn_succ]; exact g2
theorem s_evenings (h : GR C M n) : ∃ r C' b M', F_X11_evenings C x1 = some (r, C') ∧ F_X12_evenings M x1 = some (b, M') ∧ Qs ["java/lang/IllegalArgumentException"] r b M' ∧ (∃ n', GR C' M' n') ∧ fcl C C' ∧ fmo M M' := by
  unfold F_X11_evenings F_X12_evenings F_X12_in
  by_cases q1 : x1 < 1
  · rw [if_pos q1, if_pos q1]
    simp only [Option.bind_eq_bind, Option.bind_some, m_thr1, i10, if_true, if_false]
    rw [M0_up]
    exact ⟨_, _, _, _, rfl, rfl, ⟨1, rfl, 0, rfl, rfl⟩, ⟨n, h.thr 1⟩, fcl.refl _, fmo_thr _ _⟩
  · by_cases q2 : (60 : Int32) < x1
    · rw [if_neg q1, if_neg (by rw [ti_lt] at q2; rw [ti_le]; omega), if_neg q1, if_pos q2]
      simp only [Option.bind_eq_bind, Option.bind_some, m_thr1, i10, if_true, if_false]
      rw [M0_up]
      exact ⟨_, _, _, _, rfl, rfl, ⟨1, rfl, 0, rfl, rfl⟩, ⟨n, h.thr 1⟩, fcl.refl _, fmo_thr _ _⟩
    · rw [if_neg q1, if_pos (by rw [ti_lt] at q2; rw [ti_le]; omega), if_neg q1, if_neg q2]
      simp only [Option.bind_eq_bind, Option.bind_some, m_thr0, i10, if_true, if_false]
      rcases nat_or x1 61 (by omega) with ⟨N, hN, rfl⟩ | hx
      · obtain ⟨C1, M1, e1, e2, e3, e4, e5, e6⟩ := rem0 h
        rw [e1, e2]
        simp only [Option.bind_some]
        obtain ⟨r, C2, M2, g1, g2, R2, f3, f4⟩ := run_evs N (by omega) N 0 0 C1 M1 (by omega) e3.R
        unfold F_X12_goesOn
        rw [show (0 : Int32) = Int32.ofNat 0 from rfl] at *
        rw [g1, g2]
        refine ⟨_, _, _, _, rfl, rfl, ⟨0, ?_, rfl, rfl⟩, ⟨n, e3.run R2 f3 f4⟩, e4.trans f3.fcl, e5.trans f4.fmo⟩
        show some (M2 205 0) = some 0
        rw [f4.1 205 (by omega) (by omega), e6]; rfl
      · rw [ti_lt, ti_1] at q1
        rw [ti_lt, ti_60] at q2
        rw [ti_lt, ti_0, ti_le, ti_ofn (by omega)] at hx
        omega
end
