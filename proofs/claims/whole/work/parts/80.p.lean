section
variable {C C' M M' : HI} {n N T d : Nat} {x1 x2 : Int32} {W : Nat → Int32}
/-- which bytes are dishes -/
theorem bydish {v : Nat} (hv : v < 256) (hn : n ≤ 12) : (Int32.ofNat v ≤ Int32.ofNat n - 1 ↔ v < n) ∧ (v < n → byI v = Int32.ofNat v) ∧ (¬ v < n → byI v < 0 ∨ Int32.ofNat n ≤ byI v) := by
  have e : (Int32.ofNat n - 1).toInt = (n : Int) - 1 := by rw [ti_sub (by rw [ti_ofn (by omega), ti_1]; omega) (by rw [ti_ofn (by omega), ti_1]; omega), ti_ofn (by omega), ti_1]
  refine ⟨by rw [ti_le, ti_ofn (by omega), e]; omega, fun h => byI_lt (by omega), fun h => ?_⟩
  by_cases q : v < 128
  · right
    rw [byI_lt q, ofn_le (by omega) (by omega)]; omega
  · left
    rw [ti_lt, byI_rg hv, if_neg q, ti_0]; omega
theorem m_isMenu (hD : DOk n (M 206)) (h11 : M 205 11 = Int32.ofNat T) (hT : T ≤ 400) {vs : Nat → Nat} (hv : ∀ i, i < T → vs i < 256 ∧ M 211 i = byI (vs i)) : ∀ (k i : Nat), i + k = T → ((∀ j, i ≤ j → j < T → vs j < n) → L_X12_isMenu_17 M 1 (Int32.ofNat i) = some 1) ∧ ((∃ j, i ≤ j ∧ j < T ∧ ¬ vs j < n) → L_X12_isMenu_17 M 1 (Int32.ofNat i) = some 0) := by
  have hn := hD.2.1
  have z : ∀ i, L_X12_isMenu_17 M 0 (Int32.ofNat i) = some 0 := by
    intro i
    rw [L_X12_isMenu_17]
    split
    · rfl
    · rfl
  intro k
  induction k with
  | zero =>
    intro i hi
    refine ⟨fun _ => ?_, fun ⟨j, h1, h2, _⟩ => by omega⟩
    rw [L_X12_isMenu_17, h11, show i = T by omega, if_pos (Int32.le_refl _)]
    rfl
  | succ k ih =>
    intro i hi
    obtain ⟨a1, a2⟩ := ih (i + 1) (by omega)
    obtain ⟨v1, v2⟩ := hv i (by omega)
    obtain ⟨b1, b2, b3⟩ := bydish v1 hn
    rw [L_X12_isMenu_17, h11, if_neg (by rw [ofn_le (by omega) (by omega)]; omega), if_neg (by decide), ald_ofn (by omega) (by omega), Option.bind_eq_bind, Option.bind_some, v2]
    by_cases q : vs i < n
    · rw [b2 q, m_noDish hD q, Option.bind_some, if_pos rfl, ofn_succ]
      refine ⟨fun w => a1 (fun j h1 h2 => w j (by omega) h2), fun ⟨j, h1, h2, h3⟩ => a2 ⟨j, ?_, h2, h3⟩⟩
      rcases Nat.lt_or_ge i j with y | y
      · exact y
      · exact absurd q (by rw [show i = j by omega]; exact h3)
    · rw [m_noDishN hD (b3 q), Option.bind_some, if_neg (by decide), ofn_succ, z]
      exact ⟨fun w => absurd (w i (Nat.le_refl _) (by omega)) q, fun _ => rfl⟩
theorem s_menu (h : GR C M n) : ∃ r C' b M', F_X11_menu C x1 = some (r, C') ∧ F_X12_menu M x1 = some (b, M') ∧ Qs ["java/lang/IllegalArgumentException", "java/util/NoSuchElementException"] r b M' ∧ (∃ n', GR C' M' n') ∧ fcl C C' ∧ fmo M M' := by
  have hn := h.1.2.1.1.2.1
  obtain ⟨T, hT, u1, u2, u3, u4, u5, u6, u7, u8, u9⟩ := use_sim h
  generalize ct C = C0 at u1 u3 u7 u8
  generalize us M = N0 at u2 u3 u4 u5 u6 u7 u9
  have hb : ∀ i, ∃ v, i < T → v < 256 ∧ C0 2 i = Int32.ofNat v ∧ N0 211 i = byI v := fun i => by
    by_cases q : i < T
    · obtain ⟨v, v1, v2, v3⟩ := u7 i q; exact ⟨v, fun _ => ⟨v1, v2, v3⟩⟩
    · exact ⟨0, fun w => absurd w q⟩
  obtain ⟨vs, hvs⟩ := Classical.axiomOfChoice hb
  have cn : C0 4 0 = Int32.ofNat n := cl_n u3.1.1.D u3.1.2.1.1
  have thr : ∀ k : Int32, ∀ (N1 : HI), F_X12_throwsIf N1 1 k = some (1, up2 N1 205 0 k) := fun k N1 => rfl
  unfold F_X11_menu F_X12_menu
  simp only [Option.bind_eq_bind]
  rw [u1, Option.bind_some, u2, Option.bind_some]
  -- no menu
  have bad : ∀ (N1 : HI), N1 = N0 → ∃ r C' b M', (some ((Sum.inr "java/lang/IllegalArgumentException" : Int32 ⊕ String), C0)) = some (r, C') ∧ (some ((0 : Int32), up2 N0 205 0 1)) = some (b, M') ∧ Qs ["java/lang/IllegalArgumentException", "java/util/NoSuchElementException"] r b M' ∧ (∃ n', GR C' M' n') ∧ fcl C C' ∧ fmo M M' := fun _ _ => ⟨_, _, _, _, rfl, rfl, ⟨1, rfl, 0, rfl, rfl⟩, ⟨n, u3.thr 1⟩, u8, u9.trans (fmo_thr _ _)⟩
  have z0 : L_X12_isMenu_17 N0 0 0 = some 0 := by
    rw [L_X12_isMenu_17]
    split <;> rfl
  by_cases h40 : T ≤ 40
  · rw [if_neg (show ¬ (40 : Int32) < Int32.ofNat T by rw [show (40 : Int32) = Int32.ofNat 40 from rfl, ofn_lt (by omega) (by omega)]; omega)]
    have eM : F_X12_isMenu N0 = L_X12_isMenu_17 N0 1 0 := by
      unfold F_X12_isMenu
      rw [u4, if_neg (show ¬ (40 : Int32) < Int32.ofNat T by rw [show (40 : Int32) = Int32.ofNat 40 from rfl, ofn_lt (by omega) (by omega)]; omega)]
    rw [eM]
    obtain ⟨a1, a2⟩ := m_isMenu (M := N0) (T := T) (vs := vs) u3.1.2.1.1 u4 hT (fun i hi => ⟨(hvs i hi).1, (hvs i hi).2.2⟩) T 0 (by omega)
    obtain ⟨b1, b2⟩ := cl_told (C := C0) (T := T) (most := C0 4 0 - 1) hT (fun i hi => ⟨vs i, (hvs i hi).1, (hvs i hi).2.1⟩) T 0 (by omega)
    unfold F_X11_toldAtMost
    have eqv : ∀ j, j < T → (C0 2 j ≤ C0 4 0 - 1 ↔ vs j < n) := fun j hj => by rw [(hvs j hj).2.1, cn]; exact (bydish (hvs j hj).1 hn).1
    by_cases hall : ∀ j, j < T → vs j < n
    · have a1' := a1 (fun j _ hj => hall j hj)
      have b1' := b1 (fun j _ hj => (eqv j hj).mpr (hall j hj))
      rw [show Int32.ofNat 0 = 0 from rfl] at a1' b1'
      rw [a1', b1', Option.bind_some, Option.bind_some, if_neg (show ¬ (1 : Int32) = 0 by decide), if_neg (show ¬ (1 : Int32) = 0 by decide), m_thr0, Option.bind_some, if_pos rfl]
      rcases in_or x1 0 3 with q | q
      · rw [if_neg q.1, if_pos (ile_of_not_lt q.2), m_in1 q, Option.bind_some, if_neg (by decide), m_thr0, Option.bind_some, if_pos rfl, m_keeps, Option.bind_some]
        have hK : GR C0 (Kp N0) n := u3.K
        obtain ⟨C1, c1, R1, f1⟩ := try_start hK
        rw [c1, Option.bind_some]
        have key : ∀ (k i : Nat) (tk py : Int32) (C2 M2 : HI), i + k = T → Run false C2 130 M2 n → frC false 130 C0 C2 → frM (Kp N0) M2 → ∃ r C' M3, L_X11_menu_81 x1 (Int32.ofNat T) tk py (Int32.ofNat i) C2 = some (Sum.inl r, C') ∧ L_X12_menu_59 x1 tk py (Int32.ofNat i) M2 = some (r, Bk M3) ∧ frC false 130 C0 C' ∧ frM (Kp N0) M3 := by
          intro k
          induction k with
          | zero =>
            intro i tk py C2 M2 hi R g1 g2
            have m11 : M2 205 11 = Int32.ofNat T := by rw [g2.1 205 (by omega) (by omega), Kp_ne _ (by decide)]; exact u4
            have l3 : C2 130 3 = M2 206 4 := R.1.1.2.2.1
            have l4 : C2 130 4 = M2 206 5 := R.1.1.2.2.2.1
            have ec : L_X11_menu_81 x1 (Int32.ofNat T) tk py (Int32.ofNat i) C2 = some (Sum.inl (if x1 = 0 then M2 206 4 else if x1 = 1 then M2 206 5 else if x1 = 2 then tk else py), C2) := by
              rw [L_X11_menu_81, show i = T by omega, if_pos (Int32.le_refl _), l3, l4]
              split
              · rfl
              · split
                · rfl
                · split <;> rfl
            have em : L_X12_menu_59 x1 tk py (Int32.ofNat i) M2 = some (if x1 = 0 then M2 206 4 else if x1 = 1 then M2 206 5 else if x1 = 2 then tk else py, Bk M2) := by
              rw [L_X12_menu_59, m11, show i = T by omega, if_pos (Int32.le_refl _), m_brings]
              split
              · rfl
              · split
                · rfl
                · split <;> rfl
            exact ⟨_, C2, M2, ec, em, g1, g2⟩
          | succ k ih =>
            intro i tk py C2 M2 hi R g1 g2
            obtain ⟨v1, v2, v3⟩ := hvs i (by omega)
            have hd := hall i (by omega)
            have m11 : M2 205 11 = Int32.ofNat T := by rw [g2.1 205 (by omega) (by omega), Kp_ne _ (by decide)]; exact u4
            have m211 : ald 400 (M2 211) (Int32.ofNat i) = some (Int32.ofNat (vs i)) := by
              rw [ald_ofn (by omega) (by omega), g2.1 211 (by omega) (by omega), Kp_ne _ (by decide), v3, (bydish v1 hn).2.1 hd]
            have c2 : ald 400 (C2 2) (Int32.ofNat i) = some (Int32.ofNat (vs i)) := by
              rw [ald_ofn (by omega) (by omega), g1 2 (fun j hj => by omega) (by omega) (by omega) (by omega) (fun q => by cases q), v2]
            by_cases q : M2 206 5 = 99
            · obtain ⟨r, C', M3, e1, e2, e3, e4⟩ := ih (i + 1) tk py C2 M2 (by omega) R g1 g2
              refine ⟨r, C', M3, ?_, ?_, e3, e4⟩
              · rw [L_X11_menu_81, if_neg (by rw [ofn_le (by omega) (by omega)]; omega), if_neg (by rw [show (400 : Int32) = Int32.ofNat 400 from rfl, ofn_le (by omega) (by omega)]; omega), c2, Option.bind_eq_bind, Option.bind_some, cl_takes R hd, Option.bind_eq_bind, Option.bind_some, if_pos q, if_pos rfl, ofn_succ]
                exact e1
              · rw [L_X12_menu_59, m11, if_neg (by rw [ofn_le (by omega) (by omega)]; omega), m211, Option.bind_eq_bind, Option.bind_some, m_takes99 q, Option.bind_eq_bind, Option.bind_some, if_pos rfl, if_pos rfl, ofn_succ, Int32.add_zero, Int32.add_zero]
                exact e2
            · obtain ⟨c, p, C3, C4, M4, t1, t2, t3, t4, t5, t6, -, R4, g5, g6⟩ := run_bite ap130 R hd q
              have := t2 rfl
              subst this
              have hp : ¬ p = -1 := by rw [ti_eq, ti_m1]; have := t5.1; omega
              obtain ⟨r, C', M3, e1, e2, e3, e4⟩ := ih (i + 1) (tk + 1) (py + p) C4 M4 (by omega) R4 (g1.trans g5) (g2.trans g6)
              refine ⟨r, C', M3, ?_, ?_, e3, e4⟩
              · rw [L_X11_menu_81, if_neg (by rw [ofn_le (by omega) (by omega)]; omega), if_neg (by rw [show (400 : Int32) = Int32.ofNat 400 from rfl, ofn_le (by omega) (by omega)]; omega), c2, Option.bind_eq_bind, Option.bind_some, cl_takes R hd, Option.bind_eq_bind, Option.bind_some, if_neg q, if_neg (by decide), Option.bind_some, t1, Option.bind_some, t6, ofn_succ]
                exact e1
              · rw [L_X12_menu_59, m11, if_neg (by rw [ofn_le (by omega) (by omega)]; omega), m211, Option.bind_eq_bind, Option.bind_some, t4, Option.bind_eq_bind, Option.bind_some, if_neg hp, if_neg hp, ofn_succ]
                exact e2
        obtain ⟨r, C', M3, e1, e2, e3, e4⟩ := key T 0 0 0 C1 (Kp N0) (by omega) R1 f1 (frM.refl _)
        obtain ⟨g1, g2, g3, g4⟩ := hK.B (Kp_kept _) e4 e3
        have hth : Bk M3 205 0 = 0 := by rw [Bk_ne _ (by decide), e4.1 205 (by omega) (by omega), Kp_ne _ (by decide)]; exact u5
        exact ⟨_, _, _, _, e1, e2, ⟨0, by rw [thrn, hth], rfl, rfl⟩, ⟨n, g1⟩, u8.trans g3, (u9.trans (fmo_K _)).trans g4⟩
      · have e9 : ∀ z : Option ((Int32 ⊕ String) × HI), (if x1 < 0 then some ((Sum.inr "java/util/NoSuchElementException" : Int32 ⊕ String), C0) else if x1 ≤ (3 : Int32) then z else some (Sum.inr "java/util/NoSuchElementException", C0)) = some (Sum.inr "java/util/NoSuchElementException", C0) := by
          intro z
          by_cases w : x1 < 0
          · rw [if_pos w]
          · rw [if_neg w, if_neg (by have := q.resolve_left w; rw [ti_lt] at this; rw [ti_le]; omega)]
        rw [e9, m_in0 q, Option.bind_some, if_pos rfl, m_thr1, Option.bind_some, if_neg (show ¬ (1 : Int32) = 0 by decide)]
        exact ⟨_, _, _, _, rfl, rfl, ⟨2, rfl, 1, rfl, rfl⟩, ⟨n, u3.thr 2⟩, u8, u9.trans (fmo_thr _ _)⟩
    · have hex : ∃ j, 0 ≤ j ∧ j < T ∧ ¬ vs j < n := by
        apply Classical.byContradiction
        intro w
        exact hall (fun j hj => Classical.byContradiction (fun y => w ⟨j, by omega, hj, y⟩))
      have a2' := a2 hex
      have b2' := b2 (by obtain ⟨j, j1, j2, j3⟩ := hex; exact ⟨j, j1, j2, fun w => j3 ((eqv j j2).mp w)⟩)
      rw [show Int32.ofNat 0 = 0 from rfl] at a2' b2'
      rw [a2', b2', Option.bind_some, Option.bind_some, if_pos (show (0 : Int32) = 0 from rfl), if_pos (show (0 : Int32) = 0 from rfl), m_thr1, Option.bind_some, if_neg (show ¬ (1 : Int32) = 0 by decide)]
      exact bad N0 rfl
  · have eM : F_X12_isMenu N0 = some 0 := by
      unfold F_X12_isMenu
      rw [u4, if_pos (show (40 : Int32) < Int32.ofNat T by rw [show (40 : Int32) = Int32.ofNat 40 from rfl, ofn_lt (by omega) (by omega)]; omega), z0]
    rw [if_pos (show (40 : Int32) < Int32.ofNat T by rw [show (40 : Int32) = Int32.ofNat 40 from rfl, ofn_lt (by omega) (by omega)]; omega), eM, Option.bind_some, if_pos rfl, m_thr1, Option.bind_some, if_neg (show ¬ (1 : Int32) = 0 by decide)]
    exact bad N0 rfl
end
