section
variable {C C' M M' : HI} {n N T d : Nat} {x1 x2 : Int32} {W : Nat → Int32}
/-- does the tried lady take the dish -/
theorem cl_takes (R : Run false C 130 M n) (hd : d < n) : F_X3_takes C 130 (Int32.ofNat d) = some (if M 206 5 = 99 then 0 else 1) := by
  unfold F_X3_takes
  have l4 : C 130 4 = M 206 5 := R.1.1.2.2.2.1
  have hs := R.2.1.2.2.2.2.1
  rw [l4, show (130 + 1 : Nat) = 131 from rfl]
  have e : F_X1_has C 131 (Int32.ofNat d) = some 1 := cl_has R.1.2 R.2.1.1 hd
  rw [e, Option.bind_eq_bind, Option.bind_some]
  by_cases q : M 206 5 = 99
  · rw [if_pos q, if_pos (show (99 : Int32) ≤ M 206 5 by rw [q]; exact Int32.le_refl _)]
  · rw [if_neg q, if_neg (show ¬ (99 : Int32) ≤ M 206 5 by rw [ti_eq, ti_99] at q; rw [ti_le, ti_99]; have := hs.2; omega)]
    rfl
theorem s_breaks (h : GR C M n) : ∃ r C' b M', F_X11_breaks C x1 = some (r, C') ∧ F_X12_breaks M x1 = some (b, M') ∧ Qs ["java/lang/IndexOutOfBoundsException"] r b M' ∧ (∃ n', GR C' M' n') ∧ fcl C C' ∧ fmo M M' := by
  have hD := h.1.1.D
  have hW := h.1.2.1
  have hn := hW.1.2.1
  have hW0 : DOk n (M0 M 206) := hW.1
  unfold F_X11_breaks F_X12_breaks
  simp only [Option.bind_eq_bind]
  rcases nat_or x1 n (by omega) with ⟨d, hd, rfl⟩ | hx
  · have hK : GR C (Kp (M0 M)) n := (h.thr 0).K
    obtain ⟨C1, c1, R1, f1⟩ := try_start hK
    rw [cl_has hD hW.1 hd, m_noDish hW0 hd, Option.bind_some, if_neg (by decide), Option.bind_some, m_thr0, Option.bind_some, if_pos rfl, c1, Option.bind_some, m_keeps, Option.bind_some]
    have key : ∀ (k i : Nat) (C2 M2 : HI), i + k = 100 → Run false C2 130 M2 n → frC false 130 C C2 → frM (Kp (M0 M)) M2 → ∃ r C' M3, L_X11_breaks_37 (Int32.ofNat d) (Int32.ofNat i) C2 = some (Sum.inl r, C') ∧ L_X12_breaks_26 (Int32.ofNat d) (Int32.ofNat i) M2 = some (r, Bk M3) ∧ frC false 130 C C' ∧ frM (Kp (M0 M)) M3 := by
      intro k
      induction k with
      | zero =>
        intro i C2 M2 hi R g1 g2
        have ec : L_X11_breaks_37 (Int32.ofNat d) (Int32.ofNat i) C2 = some (Sum.inl (if M2 206 5 = 99 then 100 else -1), C2) := by
          rw [L_X11_breaks_37, show i = 100 by omega, if_pos (by decide), cl_takes R hd, Option.bind_eq_bind, Option.bind_some]
          by_cases q : M2 206 5 = 99
          · rw [if_pos q, if_pos q, if_pos rfl]
          · rw [if_neg q, if_neg q, if_neg (by decide)]
        have em : L_X12_breaks_26 (Int32.ofNat d) (Int32.ofNat i) M2 = some (if M2 206 5 = 99 then 100 else -1, Bk M2) := by
          rw [L_X12_breaks_26, show i = 100 by omega, if_pos (by decide), m_brings]
          by_cases q : M2 206 5 = 99
          · rw [m_tn1 q, if_pos q]; rfl
          · rw [m_tn0 q, if_neg q]; rfl
        exact ⟨_, C2, M2, ec, em, g1, g2⟩
      | succ k ih =>
        intro i C2 M2 hi R g1 g2
        by_cases q : M2 206 5 = 99
        · refine ⟨Int32.ofNat i, C2, M2, ?_, ?_, g1, g2⟩
          · rw [L_X11_breaks_37, if_neg (by rw [show (100 : Int32) = Int32.ofNat 100 from rfl, ofn_le (by omega) (by omega)]; omega), cl_takes R hd, Option.bind_eq_bind, Option.bind_some, if_pos q, if_pos rfl]
          · rw [L_X12_breaks_26, if_neg (by rw [show (100 : Int32) = Int32.ofNat 100 from rfl, ofn_le (by omega) (by omega)]; omega), m_tn1 q, m_brings, Option.bind_eq_bind, Option.bind_some, if_neg (by decide)]
            rfl
        · obtain ⟨c, p, C3, C4, M4, t1, t2, t3, t4, t5, t6, -, R4, g5, g6⟩ := run_bite ap130 R hd q
          have := t2 rfl
          subst this
          obtain ⟨r, C', M3, e1, e2, e3, e4⟩ := ih (i + 1) C4 M4 (by omega) R4 (g1.trans g5) (g2.trans g6)
          refine ⟨r, C', M3, ?_, ?_, e3, e4⟩
          · rw [L_X11_breaks_37, if_neg (by rw [show (100 : Int32) = Int32.ofNat 100 from rfl, ofn_le (by omega) (by omega)]; omega), cl_takes R hd, Option.bind_eq_bind, Option.bind_some, if_neg q, if_neg (by decide), t1, Option.bind_eq_bind, Option.bind_some, ofn_succ]
            exact e1
          · rw [L_X12_breaks_26, if_neg (by rw [show (100 : Int32) = Int32.ofNat 100 from rfl, ofn_le (by omega) (by omega)]; omega), m_tn0 q, Option.bind_eq_bind, Option.bind_some, if_pos rfl, t4, Option.bind_eq_bind, Option.bind_some, ofn_succ]
            exact e2
    obtain ⟨r, C', M3, e1, e2, e3, e4⟩ := key 100 0 C1 (Kp (M0 M)) (by omega) R1 f1 (frM.refl _)
    obtain ⟨g1, g2, g3, g4⟩ := hK.B (Kp_kept _) e4 e3
    have hth : Bk M3 205 0 = 0 := by rw [Bk_ne _ (by decide), e4.1 205 (by omega) (by omega), Kp_ne _ (by decide)]; rfl
    exact ⟨_, _, _, _, e1, e2, ⟨0, by rw [thrn, hth], rfl, rfl⟩, ⟨n, g1⟩, g3, ((fmo_thr M 0).trans (fmo_K _)).trans g4⟩
  · rw [cl_hasN hD hW.1 hx, m_noDishN hW0 hx, Option.bind_some, if_pos rfl, Option.bind_some, m_thr1, Option.bind_some, if_neg (show ¬ (1 : Int32) = 0 by decide), M0_up]
    exact ⟨_, _, _, _, rfl, rfl, ⟨1, rfl, 0, rfl, rfl⟩, ⟨n, h.thr 1⟩, fcl.refl _, fmo_thr _ _⟩
/-- the tape is used up -/
def us (M : HI) : HI := up2 (up2 (up2 (up2 M 205 0 (0 : Int32)) 205 11 (M 205 9)) 205 9 (0 : Int32)) 205 10 (0 : Int32)
def ct (C : HI) : HI := up2 C 1 1 0
def TB (C M : HI) (T : Nat) : Prop := ∀ i, i < T → ∃ v, v < 256 ∧ C 2 i = Int32.ofNat v ∧ M 211 i = byI v
theorem us_ne (M : HI) {b : Nat} (h : b ≠ 205) : us M b = M b := by unfold us; rw [up2_ne _ _ _ h, up2_ne _ _ _ h, up2_ne _ _ _ h, up2_ne _ _ _ h]
theorem use_sim (h : GR C M n) : ∃ T, T ≤ 400 ∧ F_X11_takeTape C = some (Int32.ofNat T, ct C) ∧ F_X12_uses M = some (us M) ∧ GR (ct C) (us M) n ∧ us M 205 11 = Int32.ofNat T ∧ us M 205 0 = 0 ∧ us M 205 10 = 0 ∧ TB (ct C) (us M) T ∧ fcl C (ct C) ∧ fmo M (us M) := by
  obtain ⟨T, t1, t2, t3, t4⟩ := h.2.2.2.1
  refine ⟨T, t1, by unfold F_X11_takeTape ct; rw [t2], rfl, ?_, ?_, ?_, ?_, ?_, fun b hb => up2_ne _ _ _ (by omega), fun b hb => us_ne M (by omega)⟩
  · refine h.tape (fun b h1 _ => up2_ne _ _ _ h1) (fun k hk => by unfold ct; rw [up2_get, if_neg (fun q => hk q.2)]) (fun b h1 _ _ => us_ne M h1) (fun k hk => ?_) ⟨0, by omega, ?_, ?_, fun i hi => by omega⟩
    · unfold us
      rw [up2_get, if_neg (by omega), up2_get, if_neg (by omega), up2_get, if_neg (by omega), up2_get, if_neg (by omega)]
    · unfold ct; rw [up2_get, if_pos ⟨rfl, rfl⟩]; rfl
    · unfold us; simp [up2_get]
  · unfold us; simp [up2_get]; exact t3
  · unfold us; simp [up2_get]
  · unfold us; simp [up2_get]
  · intro i hi
    obtain ⟨v, v1, v2, v3⟩ := t4 i hi
    exact ⟨v, v1, by unfold ct; rw [up2_ne _ _ _ (by decide)]; exact v2, by rw [us_ne M (by decide)]; exact v3⟩
theorem byI_rg {v : Nat} (h : v < 256) : (byI v).toInt = if v < 128 then (v : Int) else (v : Int) - 256 := by
  unfold byI
  split
  · rw [ti_ofn (by omega)]
  · rw [ti_sub (by rw [ti_ofn (by omega), show (256 : Int32).toInt = 256 by decide]; omega) (by rw [ti_ofn (by omega), show (256 : Int32).toInt = 256 by decide]; omega), ti_ofn (by omega), show (256 : Int32).toInt = 256 by decide]
theorem byI_lt {v : Nat} (h : v < 128) : byI v = Int32.ofNat v := by unfold byI; rw [if_pos h]
/-- no byte is beyond 'most' -/
theorem cl_told {most : Int32} (hT : T ≤ 400) (htb : ∀ i, i < T → ∃ v, v < 256 ∧ C 2 i = Int32.ofNat v) : ∀ (k i : Nat), i + k = T → ((∀ j, i ≤ j → j < T → C 2 j ≤ most) → L_X11_toldAtMost_2 C (Int32.ofNat T) most (Int32.ofNat i) = some 1) ∧ ((∃ j, i ≤ j ∧ j < T ∧ ¬ C 2 j ≤ most) → L_X11_toldAtMost_2 C (Int32.ofNat T) most (Int32.ofNat i) = some 0) := by
  intro k
  induction k with
  | zero =>
    intro i hi
    refine ⟨fun _ => ?_, fun ⟨j, h1, h2, _⟩ => by omega⟩
    rw [L_X11_toldAtMost_2, show i = T by omega, if_pos (Int32.le_refl _)]
  | succ k ih =>
    intro i hi
    obtain ⟨a1, a2⟩ := ih (i + 1) (by omega)
    rw [L_X11_toldAtMost_2, if_neg (by rw [ofn_le (by omega) (by omega)]; omega), if_neg (by rw [show (400 : Int32) = Int32.ofNat 400 from rfl, ofn_le (by omega) (by omega)]; omega), ald_ofn (by omega) (by omega), Option.bind_eq_bind, Option.bind_some, ofn_succ]
    by_cases q : C 2 i ≤ most
    · rw [if_pos q]
      refine ⟨fun w => a1 (fun j h1 h2 => w j (by omega) h2), fun ⟨j, h1, h2, h3⟩ => a2 ⟨j, ?_, h2, h3⟩⟩
      rcases Nat.lt_or_ge i j with z | z
      · exact z
      · exact absurd q (by rw [show i = j by omega]; exact h3)
    · rw [if_neg q]
      exact ⟨fun w => absurd (w i (Nat.le_refl _) (by omega)) q, fun _ => rfl⟩
end
