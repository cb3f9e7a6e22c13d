/-! evenings -/
def apA (a : Nat) : Prop := a + 5 < 9 ∨ (16 < a ∧ a + 5 < 136) ∨ (137 < a ∧ a + 5 < 205)
def lgI (lg : Bool) : Int32 := if lg then 1 else 0
section
variable {C M : HI} {a n : Nat} {W W' : Nat → Int32} {lg : Bool}
theorem apA.S (h : apA a) : apS a := fun j hj => by unfold apA at h; omega
theorem apA.l (h : apA a) : ∀ j, j < 6 → a + j ≠ 9 + 5 := fun j hj => by unfold apA at h; omega
theorem apL9 : ∀ j, j < 6 → 9 + j ≠ 136 ∧ 9 + j ≠ 137 := fun j hj => by omega
theorem LawR.congr {l : Nat} {C' : HI} (h : LawR C l W) (hc : ∀ j, j < 5 → C' (l + j) = C (l + j)) (h2 : W' 2 = W 2) (hw : ∀ k, 353 ≤ k → k < 1202 → W' k = W k) : LawR C' l W' := by
  rcases h with ⟨w2, L, hO, hLC, hLW⟩ | ⟨w2, h0⟩
  · refine Or.inl ⟨by rw [h2]; exact w2, L, hO, hLC.congr hc, ?_⟩
    refine ⟨by rw [hw 353 (by omega) (by omega)]; exact hLW.1, fun j hj => ?_⟩
    obtain ⟨q1, q2, q3, q4, q5⟩ := hLW.2 j hj
    have h12 := hO.1
    have h400 := (hO.2 j hj).2.2.2.1
    refine ⟨?_, ?_, ?_, ?_, fun t ht => ?_⟩
    · rw [hw _ (by omega) (by omega)]; exact q1
    · rw [hw _ (by omega) (by omega)]; exact q2
    · rw [hw _ (by omega) (by omega)]; exact q3
    · rw [hw _ (by omega) (by omega)]; exact q4
    · rw [hw _ (by omega) (by omega), hw _ (by omega) (by omega)]; exact q5 t ht
  · exact Or.inr ⟨by rw [h2]; exact w2, by rw [show C' l = C l from hc 0 (by omega)]; exact h0⟩
/-- the lady at a, who may be logged, beside the world -/
def Run (lg : Bool) (C : HI) (a : Nat) (M : HI) (n : Nat) : Prop := LR C a (M 206) ∧ WOk n (M 206) ∧ LawR C 9 (M 206) ∧ (lg = true → LogR C 15 (M 206))
/-- rows that a run of hers may change -/
def frC (lg : Bool) (a : Nat) (C C' : HI) : Prop := ∀ b, (∀ j, j < 6 → b ≠ a + j) → b ≠ 14 → b ≠ 136 → b ≠ 137 → (lg = true → b ≠ 15 ∧ b ≠ 16) → C' b = C b
def frM (M M' : HI) : Prop := (∀ b, b ≠ 206 → b ≠ 213 → M' b = M b) ∧ M' 206 2 = M 206 2 ∧ ∀ k, 353 ≤ k → M' 206 k = M 206 k
theorem frC.trans {C1 C2 C3 : HI} (h1 : frC lg a C1 C2) (h2 : frC lg a C2 C3) : frC lg a C1 C3 := fun b q1 q2 q3 q4 q5 => by rw [h2 b q1 q2 q3 q4 q5, h1 b q1 q2 q3 q4 q5]
theorem frM.trans {M1 M2 M3 : HI} (h1 : frM M1 M2) (h2 : frM M2 M3) : frM M1 M3 := ⟨fun b q1 q2 => by rw [h2.1 b q1 q2, h1.1 b q1 q2], by rw [h2.2.1, h1.2.1], fun k hk => by rw [h2.2.2 k hk, h1.2.2 k hk]⟩
theorem frC.refl (C : HI) : frC lg a C C := fun _ _ _ _ _ _ => rfl
theorem frM.refl (M : HI) : frM M M := ⟨fun _ _ _ => rfl, rfl, fun _ _ => rfl⟩
theorem frC.law (ha : apA a) {C' : HI} (h : frC lg a C C') : ∀ j, j < 5 → C' (9 + j) = C (9 + j) := fun j hj => h _ (fun i hi => by unfold apA at ha; omega) (by omega) (by omega) (by omega) (fun _ => by omega)
theorem frC.log (ha : apA a) {C' : HI} (h : frC false a C C') : C' 15 = C 15 ∧ C' 16 = C 16 := ⟨h _ (fun i hi => by unfold apA at ha; omega) (by omega) (by omega) (by omega) (fun q => by cases q), h _ (fun i hi => by unfold apA at ha; omega) (by omega) (by omega) (by omega) (fun q => by cases q)⟩
theorem rows_row (ha : apA a) {C' : HI} (h : ∀ b, b ≠ a → C' b = C b) : frC lg a C C' := fun b q1 _ _ _ _ => h b (q1 0 (by omega))
/-- a step of both that keeps log and law -/
theorem Run.step (ha : apA a) (h : Run lg C a M n) {C' M' : HI} (hL : LR C' a (M' 206)) (hW : WOk n (M' 206)) (hc : ∀ b, b ≠ a → C' b = C b) (hm : ∀ b, b ≠ 206 → M' b = M b) (hw : ∀ k, k = 2 ∨ k = 15 ∨ 113 ≤ k → M' 206 k = M 206 k) : Run lg C' a M' n ∧ frC lg a C C' ∧ frM M M' := by
  have a9 : ∀ j, j < 8 → a ≠ 9 + j := fun j hj => by unfold apA at ha; omega
  refine ⟨⟨hL, hW, h.2.2.1.congr (fun j hj => hc _ (fun q => a9 j (by omega) q.symm)) (hw 2 (by omega)) (fun k h1 _ => hw k (by omega)), fun q => ?_⟩, rows_row ha hc, ⟨fun b h1 _ => hm b h1, hw 2 (by omega), fun k hk => hw k (by omega)⟩⟩
  exact ((h.2.2.2 q).congr (hc 15 (fun q => a9 6 (by omega) q.symm)) (hc 16 (fun q => a9 7 (by omega) q.symm))).congrW (hw 15 (by omega)) (fun k h1 h2 => hw k (by omega))
theorem run_crust (ha : apA a) (h : Run lg C a M n) : ∃ C' M', F_X3_comeBack C a = some C' ∧ F_X12_crusts M = some M' ∧ Run lg C' a M' n ∧ frC lg a C C' ∧ frM M M' := by
  obtain ⟨C', c1, c2, c3⟩ := cl_comeBack h.1
  obtain ⟨M', m1, m2, m3⟩ := m_crusts M
  refine ⟨C', M', c1, m1, h.step ha (by rw [m2]; exact c2) (by rw [m2]; exact crW_ok h.2.1) c3 m3 (fun k hk => by rw [m2, crW_ne (by omega)])⟩
theorem run_draw (ha : apA a) (h : Run lg C a M n) {q : Nat} (hq : 0 < q) (hq2 : q < 2147483648) : ∃ C' M' v, v < 32768 ∧ F_X3_draw C a = some (Int32.ofNat v, C') ∧ F_X12_drawn M (Int32.ofNat q) = some (Int32.ofNat (v % q), M') ∧ Run lg C' a M' n ∧ frC lg a C C' ∧ frM M M' ∧ (∀ b, b ≠ a → C' b = C b) ∧ (∀ k, k ≠ 16 → M' 206 k = M 206 k) := by
  obtain ⟨C', c1, c2, c3⟩ := cl_draw h.1
  obtain ⟨M', v, v1, v2, m1, m2, m3⟩ := m_drawn M hq hq2
  rw [v2] at c1
  have := h.step ha (C' := C') (M' := M') (by rw [m2]; exact c2) (by rw [m2]; exact sdW_ok h.2.1) c3 m3 (fun k hk => by rw [m2, sdW_ne (by omega)])
  exact ⟨C', M', v, v1, c1, m1, this.1, this.2.1, this.2.2, c3, fun k hk => by rw [m2, sdW_ne hk]⟩
/-- one dish of an evening -/
theorem run_bite (ha : apA a) (h : Run lg C a M n) {d : Nat} (hd : d < n) (h99 : ¬ M 206 5 = 99) : ∃ (c : Option Nat) (p : Int32) (C1 C2 M' : HI), F_X3_bite C a (Int32.ofNat d) 9 = some C1 ∧ (lg = false → C2 = C1) ∧ (lg = true → F_X7_write C1 15 (C1 a 6) (Int32.ofNat d) (C1 136 0) (C1 a 3) = some C2) ∧ F_X12_takes M (Int32.ofNat d) = some (p, M') ∧ rg p 0 770 ∧ C1 136 2 = p ∧ C2 a = C1 a ∧ Run lg C2 a M' n ∧ frC lg a C C2 ∧ frM M M' := by
  have hn := h.2.1.1.2.1
  obtain ⟨c, t, p, C1, M', b1, b2, b3, b4, b5, b6, b7, b8, b9, b10⟩ := bite_sim h.1 h.2.1 ha.S ha.l apL9 h.2.2.1 hd h99
  have wlo : ∀ k, k < 113 → k ≠ 15 → M' 206 k = bitW (M 206) d t p c k := fun k h1 h2 => by rw [b8, tellW_lo h1 h2]
  have whi : ∀ k, 113 ≤ k → bitW (M 206) d t p c k = M 206 k := fun k hk => bitW_ne (by omega) (by omega) (by omega) (by omega) (by omega) (by omega) (by omega)
  have b15 : bitW (M 206) d t p c 15 = M 206 15 := bitW_ne (by omega) (by omega) (by omega) (by omega) (by omega) (by omega) (by omega)
  have hfm : frM M M' := ⟨b10, by rw [wlo 2 (by omega) (by omega)]; exact bitW_ne (by omega) (by omega) (by omega) (by omega) (by omega) (by omega) (by omega), fun k hk => by rw [b8, tellW_hi hk, whi k (by omega)]⟩
  have hW' : WOk n (M' 206) := by rw [b8]; exact tellW_ok b7
  have hL' : LR C1 a (M' 206) := b6.congrW wlo
  have hf1 : ∀ lg', frC lg' a C C1 := fun lg' b q1 q2 q3 q4 _ => b9 b q1 q3 q4 q2
  cases lg with
  | false =>
    refine ⟨c, p, C1, C1, M', b1, fun _ => rfl, fun q => (by cases q), b2, b3, b4, rfl, ⟨hL', hW', ?_, fun q => (by cases q)⟩, hf1 false, hfm⟩
    exact h.2.2.1.congr ((hf1 false).law ha) hfm.2.1 (fun k h1 _ => hfm.2.2 k h1)
  | true =>
    obtain ⟨f1, f2⟩ := (hf1 false).log ha
    have hlog : LogR C1 15 (bitW (M 206) d t p c) := ((h.2.2.2 rfl).congr f1 f2).congrW b15 (fun k h1 h2 => whi k h1)
    obtain ⟨C2, w1, w2, w3⟩ := cl_write hlog (Int32.ofNat d) (enc c)
    have s6 : C1 a 6 = bitW (M 206) d t p c 7 := b6.1.2.2.2.2.2.1
    have s3 : C1 a 3 = bitW (M 206) d t p c 4 := b6.1.2.2.1
    have hca : ∀ j, j < 6 → C2 (a + j) = C1 (a + j) := fun j hj => w3 _ (by unfold apA at ha; omega) (by unfold apA at ha; omega)
    have hfc : frC true a C C2 := fun b q1 q2 q3 q4 q5 => by rw [w3 b (q5 rfl).1 (q5 rfl).2]; exact hf1 true b q1 q2 q3 q4 q5
    refine ⟨c, p, C1, C2, M', b1, fun q => (by cases q), fun _ => (by rw [s6, s3, b5]; exact w1), b2, b3, b4, hca 0 (by omega), ⟨hL'.congr hca, hW', ?_, fun _ => (by rw [b8]; exact w2)⟩, hfc, hfm⟩
    exact h.2.2.1.congr (hfc.law ha) hfm.2.1 (fun k h1 _ => hfm.2.2 k h1)
theorem run_eve (ha : apA a) (h : Run lg C a M n) : ∃ r C' M', F_X11_passEvening C a (lgI lg) = some (r, C') ∧ F_X12_oneEvening M = some (r, M') ∧ Run lg C' a M' n ∧ frC lg a C C' ∧ frM M M' := by
  have hn := h.2.1.1.2.1
  obtain ⟨C1, M1, v, v1, c1, m1, R1, f1, f2, -, -⟩ := run_draw ha h (q := 4) (by omega) (by omega)
  have cnt : ∀ {C M : HI}, Run lg C a M n → C (a + 1) 0 = Int32.ofNat n ∧ M 206 0 = Int32.ofNat n := fun R => ⟨cl_n R.1.2 R.2.1.1, R.2.1.1.1⟩
  unfold F_X11_passEvening F_X3_drawSpoons F_X12_oneEvening
  rw [c1, show (4 : Int32) = Int32.ofNat 4 from rfl, m1]
  simp only [Option.bind_eq_bind, Option.bind_some]
  rw [(cnt R1).1]
  by_cases hn0 : n = 0
  · subst hn0
    rw [if_pos (by decide)]
    simp only [Option.bind_some]
    obtain ⟨C2, M2, e1, e2, R2, g1, g2⟩ := run_crust ha R1
    refine ⟨0, C2, M2, ?_, ?_, R2, f1.trans g1, f2.trans g2⟩
    · rw [L_X11_passEvening_11, if_pos (Int32.le_refl _), e1]; rfl
    · rw [L_X12_oneEvening_12]
      unfold F_X12_dishes
      rw [if_neg (by rw [show (1 : Int32) = Int32.ofNat 1 from rfl, ← Int32.ofNat_add, show (0 : Int32) = Int32.ofNat 0 from rfl, ofn_le (by omega) (by omega)]; omega)]
      simp only [Option.bind_eq_bind, Option.bind_some]
      rw [(cnt R1).2, if_pos (by decide), e2]; rfl
  · rw [if_neg (by rw [show (0 : Int32) = Int32.ofNat 0 from rfl, ofn_le (by omega) (by omega)]; omega)]
    simp only [Option.bind_some]
    rw [ofn_mod (by omega) (by omega) (by omega), ofn_succ, Int32.add_comm (1 : Int32), ofn_succ]
    have key : ∀ (k i : Nat) (acc : Int32) (C M : HI), i + k = v % 4 + 1 → Run lg C a M n → ∃ r C' M', L_X11_passEvening_11 a (lgI lg) (Int32.ofNat (v % 4 + 1)) acc (Int32.ofNat i) C = some (r, C') ∧ L_X12_oneEvening_12 (Int32.ofNat (v % 4 + 1)) acc (Int32.ofNat i) M = some (r, M') ∧ Run lg C' a M' n ∧ frC lg a C C' ∧ frM M M' := by
      intro k
      induction k with
      | zero =>
        intro i acc C M hi R
        obtain ⟨C2, M2, e1, e2, R2, g1, g2⟩ := run_crust ha R
        refine ⟨acc, C2, M2, ?_, ?_, R2, g1, g2⟩
        · rw [L_X11_passEvening_11, show i = v % 4 + 1 by omega, if_pos (Int32.le_refl _), e1]; rfl
        · rw [L_X12_oneEvening_12, show i = v % 4 + 1 by omega, if_pos (Int32.le_refl _), e2]; rfl
      | succ k ih =>
        intro i acc C M hi R
        obtain ⟨C2, M2, u, u1, d1, d2, R2, g1, g2, g3, g4⟩ := run_draw ha R (q := n) (by omega) (by omega)
        have hd : u % n < n := Nat.mod_lt _ (by omega)
        rw [L_X11_passEvening_11, if_neg (by rw [ofn_le (by omega) (by omega)]; omega), L_X12_oneEvening_12, if_neg (by rw [ofn_le (by omega) (by omega)]; omega)]
        unfold F_X3_drawDish F_X12_dishes
        rw [(cnt R).1, if_neg (by rw [show (0 : Int32) = Int32.ofNat 0 from rfl, ofn_le (by omega) (by omega)]; omega), d1]
        simp only [Option.bind_eq_bind, Option.bind_some]
        rw [(cnt R2).1, if_pos (show ¬ Int32.ofNat n = 0 by rw [show (0 : Int32) = Int32.ofNat 0 from rfl, ofn_eq (by omega) (by omega)]; omega), ofn_mod (by omega) (by omega) (by omega), (cnt R).2, if_neg (show ¬ Int32.ofNat n ≤ 0 by rw [show (0 : Int32) = Int32.ofNat 0 from rfl, ofn_le (by omega) (by omega)]; omega), d2]
        simp only [Option.bind_some]
        unfold F_X3_takes
        rw [R2.1.1.2.2.2.1, cl_has R2.1.2 R2.2.1.1 hd]
        simp only [Option.bind_eq_bind, Option.bind_some, i10, if_false]
        have hs := R2.2.1.2.2.2.2.1
        by_cases h99 : M2 206 5 = 99
        · rw [if_pos (by rw [h99]; exact Int32.le_refl _), m_takes99 h99]
          simp only [Option.bind_some, if_true, ofn_succ, Int32.add_zero]
          obtain ⟨r, C', M', e1, e2, R', g5, g6⟩ := ih (i + 1) acc C2 M2 (by omega) R2
          exact ⟨r, C', M', e1, e2, R', g1.trans g5, g2.trans g6⟩
        · rw [if_neg (by rw [ti_le, ti_99]; rw [ti_eq, ti_99] at h99; have := hs.2; omega)]
          simp only [Option.bind_some, i10, if_false]
          obtain ⟨c, p, C3, C4, M4, t1, t2, t3, t4, t5, t6, -, R4, g5, g6⟩ := run_bite ha R2 hd h99
          rw [t1, t4]
          simp only [Option.bind_some]
          have hp : ¬ p = -1 := by rw [ti_eq, ti_m1]; have := t5.1; omega
          rw [if_neg hp]
          obtain ⟨r, C', M', e1, e2, R', g7, g8⟩ := ih (i + 1) (acc + 1) C4 M4 (by omega) R4
          cases lg with
          | false =>
            have := t2 rfl
            subst this
            refine ⟨r, C', M', ?_, ?_, R', (g1.trans g5).trans g7, (g2.trans g6).trans g8⟩
            · rw [if_pos (show lgI false = 0 from rfl), ofn_succ]; exact e1
            · rw [ofn_succ]; exact e2
          | true =>
            refine ⟨r, C', M', ?_, ?_, R', (g1.trans g5).trans g7, (g2.trans g6).trans g8⟩
            · rw [if_neg (show ¬ lgI true = 0 by decide), t3 rfl]
              simp only [Option.bind_some]
              rw [ofn_succ]; exact e1
            · rw [ofn_succ]; exact e2
    obtain ⟨r, C', M', e1, e2, R', g5, g6⟩ := key (v % 4 + 1) 0 0 C1 M1 (by omega) R1
    exact ⟨r, C', M', e1, e2, R', f1.trans g5, f2.trans g6⟩
end
