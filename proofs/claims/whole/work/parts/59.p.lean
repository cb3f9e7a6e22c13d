/-! what is served: the nine facts -/
section
variable {C C' M : HI} {a b n d : Nat} {W : Nat → Int32}
theorem DR.congr (h : DR C b W) (hc : ∀ j, j < 5 → C' (b + j) = C (b + j)) : DR C' b W := by
  refine ⟨by rw [show b = b + 0 from rfl, hc 0 (by omega)]; exact h.1, fun d hd => ?_⟩
  obtain ⟨h1, h2, h3, h4⟩ := h.2 d hd
  refine ⟨fun k hk => ?_, ?_, ?_, ?_⟩
  · rw [hc 1 (by omega)]; exact h1 k hk
  · rw [hc 2 (by omega)]; exact h2
  · rw [hc 3 (by omega)]; exact h3
  · rw [hc 4 (by omega)]; exact h4
theorem LR.congr (h : LR C a W) (hc : ∀ j, j < 6 → C' (a + j) = C (a + j)) : LR C' a W := by
  refine ⟨?_, DR.congr h.2 (fun j hj => by rw [show a + 1 + j = a + (1 + j) by omega]; exact hc (1 + j) (by omega))⟩
  rw [show C' a = C a from hc 0 (by omega)]
  exact h.1
theorem cup_cases (W : Nat → Int32) (n d : Nat) (hd : d < n) (r : Int32) : ∃ c : Option Nat, cup W n d r = enc c ∧ ∀ e, c = some e → e < n ∧ ¬ W (22 + 8 * e) = -1 := by
  unfold cup
  by_cases h : W (22 + 8 * d) = -1
  · rw [if_pos h]
    have key := lp_inv (f := fun e (s : Int32 × Int32) => if W (22 + 8 * e) = -1 then s else if s.2 ≤ dst W d e then s else (Int32.ofNat e, dst W d e)) (fun i s => ∃ c : Option Nat, s.1 = enc c ∧ ∀ e, c = some e → e < i ∧ ¬ W (22 + 8 * e) = -1) n 0 ((-1 : Int32), r + 1) ⟨none, rfl, fun e h => by cases h⟩ (fun e s _ h2 ⟨c, h3, h4⟩ => by
      by_cases g1 : W (22 + 8 * e) = -1
      · rw [if_pos g1]; exact ⟨c, h3, fun e' he => ⟨by have := (h4 e' he).1; omega, (h4 e' he).2⟩⟩
      · rw [if_neg g1]
        split
        · exact ⟨c, h3, fun e' he => ⟨by have := (h4 e' he).1; omega, (h4 e' he).2⟩⟩
        · exact ⟨some e, rfl, fun e' he => by cases he; exact ⟨by omega, g1⟩⟩)
    rw [Nat.zero_add] at key
    exact key
  · rw [if_neg h]
    exact ⟨some d, rfl, fun e he => by cases he; exact ⟨hd, h⟩⟩
/-- the facts of a dish d that calls up c -/
def fct (W : Nat → Int32) (d : Nat) (c : Option Nat) (j : Nat) : Int32 := match j with
  | 0 => Int32.ofNat d
  | 1 => match c with | none => W 3 | some e => W (22 + 8 * e)
  | 2 => match c with | none => W 12 | some e => W (23 + 8 * e)
  | 3 => match c with | none => 9 | some e => if W (24 + 8 * e) = -1 then 9 else W (24 + 8 * e)
  | 4 => W 5
  | 5 => W 6
  | 6 => if W (22 + 8 * d) = -1 then 1 else 0
  | 7 => match c with | none => 0 | some e => if W (22 + 8 * e) < W 9 then 0 else if W 10 < W (22 + 8 * e) then 0 else 1
  | _ => match c with | none => 0 | some e => if W (24 + 8 * e) = -1 then 1 else 0
theorem fct_01 {c : Option Nat} : ∀ j, 6 ≤ j → j < 9 → fct W d c j = 0 ∨ fct W d c j = 1 := by
  intro j h1 h2
  rcases (show j = 6 ∨ j = 7 ∨ j = 8 by omega) with rfl | rfl | rfl
  · unfold fct; simp only; split <;> simp
  · unfold fct; cases c with
    | none => exact Or.inl rfl
    | some e => simp only; split
                · simp
                · split <;> simp
  · unfold fct; cases c with
    | none => exact Or.inl rfl
    | some e => simp only; split <;> simp
theorem m_fact {c : Option Nat} (hM : M 206 = W) (hd : d < 12) (hc : ∀ e, c = some e → e < 12 ∧ ¬ W (22 + 8 * e) = -1) : ∀ j, j < 9 → ∀ m, F_X12_factOf M (Int32.ofNat j) m (Int32.ofNat d) (enc c) = some (fct W d c j) := by
  intro j hj m
  subst hM
  rcases (show j = 0 ∨ j = 1 ∨ j = 2 ∨ j = 3 ∨ j = 4 ∨ j = 5 ∨ j = 6 ∨ j = 7 ∨ j = 8 by omega) with rfl | rfl | rfl | rfl | rfl | rfl | rfl | rfl | rfl
  · rfl
  · show (if enc c = -1 then _ else _) = _
    cases c with
    | none => rfl
    | some e =>
      have he := hc e rfl
      rw [show enc (some e) = Int32.ofNat e from rfl, if_neg (ofn_ne_m1 (by omega)), m_fst he.1]
      rfl
  · show (if enc c = -1 then _ else _) = _
    cases c with
    | none => rfl
    | some e =>
      have he := hc e rfl
      rw [show enc (some e) = Int32.ofNat e from rfl, if_neg (ofn_ne_m1 (by omega)), m_plc he.1]
      rfl
  · show (if enc c = -1 then _ else _) = _
    cases c with
    | none => rfl
    | some e =>
      have he := hc e rfl
      rw [show enc (some e) = Int32.ofNat e from rfl, if_neg (ofn_ne_m1 (by omega)), m_com he.1]
      simp only [Option.bind_eq_bind, Option.bind_some]
      unfold fct
      simp only
      split <;> rfl
  · rfl
  · rfl
  · show (F_X12_isNew M (Int32.ofNat d) >>= _) = _
    rw [m_isNew hd]
    simp only [Option.bind_eq_bind, Option.bind_some]
    unfold fct
    by_cases h : M 206 (22 + 8 * d) = -1
    · simp [h]
    · simp [h]
  · show (if enc c = -1 then _ else _) = _
    cases c with
    | none => rfl
    | some e =>
      have he := hc e rfl
      rw [show enc (some e) = Int32.ofNat e from rfl, if_neg (ofn_ne_m1 (by omega))]
      unfold F_X12_isInWar F_X12_in
      rw [m_isNew he.1, m_fst he.1, if_neg he.2]
      simp only [Option.bind_eq_bind, Option.bind_some, if_true]
      unfold fct
      by_cases h1 : M 206 (22 + 8 * e) < M 206 9
      · simp [h1]
      · by_cases h2 : M 206 10 < M 206 (22 + 8 * e)
        · simp [h1, h2]
        · simp [h1, h2]
  · show (if enc c = -1 then _ else _) = _
    cases c with
    | none => rfl
    | some e =>
      have he := hc e rfl
      rw [show enc (some e) = Int32.ofNat e from rfl, if_neg (ofn_ne_m1 (by omega)), m_com he.1]
      simp only [Option.bind_eq_bind, Option.bind_some]
      unfold fct
      simp only
      split <;> rfl
/-- the lady lies apart from what is served -/
def apS (a : Nat) : Prop := ∀ j, j < 6 → a + j ≠ 136 ∧ a + j ≠ 137
theorem cl_putCalled (hL : LR C a W) (ha : apS a) {e : Nat} (he : e < 12) (hc : C 136 0 = Int32.ofNat e) : ∃ C', F_X9_putCalled C a = some C' ∧ C' 137 1 = W (22 + 8 * e) ∧ C' 137 2 = W (23 + 8 * e) ∧ C' 137 3 = (if W (24 + 8 * e) = -1 then 9 else W (24 + 8 * e)) ∧ C' 137 7 = (if W (22 + 8 * e) < W 9 then 0 else if W 10 < W (22 + 8 * e) then 0 else 1) ∧ C' 137 8 = (if W (24 + 8 * e) = -1 then 1 else 0) ∧ (∀ j, j = 0 ∨ j = 4 ∨ j = 5 ∨ j = 6 → C' 137 j = C 137 j) ∧ ∀ b, b ≠ 137 → C' b = C b := by
  have hD := hL.D
  have e1 := cl_fst hD he
  have e2 := cl_com hD he
  have e3 := cl_plc hD he
  rw [show a + 1 + 2 = a + 3 from rfl] at e1
  rw [show a + 1 + 4 = a + 5 from rfl] at e2
  rw [show a + 1 + 3 = a + 4 from rfl] at e3
  unfold F_X9_putCalled
  rw [hc, e1, e2]
  simp only [Option.bind_eq_bind, Option.bind_some]
  rw [up2_ne _ _ _ (ha 4 (by omega)).2, e3, hL.1.2.2.2.2.2.2.2.1, hL.1.2.2.2.2.2.2.2.2.1]
  simp only [Option.bind_some]
  have fin : ∀ (v3 v7 v8 : Int32), ∃ C', some (up2 (up2 (up2 (up2 (up2 C 137 1 (W (22 + 8 * e))) 137 2 (W (23 + 8 * e))) 137 3 v3) 137 7 v7) 137 8 v8) = some C' ∧ C' 137 1 = W (22 + 8 * e) ∧ C' 137 2 = W (23 + 8 * e) ∧ C' 137 3 = v3 ∧ C' 137 7 = v7 ∧ C' 137 8 = v8 ∧ (∀ j, j = 0 ∨ j = 4 ∨ j = 5 ∨ j = 6 → C' 137 j = C 137 j) ∧ ∀ b, b ≠ 137 → C' b = C b := by
    intro v3 v7 v8
    refine ⟨_, rfl, ?_, ?_, ?_, ?_, ?_, ?_, ?_⟩
    · simp [up2_get]
    · simp [up2_get]
    · simp [up2_get]
    · simp [up2_get]
    · simp [up2_get]
    · rintro j (rfl | rfl | rfl | rfl) <;> simp [up2_get]
    · intro b hb
      rw [up2_ne _ _ _ hb, up2_ne _ _ _ hb, up2_ne _ _ _ hb, up2_ne _ _ _ hb, up2_ne _ _ _ hb]
  by_cases h1 : W (24 + 8 * e) = -1
  · simp only [if_pos h1]
    by_cases h2 : W (22 + 8 * e) < W 9
    · simp only [if_pos h2]; exact fin _ _ _
    · simp only [if_neg h2]
      by_cases h3 : W 10 < W (22 + 8 * e)
      · simp only [if_pos h3]; exact fin _ _ _
      · simp only [if_neg h3]; exact fin _ _ _
  · simp only [if_neg h1]
    by_cases h2 : W (22 + 8 * e) < W 9
    · simp only [if_pos h2]; exact fin _ _ _
    · simp only [if_neg h2]
      by_cases h3 : W 10 < W (22 + 8 * e)
      · simp only [if_pos h3]; exact fin _ _ _
      · simp only [if_neg h3]; exact fin _ _ _
theorem cl_put (hL : LR C a W) (hW : DOk n W) (ha : apS a) (hd : d < n) {c : Option Nat} (hcup : cup W n d (W 8) = enc c) (hc : ∀ e, c = some e → e < n ∧ ¬ W (22 + 8 * e) = -1) : ∃ C', F_X9_put C a (Int32.ofNat d) = some C' ∧ C' 136 1 = 0 ∧ C' 136 2 = W 13 ∧ C' 136 0 = enc c ∧ (∀ j, j < 9 → C' 137 j = fct W d c j) ∧ ∀ b, b ≠ 136 → b ≠ 137 → C' b = C b := by
  have hn := hW.2.1
  have hD := hL.D
  unfold F_X9_put
  have hrow : ∀ (C2 : HI), (∀ b, b ≠ 136 → b ≠ 137 → C2 b = C b) → LR C2 a W := fun C2 h => hL.congr (fun j hj => h _ (ha j hj).1 (ha j hj).2)
  have ha0 : a ≠ 136 ∧ a ≠ 137 := ha 0 (by omega)
  have L1 : LR (up2 (up2 C 136 1 (0 : Int32)) 136 2 (C a 12)) a W := hrow _ (fun b h1 _ => by rw [up2_ne _ _ _ h1, up2_ne _ _ _ h1])
  rw [hL.1.2.2.2.2.2.2.1, cl_calledUp L1.D hW hd, hcup]
  simp only [Option.bind_eq_bind, Option.bind_some]
  have L2 : LR (up2 (up2 (up2 (up2 (up2 (up2 C 136 1 (0 : Int32)) 136 2 (C a 12)) 136 0 (enc c)) 137 0 (Int32.ofNat d)) 137 4 (C a 4)) 137 5 (C a 5)) a W := hrow _ (fun b h1 h2 => by rw [up2_ne _ _ _ h2, up2_ne _ _ _ h2, up2_ne _ _ _ h2, up2_ne _ _ _ h1, up2_ne _ _ _ h1, up2_ne _ _ _ h1])
  rw [cl_isHad L2.D hW hd]
  simp only [Option.bind_some]
  rw [up2_ne _ _ _ ha0.1, up2_ne _ _ _ ha0.1]
  obtain ⟨l1, l2, l3, l4, l5, l6, l7, l8, l9, l10, l11, l12, l13, l14⟩ := hL.1
  rw [l12, l4, l5, l2, l11]
  -- the rest, for either value of 'new'
  have fin : ∀ v6 : Int32, v6 = (if W (22 + 8 * d) = -1 then 1 else 0) → ∃ C', ((F_X1_has (up2 (up2 (up2 (up2 (up2 (up2 (up2 (up2 (up2 (up2 (up2 (up2 C 136 1 (0 : Int32)) 136 2 (W 13)) 136 0 (enc c)) 137 0 (Int32.ofNat d)) 137 4 (W 5)) 137 5 (W 6)) 137 6 v6) 137 1 (W 3)) 137 2 (W 12)) 137 3 (9 : Int32)) 137 7 (0 : Int32)) 137 8 (0 : Int32)) (a + 1) (enc c)).bind fun r6 => if r6 = 0 then some (up2 (up2 (up2 (up2 (up2 (up2 (up2 (up2 (up2 (up2 (up2 (up2 C 136 1 (0 : Int32)) 136 2 (W 13)) 136 0 (enc c)) 137 0 (Int32.ofNat d)) 137 4 (W 5)) 137 5 (W 6)) 137 6 v6) 137 1 (W 3)) 137 2 (W 12)) 137 3 (9 : Int32)) 137 7 (0 : Int32)) 137 8 (0 : Int32)) else (F_X9_putCalled (up2 (up2 (up2 (up2 (up2 (up2 (up2 (up2 (up2 (up2 (up2 (up2 C 136 1 (0 : Int32)) 136 2 (W 13)) 136 0 (enc c)) 137 0 (Int32.ofNat d)) 137 4 (W 5)) 137 5 (W 6)) 137 6 v6) 137 1 (W 3)) 137 2 (W 12)) 137 3 (9 : Int32)) 137 7 (0 : Int32)) 137 8 (0 : Int32)) a).bind fun r9 => some r9) = some C' ∧ C' 136 1 = 0 ∧ C' 136 2 = W 13 ∧ C' 136 0 = enc c ∧ (∀ j, j < 9 → C' 137 j = fct W d c j) ∧ ∀ b, b ≠ 136 → b ≠ 137 → C' b = C b := by
    intro v6 hv6
    generalize hC3 : (up2 (up2 (up2 (up2 (up2 (up2 (up2 (up2 (up2 (up2 (up2 (up2 C 136 1 (0 : Int32)) 136 2 (W 13)) 136 0 (enc c)) 137 0 (Int32.ofNat d)) 137 4 (W 5)) 137 5 (W 6)) 137 6 v6) 137 1 (W 3)) 137 2 (W 12)) 137 3 (9 : Int32)) 137 7 (0 : Int32)) 137 8 (0 : Int32)) = C3
    have r1 : C3 136 1 = 0 ∧ C3 136 2 = W 13 ∧ C3 136 0 = enc c := by rw [← hC3]; simp [up2_get]
    have r2 : C3 137 0 = Int32.ofNat d ∧ C3 137 4 = W 5 ∧ C3 137 5 = W 6 ∧ C3 137 6 = v6 ∧ C3 137 1 = W 3 ∧ C3 137 2 = W 12 ∧ C3 137 3 = 9 ∧ C3 137 7 = 0 ∧ C3 137 8 = 0 := by rw [← hC3]; simp [up2_get]
    have r3 : ∀ b, b ≠ 136 → b ≠ 137 → C3 b = C b := fun b h1 h2 => by
      rw [← hC3, up2_ne _ _ _ h2, up2_ne _ _ _ h2, up2_ne _ _ _ h2, up2_ne _ _ _ h2, up2_ne _ _ _ h2, up2_ne _ _ _ h2, up2_ne _ _ _ h2, up2_ne _ _ _ h2, up2_ne _ _ _ h2, up2_ne _ _ _ h1, up2_ne _ _ _ h1, up2_ne _ _ _ h1]
    have L3 : LR C3 a W := hrow C3 r3
    clear hC3
    cases c with
    | none =>
      rw [cl_hasN L3.D hW (x := enc none) (Or.inl (by decide))]
      simp only [Option.bind_some, if_true]
      refine ⟨C3, rfl, r1.1, r1.2.1, r1.2.2, fun j hj => ?_, r3⟩
      rcases (show j = 0 ∨ j = 1 ∨ j = 2 ∨ j = 3 ∨ j = 4 ∨ j = 5 ∨ j = 6 ∨ j = 7 ∨ j = 8 by omega) with rfl | rfl | rfl | rfl | rfl | rfl | rfl | rfl | rfl
      · exact r2.1
      · exact r2.2.2.2.2.1
      · exact r2.2.2.2.2.2.1
      · exact r2.2.2.2.2.2.2.1
      · exact r2.2.1
      · exact r2.2.2.1
      · exact r2.2.2.2.1.trans hv6
      · exact r2.2.2.2.2.2.2.2.1
      · exact r2.2.2.2.2.2.2.2.2
    | some e =>
      have he := hc e rfl
      rw [show enc (some e) = Int32.ofNat e from rfl, cl_has L3.D hW he.1]
      simp only [Option.bind_some, i10, if_false]
      obtain ⟨C', g0, g1, g2, g3, g4, g5, g6, g7⟩ := cl_putCalled (C := C3) L3 ha (show e < 12 by omega) r1.2.2
      rw [g0]
      refine ⟨C', rfl, ?_, ?_, ?_, fun j hj => ?_, fun b h1 h2 => by rw [g7 b h2, r3 b h1 h2]⟩
      · rw [g7 136 (by decide)]; exact r1.1
      · rw [g7 136 (by decide)]; exact r1.2.1
      · rw [g7 136 (by decide)]; exact r1.2.2
      · rcases (show j = 0 ∨ j = 1 ∨ j = 2 ∨ j = 3 ∨ j = 4 ∨ j = 5 ∨ j = 6 ∨ j = 7 ∨ j = 8 by omega) with rfl | rfl | rfl | rfl | rfl | rfl | rfl | rfl | rfl
        · rw [g6 0 (by omega)]; exact r2.1
        · exact g1
        · exact g2
        · exact g3
        · rw [g6 4 (by omega)]; exact r2.2.1
        · rw [g6 5 (by omega)]; exact r2.2.2.1
        · rw [g6 6 (by omega)]; exact r2.2.2.2.1.trans hv6
        · exact g4
        · exact g5
  by_cases h0 : W (22 + 8 * d) = -1
  · rw [if_pos h0, if_pos rfl]
    exact fin 1 (by rw [if_pos h0])
  · rw [if_neg h0, if_neg (by decide)]
    exact fin 0 (by rw [if_neg h0])
end
