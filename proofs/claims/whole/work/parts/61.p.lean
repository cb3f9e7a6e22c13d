section
variable {C M : HI} {a l n d : Nat} {W : Nat → Int32} {f : Nat → Int32} {L : LD}
theorem gKd_rg (hO : LawOk L) (κ : Nat) {j : Nat} (hj : j < lm L) : rg (gKd f L κ j) 0 60 := by
  have := (hO.2 j hj).2.1
  unfold gKd
  split
  · constructor <;> rw [ti_ofn (by omega)] <;> omega
  · constructor <;> rw [ti_0] <;> decide
theorem smK_rg (hO : LawOk L) (κ : Nat) : ∀ (r i : Nat), i + r = lm L → 0 ≤ (smK (gKd f L κ) i r).toInt ∧ (smK (gKd f L κ) i r).toInt ≤ 60 * r := by
  have h12 := hO.1
  intro r
  induction r with
  | zero => intro i _; show 0 ≤ (0 : Int32).toInt ∧ (0 : Int32).toInt ≤ _; rw [ti_0]; simp
  | succ r ih =>
    intro i hi
    obtain ⟨h1, h2⟩ := ih (i + 1) (by omega)
    obtain ⟨g1, g2⟩ := gKd_rg (f := f) hO κ (show i < lm L by omega)
    show 0 ≤ (gKd f L κ i + smK (gKd f L κ) (i + 1) r).toInt ∧ (gKd f L κ i + smK (gKd f L κ) (i + 1) r).toInt ≤ _
    rw [ti_add (by omega) (by omega)]
    omega
/-- the class serves dish d to the lady at a; the reference says the same of it -/
theorem serve_sim (hL : LR C a W) (hW : WOk n W) (ha : apS a) (hl : ∀ j, j < 6 → l + j ≠ 136 ∧ l + j ≠ 137) (hR : LawR C l W) (hd : d < n) : ∃ (c : Option Nat) (t p : Int32), cup W n d (W 8) = enc c ∧ (∀ e, c = some e → e < n ∧ ¬ W (22 + 8 * e) = -1) ∧ rg t (-720) 720 ∧ rg p 0 770 ∧
    (∃ C1 C2, F_X9_put C a (Int32.ofNat d) = some C1 ∧ F_X4_weigh C1 l = some C2 ∧ C2 136 1 = t ∧ C2 136 2 = p ∧ C2 136 0 = enc c ∧ C2 137 1 = fct W d c 1 ∧ ∀ b, b ≠ 136 → b ≠ 137 → b ≠ l + 5 → C2 b = C b) ∧
    (∀ M, M 206 = W → ∃ M', F_X12_turnsBy M (Int32.ofNat d) = some (t, M') ∧ ∀ b, b ≠ 213 → M' b = M b) ∧ (∀ M, M 206 = W → ∃ M', F_X12_paysBy M (Int32.ofNat d) = some (p, M') ∧ ∀ b, b ≠ 213 → M' b = M b) := by
  have hD := hW.1
  have hn := hD.2.1
  have hr := hW.2.2.2.2.2.2.1
  have hwg := hW.2.2.2.2.2.2.2.2.2.2.2.1
  obtain ⟨c, hc1, hc2⟩ := cup_cases W n d hd (W 8)
  obtain ⟨C1, p1, p2, p3, p4, p5, p6⟩ := cl_put hL hD ha hd hc1 hc2
  have hcb : ∀ M, M 206 = W → F_X12_callsBy M (Int32.ofNat d) = some (enc c) := fun M hM => by
    have := m_callsBy (M := M) (n := n) (by rw [hM]; exact hD) (by rw [hM]; exact hr) hd
    rw [this, hM, hc1]
  have hf : ∀ M', M' 206 = W → ∀ j, j < 9 → ∀ m, F_X12_factOf M' (Int32.ofNat j) m (Int32.ofNat d) (enc c) = some (fct W d c j) := fun M' hM' => m_fact hM' (by omega) (fun e he => ⟨by have := (hc2 e he).1; omega, (hc2 e he).2⟩)
  rcases hR with ⟨w2, L, hO, hLC, hLW⟩ | ⟨w2, hn0⟩
  · have hLC1 : LawC C1 l L := hLC.congr (fun j hj => p6 _ (hl j (by omega)).1 (hl j (by omega)).2)
    obtain ⟨C2, g1, g2, g3, g4, g5⟩ := cl_weigh hO hLC1 hl p5
    have b0 := smK_rg (f := fct W d c) hO 0 (lm L) 0 (by omega)
    have b1 := smK_rg (f := fct W d c) hO 1 (lm L) 0 (by omega)
    have b2 := smK_rg (f := fct W d c) hO 2 (lm L) 0 (by omega)
    have h12 := hO.1
    have hsum : ∀ κ, κ ≤ 2 → ∀ M, M 206 = W → ∃ M', F_X12_sumOf M (Int32.ofNat κ) (Int32.ofNat d) = some (smK (gKd (fct W d c) L κ) 0 (lm L), M') ∧ ∀ b, b ≠ 213 → M' b = M b := by
      intro κ hκ M hM
      obtain ⟨M', a1, a2⟩ := m_sum (x := Int32.ofNat d) (c := enc c) hO w2 hLW hf fct_01 hκ (lm L) 0 0 M (by omega) hM
      refine ⟨M', ?_, a2⟩
      unfold F_X12_sumOf
      rw [hcb M hM]
      rw [Int32.zero_add] at a1
      exact a1
    refine ⟨c, smK (gKd (fct W d c) L 0) 0 (lm L) - smK (gKd (fct W d c) L 1) 0 (lm L), W 13 + smK (gKd (fct W d c) L 2) 0 (lm L), hc1, hc2, ?_, ?_, ⟨C1, C2, p1, g1, ?_, ?_, ?_, ?_, ?_⟩, ?_, ?_⟩
    · constructor <;> rw [ti_sub (by omega) (by omega)] <;> omega
    · obtain ⟨e1, e2⟩ := hwg
      constructor <;> rw [ti_add (by omega) (by omega)] <;> omega
    · rw [g2, p2, Int32.zero_add]
    · rw [g3, p3]
    · rw [g4, p4]
    · rw [g5 137 (by decide) (fun q => (hl 5 (by omega)).2 q.symm), p5 1 (by omega)]
    · intro b h1 h2 h3
      rw [g5 b h1 h3, p6 b h1 h2]
    · intro M hM
      obtain ⟨M1, a1, a2⟩ := hsum 0 (by omega) M hM
      obtain ⟨M2, a3, a4⟩ := hsum 1 (by omega) M1 (by rw [a2 206 (by decide)]; exact hM)
      refine ⟨M2, ?_, fun b hb => by rw [a4 b hb, a2 b hb]⟩
      unfold F_X12_turnsBy
      rw [show (0 : Int32) = Int32.ofNat 0 from rfl, a1]
      simp only [Option.bind_eq_bind, Option.bind_some]
      rw [show (1 : Int32) = Int32.ofNat 1 from rfl, a3]
      rfl
    · intro M hM
      obtain ⟨M1, a1, a2⟩ := hsum 2 (by omega) M hM
      refine ⟨M1, ?_, a2⟩
      unfold F_X12_paysBy
      rw [show (2 : Int32) = Int32.ofNat 2 from rfl, a1, hM]
      rfl
  · have hsum : ∀ (κ : Int32) (M : HI), M 206 = W → F_X12_sumOf M κ (Int32.ofNat d) = some (0, M) := by
      intro κ M hM
      unfold F_X12_sumOf
      rw [hcb M hM]
      simp only [Option.bind_eq_bind, Option.bind_some]
      rw [L_X12_sumOf_12, hM, w2, if_neg (by decide)]
    refine ⟨c, 0, W 13, hc1, hc2, ?_, ?_, ⟨C1, C1, p1, ?_, p2, p3, p4, p5 1 (by omega), fun b h1 h2 _ => p6 b h1 h2⟩, ?_, ?_⟩
    · constructor <;> rw [ti_0] <;> decide
    · obtain ⟨e1, e2⟩ := hwg
      constructor <;> omega
    · unfold F_X4_weigh
      rw [L_X4_weigh_2, p6 l (hl 0 (by omega)).1 (hl 0 (by omega)).2, hn0, if_pos (by decide)]
    · intro M hM
      refine ⟨M, ?_, fun _ _ => rfl⟩
      unfold F_X12_turnsBy
      rw [hsum _ M hM]
      simp only [Option.bind_eq_bind, Option.bind_some]
      rw [hsum _ M hM]
      simp only [Option.bind_some, Int32.sub_self]
    · intro M hM
      refine ⟨M, ?_, fun _ _ => rfl⟩
      unfold F_X12_paysBy
      rw [hsum _ M hM, hM]
      simp only [Option.bind_eq_bind, Option.bind_some, Int32.add_zero]
end
