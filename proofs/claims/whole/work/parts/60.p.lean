/-! the law: lines, kinds, amounts, ends, codes -/
abbrev LD : Type := Nat × (Nat → Nat) × (Nat → Nat) × (Nat → Nat) × (Nat → Nat)
abbrev lm (L : LD) : Nat := L.1
abbrev lq (L : LD) : Nat → Nat := L.2.1
abbrev la' (L : LD) : Nat → Nat := L.2.2.1
abbrev le' (L : LD) : Nat → Nat := L.2.2.2.1
abbrev lk (L : LD) : Nat → Nat := L.2.2.2.2
def bg (e : Nat → Nat) (j : Nat) : Nat := if j = 0 then 0 else e (j - 1)
def LawOk (L : LD) : Prop := lm L ≤ 12 ∧ ∀ j, j < lm L → lq L j ≤ 2 ∧ la' L j ≤ 60 ∧ bg (le' L) j ≤ le' L j ∧ le' L j ≤ 400 ∧ ∃ tsf, tyR (lk L) (bg (le' L) j) (le' L j - bg (le' L) j) [] = some tsf ∧ (tsf = [] ∨ tsf = [true])
def LawC (C : HI) (l : Nat) (L : LD) : Prop := C l 0 = Int32.ofNat (lm L) ∧ ∀ j, j < lm L → C (l + 1) j = Int32.ofNat (lq L j) ∧ C (l + 2) j = Int32.ofNat (la' L j) ∧ C (l + 3) j = Int32.ofNat (le' L j) ∧ ∀ t, t < le' L j → C (l + 4) t = Int32.ofNat (lk L t)
def LawW (W : Nat → Int32) (L : LD) : Prop := W 353 = Int32.ofNat (lm L) ∧ ∀ j, j < lm L → W (354 + 4 * j) = Int32.ofNat (lq L j) ∧ W (355 + 4 * j) = Int32.ofNat (la' L j) ∧ W (356 + 4 * j) = Int32.ofNat (bg (le' L) j) ∧ W (357 + 4 * j) = Int32.ofNat (le' L j) ∧ ∀ t, t < le' L j → W (402 + 2 * t) = Int32.ofNat (stp (lk L t)) ∧ W (403 + 2 * t) = Int32.ofNat (nmb (lk L t))
def LawR (C : HI) (l : Nat) (W : Nat → Int32) : Prop := (W 2 = 1 ∧ ∃ L, LawOk L ∧ LawC C l L ∧ LawW W L) ∨ (W 2 = 0 ∧ C l 0 = -1)
section
variable {C C' M : HI} {a b l n d : Nat} {W : Nat → Int32} {f : Nat → Int32} {L : LD}
theorem LawC.congr (h : LawC C l L) (hc : ∀ j, j < 5 → C' (l + j) = C (l + j)) : LawC C' l L := by
  unfold LawC
  rw [show C' l = C l from hc 0 (by omega), hc 1 (by omega), hc 2 (by omega), hc 3 (by omega), hc 4 (by omega)]
  exact h
/-- does line j hold -/
def hz (f : Nat → Int32) (L : LD) (j : Nat) : Int32 := hzC (evR f (lk L) (bg (le' L) j) (le' L j - bg (le' L) j) 0 (fun _ => 0))
def smK (g : Nat → Int32) : Nat → Nat → Int32
  | _, 0 => 0
  | i, r + 1 => g i + smK g (i + 1) r
def gKd (f : Nat → Int32) (L : LD) (κ j : Nat) : Int32 := if lq L j = κ ∧ ¬ hz f L j = 0 then Int32.ofNat (la' L j) else 0
theorem cl_holds (hO : LawOk L) (hC : LawC C l L) (hl : l + 5 ≠ 137) (hf : ∀ j, j < 9 → C 137 j = f j) {j : Nat} (hj : j < lm L) : ∃ C', F_X4_holds C l (Int32.ofNat j) = some (hz f L j, C') ∧ ∀ b, b ≠ l + 5 → C' b = C b := by
  obtain ⟨o1, o2⟩ := hO
  obtain ⟨q1, q2, q3, q4, tsf, q5, q6⟩ := o2 j hj
  obtain ⟨c1, c2, c3, c4⟩ := hC.2 j hj
  have key := cl_line (f := f) (k := lk L) (line := j) (E := le' L j) hl (by omega) q4 (le' L j - bg (le' L) j) (bg (le' L) j) [] tsf (fun _ => 0) C (by omega) q5 (fun i hi => by simp at hi) hf c3 c4 (by simp)
  unfold F_X4_holds
  by_cases h0 : j = 0
  · subst h0
    rw [if_pos (by decide)]
    exact key
  · rw [if_neg (by rw [show (0 : Int32) = Int32.ofNat 0 from rfl, ofn_le (by omega) (by omega)]; omega)]
    obtain ⟨i, rfl⟩ : ∃ i, j = i + 1 := ⟨j - 1, by omega⟩
    rw [ofn_p1, ald_ofn (by omega) (by omega), (hC.2 i (by omega)).2.2.1]
    exact key
theorem cl_weigh (hO : LawOk L) (hC : LawC C l L) (hl : ∀ j, j < 6 → l + j ≠ 136 ∧ l + j ≠ 137) (hf : ∀ j, j < 9 → C 137 j = f j) : ∃ C', F_X4_weigh C l = some C' ∧ C' 136 1 = C 136 1 + (smK (gKd f L 0) 0 (lm L) - smK (gKd f L 1) 0 (lm L)) ∧ C' 136 2 = C 136 2 + smK (gKd f L 2) 0 (lm L) ∧ C' 136 0 = C 136 0 ∧ ∀ b, b ≠ 136 → b ≠ l + 5 → C' b = C b := by
  unfold F_X4_weigh
  have key : ∀ (r i : Nat) (C : HI), i + r = lm L → LawC C l L → (∀ j, j < 9 → C 137 j = f j) → ∃ C', L_X4_weigh_2 l (Int32.ofNat i) C = some C' ∧ C' 136 1 = C 136 1 + (smK (gKd f L 0) i r - smK (gKd f L 1) i r) ∧ C' 136 2 = C 136 2 + smK (gKd f L 2) i r ∧ C' 136 0 = C 136 0 ∧ ∀ b, b ≠ 136 → b ≠ l + 5 → C' b = C b := by
    intro r
    induction r with
    | zero =>
      intro i C hi hC hf
      refine ⟨C, ?_, ?_, ?_, rfl, fun _ _ _ => rfl⟩
      · rw [L_X4_weigh_2, hC.1, show i = lm L by omega, if_pos (Int32.le_refl _)]
      · show _ = _ + ((0 : Int32) - 0); rw [Int32.sub_self, Int32.add_zero]
      · show _ = _ + (0 : Int32); rw [Int32.add_zero]
    | succ r ih =>
      intro i C hi hC hf
      have h12 := hO.1
      obtain ⟨q1, q2, q3, q4, -⟩ := hO.2 i (by omega)
      obtain ⟨C1, e1, e2⟩ := cl_holds hO hC (hl 5 (by omega)).2 hf (show i < lm L by omega)
      have hC1 : LawC C1 l L := hC.congr (fun j hj => e2 _ (by omega))
      have f1 : ∀ j, j < 9 → C1 137 j = f j := fun j hj => by rw [e2 137 (fun q => (hl 5 (by omega)).2 q.symm)]; exact hf j hj
      have s1 : C1 136 = C 136 := e2 136 (fun q => (hl 5 (by omega)).1 q.symm)
      rw [L_X4_weigh_2, hC.1, if_neg (by rw [ofn_le (by omega) (by omega)]; omega), if_neg (by rw [show (12 : Int32) = Int32.ofNat 12 from rfl, ofn_le (by omega) (by omega)]; omega), e1]
      simp only [Option.bind_eq_bind, Option.bind_some]
      obtain ⟨c1, c2, -, -⟩ := hC1.2 i (by omega)
      rw [ald_ofn (by omega) (by omega), ald_ofn (by omega) (by omega), c1, c2]
      simp only [Option.bind_some, ofn_succ]
      have stepC : ∀ (p : Nat) (v : Int32), LawC (up2 C1 136 p v) l L ∧ (∀ j, j < 9 → (up2 C1 136 p v) 137 j = f j) := fun p v => ⟨hC1.congr (fun j hj => up2_ne _ _ _ (hl j (by omega)).1), fun j hj => by rw [up2_ne _ _ _ (by decide)]; exact f1 j hj⟩
      show ∃ C' : HI, _ = some C' ∧ C' 136 1 = _ + ((gKd f L 0 i + smK (gKd f L 0) (i + 1) r) - (gKd f L 1 i + smK (gKd f L 1) (i + 1) r)) ∧ C' 136 2 = _ + (gKd f L 2 i + smK (gKd f L 2) (i + 1) r) ∧ _
      by_cases h0 : hz f L i = 0
      · rw [if_pos h0]
        obtain ⟨C', g1, g2, g3, g4, g5⟩ := ih (i + 1) C1 (by omega) hC1 f1
        have z : ∀ κ, gKd f L κ i = 0 := fun κ => by unfold gKd; rw [if_neg (fun q => q.2 h0)]
        refine ⟨C', g1, ?_, ?_, ?_, fun b h1 h2 => by rw [g5 b h1 h2, e2 b h2]⟩
        · rw [g2, s1, z, z, Int32.zero_add, Int32.zero_add]
        · rw [g3, s1, z, Int32.zero_add]
        · rw [g4, s1]
      · rw [if_neg h0]
        have y : ∀ κ, lq L i = κ → gKd f L κ i = Int32.ofNat (la' L i) := fun κ hκ => by unfold gKd; rw [if_pos ⟨hκ, h0⟩]
        have z : ∀ κ, lq L i ≠ κ → gKd f L κ i = 0 := fun κ hκ => by unfold gKd; rw [if_neg (fun q => hκ q.1)]
        rcases (show lq L i = 0 ∨ lq L i = 1 ∨ lq L i = 2 by omega) with hq | hq | hq
        · rw [hq, if_neg (by decide), if_pos (by decide)]
          obtain ⟨a1, a2⟩ := stepC 1 (C1 136 1 + Int32.ofNat (la' L i))
          obtain ⟨C', g1, g2, g3, g4, g5⟩ := ih (i + 1) _ (by omega) a1 a2
          refine ⟨C', g1, ?_, ?_, ?_, fun b h1 h2 => by rw [g5 b h1 h2, up2_ne _ _ _ h1, e2 b h2]⟩
          · rw [g2, y 0 hq, z 1 (by omega), Int32.zero_add, up2_get, if_pos ⟨rfl, rfl⟩, s1, Int32.add_assoc, Int32.sub_eq_add_neg, Int32.sub_eq_add_neg, Int32.add_assoc]
          · rw [g3, z 2 (by omega), Int32.zero_add, up2_get, if_neg (by omega), s1]
          · rw [g4, up2_get, if_neg (by omega), s1]
        · rw [hq, if_neg (by decide), if_neg (by decide)]
          obtain ⟨a1, a2⟩ := stepC 1 (C1 136 1 + -Int32.ofNat (la' L i))
          obtain ⟨C', g1, g2, g3, g4, g5⟩ := ih (i + 1) _ (by omega) a1 a2
          refine ⟨C', g1, ?_, ?_, ?_, fun b h1 h2 => by rw [g5 b h1 h2, up2_ne _ _ _ h1, e2 b h2]⟩
          · rw [g2, y 1 hq, z 0 (by omega), Int32.zero_add, up2_get, if_pos ⟨rfl, rfl⟩, s1, Int32.add_assoc, Int32.sub_eq_add_neg, Int32.sub_eq_add_neg, Int32.neg_add, Int32.sub_eq_add_neg]
            congr 1
            rw [← Int32.add_assoc, ← Int32.add_assoc, Int32.add_comm (-Int32.ofNat (la' L i))]
          · rw [g3, z 2 (by omega), Int32.zero_add, up2_get, if_neg (by omega), s1]
          · rw [g4, up2_get, if_neg (by omega), s1]
        · rw [hq, if_pos (by decide)]
          obtain ⟨a1, a2⟩ := stepC 2 (C1 136 2 + Int32.ofNat (la' L i))
          obtain ⟨C', g1, g2, g3, g4, g5⟩ := ih (i + 1) _ (by omega) a1 a2
          refine ⟨C', g1, ?_, ?_, ?_, fun b h1 h2 => by rw [g5 b h1 h2, up2_ne _ _ _ h1, e2 b h2]⟩
          · rw [g2, z 0 (by omega), z 1 (by omega), Int32.zero_add, Int32.zero_add, up2_get, if_neg (by omega), s1]
          · rw [g3, y 2 hq, up2_get, if_pos ⟨rfl, rfl⟩, s1, Int32.add_assoc]
          · rw [g4, up2_get, if_neg (by omega), s1]
  exact key (lm L) 0 C (by omega) hC hf
theorem m_holds {x c : Int32} (hO : LawOk L) (hM : M 206 = W) (hW : LawW W L) (hf : ∀ M', M' 206 = W → ∀ j, j < 9 → ∀ m, F_X12_factOf M' (Int32.ofNat j) m x c = some (f j)) (hf2 : ∀ j, 6 ≤ j → j < 9 → f j = 0 ∨ f j = 1) {j : Nat} (hj : j < lm L) : ∃ M', F_X12_holdsLine M (Int32.ofNat j) x c = some (hz f L j, M') ∧ ∀ b, b ≠ 213 → M' b = M b := by
  obtain ⟨o1, o2⟩ := hO
  obtain ⟨q1, q2, q3, q4, tsf, q5, q6⟩ := o2 j hj
  obtain ⟨w1, w2, w3, w4, w5⟩ := hW.2 j hj
  obtain ⟨M', e1, e2⟩ := m_line (x := x) (c := c) (f := f) (k := lk L) (line := j) (E := le' L j) (by omega) q4 hf hf2 w4 w5 (le' L j - bg (le' L) j) (bg (le' L) j) [] tsf (fun _ => 0) M (by omega) q5 (fun i hi => by simp at hi) trivial hM (by simp)
  unfold F_X12_holdsLine
  have e0 : ((354 : Int32) + (4 : Int32) * Int32.ofNat j) = Int32.ofNat (354 + 4 * j) := by rw [Int32.ofNat_add, Int32.ofNat_mul]; rfl
  have e3 : Int32.ofNat (354 + 4 * j) + (2 : Int32) = Int32.ofNat (356 + 4 * j) := by
    rw [show (2 : Int32) = Int32.ofNat 2 from rfl, ← Int32.ofNat_add, show 354 + 4 * j + 2 = 356 + 4 * j by omega]
  rw [e0, e3, hM, ald_ofn (by omega) (by omega), w3]
  simp only [Option.bind_eq_bind, Option.bind_some]
  refine ⟨M', ?_, e2⟩
  rw [show (0 : Int32) = Int32.ofNat ([] : List Bool).length from rfl, e1]
  unfold hz
  rw [show ([] : List Bool).length = 0 from rfl, hz_same hf2 q5 q6]
theorem m_sum {x c : Int32} (hO : LawOk L) (hW2 : W 2 = 1) (hW : LawW W L) (hf : ∀ M', M' 206 = W → ∀ j, j < 9 → ∀ m, F_X12_factOf M' (Int32.ofNat j) m x c = some (f j)) (hf2 : ∀ j, 6 ≤ j → j < 9 → f j = 0 ∨ f j = 1) {κ : Nat} (hκ : κ ≤ 2) : ∀ (r i : Nat) (acc : Int32) (M : HI), i + r = lm L → M 206 = W → ∃ M', L_X12_sumOf_12 (Int32.ofNat κ) x c acc (Int32.ofNat i) M = some (acc + smK (gKd f L κ) i r, M') ∧ ∀ b, b ≠ 213 → M' b = M b := by
  intro r
  have h12 := hO.1
  induction r with
  | zero =>
    intro i acc M hi hM
    refine ⟨M, ?_, fun _ _ => rfl⟩
    rw [L_X12_sumOf_12, hM, if_pos hW2, hW.1, show i = lm L by omega, if_pos (Int32.le_refl _)]
    show _ = some (acc + 0, M)
    rw [Int32.add_zero]
  | succ r ih =>
    intro i acc M hi hM
    obtain ⟨w1, w2, -⟩ := hW.2 i (by omega)
    have hq := (hO.2 i (by omega)).1
    have e0 : ((354 : Int32) + (4 : Int32) * Int32.ofNat i) = Int32.ofNat (354 + 4 * i) := by rw [Int32.ofNat_add, Int32.ofNat_mul]; rfl
    have e3 : Int32.ofNat (354 + 4 * i) + (1 : Int32) = Int32.ofNat (355 + 4 * i) := by rw [ofn_succ, show 354 + 4 * i + 1 = 355 + 4 * i by omega]
    obtain ⟨M1, g1, g2⟩ := m_holds hO hM hW hf hf2 (show i < lm L by omega)
    have hM1 : M1 206 = W := by rw [g2 206 (by decide)]; exact hM
    rw [L_X12_sumOf_12, hM, if_pos hW2, hW.1, if_neg (by rw [ofn_le (by omega) (by omega)]; omega), e0, e3, ald_ofn (by omega) (by omega), w1, g1]
    simp only [Option.bind_eq_bind, Option.bind_some, ofn_succ, ofn_eq (show lq L i < 2147483648 by omega) (show κ < 2147483648 by omega)]
    rw [hM1, ald_ofn (by omega) (by omega), w2]
    simp only [Option.bind_some]
    show ∃ M', _ = some (acc + (gKd f L κ i + smK (gKd f L κ) (i + 1) r), M') ∧ _
    by_cases h1 : lq L i = κ
    · rw [if_pos h1]
      by_cases h2 : hz f L i = 0
      · rw [if_pos h2]
        obtain ⟨M', a1, a2⟩ := ih (i + 1) acc M1 (by omega) hM1
        refine ⟨M', ?_, fun b hb => by rw [a2 b hb, g2 b hb]⟩
        rw [a1]
        unfold gKd
        rw [if_neg (fun q => q.2 h2), Int32.zero_add]
      · rw [if_neg h2]
        obtain ⟨M', a1, a2⟩ := ih (i + 1) (acc + Int32.ofNat (la' L i)) M1 (by omega) hM1
        refine ⟨M', ?_, fun b hb => by rw [a2 b hb, g2 b hb]⟩
        rw [a1, show gKd f L κ i = Int32.ofNat (la' L i) by unfold gKd; rw [if_pos ⟨h1, h2⟩], Int32.add_assoc]
    · rw [if_neg h1]
      obtain ⟨M', a1, a2⟩ := ih (i + 1) acc M (by omega) hM
      refine ⟨M', ?_, a2⟩
      rw [a1, show gKd f L κ i = 0 by unfold gKd; rw [if_neg (fun q => h1 q.1)], Int32.zero_add]
end
