section
variable {C C' M M' X X' : HI} {a T n d b : Nat} {vs : Nat → Nat} {W W' : Nat → Int32}
/-! a dish, the class -/
theorem cl_isFig (hb : TK C 138 T vs b) (hT : T ≤ 400) : F_X10_isFigures C 138 5 = some (bi (decide (rk vs T 2 b = b + 5))) := by
  obtain ⟨b1, b2, b3, b4⟩ := hb
  obtain ⟨t1, t2, -⟩ := tnd_spec (vs := vs) b4
  have hkd := kd_le (vs := vs) (T := T) b
  unfold F_X10_isFigures
  rw [b2, b1, b3]
  by_cases q : kd vs T b = 2
  · rw [if_pos (by rw [q]; rfl), sub_ofn t1 (by omega), tnd_2 q]
    rw [tnd_2 q] at t1 t2
    by_cases e : rk vs T 2 b = b + 5
    · rw [if_pos (by rw [e, show b + 5 - b = 5 by omega]; rfl), bi_t (by simp only [decide_eq_true_eq]; exact e)]
    · rw [if_neg (by rw [show (5 : Int32) = Int32.ofNat 5 from rfl, ofn_eq (by omega) (by omega)]; omega), bi_f (by simp only [decide_eq_true_eq]; exact e)]
  · rw [if_neg (by rw [show (2 : Int32) = Int32.ofNat 2 from rfl, ofn_eq (by omega) (by omega)]; exact q), bi_f (by simp only [decide_eq_true_eq]; rw [rk_stop q]; omega)]
theorem rk5_kd (h : rk vs T 2 b = b + 5) : kd vs T b = 2 ∧ tnd vs T b = b + 5 ∧ ∀ i, i < 5 → 48 ≤ vs (b + i) ∧ vs (b + i) ≤ 57 := by
  have q : kd vs T b = 2 := by
    apply Classical.byContradiction
    intro w
    rw [rk_stop w] at h
    omega
  refine ⟨q, by rw [tnd_2 q]; exact h, fun i hi => (kd_2.mp (rk_in (vs := vs) (T := T) (show b ≤ b + i by omega) (by omega))).2⟩
theorem cl_figr (h1 : TC C 138 T vs) (hb : TK C 138 T vs b) (h5 : rk vs T 2 b = b + 5) {i : Nat} (hi : i < 5) : F_X10_figure C 138 (Int32.ofNat i) = some (Int32.ofNat (vs (b + i) - 48)) := by
  obtain ⟨q1, q2, q3⟩ := h1
  obtain ⟨b1, b2, b3, b4⟩ := hb
  obtain ⟨r1, r2, r3⟩ := rk5_kd h5
  have he := rk_le (vs := vs) (κ := 2) b4
  obtain ⟨v1, v2⟩ := q3 (b + i) (by omega)
  have := r3 i hi
  unfold F_X10_figure
  rw [if_neg (by rw [show (0 : Int32) = Int32.ofNat 0 from rfl, ofn_lt (by omega) (by omega)]; omega), b1, q1, ← Int32.ofNat_add, if_neg (by rw [ofn_le (by omega) (by omega)]; omega), ald_ofn (by omega) (by omega), v2, Option.bind_eq_bind, Option.bind_some, show (48 : Int32) = Int32.ofNat 48 from rfl, sub_ofn (by omega) (by omega)]
def dTail (I : HI) : Option (Int32 × HI) := (F_X10_advance I 138).bind fun r7 => (F_X10_isWord r7 138 47).bind fun r9 => if r9 = 0 then (F_X1_add r7 141 (-1 : Int32) (-1 : Int32) (-1 : Int32)).bind fun r12 => some ((1 : Int32), r12) else (F_X6_readFirst r7).bind fun r14 => if r14.1 = 0 ∨ r14.1 = 1 then some (r14.1, r14.2) else none
theorem cl_tastes (hd : d < 12) (h5 : rk vs T 2 b = b + 5) : ∀ r i (C : HI), i + r = 5 → TC C 138 T vs → TK C 138 T vs b → ∃ C5, L_X6_readDish_29 (Int32.ofNat (5 * d)) (Int32.ofNat i) C = dTail C5 ∧ (∀ x, x ≠ 142 → C5 x = C x) ∧ ∀ j, C5 142 j = if 5 * d + i ≤ j ∧ j < 5 * d + 5 then Int32.ofNat (vs (b + (j - 5 * d)) - 48) else C 142 j := by
  intro r
  induction r with
  | zero =>
    intro i C hi h1 hb
    rw [L_X6_readDish_29, show i = 5 by omega, if_pos (by decide)]
    refine ⟨C, ?_, fun _ _ => rfl, fun j => by rw [if_neg (by omega)]⟩
    unfold dTail
    simp only [Option.bind_eq_bind]
  | succ r ih =>
    intro i C hi h1 hb
    rw [L_X6_readDish_29]
    simp only [Option.bind_eq_bind]
    rw [if_neg (by rw [show (5 : Int32) = Int32.ofNat 5 from rfl, ofn_le (by omega) (by omega)]; omega), ← Int32.ofNat_add, if_neg (by rw [show (60 : Int32) = Int32.ofNat 60 from rfl, ofn_le (by omega) (by omega)]; omega), cl_figr h1 hb h5 (by omega), Option.bind_some, if_pos (inB_ofn (by omega) (by omega)), ofn_clamp (by omega), ofn_succ]
    obtain ⟨C5, a1, a2, a3⟩ := ih (i + 1) (up2 C 142 (5 * d + i) (Int32.ofNat (vs (b + i) - 48))) (by omega) (h1.up (by decide) (Or.inl (by decide))) ⟨hb.1, hb.2.1, hb.2.2.1, hb.2.2.2⟩
    refine ⟨C5, a1, fun x hx => by rw [a2 x hx, up2_ne _ _ _ hx], fun j => ?_⟩
    rw [a3 j, up2_get]
    by_cases q : j = 5 * d + i
    · subst q
      rw [if_neg (by omega), if_pos ⟨rfl, rfl⟩, if_pos (by omega), show 5 * d + i - 5 * d = i by omega]
    · by_cases w : 5 * d + i ≤ j ∧ j < 5 * d + 5
      · rw [if_pos w, if_pos (by omega)]
      · rw [if_neg w, if_neg (by omega), if_neg (fun y => q y.2)]
theorem cl_add (h0 : C 141 0 = Int32.ofNat d) (hd : d < 12) (y p c : Int32) : F_X1_add C 141 y p c = some (up2 (up2 (up2 (up2 C 141 0 (Int32.ofNat (d + 1))) 143 d y) 144 d p) 145 d c) := by
  unfold F_X1_add F_X1_tell
  have e1 : Int32.ofNat (d + 1) - 1 = Int32.ofNat d := by rw [show (1 : Int32) = Int32.ofNat 1 from rfl, sub_ofn (by omega) (by omega)]; rfl
  have e2 : F_X1_has (up2 C 141 0 (Int32.ofNat (d + 1))) 141 (Int32.ofNat d) = some 1 := by
    have e0 : up2 C 141 0 (Int32.ofNat (d + 1)) 141 0 = Int32.ofNat (d + 1) := by rw [up2_get, if_pos ⟨rfl, rfl⟩]
    unfold F_X1_has
    rw [e0, if_neg (show ¬ Int32.ofNat d < 0 by rw [show (0 : Int32) = Int32.ofNat 0 from rfl, ofn_lt (by omega) (by omega)]; omega)]
    first
      | rw [if_pos (show Int32.ofNat d < Int32.ofNat (d + 1) by rw [ofn_lt (by omega) (by omega)]; omega)]
      | rw [if_neg (show ¬ Int32.ofNat (d + 1) ≤ Int32.ofNat d by rw [ofn_le (by omega) (by omega)]; omega)]
  simp only [Option.bind_eq_bind]
  rw [h0, if_neg (by rw [show (12 : Int32) = Int32.ofNat 12 from rfl, ofn_le (by omega) (by omega)]; omega), ofn_succ, e1, e2, Option.bind_some, if_neg (by decide), if_pos (inB_ofn (by omega) (by omega)), if_pos (inB_ofn (by omega) (by omega)), if_pos (inB_ofn (by omega) (by omega)), ofn_clamp (by omega), Option.bind_some]
/-! a dish, the reference -/
theorem up206g0 (X : HI) (k j : Nat) (v : Int32) : up2 X 206 k v 206 j = if j = k then v else X 206 j := by
  rw [up2_get]
  by_cases q : j = k
  · rw [if_pos ⟨rfl, q⟩, if_pos q]
  · rw [if_neg (fun w => q w.2), if_neg q]
def tsW (W : Nat → Int32) (d : Nat) (ts : Nat → Nat) (i : Nat) : Nat → Int32 := fun k => if 17 + 8 * d ≤ k ∧ k < 17 + 8 * d + i then Int32.ofNat (ts (k - (17 + 8 * d))) else W k
theorem m_tastes (h : TM X T vs) {p c : Nat} (hp : p ≤ T) (hd : d < 12) : F_X12_readTastes (mp X p c) (Int32.ofNat d) = some (bi (decide (rk vs T 2 (skb vs T p) = skb vs T p + 5)), mp (up1 X 206 (tsW (X 206) d (fun i => vs (skb vs T p + i) - 48) (min 5 (rk vs T 2 (skb vs T p) - skb vs T p)))) (rk vs T 2 (skb vs T p)) (skb vs T p)) := by
  have hT := h.2.1
  have hb := (skb_spec (vs := vs) hp).2.1
  unfold F_X12_readTastes
  rw [m_blanks (h.mp p c) (mp_10 _ _ _) hp, Option.bind_eq_bind, Option.bind_some, mp_mp]
  generalize skb vs T p = b at hb
  have he := rk_le (vs := vs) (κ := 2) hb
  have hU : ∀ i, TM (up1 X 206 (tsW (X 206) d (fun i => vs (b + i) - 48) i)) T vs := fun i => ⟨by rw [up1_get, if_neg (by decide)]; exact h.1, hT, fun j hj => by rw [up1_get, if_neg (by decide)]; exact h.2.2 j hj⟩
  have at1 : ∀ i p, b ≤ p → p < rk vs T 2 b → F_X12_isAt (mp (up1 X 206 (tsW (X 206) d (fun i => vs (b + i) - 48) i)) p b) 48 57 = some 1 := by
    intro i p q1 q2
    have e := m_isAt ((hU i).mp p b) (lo := 48) (hi := 57) (mp_10 _ _ _) (by omega) (by omega) (by omega)
    have w : kd vs T p = 2 := rk_in q1 q2
    rw [kd_2] at w
    have e' : F_X12_isAt (mp (up1 X 206 (tsW (X 206) d (fun i => vs (b + i) - 48) i)) p b) 48 57 = _ := e
    rw [e', bi_t (by simp only [decide_eq_true_eq]; exact w)]
  have at0 : ∀ i, F_X12_isAt (mp (up1 X 206 (tsW (X 206) d (fun i => vs (b + i) - 48) i)) (rk vs T 2 b) b) 48 57 = some 0 := by
    intro i
    have e := m_isAt ((hU i).mp (rk vs T 2 b) b) (lo := 48) (hi := 57) (mp_10 _ _ _) (by omega) (by omega) (by omega)
    have w := rk_end (vs := vs) (κ := 2) hb (by decide)
    rw [kd_2] at w
    have e' : F_X12_isAt (mp (up1 X 206 (tsW (X 206) d (fun i => vs (b + i) - 48) i)) (rk vs T 2 b) b) 48 57 = _ := e
    rw [e', bi_f (by simp only [decide_eq_true_eq]; exact w)]
  have loop : ∀ r p, p + r = rk vs T 2 b → b ≤ p → L_X12_readTastes_4 (Int32.ofNat d) (mp (up1 X 206 (tsW (X 206) d (fun i => vs (b + i) - 48) (min 5 (p - b)))) p b) = some (bi (decide (rk vs T 2 b = b + 5)), mp (up1 X 206 (tsW (X 206) d (fun i => vs (b + i) - 48) (min 5 (rk vs T 2 b - b)))) (rk vs T 2 b) b) := by
    intro r
    induction r with
    | zero =>
      intro p hr hbp
      rw [show p = rk vs T 2 b by omega, L_X12_readTastes_4, at0, Option.bind_eq_bind, Option.bind_some, if_pos rfl, mp_10, mp_12, sub_ofn he.1 (by omega)]
      by_cases q : rk vs T 2 b = b + 5
      · rw [if_pos (by rw [q, show b + 5 - b = 5 by omega]; rfl), bi_t (by simp only [decide_eq_true_eq]; exact q)]
      · rw [if_neg (by rw [show (5 : Int32) = Int32.ofNat 5 from rfl, ofn_eq (by omega) (by omega)]; omega), bi_f (by simp only [decide_eq_true_eq]; exact q)]
    | succ r ih =>
      intro p hr hbp
      have w : kd vs T p = 2 := rk_in hbp (by omega)
      rw [kd_2] at w
      obtain ⟨v1, v2⟩ := h.2.2 p (by omega)
      rw [L_X12_readTastes_4, at1 _ p hbp (by omega)]
      simp only [Option.bind_eq_bind]
      rw [Option.bind_some, if_neg (by decide), mp_10, mp_12, sub_ofn hbp (by omega), ofn_succ, mp_up10]
      by_cases y : 5 ≤ p - b
      · rw [if_pos (by rw [show (5 : Int32) = Int32.ofNat 5 from rfl, ofn_le (by omega) (by omega)]; exact y)]
        have i0 := ih (p + 1) (by omega) (by omega)
        rw [show min 5 (p + 1 - b) = min 5 (p - b) by omega] at i0
        exact i0
      · rw [if_neg (by rw [show (5 : Int32) = Int32.ofNat 5 from rfl, ofn_le (by omega) (by omega)]; exact y), m_at, Option.bind_some, mp_ne _ _ _ (show (211 : Nat) ≠ 205 by decide), up1_get, if_neg (show ¬ (211 : Nat) = 206 by decide), ald_ofn (by omega) (by omega), v2, byI_lt (by omega), Option.bind_some, if_pos (inB_ofn (by omega) (by omega)), ofn_clamp (by omega), show (48 : Int32) = Int32.ofNat 48 from rfl, sub_ofn (by omega) (by omega), mp_up206, mp_10, ofn_succ, mp_up10]
        have i0 := ih (p + 1) (by omega) (by omega)
        have ex : up2 (up1 X 206 (tsW (X 206) d (fun i => vs (b + i) - 48) (min 5 (p - b)))) 206 (17 + 8 * d + (p - b)) (Int32.ofNat (vs p - 48)) = up1 X 206 (tsW (X 206) d (fun i => vs (b + i) - 48) (min 5 (p + 1 - b))) := by
          have l : ∀ F : Nat → Int32, up1 X 206 F 206 = F := fun F => by rw [up1_get, if_pos rfl]
          funext x k
          by_cases z : x = 206
          · subst z
            rw [up206g0, l, l]
            unfold tsW
            by_cases u : k = 17 + 8 * d + (p - b)
            · rw [if_pos u, if_pos (by omega)]
              show _ = Int32.ofNat (vs (b + (k - (17 + 8 * d))) - 48)
              rw [show b + (k - (17 + 8 * d)) = p by omega]
            · rw [if_neg u]
              by_cases u2 : 17 + 8 * d ≤ k ∧ k < 17 + 8 * d + min 5 (p - b)
              · rw [if_pos u2, if_pos (by omega)]
              · rw [if_neg u2, if_neg (by omega)]
          · rw [up2_ne _ _ _ z, up1_get, up1_get, if_neg z, if_neg z]
        rw [ex]
        exact i0
  have l0 := loop (rk vs T 2 b - b) b (by omega) (Nat.le_refl _)
  have e0 : up1 X 206 (tsW (X 206) d (fun i => vs (b + i) - 48) (min 5 (b - b))) = X := by
    funext x k
    rw [up1_get]
    by_cases z : x = 206
    · subst z
      rw [if_pos rfl]
      unfold tsW
      rw [if_neg (by omega)]
    · rw [if_neg z]
  rw [e0] at l0
  exact l0
end
