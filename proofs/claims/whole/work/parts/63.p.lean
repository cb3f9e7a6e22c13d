/-! a spoon -/
def bitW (W : Nat → Int32) (d : Nat) (t p : Int32) (c : Option Nat) : Nat → Int32 := fun k =>
  if k = 14 then (if W 14 + p < 9999 then W 14 + p else 9999)
  else if k = 5 then (if 0 < (if W 5 + t < 99 then W 5 + t else 99) then (if W 5 + t < 99 then W 5 + t else 99) else 0)
  else if k = 4 then fct W d c 1
  else if k = 6 then W 6 + 1
  else if W (22 + 8 * d) = -1 ∧ k = 22 + 8 * d then W 3
  else if W (22 + 8 * d) = -1 ∧ k = 23 + 8 * d then W 12
  else if W (22 + 8 * d) = -1 ∧ k = 24 + 8 * d then -1
  else W k
section
variable {C M : HI} {a l n d : Nat} {W W' : Nat → Int32} {t p : Int32} {c : Option Nat}
theorem bitW_ne {k : Nat} (h1 : k ≠ 14) (h2 : k ≠ 5) (h3 : k ≠ 4) (h4 : k ≠ 6) (h5 : k ≠ 22 + 8 * d) (h6 : k ≠ 23 + 8 * d) (h7 : k ≠ 24 + 8 * d) : bitW W d t p c k = W k := by
  unfold bitW
  rw [if_neg h1, if_neg h2, if_neg h3, if_neg h4, if_neg (fun q => h5 q.2), if_neg (fun q => h6 q.2), if_neg (fun q => h7 q.2)]
theorem bitW_14 : bitW W d t p c 14 = (if W 14 + p < 9999 then W 14 + p else 9999) := rfl
theorem bitW_5 : bitW W d t p c 5 = (if 0 < (if W 5 + t < 99 then W 5 + t else 99) then (if W 5 + t < 99 then W 5 + t else 99) else 0) := rfl
theorem bitW_4 : bitW W d t p c 4 = fct W d c 1 := rfl
theorem bitW_6 : bitW W d t p c 6 = W 6 + 1 := rfl
theorem bitW_f (e : Nat) : bitW W d t p c (22 + 8 * e) = if W (22 + 8 * d) = -1 ∧ e = d then W 3 else W (22 + 8 * e) := by
  unfold bitW
  rw [if_neg (by omega), if_neg (by omega), if_neg (by omega), if_neg (by omega)]
  by_cases h : W (22 + 8 * d) = -1 ∧ e = d
  · rw [if_pos h, if_pos ⟨h.1, by omega⟩]
  · rw [if_neg h, if_neg (fun q => h ⟨q.1, by omega⟩), if_neg (fun q => by omega), if_neg (fun q => by omega)]
theorem bitW_p (e : Nat) : bitW W d t p c (23 + 8 * e) = if W (22 + 8 * d) = -1 ∧ e = d then W 12 else W (23 + 8 * e) := by
  unfold bitW
  rw [if_neg (by omega), if_neg (by omega), if_neg (by omega), if_neg (by omega), if_neg (fun q => by omega)]
  by_cases h : W (22 + 8 * d) = -1 ∧ e = d
  · rw [if_pos h, if_pos ⟨h.1, by omega⟩]
  · rw [if_neg h, if_neg (fun q => h ⟨q.1, by omega⟩), if_neg (fun q => by omega)]
theorem bitW_c (e : Nat) : bitW W d t p c (24 + 8 * e) = if W (22 + 8 * d) = -1 ∧ e = d then -1 else W (24 + 8 * e) := by
  unfold bitW
  rw [if_neg (by omega), if_neg (by omega), if_neg (by omega), if_neg (by omega), if_neg (fun q => by omega), if_neg (fun q => by omega)]
  by_cases h : W (22 + 8 * d) = -1 ∧ e = d
  · rw [if_pos h, if_pos ⟨h.1, by omega⟩]
  · rw [if_neg h, if_neg (fun q => h ⟨q.1, by omega⟩)]
theorem fct1_rg (hW : WOk n W) (hc : ∀ e, c = some e → e < n ∧ ¬ W (22 + 8 * e) = -1) : rg (fct W d c 1) 0 9999 := by
  cases c with
  | none => exact hW.2.2.1
  | some e =>
    obtain ⟨h1, h2⟩ := hc e rfl
    have hn := hW.1.2.1
    have := (hW.1.2.2 e (by omega)).2.1
    rw [ti_eq, ti_m1] at h2
    exact ⟨by have := this.1; show 0 ≤ (W (22 + 8 * e)).toInt; omega, this.2⟩
theorem bitW_ok (hW : WOk n W) (hc : ∀ e, c = some e → e < n ∧ ¬ W (22 + 8 * e) = -1) (ht : rg t (-720) 720) (hp : rg p 0 770) (hd : d < n) : WOk n (bitW W d t p c) := by
  obtain ⟨⟨d1, d2, d3⟩, w1, w3, w4, w5, w7, w8, w9, w10, w11, w12, w13, w14, m, hm, w15⟩ := hW
  have nn : ∀ k, k < 17 → k ≠ 14 → k ≠ 5 → k ≠ 4 → k ≠ 6 → bitW W d t p c k = W k := fun k h h1 h2 h3 h4 => bitW_ne h1 h2 h3 h4 (by omega) (by omega) (by omega)
  refine ⟨⟨?_, d2, fun e he => ⟨fun k hk => ?_, ?_, ?_, ?_⟩⟩, ?_, ?_, ?_, ?_, ?_, ?_, ?_, ?_, ?_, ?_, ?_, ?_, m, hm, ?_⟩
  · rw [nn 0 (by omega) (by omega) (by omega) (by omega) (by omega)]; exact d1
  · rw [bitW_ne (by omega) (by omega) (by omega) (by omega) (by omega) (by omega) (by omega)]; exact (d3 e he).1 k hk
  · rw [bitW_f]; split
    · exact ⟨by have := w3.1; omega, w3.2⟩
    · exact (d3 e he).2.1
  · rw [bitW_p]; split
    · exact ⟨by have := w12.1; omega, w12.2⟩
    · exact (d3 e he).2.2.1
  · rw [bitW_c]; split
    · constructor <;> rw [ti_m1] <;> decide
    · exact (d3 e he).2.2.2
  · rw [nn 1 (by omega) (by omega) (by omega) (by omega) (by omega)]; exact w1
  · rw [nn 3 (by omega) (by omega) (by omega) (by omega) (by omega)]; exact w3
  · rw [bitW_4]; exact fct1_rg ⟨⟨d1, d2, d3⟩, w1, w3, w4, w5, w7, w8, w9, w10, w11, w12, w13, w14, m, hm, w15⟩ hc
  · rw [bitW_5]
    obtain ⟨a1, a2⟩ := w5
    obtain ⟨b1, b2⟩ := ht
    have e : (W 5 + t).toInt = (W 5).toInt + t.toInt := ti_add (by omega) (by omega)
    have hz : (if W 5 + t < 99 then W 5 + t else 99).toInt ≤ 99 := by
      split
      · rename_i h2; rw [ti_lt, ti_99] at h2; omega
      · rw [ti_99]; omega
    generalize (if W 5 + t < 99 then W 5 + t else 99) = z at hz ⊢
    by_cases h1 : 0 < z
    · rw [if_pos h1]
      rw [ti_lt, ti_0] at h1
      exact ⟨by omega, hz⟩
    · rw [if_neg h1]
      constructor <;> rw [ti_0] <;> decide
  · rw [nn 7 (by omega) (by omega) (by omega) (by omega) (by omega)]; exact w7
  · rw [nn 8 (by omega) (by omega) (by omega) (by omega) (by omega)]; exact w8
  · rw [nn 9 (by omega) (by omega) (by omega) (by omega) (by omega)]; exact w9
  · rw [nn 10 (by omega) (by omega) (by omega) (by omega) (by omega)]; exact w10
  · rw [nn 11 (by omega) (by omega) (by omega) (by omega) (by omega)]; exact w11
  · rw [nn 12 (by omega) (by omega) (by omega) (by omega) (by omega)]; exact w12
  · rw [nn 13 (by omega) (by omega) (by omega) (by omega) (by omega)]; exact w13
  · rw [bitW_14]
    obtain ⟨a1, a2⟩ := w14
    obtain ⟨b1, b2⟩ := hp
    have e : (W 14 + p).toInt = (W 14).toInt + p.toInt := ti_add (by omega) (by omega)
    split
    · rename_i h
      rw [ti_lt, ti_9999] at h
      exact ⟨by omega, by omega⟩
    · constructor <;> rw [ti_9999] <;> decide
  · rw [nn 15 (by omega) (by omega) (by omega) (by omega) (by omega)]; exact w15
/-- rows that are the same as far as a lady goes -/
theorem LR.congrW (h : LR C a W) (hw : ∀ k, k < 113 → k ≠ 15 → W' k = W k) : LR C a W' := by
  obtain ⟨⟨h1, h2, h3, h4, h5, h6, h7, h8, h9, h10, h11, h12, h13, h14⟩, h15, h16⟩ := h
  refine ⟨⟨?_, ?_, ?_, ?_, ?_, ?_, ?_, ?_, ?_, ?_, ?_, ?_, ?_, ?_⟩, ?_, fun d hd => ⟨fun k hk => ?_, ?_, ?_, ?_⟩⟩
  all_goals first | rw [hw _ (by omega) (by omega)] | skip
  · exact h1
  · exact h2
  · exact h3
  · exact h4
  · exact h5
  · exact h6
  · exact h7
  · exact h8
  · exact h9
  · exact h10
  · exact h11
  · exact h12
  · exact h13
  · exact h14
  · exact h15
  · exact (h16 d hd).1 k hk
  · exact (h16 d hd).2.1
  · exact (h16 d hd).2.2.1
  · exact (h16 d hd).2.2.2
theorem tellW_lo {x1 x2 : Int32} {k : Nat} (h : k < 113) (h2 : k ≠ 15) : tellW W x1 x2 k = W k := by
  unfold tellW
  rw [if_neg (by omega), if_neg (by omega), if_neg (by omega), if_neg (by omega), if_neg h2, if_neg (by omega)]
theorem tellW_15 {x1 x2 : Int32} : tellW W x1 x2 15 = (if W 15 + 1 < 60 then W 15 + 1 else 60) := rfl
theorem tellW_hi {x1 x2 : Int32} {k : Nat} (h : 353 ≤ k) : tellW W x1 x2 k = W k := by
  unfold tellW
  rw [if_neg (by omega), if_neg (by omega), if_neg (by omega), if_neg (by omega), if_neg (by omega), if_neg (by omega)]
theorem WOk.congr (h : WOk n W) (hw : ∀ k, k < 113 → k ≠ 15 → W' k = W k) (h15 : ∃ m, m ≤ 60 ∧ W' 15 = Int32.ofNat m) : WOk n W' := by
  obtain ⟨⟨d1, d2, d3⟩, w1, w3, w4, w5, w7, w8, w9, w10, w11, w12, w13, w14, -⟩ := h
  refine ⟨⟨?_, d2, fun e he => ⟨fun k hk => ?_, ?_, ?_, ?_⟩⟩, ?_, ?_, ?_, ?_, ?_, ?_, ?_, ?_, ?_, ?_, ?_, ?_, h15⟩
  all_goals first | rw [hw _ (by omega) (by omega)] | skip
  · exact d1
  · exact (d3 e he).1 k hk
  · exact (d3 e he).2.1
  · exact (d3 e he).2.2.1
  · exact (d3 e he).2.2.2
  · exact w1
  · exact w3
  · exact w4
  · exact w5
  · exact w7
  · exact w8
  · exact w9
  · exact w10
  · exact w11
  · exact w12
  · exact w13
  · exact w14
theorem tellW_ok {x1 x2 : Int32} (h : WOk n W) : WOk n (tellW W x1 x2) := by
  refine h.congr (fun k h1 h2 => tellW_lo h1 h2) ?_
  obtain ⟨m, hm, w15⟩ := h.2.2.2.2.2.2.2.2.2.2.2.2.2
  rw [tellW_15, w15, ofn_succ]
  by_cases q : m + 1 < 60
  · rw [if_pos (by rw [show (60 : Int32) = Int32.ofNat 60 from rfl, ofn_lt (by omega) (by omega)]; exact q)]
    exact ⟨m + 1, by omega, rfl⟩
  · rw [if_neg (by rw [show (60 : Int32) = Int32.ofNat 60 from rfl, ofn_lt (by omega) (by omega)]; exact q)]
    exact ⟨60, by omega, rfl⟩
/-- the class's bite, out of what is served -/
theorem cl_bite (hL : LR C a W) (hD : DOk n W) (hal : ∀ j, j < 6 → a + j ≠ l + 5) (ha : apS a) (hd : d < n) {C1 C2 : HI} (g1 : F_X9_put C a (Int32.ofNat d) = some C1) (g2 : F_X4_weigh C1 l = some C2) (h1 : C2 136 1 = t) (h2 : C2 136 2 = p) (h4 : C2 137 1 = fct W d c 1) (hfr : ∀ b, b ≠ 136 → b ≠ 137 → b ≠ l + 5 → C2 b = C b) : ∃ C', F_X3_bite C a (Int32.ofNat d) l = some C' ∧ LR C' a (bitW W d t p c) ∧ (∀ b, (∀ j, j < 6 → b ≠ a + j) → C' b = C2 b) := by
  have hn := hD.2.1
  have L2 : LR C2 a W := hL.congr (fun j hj => hfr _ (ha j hj).1 (ha j hj).2 (hal j hj))
  unfold F_X3_bite
  rw [g1]
  simp only [Option.bind_eq_bind, Option.bind_some]
  rw [g2]
  simp only [Option.bind_some]
  obtain ⟨l1, l2, l3, l4, l5, l6, l7, l8, l9, l10, l11, l12, l13, l14⟩ := L2.1
  rw [h1, h2, h4, l13, l4, l2, l11, l5, ← bitW_14 (d := d) (t := t) (c := c), ← bitW_5 (d := d) (p := p) (c := c), ← bitW_4 (t := t) (p := p), ← bitW_6 (d := d) (t := t) (p := p) (c := c)]
  have L3 : DR (up2 (up2 (up2 C2 a 13 (bitW W d t p c 14)) a 4 (bitW W d t p c 5)) a 3 (bitW W d t p c 4)) (a + 1) W := DR.congr L2.2 (fun j hj => by rw [up2_ne _ _ _ (by omega), up2_ne _ _ _ (by omega), up2_ne _ _ _ (by omega)])
  rw [cl_isHad L3 hD hd]
  simp only [Option.bind_some]
  have nn : ∀ k, k < 17 → k ≠ 14 → k ≠ 5 → k ≠ 4 → k ≠ 6 → bitW W d t p c k = W k := fun k h h1 h2 h3 h4 => bitW_ne h1 h2 h3 h4 (by omega) (by omega) (by omega)
  have z1 : ¬ a = a + 1 + 2 := by omega
  have z2 : ¬ a = a + 1 + 3 := by omega
  have z3 : ¬ a = a + 1 + 4 := by omega
  have z4 : ¬ a + 1 = a := by omega
  have z5 : ¬ a + 1 = a + 1 + 2 := by omega
  have z6 : ¬ a + 1 = a + 1 + 3 := by omega
  have z7 : ¬ a + 1 = a + 1 + 4 := by omega
  have z8 : ¬ a + 1 + 1 = a := by omega
  have z9 : ¬ a + 1 + 1 = a + 1 + 2 := by omega
  have z10 : ¬ a + 1 + 1 = a + 1 + 3 := by omega
  have z11 : ¬ a + 1 + 1 = a + 1 + 4 := by omega
  have z12 : ¬ a + 1 + 2 = a := by omega
  have z13 : ¬ a + 1 + 2 = a + 1 + 3 := by omega
  have z14 : ¬ a + 1 + 2 = a + 1 + 4 := by omega
  have z15 : ¬ a + 1 + 3 = a := by omega
  have z16 : ¬ a + 1 + 3 = a + 1 + 2 := by omega
  have z17 : ¬ a + 1 + 3 = a + 1 + 4 := by omega
  have z18 : ¬ a + 1 + 4 = a := by omega
  have z19 : ¬ a + 1 + 4 = a + 1 + 2 := by omega
  have z20 : ¬ a + 1 + 4 = a + 1 + 3 := by omega
  -- the scalars
  have scal : ∀ C3 : HI, (∀ k, k ≠ 13 → k ≠ 4 → k ≠ 3 → k ≠ 5 → C3 a k = C2 a k) → C3 a 13 = bitW W d t p c 14 → C3 a 4 = bitW W d t p c 5 → C3 a 3 = bitW W d t p c 4 → C3 a 5 = bitW W d t p c 6 → DR C3 (a + 1) (bitW W d t p c) → LR C3 a (bitW W d t p c) := by
    intro C3 s1 s2 s3 s4 s5 s6
    refine ⟨⟨?_, ?_, s4, s3, s5, ?_, ?_, ?_, ?_, ?_, ?_, ?_, s2, ?_⟩, s6⟩
    · rw [s1 1 (by omega) (by omega) (by omega) (by omega), nn 1 (by omega) (by omega) (by omega) (by omega) (by omega)]; exact l1
    · rw [s1 2 (by omega) (by omega) (by omega) (by omega), nn 3 (by omega) (by omega) (by omega) (by omega) (by omega)]; exact l2
    · rw [s1 6 (by omega) (by omega) (by omega) (by omega), nn 7 (by omega) (by omega) (by omega) (by omega) (by omega)]; exact l6
    · rw [s1 7 (by omega) (by omega) (by omega) (by omega), nn 8 (by omega) (by omega) (by omega) (by omega) (by omega)]; exact l7
    · rw [s1 8 (by omega) (by omega) (by omega) (by omega), nn 9 (by omega) (by omega) (by omega) (by omega) (by omega)]; exact l8
    · rw [s1 9 (by omega) (by omega) (by omega) (by omega), nn 10 (by omega) (by omega) (by omega) (by omega) (by omega)]; exact l9
    · rw [s1 10 (by omega) (by omega) (by omega) (by omega), nn 11 (by omega) (by omega) (by omega) (by omega) (by omega)]; exact l10
    · rw [s1 11 (by omega) (by omega) (by omega) (by omega), nn 12 (by omega) (by omega) (by omega) (by omega) (by omega)]; exact l11
    · rw [s1 12 (by omega) (by omega) (by omega) (by omega), nn 13 (by omega) (by omega) (by omega) (by omega) (by omega)]; exact l12
    · rw [s1 14 (by omega) (by omega) (by omega) (by omega), nn 16 (by omega) (by omega) (by omega) (by omega) (by omega)]; exact l14
  by_cases h0 : W (22 + 8 * d) = -1
  · rw [if_pos h0, if_pos rfl]
    unfold F_X1_tell
    rw [cl_has L3 hD hd]
    simp only [Option.bind_eq_bind, Option.bind_some, i10, if_false, inB_ofn (show d < 12 by omega) (show d < 2147483648 by omega), if_true, ofn_clamp (show d < 2147483648 by omega)]
    refine ⟨_, rfl, scal _ ?_ ?_ ?_ ?_ ?_ ?_, ?_⟩
    · intro k k1 k2 k3 k4
      simp only [up2_get]
      simp [k1, k2, k3, k4, z1, z2, z3, z4, z5, z6, z7, z8, z9, z10, z11, z12, z13, z14, z15, z16, z17, z18, z19, z20]
    · simp [up2_get, z1, z2, z3, z4, z5, z6, z7, z8, z9, z10, z11, z12, z13, z14, z15, z16, z17, z18, z19, z20]
    · simp [up2_get, z1, z2, z3, z4, z5, z6, z7, z8, z9, z10, z11, z12, z13, z14, z15, z16, z17, z18, z19, z20]
    · simp [up2_get, z1, z2, z3, z4, z5, z6, z7, z8, z9, z10, z11, z12, z13, z14, z15, z16, z17, z18, z19, z20]
    · simp [up2_get, z1, z2, z3, z4, z5, z6, z7, z8, z9, z10, z11, z12, z13, z14, z15, z16, z17, z18, z19, z20]
      rw [bitW_6, l5]
    · refine ⟨?_, fun e he => ⟨fun k hk => ?_, ?_, ?_, ?_⟩⟩
      · simp [up2_get, z1, z2, z3, z4, z5, z6, z7, z8, z9, z10, z11, z12, z13, z14, z15, z16, z17, z18, z19, z20]
        rw [nn 0 (by omega) (by omega) (by omega) (by omega) (by omega)]; exact L2.2.1
      · simp [up2_get, z1, z2, z3, z4, z5, z6, z7, z8, z9, z10, z11, z12, z13, z14, z15, z16, z17, z18, z19, z20]
        rw [bitW_ne (by omega) (by omega) (by omega) (by omega) (by omega) (by omega) (by omega)]
        exact (L2.2.2 e he).1 k hk
      · simp [up2_get, z1, z2, z3, z4, z5, z6, z7, z8, z9, z10, z11, z12, z13, z14, z15, z16, z17, z18, z19, z20]
        rw [bitW_f]
        by_cases q : e = d
        · simp [q, h0]
        · simp [q]; exact (L2.2.2 e he).2.1
      · simp [up2_get, z1, z2, z3, z4, z5, z6, z7, z8, z9, z10, z11, z12, z13, z14, z15, z16, z17, z18, z19, z20]
        rw [bitW_p]
        by_cases q : e = d
        · simp [q, h0]
        · simp [q]; exact (L2.2.2 e he).2.2.1
      · simp [up2_get, z1, z2, z3, z4, z5, z6, z7, z8, z9, z10, z11, z12, z13, z14, z15, z16, z17, z18, z19, z20]
        rw [bitW_c]
        by_cases q : e = d
        · simp [q, h0]
        · simp [q]; exact (L2.2.2 e he).2.2.2
    · intro b hb
      have b0 : b ≠ a := hb 0 (by omega)
      have b3 : b ≠ a + 1 + 2 := hb 3 (by omega)
      have b4 : b ≠ a + 1 + 3 := hb 4 (by omega)
      have b5 : b ≠ a + 1 + 4 := hb 5 (by omega)
      rw [up2_ne _ _ _ b0, up2_ne _ _ _ b5, up2_ne _ _ _ b4, up2_ne _ _ _ b3, up2_ne _ _ _ b0, up2_ne _ _ _ b0, up2_ne _ _ _ b0]
  · rw [if_neg h0, if_neg (by decide)]
    refine ⟨_, rfl, scal _ ?_ ?_ ?_ ?_ ?_ ?_, ?_⟩
    · intro k k1 k2 k3 k4
      simp only [up2_get]
      simp [k1, k2, k3, k4, z1, z2, z3, z4, z5, z6, z7, z8, z9, z10, z11, z12, z13, z14, z15, z16, z17, z18, z19, z20]
    · simp [up2_get, z1, z2, z3, z4, z5, z6, z7, z8, z9, z10, z11, z12, z13, z14, z15, z16, z17, z18, z19, z20]
    · simp [up2_get, z1, z2, z3, z4, z5, z6, z7, z8, z9, z10, z11, z12, z13, z14, z15, z16, z17, z18, z19, z20]
    · simp [up2_get, z1, z2, z3, z4, z5, z6, z7, z8, z9, z10, z11, z12, z13, z14, z15, z16, z17, z18, z19, z20]
    · simp [up2_get, z1, z2, z3, z4, z5, z6, z7, z8, z9, z10, z11, z12, z13, z14, z15, z16, z17, z18, z19, z20]
    · refine ⟨?_, fun e he => ⟨fun k hk => ?_, ?_, ?_, ?_⟩⟩
      · simp [up2_get, z1, z2, z3, z4, z5, z6, z7, z8, z9, z10, z11, z12, z13, z14, z15, z16, z17, z18, z19, z20]
        rw [nn 0 (by omega) (by omega) (by omega) (by omega) (by omega)]; exact L2.2.1
      · simp [up2_get, z1, z2, z3, z4, z5, z6, z7, z8, z9, z10, z11, z12, z13, z14, z15, z16, z17, z18, z19, z20]
        rw [bitW_ne (by omega) (by omega) (by omega) (by omega) (by omega) (by omega) (by omega)]
        exact (L2.2.2 e he).1 k hk
      · simp [up2_get, z1, z2, z3, z4, z5, z6, z7, z8, z9, z10, z11, z12, z13, z14, z15, z16, z17, z18, z19, z20]
        rw [bitW_f]
        simp [h0]; exact (L2.2.2 e he).2.1
      · simp [up2_get, z1, z2, z3, z4, z5, z6, z7, z8, z9, z10, z11, z12, z13, z14, z15, z16, z17, z18, z19, z20]
        rw [bitW_p]
        simp [h0]; exact (L2.2.2 e he).2.2.1
      · simp [up2_get, z1, z2, z3, z4, z5, z6, z7, z8, z9, z10, z11, z12, z13, z14, z15, z16, z17, z18, z19, z20]
        rw [bitW_c]
        simp [h0]; exact (L2.2.2 e he).2.2.2
    · intro b hb
      have b0 : b ≠ a := hb 0 (by omega)
      rw [up2_ne _ _ _ b0, up2_ne _ _ _ b0, up2_ne _ _ _ b0, up2_ne _ _ _ b0]
end
