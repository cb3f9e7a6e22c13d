/-! draws, the crust, evenings -/
section
variable {C M : HI} {a n : Nat} {W W' : Nat → Int32}
def crW (W : Nat → Int32) : Nat → Int32 := fun k => if k = 3 ∨ k = 4 then (if W 3 + 1 < 9999 then W 3 + 1 else 9999) else if k = 5 then W 5 / 2 else if k = 6 then 0 else if k = 7 then (if W 7 + 1 < 9999 then W 7 + 1 else 9999) else W k
def sdW (W : Nat → Int32) : Nat → Int32 := fun k => if k = 16 then 1103515245 * W 16 + 12345 else W k
theorem crW_ne {k : Nat} (h : k < 3 ∨ 7 < k) : crW W k = W k := by
  unfold crW
  rw [if_neg (by omega), if_neg (by omega), if_neg (by omega), if_neg (by omega)]
theorem sdW_ne {k : Nat} (h : k ≠ 16) : sdW W k = W k := by unfold sdW; rw [if_neg h]
theorem min_rg {x : Int32} (h : rg x 0 9999) : rg (if x + 1 < 9999 then x + 1 else 9999) 0 9999 := by
  obtain ⟨h1, h2⟩ := h
  have e : (x + 1).toInt = x.toInt + 1 := by rw [ti_add (by rw [ti_1]; omega) (by rw [ti_1]; omega), ti_1]
  split
  · rename_i q; rw [ti_lt, ti_9999] at q; exact ⟨by omega, by omega⟩
  · constructor <;> rw [ti_9999] <;> decide
theorem half_rg {x : Int32} (h : rg x 0 99) : rg (x / 2) 0 99 := by
  obtain ⟨h1, h2⟩ := h
  have e : x = Int32.ofNat x.toInt.toNat := by rw [ti_eq, ti_ofn (by omega)]; omega
  rw [e, show (2 : Int32) = Int32.ofNat 2 from rfl, ofn_div (by omega) (by omega) (by omega)]
  constructor <;> rw [ti_ofn (by omega)] <;> omega
theorem crW_ok (h : WOk n W) : WOk n (crW W) := by
  obtain ⟨⟨d1, d2, d3⟩, w1, w3, w4, w5, w7, w8, w9, w10, w11, w12, w13, w14, w15⟩ := h
  refine ⟨⟨?_, d2, fun e he => ⟨fun k hk => ?_, ?_, ?_, ?_⟩⟩, ?_, min_rg w3, min_rg w3, half_rg w5, min_rg w7, ?_, ?_, ?_, ?_, ?_, ?_, ?_, ?_⟩
  all_goals first | rw [crW_ne (by omega)] | skip
  · exact d1
  · exact (d3 e he).1 k hk
  · exact (d3 e he).2.1
  · exact (d3 e he).2.2.1
  · exact (d3 e he).2.2.2
  · exact w1
  · exact w8
  · exact w9
  · exact w10
  · exact w11
  · exact w12
  · exact w13
  · exact w14
  · exact w15
theorem sdW_ok (h : WOk n W) : WOk n (sdW W) := by
  obtain ⟨⟨d1, d2, d3⟩, w1, w3, w4, w5, w7, w8, w9, w10, w11, w12, w13, w14, w15⟩ := h
  refine ⟨⟨?_, d2, fun e he => ⟨fun k hk => ?_, ?_, ?_, ?_⟩⟩, ?_, ?_, ?_, ?_, ?_, ?_, ?_, ?_, ?_, ?_, ?_, ?_, ?_⟩
  all_goals first | rw [sdW_ne (by omega)] | skip
  · exact d1
  · exact (d3 e he).1 k hk
  · exact (d3 e he).2.1
  · exact (d3 e he).2.2.1
  · exact (d3 e he).2.2.2
  · exact w1
  · exact w3
  · exact w4
  · exact w5
  · exact w7
  · exact w8
  · exact w9
  · exact w10
  · exact w11
  · exact w12
  · exact w13
  · exact w14
  · exact w15
theorem cl_comeBack (hL : LR C a W) : ∃ C', F_X3_comeBack C a = some C' ∧ LR C' a (crW W) ∧ ∀ b, b ≠ a → C' b = C b := by
  unfold F_X3_comeBack
  refine ⟨_, rfl, ?_, fun b hb => by rw [up2_ne _ _ _ hb, up2_ne _ _ _ hb, up2_ne _ _ _ hb, up2_ne _ _ _ hb, up2_ne _ _ _ hb]⟩
  obtain ⟨⟨l1, l2, l3, l4, l5, l6, l7, l8, l9, l10, l11, l12, l13, l14⟩, hD⟩ := hL
  refine ⟨⟨?_, ?_, ?_, ?_, ?_, ?_, ?_, ?_, ?_, ?_, ?_, ?_, ?_, ?_⟩, ?_⟩
  · simp [up2_get]; rw [l1]; rfl
  · simp [up2_get]; rw [l2]; rfl
  · simp [up2_get]; rw [l2]; rfl
  · simp [up2_get]; rw [l4]; rfl
  · simp [up2_get]; rfl
  · simp [up2_get]; rw [l6]; rfl
  · simp [up2_get]; rw [l7]; rfl
  · simp [up2_get]; rw [l8]; rfl
  · simp [up2_get]; rw [l9]; rfl
  · simp [up2_get]; rw [l10]; rfl
  · simp [up2_get]; rw [l11]; rfl
  · simp [up2_get]; rw [l12]; rfl
  · simp [up2_get]; rw [l13]; rfl
  · simp [up2_get]; rw [l14]; rfl
  · have hD2 := hD.congr (C' := up2 (up2 (up2 (up2 (up2 C a 2 (if ((C a 2) + (1 : Int32)) < (9999 : Int32) then ((C a 2) + (1 : Int32)) else (9999 : Int32))) a 3 (if ((C a 2) + (1 : Int32)) < (9999 : Int32) then ((C a 2) + (1 : Int32)) else (9999 : Int32))) a 4 ((C a 4) / (2 : Int32))) a 5 (0 : Int32)) a 6 (if ((C a 6) + (1 : Int32)) < (9999 : Int32) then ((C a 6) + (1 : Int32)) else (9999 : Int32))) (fun j hj => by rw [up2_ne _ _ _ (by omega), up2_ne _ _ _ (by omega), up2_ne _ _ _ (by omega), up2_ne _ _ _ (by omega), up2_ne _ _ _ (by omega)])
    refine ⟨by rw [crW_ne (by omega)]; exact hD2.1, fun d hd => ⟨fun k hk => ?_, ?_, ?_, ?_⟩⟩
    · rw [crW_ne (by omega)]; exact (hD2.2 d hd).1 k hk
    · rw [crW_ne (by omega)]; exact (hD2.2 d hd).2.1
    · rw [crW_ne (by omega)]; exact (hD2.2 d hd).2.2.1
    · rw [crW_ne (by omega)]; exact (hD2.2 d hd).2.2.2
theorem m_crusts (M : HI) : ∃ M', F_X12_crusts M = some M' ∧ M' 206 = crW (M 206) ∧ ∀ b, b ≠ 206 → M' b = M b := by
  unfold F_X12_crusts
  refine ⟨_, rfl, ?_, fun b hb => by rw [up2_ne _ _ _ hb, up2_ne _ _ _ hb, up2_ne _ _ _ hb, up2_ne _ _ _ hb, up2_ne _ _ _ hb]⟩
  funext k
  simp only [up2_get, true_and]
  unfold crW
  by_cases k7 : k = 7
  · subst k7; simp
  · by_cases k6 : k = 6
    · subst k6; simp
    · by_cases k5 : k = 5
      · subst k5; simp
      · by_cases k4 : k = 4
        · subst k4; simp
        · by_cases k3 : k = 3
          · subst k3; simp
          · simp [k3, k4, k5, k6, k7]
/-- what a draw gives -/
def drw (x : Int32) : Int32 := ((1103515245 * x + 12345) >>> ((16 : Int32) &&& 31)) &&& (32767 : Int32)
theorem sh16 (y : Int32) : ((y).toUInt32 >>> (((16 : Int32)).toUInt32 &&& Int32.toUInt32 31)).toInt32 &&& (32767 : Int32) = (y >>> ((16 : Int32) &&& 31)) &&& (32767 : Int32) := by
  apply tb_ext
  intro j hj
  rw [tb_and, tb_and]
  have hm : tb (32767 : Int32) j = decide (j < 15) := by
    have : ∀ j, j < 32 → tb (32767 : Int32) j = decide (j < 15) := by decide +kernel
    exact this j hj
  rw [hm]
  by_cases h : j < 15
  · simp only [h, decide_true, Bool.and_true]
    unfold tb
    rw [Int32.toBitVec_shiftRight, BitVec.sshiftRight_eq', BitVec.getLsbD_sshiftRight]
    have e1 : ((16 : Int32) &&& 31).toBitVec.smod 32 = 16#32 := by decide
    rw [e1]
    show ((y.toUInt32 >>> (((16 : Int32)).toUInt32 &&& Int32.toUInt32 31)).toBitVec).getLsbD j = _
    rw [UInt32.toBitVec_shiftRight, BitVec.ushiftRight_eq', BitVec.getLsbD_ushiftRight]
    have e2 : ((((16 : Int32)).toUInt32 &&& Int32.toUInt32 31).toBitVec % 32) = 16#32 := by decide
    rw [e2]
    have h2 : 16 + j < 32 := by omega
    simp [h2]
    intro h3
    omega
  · simp [h]
theorem drw_nat (x : Int32) : ∃ v, v < 32768 ∧ drw x = Int32.ofNat v := by
  unfold drw
  generalize ((1103515245 * x + 12345) >>> ((16 : Int32) &&& 31)) = y
  refine ⟨(y.toBitVec &&& 32767#32).toNat, ?_, ?_⟩
  · rw [BitVec.toNat_and]
    exact Nat.lt_succ_of_le Nat.and_le_right
  · apply Int32.toBitVec.inj
    rw [Int32.toBitVec_and, Int32.toBitVec_ofNat', BitVec.ofNat_toNat]
    simp
theorem cl_draw (hL : LR C a W) : ∃ C', F_X3_draw C a = some (drw (W 16), C') ∧ LR C' a (sdW W) ∧ ∀ b, b ≠ a → C' b = C b := by
  unfold F_X3_draw
  obtain ⟨⟨l1, l2, l3, l4, l5, l6, l7, l8, l9, l10, l11, l12, l13, l14⟩, hD⟩ := hL
  rw [l14, sh16]
  refine ⟨_, rfl, ?_, fun b hb => by rw [up2_ne _ _ _ hb]⟩
  refine ⟨⟨?_, ?_, ?_, ?_, ?_, ?_, ?_, ?_, ?_, ?_, ?_, ?_, ?_, ?_⟩, ?_⟩
  · simp [up2_get]; rw [l1]; rfl
  · simp [up2_get]; rw [l2]; rfl
  · simp [up2_get]; rw [l3]; rfl
  · simp [up2_get]; rw [l4]; rfl
  · simp [up2_get]; rw [l5]; rfl
  · simp [up2_get]; rw [l6]; rfl
  · simp [up2_get]; rw [l7]; rfl
  · simp [up2_get]; rw [l8]; rfl
  · simp [up2_get]; rw [l9]; rfl
  · simp [up2_get]; rw [l10]; rfl
  · simp [up2_get]; rw [l11]; rfl
  · simp [up2_get]; rw [l12]; rfl
  · simp [up2_get]; rw [l13]; rfl
  · simp [up2_get]; rfl
  · have hD2 := hD.congr (C' := up2 C a 14 (1103515245 * W 16 + 12345)) (fun j hj => by rw [up2_ne _ _ _ (by omega)])
    refine ⟨by rw [sdW_ne (by omega)]; exact hD2.1, fun d hd => ⟨fun k hk => ?_, ?_, ?_, ?_⟩⟩
    · rw [sdW_ne (by omega)]; exact (hD2.2 d hd).1 k hk
    · rw [sdW_ne (by omega)]; exact (hD2.2 d hd).2.1
    · rw [sdW_ne (by omega)]; exact (hD2.2 d hd).2.2.1
    · rw [sdW_ne (by omega)]; exact (hD2.2 d hd).2.2.2
theorem m_drawn (M : HI) {q : Nat} (hq : 0 < q) (hq2 : q < 2147483648) : ∃ M' v, v < 32768 ∧ drw (M 206 16) = Int32.ofNat v ∧ F_X12_drawn M (Int32.ofNat q) = some (Int32.ofNat (v % q), M') ∧ M' 206 = sdW (M 206) ∧ ∀ b, b ≠ 206 → M' b = M b := by
  obtain ⟨v, hv, hd⟩ := drw_nat (M 206 16)
  unfold F_X12_drawn
  rw [if_pos (by rw [show (0 : Int32) = Int32.ofNat 0 from rfl, ofn_eq (by omega) (by omega)]; omega)]
  refine ⟨up2 M 206 16 (1103515245 * M 206 16 + 12345), v, hv, hd, ?_, ?_, fun b hb => ?_⟩
  · have hd' : ((1103515245 * M 206 16 + 12345) >>> ((16 : Int32) &&& 31)) &&& (32767 : Int32) = Int32.ofNat v := hd
    rw [hd', ofn_mod (by omega) hq hq2]
  · funext k
    rw [up2_get]
    unfold sdW
    simp
  · rw [up2_ne _ _ _ hb]
end
