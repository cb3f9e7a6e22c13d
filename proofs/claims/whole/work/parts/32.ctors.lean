/-! the constructors -/
theorem zf0 : ZF 0 := by unfold ZF; decide +kernel
theorem zf1 : ZF 1 := by unfold ZF; decide +kernel
theorem zf2 : ZF 2 := by unfold ZF; decide +kernel
theorem zf3 : ZF 3 := by unfold ZF; decide +kernel
theorem zf4 : ZF 4 := by unfold ZF; decide +kernel
theorem zf5 : ZF 5 := by unfold ZF; decide +kernel
theorem zf6 : ZF 6 := by unfold ZF; decide +kernel
theorem zf7 : ZF 7 := by unfold ZF; decide +kernel
theorem zf8 : ZF 8 := by unfold ZF; decide +kernel
theorem zf9 : ZF 9 := by unfold ZF; decide +kernel
theorem zf10 : ZF 10 := by unfold ZF; decide +kernel
theorem zf11 : ZF 11 := by unfold ZF; decide +kernel
def lay_X1 (a : Nat) : Bool := decide (a + 5 ≤ 219) && decide (LT a = (1, 5)) && decide (LT (a + 1) = (13, 60)) && decide (LT (a + 2) = (13, 12)) && decide (LT (a + 3) = (13, 12)) && decide (LT (a + 4) = (13, 12))
def nI_X1 (a : Nat) (I : HI) : HI := (up2 I a 0 0)
def nP_X1 (a : Nat) (P : Nat → Nat → Option Nat) : Nat → Nat → Option Nat := (up2 (up2 (up2 (up2 P a 1 (some (a + 1))) a 2 (some (a + 2))) a 3 (some (a + 3))) a 4 (some (a + 4)))
theorem zr_X1 {a : Nat} {I : HI} {J : HJ} {P : Nat → Nat → Option Nat} (hz : zr (a + 1) I J P) : zr (a + 5) (nI_X1 a I) J (nP_X1 a P) := by
  have hz1 := hz.upI (a := a) (k := 0) (x := 0) (by show a < a + 1; omega)
  have hz2 := hz1.mono (Nat.le_succ _)
  have hz3 := hz2.upP (a := a) (k := 1) (x := some (a + 1)) (by show a < a + 2; omega)
  have hz4 := hz3.mono (Nat.le_succ _)
  have hz5 := hz4.upP (a := a) (k := 2) (x := some (a + 2)) (by show a < a + 3; omega)
  have hz6 := hz5.mono (Nat.le_succ _)
  have hz7 := hz6.upP (a := a) (k := 3) (x := some (a + 3)) (by show a < a + 4; omega)
  have hz8 := hz7.mono (Nat.le_succ _)
  have hz9 := hz8.upP (a := a) (k := 4) (x := some (a + 4)) (by show a < a + 5; omega)
  exact hz9
set_option maxRecDepth 4000 in
set_option maxHeartbeats 4000000 in
theorem K_X1 {g : gX} {d : Nat} {a : Nat} {I : HI} {J : HJ} {P : Nat → Nat → Option Nat} (h1 : 1 ≤ a) (hC : lay_X1 a = true) (hz : zr (a + 1) I J P) : Cm g mX1_init (d + 1) [.ref a] (a + 1, I, J, P) none (a + 5, nI_X1 a I, J, nP_X1 a P) := by
  have hL := hC
  simp only [lay_X1, Bool.and_eq_true, decide_eq_true_eq] at hL
  obtain ⟨⟨⟨⟨⟨hN, hL0⟩, hL1⟩, hL2⟩, hL3⟩, hL4⟩ := hL
  refine Cm.of (by decide) (by simp [Value.category]) (Nat.le_of_ble_eq_true rfl) (by show a + 1 ≤ a + 5; omega) (ls := [some (.ref a)]) rfl ?_
  refine M_aload_n (pc := 0) dX1_init_0 rfl ?_
  refine M_objInit (pc := 1) dX1_init_1 w_48 rfl ?_
  refine M_aload_n (pc := 4) dX1_init_4 rfl ?_
  refine M_iconst (pc := 5) (v := 0) dX1_init_5 (by decide) ?_
  refine M_putI (pc := 6) (t := a + 1) dX1_init_6 f_X1_9 (⟨h1, by show a < a + 1; omega, hL0, by decide⟩ : OB (a + 1) a 1) rfl ⟨rfl, rfl⟩ ?_
  have hz1 := hz.upI (a := a) (k := 0) (x := 0) (by show a < a + 1; omega)
  refine M_aload_n (pc := 9) dX1_init_9 rfl ?_
  refine M_bipush (pc := 10) (v := 60) dX1_init_10 (by decide) ?_
  refine M_newaI (pc := 12) (t := a + 1) (n := 60) dX1_init_12 w_78 ⟨by decide, by decide⟩ (by decide) hL1 (by show a + 1 < a + 5; omega) (by show a + 1 < 219; omega) hz1 ?_
  have hz2 := hz1.mono (Nat.le_succ _)
  refine M_putRF (pc := 14) (t := a + 2) (b := a + 1) dX1_init_14 f_X1_15 (⟨h1, by show a < a + 2; omega, hL0, by decide⟩ : OB (a + 2) a 1) rfl rfl rfl ?_
  have hz3 := hz2.upP (a := a) (k := 1) (x := some (a + 1)) (by show a < a + 2; omega)
  refine M_aload_n (pc := 17) dX1_init_17 rfl ?_
  refine M_bipush (pc := 18) (v := 12) dX1_init_18 (by decide) ?_
  refine M_newaI (pc := 20) (t := a + 2) (n := 12) dX1_init_20 w_78 ⟨by decide, by decide⟩ (by decide) hL2 (by show a + 2 < a + 5; omega) (by show a + 2 < 219; omega) hz3 ?_
  have hz4 := hz3.mono (Nat.le_succ _)
  refine M_putRF (pc := 22) (t := a + 3) (b := a + 2) dX1_init_22 f_X1_19 (⟨h1, by show a < a + 3; omega, hL0, by decide⟩ : OB (a + 3) a 1) rfl rfl rfl ?_
  have hz5 := hz4.upP (a := a) (k := 2) (x := some (a + 2)) (by show a < a + 3; omega)
  refine M_aload_n (pc := 25) dX1_init_25 rfl ?_
  refine M_bipush (pc := 26) (v := 12) dX1_init_26 (by decide) ?_
  refine M_newaI (pc := 28) (t := a + 3) (n := 12) dX1_init_28 w_78 ⟨by decide, by decide⟩ (by decide) hL3 (by show a + 3 < a + 5; omega) (by show a + 3 < 219; omega) hz5 ?_
  have hz6 := hz5.mono (Nat.le_succ _)
  refine M_putRF (pc := 30) (t := a + 4) (b := a + 3) dX1_init_30 f_X1_22 (⟨h1, by show a < a + 4; omega, hL0, by decide⟩ : OB (a + 4) a 1) rfl rfl rfl ?_
  have hz7 := hz6.upP (a := a) (k := 3) (x := some (a + 3)) (by show a < a + 4; omega)
  refine M_aload_n (pc := 33) dX1_init_33 rfl ?_
  refine M_bipush (pc := 34) (v := 12) dX1_init_34 (by decide) ?_
  refine M_newaI (pc := 36) (t := a + 4) (n := 12) dX1_init_36 w_78 ⟨by decide, by decide⟩ (by decide) hL4 (by show a + 4 < a + 5; omega) (by show a + 4 < 219; omega) hz7 ?_
  have hz8 := hz7.mono (Nat.le_succ _)
  refine M_putRF (pc := 38) (t := a + 5) (b := a + 4) dX1_init_38 f_X1_25 (⟨h1, by show a < a + 5; omega, hL0, by decide⟩ : OB (a + 5) a 1) rfl rfl rfl ?_
  have hz9 := hz8.upP (a := a) (k := 4) (x := some (a + 4)) (by show a < a + 5; omega)
  exact M_vret (pc := 41) dX1_init_41 rfl rfl rfl
theorem i_X3_11 : IF RX3 11 mX1_init := ⟨Or.inr nw_45, ⟨w_46, w_3, w_47⟩, ⟨by decide, by decide, by decide +kernel⟩, by decide, rfl, rfl⟩
def lay_X3 (a : Nat) : Bool := decide (a + 6 ≤ 219) && decide (LT a = (3, 15)) && decide (LT (a + 1) = (1, 5)) && decide (LT (a + 2) = (13, 60)) && decide (LT (a + 3) = (13, 12)) && decide (LT (a + 4) = (13, 12)) && decide (LT (a + 5) = (13, 12))
def nI_X3 (a : Nat) (I : HI) : HI := (up2 (up2 (up2 (up2 (up2 (up2 (up2 (up2 (up2 (up2 (up2 (up2 (up2 (up2 (nI_X1 (a + 1) I) a 1 0) a 2 500) a 3 500) a 4 0) a 5 0) a 6 0) a 7 5) a 8 0) a 9 0) a 10 0) a 11 0) a 12 1) a 13 0) a 14 1)
def nP_X3 (a : Nat) (P : Nat → Nat → Option Nat) : Nat → Nat → Option Nat := (up2 (nP_X1 (a + 1) P) a 0 (some (a + 1)))
theorem zr_X3 {a : Nat} {I : HI} {J : HJ} {P : Nat → Nat → Option Nat} (hz : zr (a + 1) I J P) : zr (a + 6) (nI_X3 a I) J (nP_X3 a P) := by
  have hz1 := hz.mono (Nat.le_succ _)
  have hz2 := zr_X1 (a := a + 1) hz1
  have hz3 := hz2.upP (a := a) (k := 0) (x := some (a + 1)) (by show a < a + 6; omega)
  have hz4 := hz3.upI (a := a) (k := 1) (x := 0) (by show a < a + 6; omega)
  have hz5 := hz4.upI (a := a) (k := 2) (x := 500) (by show a < a + 6; omega)
  have hz6 := hz5.upI (a := a) (k := 3) (x := 500) (by show a < a + 6; omega)
  have hz7 := hz6.upI (a := a) (k := 4) (x := 0) (by show a < a + 6; omega)
  have hz8 := hz7.upI (a := a) (k := 5) (x := 0) (by show a < a + 6; omega)
  have hz9 := hz8.upI (a := a) (k := 6) (x := 0) (by show a < a + 6; omega)
  have hz10 := hz9.upI (a := a) (k := 7) (x := 5) (by show a < a + 6; omega)
  have hz11 := hz10.upI (a := a) (k := 8) (x := 0) (by show a < a + 6; omega)
  have hz12 := hz11.upI (a := a) (k := 9) (x := 0) (by show a < a + 6; omega)
  have hz13 := hz12.upI (a := a) (k := 10) (x := 0) (by show a < a + 6; omega)
  have hz14 := hz13.upI (a := a) (k := 11) (x := 0) (by show a < a + 6; omega)
  have hz15 := hz14.upI (a := a) (k := 12) (x := 1) (by show a < a + 6; omega)
  have hz16 := hz15.upI (a := a) (k := 13) (x := 0) (by show a < a + 6; omega)
  have hz17 := hz16.upI (a := a) (k := 14) (x := 1) (by show a < a + 6; omega)
  exact hz17
set_option maxRecDepth 4000 in
set_option maxHeartbeats 4000000 in
theorem K_X3 {g : gX} {d : Nat} {a : Nat} {I : HI} {J : HJ} {P : Nat → Nat → Option Nat} (h1 : 1 ≤ a) (hC : lay_X3 a = true) (hz : zr (a + 1) I J P) : Cm g mX3_init (d + 2) [.ref a] (a + 1, I, J, P) none (a + 6, nI_X3 a I, J, nP_X3 a P) := by
  have hL := hC
  simp only [lay_X3, Bool.and_eq_true, decide_eq_true_eq] at hL
  obtain ⟨⟨⟨⟨⟨⟨hN, hL0⟩, hL1⟩, hL2⟩, hL3⟩, hL4⟩, hL5⟩ := hL
  have hC1 : lay_X1 (a + 1) = true := by
    simp only [lay_X1, Bool.and_eq_true, decide_eq_true_eq]
    exact ⟨⟨⟨⟨⟨by omega, hL1⟩, hL2⟩, hL3⟩, hL4⟩, hL5⟩
  refine Cm.of (by decide) (by simp [Value.category]) (Nat.le_of_ble_eq_true rfl) (by show a + 1 ≤ a + 6; omega) (ls := [some (.ref a)]) rfl ?_
  refine M_aload_n (pc := 0) dX3_init_0 rfl ?_
  refine M_objInit (pc := 1) dX3_init_1 w_42 rfl ?_
  refine M_aload_n (pc := 4) dX3_init_4 rfl ?_
  refine M_new (pc := 5) (t := a + 1) (c := 1) dX3_init_5 cf1 zf1 (by decide) w_43 hL1 (by show a + 1 < a + 6; omega) (by show a + 1 < 219; omega) hz ?_
  have hz1 := hz.mono (Nat.le_succ _)
  refine M_dup (pc := 8) dX3_init_8 rfl ?_
  refine M_callI (pc := 9) dX3_init_9 i_X3_11 (Nat.le_of_ble_eq_true rfl) (K_X1 (d := d + 0) (a := a + 1) (by show 1 ≤ a + 1; omega) hC1 hz1) (by show a + 6 ≤ a + 6; omega) ?_
  have hz2 := zr_X1 (a := a + 1) hz1
  refine M_putRF (pc := 12) (t := a + 6) (b := a + 1) dX3_init_12 f_X3_12 (⟨h1, by show a < a + 6; omega, hL0, by decide⟩ : OB (a + 6) a 3) rfl rfl rfl ?_
  have hz3 := hz2.upP (a := a) (k := 0) (x := some (a + 1)) (by show a < a + 6; omega)
  refine M_aload_n (pc := 15) dX3_init_15 rfl ?_
  refine M_iconst (pc := 16) (v := 0) dX3_init_16 (by decide) ?_
  refine M_putI (pc := 17) (t := a + 6) dX3_init_17 f_X3_18 (⟨h1, by show a < a + 6; omega, hL0, by decide⟩ : OB (a + 6) a 3) rfl ⟨rfl, rfl⟩ ?_
  have hz4 := hz3.upI (a := a) (k := 1) (x := 0) (by show a < a + 6; omega)
  refine M_aload_n (pc := 20) dX3_init_20 rfl ?_
  refine M_sipush (pc := 21) (v := 500) dX3_init_21 (by decide) ?_
  refine M_putI (pc := 24) (t := a + 6) dX3_init_24 f_X3_22 (⟨h1, by show a < a + 6; omega, hL0, by decide⟩ : OB (a + 6) a 3) rfl ⟨rfl, rfl⟩ ?_
  have hz5 := hz4.upI (a := a) (k := 2) (x := 500) (by show a < a + 6; omega)
  refine M_aload_n (pc := 27) dX3_init_27 rfl ?_
  refine M_sipush (pc := 28) (v := 500) dX3_init_28 (by decide) ?_
  refine M_putI (pc := 31) (t := a + 6) dX3_init_31 f_X3_25 (⟨h1, by show a < a + 6; omega, hL0, by decide⟩ : OB (a + 6) a 3) rfl ⟨rfl, rfl⟩ ?_
  have hz6 := hz5.upI (a := a) (k := 3) (x := 500) (by show a < a + 6; omega)
  refine M_aload_n (pc := 34) dX3_init_34 rfl ?_
  refine M_iconst (pc := 35) (v := 0) dX3_init_35 (by decide) ?_
  refine M_putI (pc := 36) (t := a + 6) dX3_init_36 f_X3_28 (⟨h1, by show a < a + 6; omega, hL0, by decide⟩ : OB (a + 6) a 3) rfl ⟨rfl, rfl⟩ ?_
  have hz7 := hz6.upI (a := a) (k := 4) (x := 0) (by show a < a + 6; omega)
  refine M_aload_n (pc := 39) dX3_init_39 rfl ?_
  refine M_iconst (pc := 40) (v := 0) dX3_init_40 (by decide) ?_
  refine M_putI (pc := 41) (t := a + 6) dX3_init_41 f_X3_31 (⟨h1, by show a < a + 6; omega, hL0, by decide⟩ : OB (a + 6) a 3) rfl ⟨rfl, rfl⟩ ?_
  have hz8 := hz7.upI (a := a) (k := 5) (x := 0) (by show a < a + 6; omega)
  refine M_aload_n (pc := 44) dX3_init_44 rfl ?_
  refine M_iconst (pc := 45) (v := 0) dX3_init_45 (by decide) ?_
  refine M_putI (pc := 46) (t := a + 6) dX3_init_46 f_X3_34 (⟨h1, by show a < a + 6; omega, hL0, by decide⟩ : OB (a + 6) a 3) rfl ⟨rfl, rfl⟩ ?_
  have hz9 := hz8.upI (a := a) (k := 6) (x := 0) (by show a < a + 6; omega)
  refine M_aload_n (pc := 49) dX3_init_49 rfl ?_
  refine M_iconst (pc := 50) (v := 5) dX3_init_50 (by decide) ?_
  refine M_putI (pc := 51) (t := a + 6) dX3_init_51 f_X3_37 (⟨h1, by show a < a + 6; omega, hL0, by decide⟩ : OB (a + 6) a 3) rfl ⟨rfl, rfl⟩ ?_
  have hz10 := hz9.upI (a := a) (k := 7) (x := 5) (by show a < a + 6; omega)
  refine M_aload_n (pc := 54) dX3_init_54 rfl ?_
  refine M_iconst (pc := 55) (v := 0) dX3_init_55 (by decide) ?_
  refine M_putI (pc := 56) (t := a + 6) dX3_init_56 f_X3_40 (⟨h1, by show a < a + 6; omega, hL0, by decide⟩ : OB (a + 6) a 3) rfl ⟨rfl, rfl⟩ ?_
  have hz11 := hz10.upI (a := a) (k := 8) (x := 0) (by show a < a + 6; omega)
  refine M_aload_n (pc := 59) dX3_init_59 rfl ?_
  refine M_iconst (pc := 60) (v := 0) dX3_init_60 (by decide) ?_
  refine M_putI (pc := 61) (t := a + 6) dX3_init_61 f_X3_43 (⟨h1, by show a < a + 6; omega, hL0, by decide⟩ : OB (a + 6) a 3) rfl ⟨rfl, rfl⟩ ?_
  have hz12 := hz11.upI (a := a) (k := 9) (x := 0) (by show a < a + 6; omega)
  refine M_aload_n (pc := 64) dX3_init_64 rfl ?_
  refine M_iconst (pc := 65) (v := 0) dX3_init_65 (by decide) ?_
  refine M_putI (pc := 66) (t := a + 6) dX3_init_66 f_X3_46 (⟨h1, by show a < a + 6; omega, hL0, by decide⟩ : OB (a + 6) a 3) rfl ⟨rfl, rfl⟩ ?_
  have hz13 := hz12.upI (a := a) (k := 10) (x := 0) (by show a < a + 6; omega)
  refine M_aload_n (pc := 69) dX3_init_69 rfl ?_
  refine M_iconst (pc := 70) (v := 0) dX3_init_70 (by decide) ?_
  refine M_putI (pc := 71) (t := a + 6) dX3_init_71 f_X3_49 (⟨h1, by show a < a + 6; omega, hL0, by decide⟩ : OB (a + 6) a 3) rfl ⟨rfl, rfl⟩ ?_
  have hz14 := hz13.upI (a := a) (k := 11) (x := 0) (by show a < a + 6; omega)
  refine M_aload_n (pc := 74) dX3_init_74 rfl ?_
  refine M_iconst (pc := 75) (v := 1) dX3_init_75 (by decide) ?_
  refine M_putI (pc := 76) (t := a + 6) dX3_init_76 f_X3_52 (⟨h1, by show a < a + 6; omega, hL0, by decide⟩ : OB (a + 6) a 3) rfl ⟨rfl, rfl⟩ ?_
  have hz15 := hz14.upI (a := a) (k := 12) (x := 1) (by show a < a + 6; omega)
  refine M_aload_n (pc := 79) dX3_init_79 rfl ?_
  refine M_iconst (pc := 80) (v := 0) dX3_init_80 (by decide) ?_
  refine M_putI (pc := 81) (t := a + 6) dX3_init_81 f_X3_55 (⟨h1, by show a < a + 6; omega, hL0, by decide⟩ : OB (a + 6) a 3) rfl ⟨rfl, rfl⟩ ?_
  have hz16 := hz15.upI (a := a) (k := 13) (x := 0) (by show a < a + 6; omega)
  refine M_aload_n (pc := 84) dX3_init_84 rfl ?_
  refine M_iconst (pc := 85) (v := 1) dX3_init_85 (by decide) ?_
  refine M_putI (pc := 86) (t := a + 6) dX3_init_86 f_X3_58 (⟨h1, by show a < a + 6; omega, hL0, by decide⟩ : OB (a + 6) a 3) rfl ⟨rfl, rfl⟩ ?_
  have hz17 := hz16.upI (a := a) (k := 14) (x := 1) (by show a < a + 6; omega)
  exact M_vret (pc := 89) dX3_init_89 rfl rfl rfl
def lay_X4 (a : Nat) : Bool := decide (a + 6 ≤ 219) && decide (LT a = (4, 7)) && decide (LT (a + 1) = (13, 12)) && decide (LT (a + 2) = (13, 12)) && decide (LT (a + 3) = (13, 12)) && decide (LT (a + 4) = (13, 400)) && decide (LT (a + 5) = (13, 64))
def nI_X4 (a : Nat) (I : HI) : HI := (up2 (up2 I a 0 (-1)) a 5 0)
def nP_X4 (a : Nat) (P : Nat → Nat → Option Nat) : Nat → Nat → Option Nat := (up2 (up2 (up2 (up2 (up2 P a 1 (some (a + 1))) a 2 (some (a + 2))) a 3 (some (a + 3))) a 4 (some (a + 4))) a 6 (some (a + 5)))
theorem zr_X4 {a : Nat} {I : HI} {J : HJ} {P : Nat → Nat → Option Nat} (hz : zr (a + 1) I J P) : zr (a + 6) (nI_X4 a I) J (nP_X4 a P) := by
  have hz1 := hz.upI (a := a) (k := 0) (x := -1) (by show a < a + 1; omega)
  have hz2 := hz1.mono (Nat.le_succ _)
  have hz3 := hz2.upP (a := a) (k := 1) (x := some (a + 1)) (by show a < a + 2; omega)
  have hz4 := hz3.mono (Nat.le_succ _)
  have hz5 := hz4.upP (a := a) (k := 2) (x := some (a + 2)) (by show a < a + 3; omega)
  have hz6 := hz5.mono (Nat.le_succ _)
  have hz7 := hz6.upP (a := a) (k := 3) (x := some (a + 3)) (by show a < a + 4; omega)
  have hz8 := hz7.mono (Nat.le_succ _)
  have hz9 := hz8.upP (a := a) (k := 4) (x := some (a + 4)) (by show a < a + 5; omega)
  have hz10 := hz9.upI (a := a) (k := 5) (x := 0) (by show a < a + 5; omega)
  have hz11 := hz10.mono (Nat.le_succ _)
  have hz12 := hz11.upP (a := a) (k := 6) (x := some (a + 5)) (by show a < a + 6; omega)
  exact hz12
set_option maxRecDepth 4000 in
set_option maxHeartbeats 4000000 in
theorem K_X4 {g : gX} {d : Nat} {a : Nat} {I : HI} {J : HJ} {P : Nat → Nat → Option Nat} (h1 : 1 ≤ a) (hC : lay_X4 a = true) (hz : zr (a + 1) I J P) : Cm g mX4_init (d + 1) [.ref a] (a + 1, I, J, P) none (a + 6, nI_X4 a I, J, nP_X4 a P) := by
  have hL := hC
  simp only [lay_X4, Bool.and_eq_true, decide_eq_true_eq] at hL
  obtain ⟨⟨⟨⟨⟨⟨hN, hL0⟩, hL1⟩, hL2⟩, hL3⟩, hL4⟩, hL5⟩ := hL
  refine Cm.of (by decide) (by simp [Value.category]) (Nat.le_of_ble_eq_true rfl) (by show a + 1 ≤ a + 6; omega) (ls := [some (.ref a)]) rfl ?_
  refine M_aload_n (pc := 0) dX4_init_0 rfl ?_
  refine M_objInit (pc := 1) dX4_init_1 w_164 rfl ?_
  refine M_aload_n (pc := 4) dX4_init_4 rfl ?_
  refine M_iconst (pc := 5) (v := -1) dX4_init_5 (by decide) ?_
  refine M_putI (pc := 6) (t := a + 1) dX4_init_6 f_X4_9 (⟨h1, by show a < a + 1; omega, hL0, by decide⟩ : OB (a + 1) a 4) rfl ⟨rfl, rfl⟩ ?_
  have hz1 := hz.upI (a := a) (k := 0) (x := -1) (by show a < a + 1; omega)
  refine M_aload_n (pc := 9) dX4_init_9 rfl ?_
  refine M_bipush (pc := 10) (v := 12) dX4_init_10 (by decide) ?_
  refine M_newaI (pc := 12) (t := a + 1) (n := 12) dX4_init_12 w_78 ⟨by decide, by decide⟩ (by decide) hL1 (by show a + 1 < a + 6; omega) (by show a + 1 < 219; omega) hz1 ?_
  have hz2 := hz1.mono (Nat.le_succ _)
  refine M_putRF (pc := 14) (t := a + 2) (b := a + 1) dX4_init_14 f_X4_15 (⟨h1, by show a < a + 2; omega, hL0, by decide⟩ : OB (a + 2) a 4) rfl rfl rfl ?_
  have hz3 := hz2.upP (a := a) (k := 1) (x := some (a + 1)) (by show a < a + 2; omega)
  refine M_aload_n (pc := 17) dX4_init_17 rfl ?_
  refine M_bipush (pc := 18) (v := 12) dX4_init_18 (by decide) ?_
  refine M_newaI (pc := 20) (t := a + 2) (n := 12) dX4_init_20 w_78 ⟨by decide, by decide⟩ (by decide) hL2 (by show a + 2 < a + 6; omega) (by show a + 2 < 219; omega) hz3 ?_
  have hz4 := hz3.mono (Nat.le_succ _)
  refine M_putRF (pc := 22) (t := a + 3) (b := a + 2) dX4_init_22 f_X4_19 (⟨h1, by show a < a + 3; omega, hL0, by decide⟩ : OB (a + 3) a 4) rfl rfl rfl ?_
  have hz5 := hz4.upP (a := a) (k := 2) (x := some (a + 2)) (by show a < a + 3; omega)
  refine M_aload_n (pc := 25) dX4_init_25 rfl ?_
  refine M_bipush (pc := 26) (v := 12) dX4_init_26 (by decide) ?_
  refine M_newaI (pc := 28) (t := a + 3) (n := 12) dX4_init_28 w_78 ⟨by decide, by decide⟩ (by decide) hL3 (by show a + 3 < a + 6; omega) (by show a + 3 < 219; omega) hz5 ?_
  have hz6 := hz5.mono (Nat.le_succ _)
  refine M_putRF (pc := 30) (t := a + 4) (b := a + 3) dX4_init_30 f_X4_22 (⟨h1, by show a < a + 4; omega, hL0, by decide⟩ : OB (a + 4) a 4) rfl rfl rfl ?_
  have hz7 := hz6.upP (a := a) (k := 3) (x := some (a + 3)) (by show a < a + 4; omega)
  refine M_aload_n (pc := 33) dX4_init_33 rfl ?_
  refine M_sipush (pc := 34) (v := 400) dX4_init_34 (by decide) ?_
  refine M_newaI (pc := 37) (t := a + 4) (n := 400) dX4_init_37 w_78 ⟨by decide, by decide⟩ (by decide) hL4 (by show a + 4 < a + 6; omega) (by show a + 4 < 219; omega) hz7 ?_
  have hz8 := hz7.mono (Nat.le_succ _)
  refine M_putRF (pc := 39) (t := a + 5) (b := a + 4) dX4_init_39 f_X4_25 (⟨h1, by show a < a + 5; omega, hL0, by decide⟩ : OB (a + 5) a 4) rfl rfl rfl ?_
  have hz9 := hz8.upP (a := a) (k := 4) (x := some (a + 4)) (by show a < a + 5; omega)
  refine M_aload_n (pc := 42) dX4_init_42 rfl ?_
  refine M_iconst (pc := 43) (v := 0) dX4_init_43 (by decide) ?_
  refine M_putI (pc := 44) (t := a + 5) dX4_init_44 f_X4_28 (⟨h1, by show a < a + 5; omega, hL0, by decide⟩ : OB (a + 5) a 4) rfl ⟨rfl, rfl⟩ ?_
  have hz10 := hz9.upI (a := a) (k := 5) (x := 0) (by show a < a + 5; omega)
  refine M_aload_n (pc := 47) dX4_init_47 rfl ?_
  refine M_bipush (pc := 48) (v := 64) dX4_init_48 (by decide) ?_
  refine M_newaI (pc := 50) (t := a + 5) (n := 64) dX4_init_50 w_78 ⟨by decide, by decide⟩ (by decide) hL5 (by show a + 5 < a + 6; omega) (by show a + 5 < 219; omega) hz10 ?_
  have hz11 := hz10.mono (Nat.le_succ _)
  refine M_putRF (pc := 52) (t := a + 6) (b := a + 5) dX4_init_52 f_X4_31 (⟨h1, by show a < a + 6; omega, hL0, by decide⟩ : OB (a + 6) a 4) rfl rfl rfl ?_
  have hz12 := hz11.upP (a := a) (k := 6) (x := some (a + 5)) (by show a < a + 6; omega)
  exact M_vret (pc := 55) dX4_init_55 rfl rfl rfl
def lay_X7 (a : Nat) : Bool := decide (a + 2 ≤ 219) && decide (LT a = (7, 3)) && decide (LT (a + 1) = (13, 240))
def nI_X7 (a : Nat) (I : HI) : HI := (up2 (up2 I a 0 0) a 1 0)
def nP_X7 (a : Nat) (P : Nat → Nat → Option Nat) : Nat → Nat → Option Nat := (up2 P a 2 (some (a + 1)))
theorem zr_X7 {a : Nat} {I : HI} {J : HJ} {P : Nat → Nat → Option Nat} (hz : zr (a + 1) I J P) : zr (a + 2) (nI_X7 a I) J (nP_X7 a P) := by
  have hz1 := hz.upI (a := a) (k := 0) (x := 0) (by show a < a + 1; omega)
  have hz2 := hz1.upI (a := a) (k := 1) (x := 0) (by show a < a + 1; omega)
  have hz3 := hz2.mono (Nat.le_succ _)
  have hz4 := hz3.upP (a := a) (k := 2) (x := some (a + 1)) (by show a < a + 2; omega)
  exact hz4
set_option maxRecDepth 4000 in
set_option maxHeartbeats 4000000 in
theorem K_X7 {g : gX} {d : Nat} {a : Nat} {I : HI} {J : HJ} {P : Nat → Nat → Option Nat} (h1 : 1 ≤ a) (hC : lay_X7 a = true) (hz : zr (a + 1) I J P) : Cm g mX7_init (d + 1) [.ref a] (a + 1, I, J, P) none (a + 2, nI_X7 a I, J, nP_X7 a P) := by
  have hL := hC
  simp only [lay_X7, Bool.and_eq_true, decide_eq_true_eq] at hL
  obtain ⟨⟨hN, hL0⟩, hL1⟩ := hL
  refine Cm.of (by decide) (by simp [Value.category]) (Nat.le_of_ble_eq_true rfl) (by show a + 1 ≤ a + 2; omega) (ls := [some (.ref a)]) rfl ?_
  refine M_aload_n (pc := 0) dX7_init_0 rfl ?_
  refine M_objInit (pc := 1) dX7_init_1 w_193 rfl ?_
  refine M_aload_n (pc := 4) dX7_init_4 rfl ?_
  refine M_iconst (pc := 5) (v := 0) dX7_init_5 (by decide) ?_
  refine M_putI (pc := 6) (t := a + 1) dX7_init_6 f_X7_9 (⟨h1, by show a < a + 1; omega, hL0, by decide⟩ : OB (a + 1) a 7) rfl ⟨rfl, rfl⟩ ?_
  have hz1 := hz.upI (a := a) (k := 0) (x := 0) (by show a < a + 1; omega)
  refine M_aload_n (pc := 9) dX7_init_9 rfl ?_
  refine M_iconst (pc := 10) (v := 0) dX7_init_10 (by decide) ?_
  refine M_putI (pc := 11) (t := a + 1) dX7_init_11 f_X7_15 (⟨h1, by show a < a + 1; omega, hL0, by decide⟩ : OB (a + 1) a 7) rfl ⟨rfl, rfl⟩ ?_
  have hz2 := hz1.upI (a := a) (k := 1) (x := 0) (by show a < a + 1; omega)
  refine M_aload_n (pc := 14) dX7_init_14 rfl ?_
  refine M_sipush (pc := 15) (v := 240) dX7_init_15 (by decide) ?_
  refine M_newaI (pc := 18) (t := a + 1) (n := 240) dX7_init_18 w_78 ⟨by decide, by decide⟩ (by decide) hL1 (by show a + 1 < a + 2; omega) (by show a + 1 < 219; omega) hz2 ?_
  have hz3 := hz2.mono (Nat.le_succ _)
  refine M_putRF (pc := 20) (t := a + 2) (b := a + 1) dX7_init_20 f_X7_18 (⟨h1, by show a < a + 2; omega, hL0, by decide⟩ : OB (a + 2) a 7) rfl rfl rfl ?_
  have hz4 := hz3.upP (a := a) (k := 2) (x := some (a + 1)) (by show a < a + 2; omega)
  exact M_vret (pc := 23) dX7_init_23 rfl rfl rfl
theorem i_X0_28 : IF RX0 28 mX3_init := ⟨Or.inr nw_215, ⟨w_40, w_2, w_41⟩, ⟨by decide, by decide, by decide +kernel⟩, by decide, rfl, rfl⟩
theorem i_X0_29 : IF RX0 29 mX7_init := ⟨Or.inr nw_216, ⟨w_191, w_5, w_192⟩, ⟨by decide, by decide, by decide +kernel⟩, by decide, rfl, rfl⟩
def nI_X0 (I : HI) : HI := (nI_X7 114 (nI_X3 108 (nI_X7 106 (nI_X3 100 (nI_X7 98 (nI_X3 92 (nI_X7 90 (nI_X3 84 (nI_X7 82 (nI_X3 76 (nI_X7 74 (nI_X3 68 (nI_X7 66 (nI_X3 60 (nI_X7 58 (nI_X3 52 (nI_X7 50 (nI_X3 44 (nI_X7 42 (nI_X3 36 (nI_X7 34 (nI_X3 28 (nI_X7 26 (nI_X3 20 (up2 (up2 I 17 0 0) 17 1 0)))))))))))))))))))))))))
def nP_X0 (P : Nat → Nat → Option Nat) : Nat → Nat → Option Nat := (up2 (nP_X7 114 (up2 (nP_X3 108 (up2 (nP_X7 106 (up2 (nP_X3 100 (up2 (nP_X7 98 (up2 (nP_X3 92 (up2 (nP_X7 90 (up2 (nP_X3 84 (up2 (nP_X7 82 (up2 (nP_X3 76 (up2 (nP_X7 74 (up2 (nP_X3 68 (up2 (nP_X7 66 (up2 (nP_X3 60 (up2 (nP_X7 58 (up2 (nP_X3 52 (up2 (nP_X7 50 (up2 (nP_X3 44 (up2 (nP_X7 42 (up2 (nP_X3 36 (up2 (nP_X7 34 (up2 (nP_X3 28 (up2 (nP_X7 26 (up2 (nP_X3 20 (up2 (up2 P 17 2 (some 18)) 17 3 (some 19))) 18 (Int32.toNatClampNeg 0) (some 20))) 19 (Int32.toNatClampNeg 0) (some 26))) 18 (Int32.toNatClampNeg 1) (some 28))) 19 (Int32.toNatClampNeg 1) (some 34))) 18 (Int32.toNatClampNeg 2) (some 36))) 19 (Int32.toNatClampNeg 2) (some 42))) 18 (Int32.toNatClampNeg 3) (some 44))) 19 (Int32.toNatClampNeg 3) (some 50))) 18 (Int32.toNatClampNeg 4) (some 52))) 19 (Int32.toNatClampNeg 4) (some 58))) 18 (Int32.toNatClampNeg 5) (some 60))) 19 (Int32.toNatClampNeg 5) (some 66))) 18 (Int32.toNatClampNeg 6) (some 68))) 19 (Int32.toNatClampNeg 6) (some 74))) 18 (Int32.toNatClampNeg 7) (some 76))) 19 (Int32.toNatClampNeg 7) (some 82))) 18 (Int32.toNatClampNeg 8) (some 84))) 19 (Int32.toNatClampNeg 8) (some 90))) 18 (Int32.toNatClampNeg 9) (some 92))) 19 (Int32.toNatClampNeg 9) (some 98))) 18 (Int32.toNatClampNeg 10) (some 100))) 19 (Int32.toNatClampNeg 10) (some 106))) 18 (Int32.toNatClampNeg 11) (some 108))) 19 (Int32.toNatClampNeg 11) (some 114))
theorem zr_X0 {I : HI} {J : HJ} {P : Nat → Nat → Option Nat} (hz : zr 18 I J P) : zr 116 (nI_X0 I) J (nP_X0 P) := by
  have hz1 := hz.upI (a := 17) (k := 0) (x := 0) (by show 17 < 18; decide)
  have hz2 := hz1.upI (a := 17) (k := 1) (x := 0) (by show 17 < 18; decide)
  have hz3 := hz2.mono (Nat.le_succ _)
  have hz4 := hz3.upP (a := 17) (k := 2) (x := some 18) (by show 17 < 19; decide)
  have hz5 := hz4.mono (Nat.le_succ _)
  have hz6 := hz5.upP (a := 17) (k := 3) (x := some 19) (by show 17 < 20; decide)
  have hz7 := hz6.mono (Nat.le_succ _)
  have hz8 := zr_X3 (a := 20) hz7
  have hz9 := hz8.upP (a := 18) (k := Int32.toNatClampNeg 0) (x := some 20) (by show 18 < 26; decide)
  have hz10 := hz9.mono (Nat.le_succ _)
  have hz11 := zr_X7 (a := 26) hz10
  have hz12 := hz11.upP (a := 19) (k := Int32.toNatClampNeg 0) (x := some 26) (by show 19 < 28; decide)
  have hz13 := hz12.mono (Nat.le_succ _)
  have hz14 := zr_X3 (a := 28) hz13
  have hz15 := hz14.upP (a := 18) (k := Int32.toNatClampNeg 1) (x := some 28) (by show 18 < 34; decide)
  have hz16 := hz15.mono (Nat.le_succ _)
  have hz17 := zr_X7 (a := 34) hz16
  have hz18 := hz17.upP (a := 19) (k := Int32.toNatClampNeg 1) (x := some 34) (by show 19 < 36; decide)
  have hz19 := hz18.mono (Nat.le_succ _)
  have hz20 := zr_X3 (a := 36) hz19
  have hz21 := hz20.upP (a := 18) (k := Int32.toNatClampNeg 2) (x := some 36) (by show 18 < 42; decide)
  have hz22 := hz21.mono (Nat.le_succ _)
  have hz23 := zr_X7 (a := 42) hz22
  have hz24 := hz23.upP (a := 19) (k := Int32.toNatClampNeg 2) (x := some 42) (by show 19 < 44; decide)
  have hz25 := hz24.mono (Nat.le_succ _)
  have hz26 := zr_X3 (a := 44) hz25
  have hz27 := hz26.upP (a := 18) (k := Int32.toNatClampNeg 3) (x := some 44) (by show 18 < 50; decide)
  have hz28 := hz27.mono (Nat.le_succ _)
  have hz29 := zr_X7 (a := 50) hz28
  have hz30 := hz29.upP (a := 19) (k := Int32.toNatClampNeg 3) (x := some 50) (by show 19 < 52; decide)
  have hz31 := hz30.mono (Nat.le_succ _)
  have hz32 := zr_X3 (a := 52) hz31
  have hz33 := hz32.upP (a := 18) (k := Int32.toNatClampNeg 4) (x := some 52) (by show 18 < 58; decide)
  have hz34 := hz33.mono (Nat.le_succ _)
  have hz35 := zr_X7 (a := 58) hz34
  have hz36 := hz35.upP (a := 19) (k := Int32.toNatClampNeg 4) (x := some 58) (by show 19 < 60; decide)
  have hz37 := hz36.mono (Nat.le_succ _)
  have hz38 := zr_X3 (a := 60) hz37
  have hz39 := hz38.upP (a := 18) (k := Int32.toNatClampNeg 5) (x := some 60) (by show 18 < 66; decide)
  have hz40 := hz39.mono (Nat.le_succ _)
  have hz41 := zr_X7 (a := 66) hz40
  have hz42 := hz41.upP (a := 19) (k := Int32.toNatClampNeg 5) (x := some 66) (by show 19 < 68; decide)
  have hz43 := hz42.mono (Nat.le_succ _)
  have hz44 := zr_X3 (a := 68) hz43
  have hz45 := hz44.upP (a := 18) (k := Int32.toNatClampNeg 6) (x := some 68) (by show 18 < 74; decide)
  have hz46 := hz45.mono (Nat.le_succ _)
  have hz47 := zr_X7 (a := 74) hz46
  have hz48 := hz47.upP (a := 19) (k := Int32.toNatClampNeg 6) (x := some 74) (by show 19 < 76; decide)
  have hz49 := hz48.mono (Nat.le_succ _)
  have hz50 := zr_X3 (a := 76) hz49
  have hz51 := hz50.upP (a := 18) (k := Int32.toNatClampNeg 7) (x := some 76) (by show 18 < 82; decide)
  have hz52 := hz51.mono (Nat.le_succ _)
  have hz53 := zr_X7 (a := 82) hz52
  have hz54 := hz53.upP (a := 19) (k := Int32.toNatClampNeg 7) (x := some 82) (by show 19 < 84; decide)
  have hz55 := hz54.mono (Nat.le_succ _)
  have hz56 := zr_X3 (a := 84) hz55
  have hz57 := hz56.upP (a := 18) (k := Int32.toNatClampNeg 8) (x := some 84) (by show 18 < 90; decide)
  have hz58 := hz57.mono (Nat.le_succ _)
  have hz59 := zr_X7 (a := 90) hz58
  have hz60 := hz59.upP (a := 19) (k := Int32.toNatClampNeg 8) (x := some 90) (by show 19 < 92; decide)
  have hz61 := hz60.mono (Nat.le_succ _)
  have hz62 := zr_X3 (a := 92) hz61
  have hz63 := hz62.upP (a := 18) (k := Int32.toNatClampNeg 9) (x := some 92) (by show 18 < 98; decide)
  have hz64 := hz63.mono (Nat.le_succ _)
  have hz65 := zr_X7 (a := 98) hz64
  have hz66 := hz65.upP (a := 19) (k := Int32.toNatClampNeg 9) (x := some 98) (by show 19 < 100; decide)
  have hz67 := hz66.mono (Nat.le_succ _)
  have hz68 := zr_X3 (a := 100) hz67
  have hz69 := hz68.upP (a := 18) (k := Int32.toNatClampNeg 10) (x := some 100) (by show 18 < 106; decide)
  have hz70 := hz69.mono (Nat.le_succ _)
  have hz71 := zr_X7 (a := 106) hz70
  have hz72 := hz71.upP (a := 19) (k := Int32.toNatClampNeg 10) (x := some 106) (by show 19 < 108; decide)
  have hz73 := hz72.mono (Nat.le_succ _)
  have hz74 := zr_X3 (a := 108) hz73
  have hz75 := hz74.upP (a := 18) (k := Int32.toNatClampNeg 11) (x := some 108) (by show 18 < 114; decide)
  have hz76 := hz75.mono (Nat.le_succ _)
  have hz77 := zr_X7 (a := 114) hz76
  have hz78 := hz77.upP (a := 19) (k := Int32.toNatClampNeg 11) (x := some 114) (by show 19 < 116; decide)
  exact hz78
set_option maxRecDepth 4000 in
set_option maxHeartbeats 4000000 in
theorem K_X0 {g : gX} {d : Nat} {I : HI} {J : HJ} {P : Nat → Nat → Option Nat} (hz : zr 18 I J P) : Cm g mX0_init (d + 3) [.ref 17] (18, I, J, P) none (116, nI_X0 I, J, nP_X0 P) := by
  refine Cm.of (by decide) (by simp [Value.category]) (Nat.le_of_ble_eq_true rfl) (by show 18 ≤ 116; decide) (ls := [some (.ref 17), none]) rfl ?_
  refine M_aload_n (pc := 0) dX0_init_0 rfl ?_
  refine M_objInit (pc := 1) dX0_init_1 w_210 rfl ?_
  refine M_aload_n (pc := 4) dX0_init_4 rfl ?_
  refine M_iconst (pc := 5) (v := 0) dX0_init_5 (by decide) ?_
  refine M_putI (pc := 6) (t := 18) dX0_init_6 f_X0_7 (⟨by decide, by decide, by decide +kernel, by decide⟩ : OB 18 17 0) rfl ⟨rfl, rfl⟩ ?_
  have hz1 := hz.upI (a := 17) (k := 0) (x := 0) (by show 17 < 18; decide)
  refine M_aload_n (pc := 9) dX0_init_9 rfl ?_
  refine M_iconst (pc := 10) (v := 0) dX0_init_10 (by decide) ?_
  refine M_putI (pc := 11) (t := 18) dX0_init_11 f_X0_13 (⟨by decide, by decide, by decide +kernel, by decide⟩ : OB 18 17 0) rfl ⟨rfl, rfl⟩ ?_
  have hz2 := hz1.upI (a := 17) (k := 1) (x := 0) (by show 17 < 18; decide)
  refine M_aload_n (pc := 14) dX0_init_14 rfl ?_
  refine M_bipush (pc := 15) (v := 12) dX0_init_15 (by decide) ?_
  refine M_newqL (pc := 17) (t := 18) (n := 12) dX0_init_17 w_211 ⟨by decide, by decide⟩ (by decide) (by decide +kernel) (by show 18 < 116; decide) (by show 18 < 219; decide) hz2 ?_
  have hz3 := hz2.mono (Nat.le_succ _)
  refine M_putRF (pc := 20) (t := 19) (b := 18) dX0_init_20 f_X0_18 (⟨by decide, by decide, by decide +kernel, by decide⟩ : OB 19 17 0) rfl rfl rfl ?_
  have hz4 := hz3.upP (a := 17) (k := 2) (x := some 18) (by show 17 < 19; decide)
  refine M_aload_n (pc := 23) dX0_init_23 rfl ?_
  refine M_bipush (pc := 24) (v := 12) dX0_init_24 (by decide) ?_
  refine M_newqG (pc := 26) (t := 19) (n := 12) dX0_init_26 w_213 ⟨by decide, by decide⟩ (by decide) (by decide +kernel) (by show 19 < 116; decide) (by show 19 < 219; decide) hz4 ?_
  have hz5 := hz4.mono (Nat.le_succ _)
  refine M_putRF (pc := 29) (t := 20) (b := 19) dX0_init_29 f_X0_24 (⟨by decide, by decide, by decide +kernel, by decide⟩ : OB 20 17 0) rfl rfl rfl ?_
  have hz6 := hz5.upP (a := 17) (k := 3) (x := some 19) (by show 17 < 20; decide)
  refine M_iconst (pc := 32) (v := 0) dX0_init_32 (by decide) ?_
  refine M_istore_n (pc := 33) (ls' := [some (.ref 17), some (.int 0)]) dX0_init_33 (by decide) rfl ?_
  refine M_iload_n (pc := 34) dX0_init_34 rfl ?_
  refine M_bipush (pc := 35) (v := 12) dX0_init_35 (by decide) ?_
  refine M_icmp_ge (pc := 37) (tgt := 72) dX0_init_37 (by decide) (fun hc => absurd hc (by decide)) (fun _ => ?_)
  refine M_aload_n (pc := 40) dX0_init_40 rfl ?_
  refine M_getR (pc := 41) (b := 18) dX0_init_41 f_X0_18 (⟨by decide, by decide, by decide +kernel, by decide⟩ : OB 20 17 0) rfl ?_
  refine M_iload_n (pc := 44) dX0_init_44 rfl ?_
  refine M_new (pc := 45) (t := 20) (c := 3) dX0_init_45 cf3 zf3 (by decide) w_211 (by decide +kernel) (by show 20 < 116; decide) (by show 20 < 219; decide) hz6 ?_
  have hz7 := hz6.mono (Nat.le_succ _)
  refine M_dup (pc := 48) dX0_init_48 rfl ?_
  refine M_callI (pc := 49) dX0_init_49 i_X0_28 (Nat.le_of_ble_eq_true rfl) (K_X3 (d := d + 0) (a := 20) (by show 1 ≤ 20; decide) (by decide +kernel) hz7) (by show 26 ≤ 116; decide) ?_
  have hz8 := zr_X3 (a := 20) hz7
  refine M_aastL (pc := 52) (a := 18) (n := 12) (b := 20) dX0_init_52 ⟨by decide, by decide, by decide +kernel⟩ ⟨by decide, by decide, by decide +kernel, by decide⟩ (inB_in (by decide)) ?_
  have hz9 := hz8.upP (a := 18) (k := Int32.toNatClampNeg 0) (x := some 20) (by show 18 < 26; decide)
  refine M_aload_n (pc := 53) dX0_init_53 rfl ?_
  refine M_getR (pc := 54) (b := 19) dX0_init_54 f_X0_24 (⟨by decide, by decide, by decide +kernel, by decide⟩ : OB 26 17 0) rfl ?_
  refine M_iload_n (pc := 57) dX0_init_57 rfl ?_
  refine M_new (pc := 58) (t := 26) (c := 7) dX0_init_58 cf7 zf7 (by decide) w_213 (by decide +kernel) (by show 26 < 116; decide) (by show 26 < 219; decide) hz9 ?_
  have hz10 := hz9.mono (Nat.le_succ _)
  refine M_dup (pc := 61) dX0_init_61 rfl ?_
  refine M_callI (pc := 62) dX0_init_62 i_X0_29 (Nat.le_of_ble_eq_true rfl) (K_X7 (d := d + 1) (a := 26) (by show 1 ≤ 26; decide) (by decide +kernel) hz10) (by show 28 ≤ 116; decide) ?_
  have hz11 := zr_X7 (a := 26) hz10
  refine M_aastG (pc := 65) (a := 19) (n := 12) (b := 26) dX0_init_65 ⟨by decide, by decide, by decide +kernel⟩ ⟨by decide, by decide, by decide +kernel, by decide⟩ (inB_in (by decide)) ?_
  have hz12 := hz11.upP (a := 19) (k := Int32.toNatClampNeg 0) (x := some 26) (by show 19 < 28; decide)
  refine M_iinc (pc := 66) (v := 1) (ls' := [some (.ref 17), some (.int 1)]) dX0_init_66 rfl (by decide) (by decide) rfl ?_
  refine M_goto (pc := 69) (tgt := 34) dX0_init_69 (by decide) ?_
  refine M_iload_n (pc := 34) dX0_init_34 rfl ?_
  refine M_bipush (pc := 35) (v := 12) dX0_init_35 (by decide) ?_
  refine M_icmp_ge (pc := 37) (tgt := 72) dX0_init_37 (by decide) (fun hc => absurd hc (by decide)) (fun _ => ?_)
  refine M_aload_n (pc := 40) dX0_init_40 rfl ?_
  refine M_getR (pc := 41) (b := 18) dX0_init_41 f_X0_18 (⟨by decide, by decide, by decide +kernel, by decide⟩ : OB 28 17 0) rfl ?_
  refine M_iload_n (pc := 44) dX0_init_44 rfl ?_
  refine M_new (pc := 45) (t := 28) (c := 3) dX0_init_45 cf3 zf3 (by decide) w_211 (by decide +kernel) (by show 28 < 116; decide) (by show 28 < 219; decide) hz12 ?_
  have hz13 := hz12.mono (Nat.le_succ _)
  refine M_dup (pc := 48) dX0_init_48 rfl ?_
  refine M_callI (pc := 49) dX0_init_49 i_X0_28 (Nat.le_of_ble_eq_true rfl) (K_X3 (d := d + 0) (a := 28) (by show 1 ≤ 28; decide) (by decide +kernel) hz13) (by show 34 ≤ 116; decide) ?_
  have hz14 := zr_X3 (a := 28) hz13
  refine M_aastL (pc := 52) (a := 18) (n := 12) (b := 28) dX0_init_52 ⟨by decide, by decide, by decide +kernel⟩ ⟨by decide, by decide, by decide +kernel, by decide⟩ (inB_in (by decide)) ?_
  have hz15 := hz14.upP (a := 18) (k := Int32.toNatClampNeg 1) (x := some 28) (by show 18 < 34; decide)
  refine M_aload_n (pc := 53) dX0_init_53 rfl ?_
  refine M_getR (pc := 54) (b := 19) dX0_init_54 f_X0_24 (⟨by decide, by decide, by decide +kernel, by decide⟩ : OB 34 17 0) rfl ?_
  refine M_iload_n (pc := 57) dX0_init_57 rfl ?_
  refine M_new (pc := 58) (t := 34) (c := 7) dX0_init_58 cf7 zf7 (by decide) w_213 (by decide +kernel) (by show 34 < 116; decide) (by show 34 < 219; decide) hz15 ?_
  have hz16 := hz15.mono (Nat.le_succ _)
  refine M_dup (pc := 61) dX0_init_61 rfl ?_
  refine M_callI (pc := 62) dX0_init_62 i_X0_29 (Nat.le_of_ble_eq_true rfl) (K_X7 (d := d + 1) (a := 34) (by show 1 ≤ 34; decide) (by decide +kernel) hz16) (by show 36 ≤ 116; decide) ?_
  have hz17 := zr_X7 (a := 34) hz16
  refine M_aastG (pc := 65) (a := 19) (n := 12) (b := 34) dX0_init_65 ⟨by decide, by decide, by decide +kernel⟩ ⟨by decide, by decide, by decide +kernel, by decide⟩ (inB_in (by decide)) ?_
  have hz18 := hz17.upP (a := 19) (k := Int32.toNatClampNeg 1) (x := some 34) (by show 19 < 36; decide)
  refine M_iinc (pc := 66) (v := 2) (ls' := [some (.ref 17), some (.int 2)]) dX0_init_66 rfl (by decide) (by decide) rfl ?_
  refine M_goto (pc := 69) (tgt := 34) dX0_init_69 (by decide) ?_
  refine M_iload_n (pc := 34) dX0_init_34 rfl ?_
  refine M_bipush (pc := 35) (v := 12) dX0_init_35 (by decide) ?_
  refine M_icmp_ge (pc := 37) (tgt := 72) dX0_init_37 (by decide) (fun hc => absurd hc (by decide)) (fun _ => ?_)
  refine M_aload_n (pc := 40) dX0_init_40 rfl ?_
  refine M_getR (pc := 41) (b := 18) dX0_init_41 f_X0_18 (⟨by decide, by decide, by decide +kernel, by decide⟩ : OB 36 17 0) rfl ?_
  refine M_iload_n (pc := 44) dX0_init_44 rfl ?_
  refine M_new (pc := 45) (t := 36) (c := 3) dX0_init_45 cf3 zf3 (by decide) w_211 (by decide +kernel) (by show 36 < 116; decide) (by show 36 < 219; decide) hz18 ?_
  have hz19 := hz18.mono (Nat.le_succ _)
  refine M_dup (pc := 48) dX0_init_48 rfl ?_
  refine M_callI (pc := 49) dX0_init_49 i_X0_28 (Nat.le_of_ble_eq_true rfl) (K_X3 (d := d + 0) (a := 36) (by show 1 ≤ 36; decide) (by decide +kernel) hz19) (by show 42 ≤ 116; decide) ?_
  have hz20 := zr_X3 (a := 36) hz19
  refine M_aastL (pc := 52) (a := 18) (n := 12) (b := 36) dX0_init_52 ⟨by decide, by decide, by decide +kernel⟩ ⟨by decide, by decide, by decide +kernel, by decide⟩ (inB_in (by decide)) ?_
  have hz21 := hz20.upP (a := 18) (k := Int32.toNatClampNeg 2) (x := some 36) (by show 18 < 42; decide)
  refine M_aload_n (pc := 53) dX0_init_53 rfl ?_
  refine M_getR (pc := 54) (b := 19) dX0_init_54 f_X0_24 (⟨by decide, by decide, by decide +kernel, by decide⟩ : OB 42 17 0) rfl ?_
  refine M_iload_n (pc := 57) dX0_init_57 rfl ?_
  refine M_new (pc := 58) (t := 42) (c := 7) dX0_init_58 cf7 zf7 (by decide) w_213 (by decide +kernel) (by show 42 < 116; decide) (by show 42 < 219; decide) hz21 ?_
  have hz22 := hz21.mono (Nat.le_succ _)
  refine M_dup (pc := 61) dX0_init_61 rfl ?_
  refine M_callI (pc := 62) dX0_init_62 i_X0_29 (Nat.le_of_ble_eq_true rfl) (K_X7 (d := d + 1) (a := 42) (by show 1 ≤ 42; decide) (by decide +kernel) hz22) (by show 44 ≤ 116; decide) ?_
  have hz23 := zr_X7 (a := 42) hz22
  refine M_aastG (pc := 65) (a := 19) (n := 12) (b := 42) dX0_init_65 ⟨by decide, by decide, by decide +kernel⟩ ⟨by decide, by decide, by decide +kernel, by decide⟩ (inB_in (by decide)) ?_
  have hz24 := hz23.upP (a := 19) (k := Int32.toNatClampNeg 2) (x := some 42) (by show 19 < 44; decide)
  refine M_iinc (pc := 66) (v := 3) (ls' := [some (.ref 17), some (.int 3)]) dX0_init_66 rfl (by decide) (by decide) rfl ?_
  refine M_goto (pc := 69) (tgt := 34) dX0_init_69 (by decide) ?_
  refine M_iload_n (pc := 34) dX0_init_34 rfl ?_
  refine M_bipush (pc := 35) (v := 12) dX0_init_35 (by decide) ?_
  refine M_icmp_ge (pc := 37) (tgt := 72) dX0_init_37 (by decide) (fun hc => absurd hc (by decide)) (fun _ => ?_)
  refine M_aload_n (pc := 40) dX0_init_40 rfl ?_
  refine M_getR (pc := 41) (b := 18) dX0_init_41 f_X0_18 (⟨by decide, by decide, by decide +kernel, by decide⟩ : OB 44 17 0) rfl ?_
  refine M_iload_n (pc := 44) dX0_init_44 rfl ?_
  refine M_new (pc := 45) (t := 44) (c := 3) dX0_init_45 cf3 zf3 (by decide) w_211 (by decide +kernel) (by show 44 < 116; decide) (by show 44 < 219; decide) hz24 ?_
  have hz25 := hz24.mono (Nat.le_succ _)
  refine M_dup (pc := 48) dX0_init_48 rfl ?_
  refine M_callI (pc := 49) dX0_init_49 i_X0_28 (Nat.le_of_ble_eq_true rfl) (K_X3 (d := d + 0) (a := 44) (by show 1 ≤ 44; decide) (by decide +kernel) hz25) (by show 50 ≤ 116; decide) ?_
  have hz26 := zr_X3 (a := 44) hz25
  refine M_aastL (pc := 52) (a := 18) (n := 12) (b := 44) dX0_init_52 ⟨by decide, by decide, by decide +kernel⟩ ⟨by decide, by decide, by decide +kernel, by decide⟩ (inB_in (by decide)) ?_
  have hz27 := hz26.upP (a := 18) (k := Int32.toNatClampNeg 3) (x := some 44) (by show 18 < 50; decide)
  refine M_aload_n (pc := 53) dX0_init_53 rfl ?_
  refine M_getR (pc := 54) (b := 19) dX0_init_54 f_X0_24 (⟨by decide, by decide, by decide +kernel, by decide⟩ : OB 50 17 0) rfl ?_
  refine M_iload_n (pc := 57) dX0_init_57 rfl ?_
  refine M_new (pc := 58) (t := 50) (c := 7) dX0_init_58 cf7 zf7 (by decide) w_213 (by decide +kernel) (by show 50 < 116; decide) (by show 50 < 219; decide) hz27 ?_
  have hz28 := hz27.mono (Nat.le_succ _)
  refine M_dup (pc := 61) dX0_init_61 rfl ?_
  refine M_callI (pc := 62) dX0_init_62 i_X0_29 (Nat.le_of_ble_eq_true rfl) (K_X7 (d := d + 1) (a := 50) (by show 1 ≤ 50; decide) (by decide +kernel) hz28) (by show 52 ≤ 116; decide) ?_
  have hz29 := zr_X7 (a := 50) hz28
  refine M_aastG (pc := 65) (a := 19) (n := 12) (b := 50) dX0_init_65 ⟨by decide, by decide, by decide +kernel⟩ ⟨by decide, by decide, by decide +kernel, by decide⟩ (inB_in (by decide)) ?_
  have hz30 := hz29.upP (a := 19) (k := Int32.toNatClampNeg 3) (x := some 50) (by show 19 < 52; decide)
  refine M_iinc (pc := 66) (v := 4) (ls' := [some (.ref 17), some (.int 4)]) dX0_init_66 rfl (by decide) (by decide) rfl ?_
  refine M_goto (pc := 69) (tgt := 34) dX0_init_69 (by decide) ?_
  refine M_iload_n (pc := 34) dX0_init_34 rfl ?_
  refine M_bipush (pc := 35) (v := 12) dX0_init_35 (by decide) ?_
  refine M_icmp_ge (pc := 37) (tgt := 72) dX0_init_37 (by decide) (fun hc => absurd hc (by decide)) (fun _ => ?_)
  refine M_aload_n (pc := 40) dX0_init_40 rfl ?_
  refine M_getR (pc := 41) (b := 18) dX0_init_41 f_X0_18 (⟨by decide, by decide, by decide +kernel, by decide⟩ : OB 52 17 0) rfl ?_
  refine M_iload_n (pc := 44) dX0_init_44 rfl ?_
  refine M_new (pc := 45) (t := 52) (c := 3) dX0_init_45 cf3 zf3 (by decide) w_211 (by decide +kernel) (by show 52 < 116; decide) (by show 52 < 219; decide) hz30 ?_
  have hz31 := hz30.mono (Nat.le_succ _)
  refine M_dup (pc := 48) dX0_init_48 rfl ?_
  refine M_callI (pc := 49) dX0_init_49 i_X0_28 (Nat.le_of_ble_eq_true rfl) (K_X3 (d := d + 0) (a := 52) (by show 1 ≤ 52; decide) (by decide +kernel) hz31) (by show 58 ≤ 116; decide) ?_
  have hz32 := zr_X3 (a := 52) hz31
  refine M_aastL (pc := 52) (a := 18) (n := 12) (b := 52) dX0_init_52 ⟨by decide, by decide, by decide +kernel⟩ ⟨by decide, by decide, by decide +kernel, by decide⟩ (inB_in (by decide)) ?_
  have hz33 := hz32.upP (a := 18) (k := Int32.toNatClampNeg 4) (x := some 52) (by show 18 < 58; decide)
  refine M_aload_n (pc := 53) dX0_init_53 rfl ?_
  refine M_getR (pc := 54) (b := 19) dX0_init_54 f_X0_24 (⟨by decide, by decide, by decide +kernel, by decide⟩ : OB 58 17 0) rfl ?_
  refine M_iload_n (pc := 57) dX0_init_57 rfl ?_
  refine M_new (pc := 58) (t := 58) (c := 7) dX0_init_58 cf7 zf7 (by decide) w_213 (by decide +kernel) (by show 58 < 116; decide) (by show 58 < 219; decide) hz33 ?_
  have hz34 := hz33.mono (Nat.le_succ _)
  refine M_dup (pc := 61) dX0_init_61 rfl ?_
  refine M_callI (pc := 62) dX0_init_62 i_X0_29 (Nat.le_of_ble_eq_true rfl) (K_X7 (d := d + 1) (a := 58) (by show 1 ≤ 58; decide) (by decide +kernel) hz34) (by show 60 ≤ 116; decide) ?_
  have hz35 := zr_X7 (a := 58) hz34
  refine M_aastG (pc := 65) (a := 19) (n := 12) (b := 58) dX0_init_65 ⟨by decide, by decide, by decide +kernel⟩ ⟨by decide, by decide, by decide +kernel, by decide⟩ (inB_in (by decide)) ?_
  have hz36 := hz35.upP (a := 19) (k := Int32.toNatClampNeg 4) (x := some 58) (by show 19 < 60; decide)
  refine M_iinc (pc := 66) (v := 5) (ls' := [some (.ref 17), some (.int 5)]) dX0_init_66 rfl (by decide) (by decide) rfl ?_
  refine M_goto (pc := 69) (tgt := 34) dX0_init_69 (by decide) ?_
  refine M_iload_n (pc := 34) dX0_init_34 rfl ?_
  refine M_bipush (pc := 35) (v := 12) dX0_init_35 (by decide) ?_
  refine M_icmp_ge (pc := 37) (tgt := 72) dX0_init_37 (by decide) (fun hc => absurd hc (by decide)) (fun _ => ?_)
  refine M_aload_n (pc := 40) dX0_init_40 rfl ?_
  refine M_getR (pc := 41) (b := 18) dX0_init_41 f_X0_18 (⟨by decide, by decide, by decide +kernel, by decide⟩ : OB 60 17 0) rfl ?_
  refine M_iload_n (pc := 44) dX0_init_44 rfl ?_
  refine M_new (pc := 45) (t := 60) (c := 3) dX0_init_45 cf3 zf3 (by decide) w_211 (by decide +kernel) (by show 60 < 116; decide) (by show 60 < 219; decide) hz36 ?_
  have hz37 := hz36.mono (Nat.le_succ _)
  refine M_dup (pc := 48) dX0_init_48 rfl ?_
  refine M_callI (pc := 49) dX0_init_49 i_X0_28 (Nat.le_of_ble_eq_true rfl) (K_X3 (d := d + 0) (a := 60) (by show 1 ≤ 60; decide) (by decide +kernel) hz37) (by show 66 ≤ 116; decide) ?_
  have hz38 := zr_X3 (a := 60) hz37
  refine M_aastL (pc := 52) (a := 18) (n := 12) (b := 60) dX0_init_52 ⟨by decide, by decide, by decide +kernel⟩ ⟨by decide, by decide, by decide +kernel, by decide⟩ (inB_in (by decide)) ?_
  have hz39 := hz38.upP (a := 18) (k := Int32.toNatClampNeg 5) (x := some 60) (by show 18 < 66; decide)
  refine M_aload_n (pc := 53) dX0_init_53 rfl ?_
  refine M_getR (pc := 54) (b := 19) dX0_init_54 f_X0_24 (⟨by decide, by decide, by decide +kernel, by decide⟩ : OB 66 17 0) rfl ?_
  refine M_iload_n (pc := 57) dX0_init_57 rfl ?_
  refine M_new (pc := 58) (t := 66) (c := 7) dX0_init_58 cf7 zf7 (by decide) w_213 (by decide +kernel) (by show 66 < 116; decide) (by show 66 < 219; decide) hz39 ?_
  have hz40 := hz39.mono (Nat.le_succ _)
  refine M_dup (pc := 61) dX0_init_61 rfl ?_
  refine M_callI (pc := 62) dX0_init_62 i_X0_29 (Nat.le_of_ble_eq_true rfl) (K_X7 (d := d + 1) (a := 66) (by show 1 ≤ 66; decide) (by decide +kernel) hz40) (by show 68 ≤ 116; decide) ?_
  have hz41 := zr_X7 (a := 66) hz40
  refine M_aastG (pc := 65) (a := 19) (n := 12) (b := 66) dX0_init_65 ⟨by decide, by decide, by decide +kernel⟩ ⟨by decide, by decide, by decide +kernel, by decide⟩ (inB_in (by decide)) ?_
  have hz42 := hz41.upP (a := 19) (k := Int32.toNatClampNeg 5) (x := some 66) (by show 19 < 68; decide)
  refine M_iinc (pc := 66) (v := 6) (ls' := [some (.ref 17), some (.int 6)]) dX0_init_66 rfl (by decide) (by decide) rfl ?_
  refine M_goto (pc := 69) (tgt := 34) dX0_init_69 (by decide) ?_
  refine M_iload_n (pc := 34) dX0_init_34 rfl ?_
  refine M_bipush (pc := 35) (v := 12) dX0_init_35 (by decide) ?_
  refine M_icmp_ge (pc := 37) (tgt := 72) dX0_init_37 (by decide) (fun hc => absurd hc (by decide)) (fun _ => ?_)
  refine M_aload_n (pc := 40) dX0_init_40 rfl ?_
  refine M_getR (pc := 41) (b := 18) dX0_init_41 f_X0_18 (⟨by decide, by decide, by decide +kernel, by decide⟩ : OB 68 17 0) rfl ?_
  refine M_iload_n (pc := 44) dX0_init_44 rfl ?_
  refine M_new (pc := 45) (t := 68) (c := 3) dX0_init_45 cf3 zf3 (by decide) w_211 (by decide +kernel) (by show 68 < 116; decide) (by show 68 < 219; decide) hz42 ?_
  have hz43 := hz42.mono (Nat.le_succ _)
  refine M_dup (pc := 48) dX0_init_48 rfl ?_
  refine M_callI (pc := 49) dX0_init_49 i_X0_28 (Nat.le_of_ble_eq_true rfl) (K_X3 (d := d + 0) (a := 68) (by show 1 ≤ 68; decide) (by decide +kernel) hz43) (by show 74 ≤ 116; decide) ?_
  have hz44 := zr_X3 (a := 68) hz43
  refine M_aastL (pc := 52) (a := 18) (n := 12) (b := 68) dX0_init_52 ⟨by decide, by decide, by decide +kernel⟩ ⟨by decide, by decide, by decide +kernel, by decide⟩ (inB_in (by decide)) ?_
  have hz45 := hz44.upP (a := 18) (k := Int32.toNatClampNeg 6) (x := some 68) (by show 18 < 74; decide)
  refine M_aload_n (pc := 53) dX0_init_53 rfl ?_
  refine M_getR (pc := 54) (b := 19) dX0_init_54 f_X0_24 (⟨by decide, by decide, by decide +kernel, by decide⟩ : OB 74 17 0) rfl ?_
  refine M_iload_n (pc := 57) dX0_init_57 rfl ?_
  refine M_new (pc := 58) (t := 74) (c := 7) dX0_init_58 cf7 zf7 (by decide) w_213 (by decide +kernel) (by show 74 < 116; decide) (by show 74 < 219; decide) hz45 ?_
  have hz46 := hz45.mono (Nat.le_succ _)
  refine M_dup (pc := 61) dX0_init_61 rfl ?_
  refine M_callI (pc := 62) dX0_init_62 i_X0_29 (Nat.le_of_ble_eq_true rfl) (K_X7 (d := d + 1) (a := 74) (by show 1 ≤ 74; decide) (by decide +kernel) hz46) (by show 76 ≤ 116; decide) ?_
  have hz47 := zr_X7 (a := 74) hz46
  refine M_aastG (pc := 65) (a := 19) (n := 12) (b := 74) dX0_init_65 ⟨by decide, by decide, by decide +kernel⟩ ⟨by decide, by decide, by decide +kernel, by decide⟩ (inB_in (by decide)) ?_
  have hz48 := hz47.upP (a := 19) (k := Int32.toNatClampNeg 6) (x := some 74) (by show 19 < 76; decide)
  refine M_iinc (pc := 66) (v := 7) (ls' := [some (.ref 17), some (.int 7)]) dX0_init_66 rfl (by decide) (by decide) rfl ?_
  refine M_goto (pc := 69) (tgt := 34) dX0_init_69 (by decide) ?_
  refine M_iload_n (pc := 34) dX0_init_34 rfl ?_
  refine M_bipush (pc := 35) (v := 12) dX0_init_35 (by decide) ?_
  refine M_icmp_ge (pc := 37) (tgt := 72) dX0_init_37 (by decide) (fun hc => absurd hc (by decide)) (fun _ => ?_)
  refine M_aload_n (pc := 40) dX0_init_40 rfl ?_
  refine M_getR (pc := 41) (b := 18) dX0_init_41 f_X0_18 (⟨by decide, by decide, by decide +kernel, by decide⟩ : OB 76 17 0) rfl ?_
  refine M_iload_n (pc := 44) dX0_init_44 rfl ?_
  refine M_new (pc := 45) (t := 76) (c := 3) dX0_init_45 cf3 zf3 (by decide) w_211 (by decide +kernel) (by show 76 < 116; decide) (by show 76 < 219; decide) hz48 ?_
  have hz49 := hz48.mono (Nat.le_succ _)
  refine M_dup (pc := 48) dX0_init_48 rfl ?_
  refine M_callI (pc := 49) dX0_init_49 i_X0_28 (Nat.le_of_ble_eq_true rfl) (K_X3 (d := d + 0) (a := 76) (by show 1 ≤ 76; decide) (by decide +kernel) hz49) (by show 82 ≤ 116; decide) ?_
  have hz50 := zr_X3 (a := 76) hz49
  refine M_aastL (pc := 52) (a := 18) (n := 12) (b := 76) dX0_init_52 ⟨by decide, by decide, by decide +kernel⟩ ⟨by decide, by decide, by decide +kernel, by decide⟩ (inB_in (by decide)) ?_
  have hz51 := hz50.upP (a := 18) (k := Int32.toNatClampNeg 7) (x := some 76) (by show 18 < 82; decide)
  refine M_aload_n (pc := 53) dX0_init_53 rfl ?_
  refine M_getR (pc := 54) (b := 19) dX0_init_54 f_X0_24 (⟨by decide, by decide, by decide +kernel, by decide⟩ : OB 82 17 0) rfl ?_
  refine M_iload_n (pc := 57) dX0_init_57 rfl ?_
  refine M_new (pc := 58) (t := 82) (c := 7) dX0_init_58 cf7 zf7 (by decide) w_213 (by decide +kernel) (by show 82 < 116; decide) (by show 82 < 219; decide) hz51 ?_
  have hz52 := hz51.mono (Nat.le_succ _)
  refine M_dup (pc := 61) dX0_init_61 rfl ?_
  refine M_callI (pc := 62) dX0_init_62 i_X0_29 (Nat.le_of_ble_eq_true rfl) (K_X7 (d := d + 1) (a := 82) (by show 1 ≤ 82; decide) (by decide +kernel) hz52) (by show 84 ≤ 116; decide) ?_
  have hz53 := zr_X7 (a := 82) hz52
  refine M_aastG (pc := 65) (a := 19) (n := 12) (b := 82) dX0_init_65 ⟨by decide, by decide, by decide +kernel⟩ ⟨by decide, by decide, by decide +kernel, by decide⟩ (inB_in (by decide)) ?_
  have hz54 := hz53.upP (a := 19) (k := Int32.toNatClampNeg 7) (x := some 82) (by show 19 < 84; decide)
  refine M_iinc (pc := 66) (v := 8) (ls' := [some (.ref 17), some (.int 8)]) dX0_init_66 rfl (by decide) (by decide) rfl ?_
  refine M_goto (pc := 69) (tgt := 34) dX0_init_69 (by decide) ?_
  refine M_iload_n (pc := 34) dX0_init_34 rfl ?_
  refine M_bipush (pc := 35) (v := 12) dX0_init_35 (by decide) ?_
  refine M_icmp_ge (pc := 37) (tgt := 72) dX0_init_37 (by decide) (fun hc => absurd hc (by decide)) (fun _ => ?_)
  refine M_aload_n (pc := 40) dX0_init_40 rfl ?_
  refine M_getR (pc := 41) (b := 18) dX0_init_41 f_X0_18 (⟨by decide, by decide, by decide +kernel, by decide⟩ : OB 84 17 0) rfl ?_
  refine M_iload_n (pc := 44) dX0_init_44 rfl ?_
  refine M_new (pc := 45) (t := 84) (c := 3) dX0_init_45 cf3 zf3 (by decide) w_211 (by decide +kernel) (by show 84 < 116; decide) (by show 84 < 219; decide) hz54 ?_
  have hz55 := hz54.mono (Nat.le_succ _)
  refine M_dup (pc := 48) dX0_init_48 rfl ?_
  refine M_callI (pc := 49) dX0_init_49 i_X0_28 (Nat.le_of_ble_eq_true rfl) (K_X3 (d := d + 0) (a := 84) (by show 1 ≤ 84; decide) (by decide +kernel) hz55) (by show 90 ≤ 116; decide) ?_
  have hz56 := zr_X3 (a := 84) hz55
  refine M_aastL (pc := 52) (a := 18) (n := 12) (b := 84) dX0_init_52 ⟨by decide, by decide, by decide +kernel⟩ ⟨by decide, by decide, by decide +kernel, by decide⟩ (inB_in (by decide)) ?_
  have hz57 := hz56.upP (a := 18) (k := Int32.toNatClampNeg 8) (x := some 84) (by show 18 < 90; decide)
  refine M_aload_n (pc := 53) dX0_init_53 rfl ?_
  refine M_getR (pc := 54) (b := 19) dX0_init_54 f_X0_24 (⟨by decide, by decide, by decide +kernel, by decide⟩ : OB 90 17 0) rfl ?_
  refine M_iload_n (pc := 57) dX0_init_57 rfl ?_
  refine M_new (pc := 58) (t := 90) (c := 7) dX0_init_58 cf7 zf7 (by decide) w_213 (by decide +kernel) (by show 90 < 116; decide) (by show 90 < 219; decide) hz57 ?_
  have hz58 := hz57.mono (Nat.le_succ _)
  refine M_dup (pc := 61) dX0_init_61 rfl ?_
  refine M_callI (pc := 62) dX0_init_62 i_X0_29 (Nat.le_of_ble_eq_true rfl) (K_X7 (d := d + 1) (a := 90) (by show 1 ≤ 90; decide) (by decide +kernel) hz58) (by show 92 ≤ 116; decide) ?_
  have hz59 := zr_X7 (a := 90) hz58
  refine M_aastG (pc := 65) (a := 19) (n := 12) (b := 90) dX0_init_65 ⟨by decide, by decide, by decide +kernel⟩ ⟨by decide, by decide, by decide +kernel, by decide⟩ (inB_in (by decide)) ?_
  have hz60 := hz59.upP (a := 19) (k := Int32.toNatClampNeg 8) (x := some 90) (by show 19 < 92; decide)
  refine M_iinc (pc := 66) (v := 9) (ls' := [some (.ref 17), some (.int 9)]) dX0_init_66 rfl (by decide) (by decide) rfl ?_
  refine M_goto (pc := 69) (tgt := 34) dX0_init_69 (by decide) ?_
  refine M_iload_n (pc := 34) dX0_init_34 rfl ?_
  refine M_bipush (pc := 35) (v := 12) dX0_init_35 (by decide) ?_
  refine M_icmp_ge (pc := 37) (tgt := 72) dX0_init_37 (by decide) (fun hc => absurd hc (by decide)) (fun _ => ?_)
  refine M_aload_n (pc := 40) dX0_init_40 rfl ?_
  refine M_getR (pc := 41) (b := 18) dX0_init_41 f_X0_18 (⟨by decide, by decide, by decide +kernel, by decide⟩ : OB 92 17 0) rfl ?_
  refine M_iload_n (pc := 44) dX0_init_44 rfl ?_
  refine M_new (pc := 45) (t := 92) (c := 3) dX0_init_45 cf3 zf3 (by decide) w_211 (by decide +kernel) (by show 92 < 116; decide) (by show 92 < 219; decide) hz60 ?_
  have hz61 := hz60.mono (Nat.le_succ _)
  refine M_dup (pc := 48) dX0_init_48 rfl ?_
  refine M_callI (pc := 49) dX0_init_49 i_X0_28 (Nat.le_of_ble_eq_true rfl) (K_X3 (d := d + 0) (a := 92) (by show 1 ≤ 92; decide) (by decide +kernel) hz61) (by show 98 ≤ 116; decide) ?_
  have hz62 := zr_X3 (a := 92) hz61
  refine M_aastL (pc := 52) (a := 18) (n := 12) (b := 92) dX0_init_52 ⟨by decide, by decide, by decide +kernel⟩ ⟨by decide, by decide, by decide +kernel, by decide⟩ (inB_in (by decide)) ?_
  have hz63 := hz62.upP (a := 18) (k := Int32.toNatClampNeg 9) (x := some 92) (by show 18 < 98; decide)
  refine M_aload_n (pc := 53) dX0_init_53 rfl ?_
  refine M_getR (pc := 54) (b := 19) dX0_init_54 f_X0_24 (⟨by decide, by decide, by decide +kernel, by decide⟩ : OB 98 17 0) rfl ?_
  refine M_iload_n (pc := 57) dX0_init_57 rfl ?_
  refine M_new (pc := 58) (t := 98) (c := 7) dX0_init_58 cf7 zf7 (by decide) w_213 (by decide +kernel) (by show 98 < 116; decide) (by show 98 < 219; decide) hz63 ?_
  have hz64 := hz63.mono (Nat.le_succ _)
  refine M_dup (pc := 61) dX0_init_61 rfl ?_
  refine M_callI (pc := 62) dX0_init_62 i_X0_29 (Nat.le_of_ble_eq_true rfl) (K_X7 (d := d + 1) (a := 98) (by show 1 ≤ 98; decide) (by decide +kernel) hz64) (by show 100 ≤ 116; decide) ?_
  have hz65 := zr_X7 (a := 98) hz64
  refine M_aastG (pc := 65) (a := 19) (n := 12) (b := 98) dX0_init_65 ⟨by decide, by decide, by decide +kernel⟩ ⟨by decide, by decide, by decide +kernel, by decide⟩ (inB_in (by decide)) ?_
  have hz66 := hz65.upP (a := 19) (k := Int32.toNatClampNeg 9) (x := some 98) (by show 19 < 100; decide)
  refine M_iinc (pc := 66) (v := 10) (ls' := [some (.ref 17), some (.int 10)]) dX0_init_66 rfl (by decide) (by decide) rfl ?_
  refine M_goto (pc := 69) (tgt := 34) dX0_init_69 (by decide) ?_
  refine M_iload_n (pc := 34) dX0_init_34 rfl ?_
  refine M_bipush (pc := 35) (v := 12) dX0_init_35 (by decide) ?_
  refine M_icmp_ge (pc := 37) (tgt := 72) dX0_init_37 (by decide) (fun hc => absurd hc (by decide)) (fun _ => ?_)
  refine M_aload_n (pc := 40) dX0_init_40 rfl ?_
  refine M_getR (pc := 41) (b := 18) dX0_init_41 f_X0_18 (⟨by decide, by decide, by decide +kernel, by decide⟩ : OB 100 17 0) rfl ?_
  refine M_iload_n (pc := 44) dX0_init_44 rfl ?_
  refine M_new (pc := 45) (t := 100) (c := 3) dX0_init_45 cf3 zf3 (by decide) w_211 (by decide +kernel) (by show 100 < 116; decide) (by show 100 < 219; decide) hz66 ?_
  have hz67 := hz66.mono (Nat.le_succ _)
  refine M_dup (pc := 48) dX0_init_48 rfl ?_
  refine M_callI (pc := 49) dX0_init_49 i_X0_28 (Nat.le_of_ble_eq_true rfl) (K_X3 (d := d + 0) (a := 100) (by show 1 ≤ 100; decide) (by decide +kernel) hz67) (by show 106 ≤ 116; decide) ?_
  have hz68 := zr_X3 (a := 100) hz67
  refine M_aastL (pc := 52) (a := 18) (n := 12) (b := 100) dX0_init_52 ⟨by decide, by decide, by decide +kernel⟩ ⟨by decide, by decide, by decide +kernel, by decide⟩ (inB_in (by decide)) ?_
  have hz69 := hz68.upP (a := 18) (k := Int32.toNatClampNeg 10) (x := some 100) (by show 18 < 106; decide)
  refine M_aload_n (pc := 53) dX0_init_53 rfl ?_
  refine M_getR (pc := 54) (b := 19) dX0_init_54 f_X0_24 (⟨by decide, by decide, by decide +kernel, by decide⟩ : OB 106 17 0) rfl ?_
  refine M_iload_n (pc := 57) dX0_init_57 rfl ?_
  refine M_new (pc := 58) (t := 106) (c := 7) dX0_init_58 cf7 zf7 (by decide) w_213 (by decide +kernel) (by show 106 < 116; decide) (by show 106 < 219; decide) hz69 ?_
  have hz70 := hz69.mono (Nat.le_succ _)
  refine M_dup (pc := 61) dX0_init_61 rfl ?_
  refine M_callI (pc := 62) dX0_init_62 i_X0_29 (Nat.le_of_ble_eq_true rfl) (K_X7 (d := d + 1) (a := 106) (by show 1 ≤ 106; decide) (by decide +kernel) hz70) (by show 108 ≤ 116; decide) ?_
  have hz71 := zr_X7 (a := 106) hz70
  refine M_aastG (pc := 65) (a := 19) (n := 12) (b := 106) dX0_init_65 ⟨by decide, by decide, by decide +kernel⟩ ⟨by decide, by decide, by decide +kernel, by decide⟩ (inB_in (by decide)) ?_
  have hz72 := hz71.upP (a := 19) (k := Int32.toNatClampNeg 10) (x := some 106) (by show 19 < 108; decide)
  refine M_iinc (pc := 66) (v := 11) (ls' := [some (.ref 17), some (.int 11)]) dX0_init_66 rfl (by decide) (by decide) rfl ?_
  refine M_goto (pc := 69) (tgt := 34) dX0_init_69 (by decide) ?_
  refine M_iload_n (pc := 34) dX0_init_34 rfl ?_
  refine M_bipush (pc := 35) (v := 12) dX0_init_35 (by decide) ?_
  refine M_icmp_ge (pc := 37) (tgt := 72) dX0_init_37 (by decide) (fun hc => absurd hc (by decide)) (fun _ => ?_)
  refine M_aload_n (pc := 40) dX0_init_40 rfl ?_
  refine M_getR (pc := 41) (b := 18) dX0_init_41 f_X0_18 (⟨by decide, by decide, by decide +kernel, by decide⟩ : OB 108 17 0) rfl ?_
  refine M_iload_n (pc := 44) dX0_init_44 rfl ?_
  refine M_new (pc := 45) (t := 108) (c := 3) dX0_init_45 cf3 zf3 (by decide) w_211 (by decide +kernel) (by show 108 < 116; decide) (by show 108 < 219; decide) hz72 ?_
  have hz73 := hz72.mono (Nat.le_succ _)
  refine M_dup (pc := 48) dX0_init_48 rfl ?_
  refine M_callI (pc := 49) dX0_init_49 i_X0_28 (Nat.le_of_ble_eq_true rfl) (K_X3 (d := d + 0) (a := 108) (by show 1 ≤ 108; decide) (by decide +kernel) hz73) (by show 114 ≤ 116; decide) ?_
  have hz74 := zr_X3 (a := 108) hz73
  refine M_aastL (pc := 52) (a := 18) (n := 12) (b := 108) dX0_init_52 ⟨by decide, by decide, by decide +kernel⟩ ⟨by decide, by decide, by decide +kernel, by decide⟩ (inB_in (by decide)) ?_
  have hz75 := hz74.upP (a := 18) (k := Int32.toNatClampNeg 11) (x := some 108) (by show 18 < 114; decide)
  refine M_aload_n (pc := 53) dX0_init_53 rfl ?_
  refine M_getR (pc := 54) (b := 19) dX0_init_54 f_X0_24 (⟨by decide, by decide, by decide +kernel, by decide⟩ : OB 114 17 0) rfl ?_
  refine M_iload_n (pc := 57) dX0_init_57 rfl ?_
  refine M_new (pc := 58) (t := 114) (c := 7) dX0_init_58 cf7 zf7 (by decide) w_213 (by decide +kernel) (by show 114 < 116; decide) (by show 114 < 219; decide) hz75 ?_
  have hz76 := hz75.mono (Nat.le_succ _)
  refine M_dup (pc := 61) dX0_init_61 rfl ?_
  refine M_callI (pc := 62) dX0_init_62 i_X0_29 (Nat.le_of_ble_eq_true rfl) (K_X7 (d := d + 1) (a := 114) (by show 1 ≤ 114; decide) (by decide +kernel) hz76) (by show 116 ≤ 116; decide) ?_
  have hz77 := zr_X7 (a := 114) hz76
  refine M_aastG (pc := 65) (a := 19) (n := 12) (b := 114) dX0_init_65 ⟨by decide, by decide, by decide +kernel⟩ ⟨by decide, by decide, by decide +kernel, by decide⟩ (inB_in (by decide)) ?_
  have hz78 := hz77.upP (a := 19) (k := Int32.toNatClampNeg 11) (x := some 114) (by show 19 < 116; decide)
  refine M_iinc (pc := 66) (v := 12) (ls' := [some (.ref 17), some (.int 12)]) dX0_init_66 rfl (by decide) (by decide) rfl ?_
  refine M_goto (pc := 69) (tgt := 34) dX0_init_69 (by decide) ?_
  refine M_iload_n (pc := 34) dX0_init_34 rfl ?_
  refine M_bipush (pc := 35) (v := 12) dX0_init_35 (by decide) ?_
  refine M_icmp_ge (pc := 37) (tgt := 72) dX0_init_37 (by decide) (fun _ => ?_) (fun hc => absurd (by decide) hc)
  exact M_vret (pc := 72) dX0_init_72 rfl rfl rfl
def nI_X9 (I : HI) : HI := (up2 (up2 (up2 I 136 0 (-1)) 136 1 0) 136 2 0)
def nP_X9 (P : Nat → Nat → Option Nat) : Nat → Nat → Option Nat := (up2 P 136 3 (some 137))
theorem zr_X9 {I : HI} {J : HJ} {P : Nat → Nat → Option Nat} (hz : zr 137 I J P) : zr 138 (nI_X9 I) J (nP_X9 P) := by
  have hz1 := hz.upI (a := 136) (k := 0) (x := -1) (by show 136 < 137; decide)
  have hz2 := hz1.upI (a := 136) (k := 1) (x := 0) (by show 136 < 137; decide)
  have hz3 := hz2.upI (a := 136) (k := 2) (x := 0) (by show 136 < 137; decide)
  have hz4 := hz3.mono (Nat.le_succ _)
  have hz5 := hz4.upP (a := 136) (k := 3) (x := some 137) (by show 136 < 138; decide)
  exact hz5
set_option maxRecDepth 4000 in
set_option maxHeartbeats 4000000 in
theorem K_X9 {g : gX} {d : Nat} {I : HI} {J : HJ} {P : Nat → Nat → Option Nat} (hz : zr 137 I J P) : Cm g mX9_init (d + 1) [.ref 136] (137, I, J, P) none (138, nI_X9 I, J, nP_X9 P) := by
  refine Cm.of (by decide) (by simp [Value.category]) (Nat.le_of_ble_eq_true rfl) (by show 137 ≤ 138; decide) (ls := [some (.ref 136)]) rfl ?_
  refine M_aload_n (pc := 0) dX9_init_0 rfl ?_
  refine M_objInit (pc := 1) dX9_init_1 w_236 rfl ?_
  refine M_aload_n (pc := 4) dX9_init_4 rfl ?_
  refine M_iconst (pc := 5) (v := -1) dX9_init_5 (by decide) ?_
  refine M_putI (pc := 6) (t := 137) dX9_init_6 f_X9_9 (⟨by decide, by decide, by decide +kernel, by decide⟩ : OB 137 136 9) rfl ⟨rfl, rfl⟩ ?_
  have hz1 := hz.upI (a := 136) (k := 0) (x := -1) (by show 136 < 137; decide)
  refine M_aload_n (pc := 9) dX9_init_9 rfl ?_
  refine M_iconst (pc := 10) (v := 0) dX9_init_10 (by decide) ?_
  refine M_putI (pc := 11) (t := 137) dX9_init_11 f_X9_15 (⟨by decide, by decide, by decide +kernel, by decide⟩ : OB 137 136 9) rfl ⟨rfl, rfl⟩ ?_
  have hz2 := hz1.upI (a := 136) (k := 1) (x := 0) (by show 136 < 137; decide)
  refine M_aload_n (pc := 14) dX9_init_14 rfl ?_
  refine M_iconst (pc := 15) (v := 0) dX9_init_15 (by decide) ?_
  refine M_putI (pc := 16) (t := 137) dX9_init_16 f_X9_18 (⟨by decide, by decide, by decide +kernel, by decide⟩ : OB 137 136 9) rfl ⟨rfl, rfl⟩ ?_
  have hz3 := hz2.upI (a := 136) (k := 2) (x := 0) (by show 136 < 137; decide)
  refine M_aload_n (pc := 19) dX9_init_19 rfl ?_
  refine M_bipush (pc := 20) (v := 9) dX9_init_20 (by decide) ?_
  refine M_newaI (pc := 22) (t := 137) (n := 9) dX9_init_22 w_78 ⟨by decide, by decide⟩ (by decide) (by decide +kernel) (by show 137 < 138; decide) (by show 137 < 219; decide) hz3 ?_
  have hz4 := hz3.mono (Nat.le_succ _)
  refine M_putRF (pc := 24) (t := 138) (b := 137) dX9_init_24 f_X9_21 (⟨by decide, by decide, by decide +kernel, by decide⟩ : OB 138 136 9) rfl rfl rfl ?_
  have hz5 := hz4.upP (a := 136) (k := 3) (x := some 137) (by show 136 < 138; decide)
  exact M_vret (pc := 27) dX9_init_27 rfl rfl rfl
def nI_X10_6 (I : HI) : HI := (up2 (up2 (up2 (up2 I 138 1 0) 138 2 0) 138 3 0) 138 4 0)
def nP_X10_6 (P : Nat → Nat → Option Nat) : Nat → Nat → Option Nat := (up2 P 138 0 (some 139))
theorem zr_X10_6 {I : HI} {J : HJ} {P : Nat → Nat → Option Nat} (hz : zr 139 I J P) : zr 140 (nI_X10_6 I) J (nP_X10_6 P) := by
  have hz1 := hz.mono (Nat.le_succ _)
  have hz2 := hz1.upP (a := 138) (k := 0) (x := some 139) (by show 138 < 140; decide)
  have hz3 := hz2.upI (a := 138) (k := 1) (x := 0) (by show 138 < 140; decide)
  have hz4 := hz3.upI (a := 138) (k := 2) (x := 0) (by show 138 < 140; decide)
  have hz5 := hz4.upI (a := 138) (k := 3) (x := 0) (by show 138 < 140; decide)
  have hz6 := hz5.upI (a := 138) (k := 4) (x := 0) (by show 138 < 140; decide)
  exact hz6
set_option maxRecDepth 4000 in
set_option maxHeartbeats 4000000 in
theorem K_X10_6 {g : gX} {d : Nat} {I : HI} {J : HJ} {P : Nat → Nat → Option Nat} (hz : zr 139 I J P) : Cm g mX10_init (d + 1) [.ref 138] (139, I, J, P) none (140, nI_X10_6 I, J, nP_X10_6 P) := by
  refine Cm.of (by decide) (by simp [Value.category]) (Nat.le_of_ble_eq_true rfl) (by show 139 ≤ 140; decide) (ls := [some (.ref 138)]) rfl ?_
  refine M_aload_n (pc := 0) dX10_init_0 rfl ?_
  refine M_objInit (pc := 1) dX10_init_1 w_267 rfl ?_
  refine M_aload_n (pc := 4) dX10_init_4 rfl ?_
  refine M_iconst (pc := 5) (v := 0) dX10_init_5 (by decide) ?_
  refine M_newaI (pc := 6) (t := 139) (n := 0) dX10_init_6 w_78 ⟨by decide, by decide⟩ (by decide) (by decide +kernel) (by show 139 < 140; decide) (by show 139 < 219; decide) hz ?_
  have hz1 := hz.mono (Nat.le_succ _)
  refine M_putR (pc := 8) (t := 140) (b := 139) dX10_init_8 f_X10_9_6 (⟨by decide, by decide, by decide +kernel, by decide⟩ : OB 140 138 6) rfl ?_
  have hz2 := hz1.upP (a := 138) (k := 0) (x := some 139) (by show 138 < 140; decide)
  refine M_aload_n (pc := 11) dX10_init_11 rfl ?_
  refine M_iconst (pc := 12) (v := 0) dX10_init_12 (by decide) ?_
  refine M_putI (pc := 13) (t := 140) dX10_init_13 f_X10_15_6 (⟨by decide, by decide, by decide +kernel, by decide⟩ : OB 140 138 6) rfl ⟨rfl, rfl⟩ ?_
  have hz3 := hz2.upI (a := 138) (k := 1) (x := 0) (by show 138 < 140; decide)
  refine M_aload_n (pc := 16) dX10_init_16 rfl ?_
  refine M_iconst (pc := 17) (v := 0) dX10_init_17 (by decide) ?_
  refine M_putI (pc := 18) (t := 140) dX10_init_18 f_X10_19_6 (⟨by decide, by decide, by decide +kernel, by decide⟩ : OB 140 138 6) rfl ⟨rfl, rfl⟩ ?_
  have hz4 := hz3.upI (a := 138) (k := 2) (x := 0) (by show 138 < 140; decide)
  refine M_aload_n (pc := 21) dX10_init_21 rfl ?_
  refine M_iconst (pc := 22) (v := 0) dX10_init_22 (by decide) ?_
  refine M_putI (pc := 23) (t := 140) dX10_init_23 f_X10_22_6 (⟨by decide, by decide, by decide +kernel, by decide⟩ : OB 140 138 6) rfl ⟨rfl, rfl⟩ ?_
  have hz5 := hz4.upI (a := 138) (k := 3) (x := 0) (by show 138 < 140; decide)
  refine M_aload_n (pc := 26) dX10_init_26 rfl ?_
  refine M_iconst (pc := 27) (v := 0) dX10_init_27 (by decide) ?_
  refine M_putI (pc := 28) (t := 140) dX10_init_28 f_X10_25_6 (⟨by decide, by decide, by decide +kernel, by decide⟩ : OB 140 138 6) rfl ⟨rfl, rfl⟩ ?_
  have hz6 := hz5.upI (a := 138) (k := 4) (x := 0) (by show 138 < 140; decide)
  exact M_vret (pc := 31) dX10_init_31 rfl rfl rfl
theorem i_X6_3 : IF RX6 3 mX10_init := ⟨Or.inr nw_264, ⟨w_265, w_8, w_266⟩, ⟨by decide, by decide, by decide +kernel⟩, by decide, rfl, rfl⟩
theorem i_X6_11 : IF RX6 11 mX3_init := ⟨Or.inr nw_269, ⟨w_40, w_2, w_41⟩, ⟨by decide, by decide, by decide +kernel⟩, by decide, rfl, rfl⟩
def nI_X6 (I : HI) : HI := (nI_X3 140 (nI_X10_6 I))
def nP_X6 (P : Nat → Nat → Option Nat) : Nat → Nat → Option Nat := (up2 (nP_X3 140 (nP_X10_6 P)) 138 5 (some 140))
theorem zr_X6 {I : HI} {J : HJ} {P : Nat → Nat → Option Nat} (hz : zr 139 I J P) : zr 146 (nI_X6 I) J (nP_X6 P) := by
  have hz1 := zr_X10_6 hz
  have hz2 := hz1.mono (Nat.le_succ _)
  have hz3 := zr_X3 (a := 140) hz2
  have hz4 := hz3.upP (a := 138) (k := 5) (x := some 140) (by show 138 < 146; decide)
  exact hz4
set_option maxRecDepth 4000 in
set_option maxHeartbeats 4000000 in
theorem K_X6 {g : gX} {d : Nat} {I : HI} {J : HJ} {P : Nat → Nat → Option Nat} (hz : zr 139 I J P) : Cm g mX6_init (d + 3) [.ref 138] (139, I, J, P) none (146, nI_X6 I, J, nP_X6 P) := by
  refine Cm.of (by decide) (by simp [Value.category]) (Nat.le_of_ble_eq_true rfl) (by show 139 ≤ 146; decide) (ls := [some (.ref 138)]) rfl ?_
  refine M_aload_n (pc := 0) dX6_init_0 rfl ?_
  refine M_callI (pc := 1) dX6_init_1 i_X6_3 (Nat.le_of_ble_eq_true rfl) (K_X10_6 (d := d + 1) hz) (by show 140 ≤ 146; decide) ?_
  have hz1 := zr_X10_6 hz
  refine M_aload_n (pc := 4) dX6_init_4 rfl ?_
  refine M_new (pc := 5) (t := 140) (c := 3) dX6_init_5 cf3 zf3 (by decide) w_268 (by decide +kernel) (by show 140 < 146; decide) (by show 140 < 219; decide) hz1 ?_
  have hz2 := hz1.mono (Nat.le_succ _)
  refine M_dup (pc := 8) dX6_init_8 rfl ?_
  refine M_callI (pc := 9) dX6_init_9 i_X6_11 (Nat.le_of_ble_eq_true rfl) (K_X3 (d := d + 0) (a := 140) (by show 1 ≤ 140; decide) (by decide +kernel) hz2) (by show 146 ≤ 146; decide) ?_
  have hz3 := zr_X3 (a := 140) hz2
  refine M_putRF (pc := 12) (t := 146) (b := 140) dX6_init_12 f_X6_12 (⟨by decide, by decide, by decide +kernel, by decide⟩ : OB 146 138 6) rfl rfl rfl ?_
  have hz4 := hz3.upP (a := 138) (k := 5) (x := some 140) (by show 138 < 146; decide)
  exact M_vret (pc := 15) dX6_init_15 rfl rfl rfl
def nI_X10_5 (I : HI) : HI := (up2 (up2 (up2 (up2 I 146 1 0) 146 2 0) 146 3 0) 146 4 0)
def nP_X10_5 (P : Nat → Nat → Option Nat) : Nat → Nat → Option Nat := (up2 P 146 0 (some 147))
theorem zr_X10_5 {I : HI} {J : HJ} {P : Nat → Nat → Option Nat} (hz : zr 147 I J P) : zr 148 (nI_X10_5 I) J (nP_X10_5 P) := by
  have hz1 := hz.mono (Nat.le_succ _)
  have hz2 := hz1.upP (a := 146) (k := 0) (x := some 147) (by show 146 < 148; decide)
  have hz3 := hz2.upI (a := 146) (k := 1) (x := 0) (by show 146 < 148; decide)
  have hz4 := hz3.upI (a := 146) (k := 2) (x := 0) (by show 146 < 148; decide)
  have hz5 := hz4.upI (a := 146) (k := 3) (x := 0) (by show 146 < 148; decide)
  have hz6 := hz5.upI (a := 146) (k := 4) (x := 0) (by show 146 < 148; decide)
  exact hz6
set_option maxRecDepth 4000 in
set_option maxHeartbeats 4000000 in
theorem K_X10_5 {g : gX} {d : Nat} {I : HI} {J : HJ} {P : Nat → Nat → Option Nat} (hz : zr 147 I J P) : Cm g mX10_init (d + 1) [.ref 146] (147, I, J, P) none (148, nI_X10_5 I, J, nP_X10_5 P) := by
  refine Cm.of (by decide) (by simp [Value.category]) (Nat.le_of_ble_eq_true rfl) (by show 147 ≤ 148; decide) (ls := [some (.ref 146)]) rfl ?_
  refine M_aload_n (pc := 0) dX10_init_0 rfl ?_
  refine M_objInit (pc := 1) dX10_init_1 w_267 rfl ?_
  refine M_aload_n (pc := 4) dX10_init_4 rfl ?_
  refine M_iconst (pc := 5) (v := 0) dX10_init_5 (by decide) ?_
  refine M_newaI (pc := 6) (t := 147) (n := 0) dX10_init_6 w_78 ⟨by decide, by decide⟩ (by decide) (by decide +kernel) (by show 147 < 148; decide) (by show 147 < 219; decide) hz ?_
  have hz1 := hz.mono (Nat.le_succ _)
  refine M_putR (pc := 8) (t := 148) (b := 147) dX10_init_8 f_X10_9_5 (⟨by decide, by decide, by decide +kernel, by decide⟩ : OB 148 146 5) rfl ?_
  have hz2 := hz1.upP (a := 146) (k := 0) (x := some 147) (by show 146 < 148; decide)
  refine M_aload_n (pc := 11) dX10_init_11 rfl ?_
  refine M_iconst (pc := 12) (v := 0) dX10_init_12 (by decide) ?_
  refine M_putI (pc := 13) (t := 148) dX10_init_13 f_X10_15_5 (⟨by decide, by decide, by decide +kernel, by decide⟩ : OB 148 146 5) rfl ⟨rfl, rfl⟩ ?_
  have hz3 := hz2.upI (a := 146) (k := 1) (x := 0) (by show 146 < 148; decide)
  refine M_aload_n (pc := 16) dX10_init_16 rfl ?_
  refine M_iconst (pc := 17) (v := 0) dX10_init_17 (by decide) ?_
  refine M_putI (pc := 18) (t := 148) dX10_init_18 f_X10_19_5 (⟨by decide, by decide, by decide +kernel, by decide⟩ : OB 148 146 5) rfl ⟨rfl, rfl⟩ ?_
  have hz4 := hz3.upI (a := 146) (k := 2) (x := 0) (by show 146 < 148; decide)
  refine M_aload_n (pc := 21) dX10_init_21 rfl ?_
  refine M_iconst (pc := 22) (v := 0) dX10_init_22 (by decide) ?_
  refine M_putI (pc := 23) (t := 148) dX10_init_23 f_X10_22_5 (⟨by decide, by decide, by decide +kernel, by decide⟩ : OB 148 146 5) rfl ⟨rfl, rfl⟩ ?_
  have hz5 := hz4.upI (a := 146) (k := 3) (x := 0) (by show 146 < 148; decide)
  refine M_aload_n (pc := 26) dX10_init_26 rfl ?_
  refine M_iconst (pc := 27) (v := 0) dX10_init_27 (by decide) ?_
  refine M_putI (pc := 28) (t := 148) dX10_init_28 f_X10_25_5 (⟨by decide, by decide, by decide +kernel, by decide⟩ : OB 148 146 5) rfl ⟨rfl, rfl⟩ ?_
  have hz6 := hz5.upI (a := 146) (k := 4) (x := 0) (by show 146 < 148; decide)
  exact M_vret (pc := 31) dX10_init_31 rfl rfl rfl
theorem i_X5_5 : IF RX5 5 mX10_init := ⟨Or.inr nw_295, ⟨w_265, w_8, w_266⟩, ⟨by decide, by decide, by decide +kernel⟩, by decide, rfl, rfl⟩
theorem i_X5_13 : IF RX5 13 mX4_init := ⟨Or.inr nw_297, ⟨w_162, w_4, w_163⟩, ⟨by decide, by decide, by decide +kernel⟩, by decide, rfl, rfl⟩
def nI_X5 (I : HI) : HI := (up2 (up2 (nI_X4 148 (nI_X10_5 I)) 146 7 0) 146 8 0)
def nP_X5 (P : Nat → Nat → Option Nat) : Nat → Nat → Option Nat := (up2 (up2 (nP_X4 148 (nP_X10_5 P)) 146 5 (some 148)) 146 6 (some 154))
theorem zr_X5 {I : HI} {J : HJ} {P : Nat → Nat → Option Nat} (hz : zr 147 I J P) : zr 155 (nI_X5 I) J (nP_X5 P) := by
  have hz1 := zr_X10_5 hz
  have hz2 := hz1.mono (Nat.le_succ _)
  have hz3 := zr_X4 (a := 148) hz2
  have hz4 := hz3.upP (a := 146) (k := 5) (x := some 148) (by show 146 < 154; decide)
  have hz5 := hz4.mono (Nat.le_succ _)
  have hz6 := hz5.upP (a := 146) (k := 6) (x := some 154) (by show 146 < 155; decide)
  have hz7 := hz6.upI (a := 146) (k := 7) (x := 0) (by show 146 < 155; decide)
  have hz8 := hz7.upI (a := 146) (k := 8) (x := 0) (by show 146 < 155; decide)
  exact hz8
set_option maxRecDepth 4000 in
set_option maxHeartbeats 4000000 in
theorem K_X5 {g : gX} {d : Nat} {I : HI} {J : HJ} {P : Nat → Nat → Option Nat} (hz : zr 147 I J P) : Cm g mX5_init (d + 2) [.ref 146] (147, I, J, P) none (155, nI_X5 I, J, nP_X5 P) := by
  refine Cm.of (by decide) (by simp [Value.category]) (Nat.le_of_ble_eq_true rfl) (by show 147 ≤ 155; decide) (ls := [some (.ref 146)]) rfl ?_
  refine M_aload_n (pc := 0) dX5_init_0 rfl ?_
  refine M_callI (pc := 1) dX5_init_1 i_X5_5 (Nat.le_of_ble_eq_true rfl) (K_X10_5 (d := d + 0) hz) (by show 148 ≤ 155; decide) ?_
  have hz1 := zr_X10_5 hz
  refine M_aload_n (pc := 4) dX5_init_4 rfl ?_
  refine M_new (pc := 5) (t := 148) (c := 4) dX5_init_5 cf4 zf4 (by decide) w_296 (by decide +kernel) (by show 148 < 155; decide) (by show 148 < 219; decide) hz1 ?_
  have hz2 := hz1.mono (Nat.le_succ _)
  refine M_dup (pc := 8) dX5_init_8 rfl ?_
  refine M_callI (pc := 9) dX5_init_9 i_X5_13 (Nat.le_of_ble_eq_true rfl) (K_X4 (d := d + 0) (a := 148) (by show 1 ≤ 148; decide) (by decide +kernel) hz2) (by show 154 ≤ 155; decide) ?_
  have hz3 := zr_X4 (a := 148) hz2
  refine M_putRF (pc := 12) (t := 154) (b := 148) dX5_init_12 f_X5_14 (⟨by decide, by decide, by decide +kernel, by decide⟩ : OB 154 146 5) rfl rfl rfl ?_
  have hz4 := hz3.upP (a := 146) (k := 5) (x := some 148) (by show 146 < 154; decide)
  refine M_aload_n (pc := 15) dX5_init_15 rfl ?_
  refine M_bipush (pc := 16) (v := 21) dX5_init_16 (by decide) ?_
  refine M_newaI (pc := 18) (t := 154) (n := 21) dX5_init_18 w_78 ⟨by decide, by decide⟩ (by decide) (by decide +kernel) (by show 154 < 155; decide) (by show 154 < 219; decide) hz4 ?_
  have hz5 := hz4.mono (Nat.le_succ _)
  refine M_putRF (pc := 20) (t := 155) (b := 154) dX5_init_20 f_X5_18 (⟨by decide, by decide, by decide +kernel, by decide⟩ : OB 155 146 5) rfl rfl rfl ?_
  have hz6 := hz5.upP (a := 146) (k := 6) (x := some 154) (by show 146 < 155; decide)
  refine M_aload_n (pc := 23) dX5_init_23 rfl ?_
  refine M_iconst (pc := 24) (v := 0) dX5_init_24 (by decide) ?_
  refine M_putI (pc := 25) (t := 155) dX5_init_25 f_X5_22 (⟨by decide, by decide, by decide +kernel, by decide⟩ : OB 155 146 5) rfl ⟨rfl, rfl⟩ ?_
  have hz7 := hz6.upI (a := 146) (k := 7) (x := 0) (by show 146 < 155; decide)
  refine M_aload_n (pc := 28) dX5_init_28 rfl ?_
  refine M_iconst (pc := 29) (v := 0) dX5_init_29 (by decide) ?_
  refine M_putI (pc := 30) (t := 155) dX5_init_30 f_X5_26 (⟨by decide, by decide, by decide +kernel, by decide⟩ : OB 155 146 5) rfl ⟨rfl, rfl⟩ ?_
  have hz8 := hz7.upI (a := 146) (k := 8) (x := 0) (by show 146 < 155; decide)
  exact M_vret (pc := 33) dX5_init_33 rfl rfl rfl
theorem i_X8_31 : IF RX8 31 mX3_init := ⟨Or.inr nw_324, ⟨w_40, w_2, w_41⟩, ⟨by decide, by decide, by decide +kernel⟩, by decide, rfl, rfl⟩
def nI_X8 (I : HI) : HI := (nI_X3 195 (nI_X3 189 (nI_X3 183 (nI_X3 177 (nI_X3 171 (nI_X3 165 (nI_X3 159 (up2 (up2 I 155 0 0) 155 1 0))))))))
def nP_X8 (P : Nat → Nat → Option Nat) : Nat → Nat → Option Nat := (up2 (nP_X3 195 (up2 (nP_X3 189 (up2 (nP_X3 183 (up2 (nP_X3 177 (up2 (nP_X3 171 (up2 (nP_X3 165 (up2 (nP_X3 159 (up2 (up2 (up2 P 155 2 (some 156)) 155 3 (some 157)) 155 4 (some 158))) 158 (Int32.toNatClampNeg 0) (some 159))) 158 (Int32.toNatClampNeg 1) (some 165))) 158 (Int32.toNatClampNeg 2) (some 171))) 158 (Int32.toNatClampNeg 3) (some 177))) 158 (Int32.toNatClampNeg 4) (some 183))) 158 (Int32.toNatClampNeg 5) (some 189))) 158 (Int32.toNatClampNeg 6) (some 195))
theorem zr_X8 {I : HI} {J : HJ} {P : Nat → Nat → Option Nat} (hz : zr 156 I J P) : zr 201 (nI_X8 I) J (nP_X8 P) := by
  have hz1 := hz.upI (a := 155) (k := 0) (x := 0) (by show 155 < 156; decide)
  have hz2 := hz1.upI (a := 155) (k := 1) (x := 0) (by show 155 < 156; decide)
  have hz3 := hz2.mono (Nat.le_succ _)
  have hz4 := hz3.upP (a := 155) (k := 2) (x := some 156) (by show 155 < 157; decide)
  have hz5 := hz4.mono (Nat.le_succ _)
  have hz6 := hz5.upP (a := 155) (k := 3) (x := some 157) (by show 155 < 158; decide)
  have hz7 := hz6.mono (Nat.le_succ _)
  have hz8 := hz7.upP (a := 155) (k := 4) (x := some 158) (by show 155 < 159; decide)
  have hz9 := hz8.mono (Nat.le_succ _)
  have hz10 := zr_X3 (a := 159) hz9
  have hz11 := hz10.upP (a := 158) (k := Int32.toNatClampNeg 0) (x := some 159) (by show 158 < 165; decide)
  have hz12 := hz11.mono (Nat.le_succ _)
  have hz13 := zr_X3 (a := 165) hz12
  have hz14 := hz13.upP (a := 158) (k := Int32.toNatClampNeg 1) (x := some 165) (by show 158 < 171; decide)
  have hz15 := hz14.mono (Nat.le_succ _)
  have hz16 := zr_X3 (a := 171) hz15
  have hz17 := hz16.upP (a := 158) (k := Int32.toNatClampNeg 2) (x := some 171) (by show 158 < 177; decide)
  have hz18 := hz17.mono (Nat.le_succ _)
  have hz19 := zr_X3 (a := 177) hz18
  have hz20 := hz19.upP (a := 158) (k := Int32.toNatClampNeg 3) (x := some 177) (by show 158 < 183; decide)
  have hz21 := hz20.mono (Nat.le_succ _)
  have hz22 := zr_X3 (a := 183) hz21
  have hz23 := hz22.upP (a := 158) (k := Int32.toNatClampNeg 4) (x := some 183) (by show 158 < 189; decide)
  have hz24 := hz23.mono (Nat.le_succ _)
  have hz25 := zr_X3 (a := 189) hz24
  have hz26 := hz25.upP (a := 158) (k := Int32.toNatClampNeg 5) (x := some 189) (by show 158 < 195; decide)
  have hz27 := hz26.mono (Nat.le_succ _)
  have hz28 := zr_X3 (a := 195) hz27
  have hz29 := hz28.upP (a := 158) (k := Int32.toNatClampNeg 6) (x := some 195) (by show 158 < 201; decide)
  exact hz29
set_option maxRecDepth 4000 in
set_option maxHeartbeats 4000000 in
theorem K_X8 {g : gX} {d : Nat} {I : HI} {J : HJ} {P : Nat → Nat → Option Nat} (hz : zr 156 I J P) : Cm g mX8_init (d + 3) [.ref 155] (156, I, J, P) none (201, nI_X8 I, J, nP_X8 P) := by
  refine Cm.of (by decide) (by simp [Value.category]) (Nat.le_of_ble_eq_true rfl) (by show 156 ≤ 201; decide) (ls := [some (.ref 155), none]) rfl ?_
  refine M_aload_n (pc := 0) dX8_init_0 rfl ?_
  refine M_objInit (pc := 1) dX8_init_1 w_322 rfl ?_
  refine M_aload_n (pc := 4) dX8_init_4 rfl ?_
  refine M_iconst (pc := 5) (v := 0) dX8_init_5 (by decide) ?_
  refine M_putI (pc := 6) (t := 156) dX8_init_6 f_X8_9 (⟨by decide, by decide, by decide +kernel, by decide⟩ : OB 156 155 8) rfl ⟨rfl, rfl⟩ ?_
  have hz1 := hz.upI (a := 155) (k := 0) (x := 0) (by show 155 < 156; decide)
  refine M_aload_n (pc := 9) dX8_init_9 rfl ?_
  refine M_iconst (pc := 10) (v := 0) dX8_init_10 (by decide) ?_
  refine M_putI (pc := 11) (t := 156) dX8_init_11 f_X8_15 (⟨by decide, by decide, by decide +kernel, by decide⟩ : OB 156 155 8) rfl ⟨rfl, rfl⟩ ?_
  have hz2 := hz1.upI (a := 155) (k := 1) (x := 0) (by show 155 < 156; decide)
  refine M_aload_n (pc := 14) dX8_init_14 rfl ?_
  refine M_bipush (pc := 15) (v := 6) dX8_init_15 (by decide) ?_
  refine M_newaI (pc := 17) (t := 156) (n := 6) dX8_init_17 w_78 ⟨by decide, by decide⟩ (by decide) (by decide +kernel) (by show 156 < 201; decide) (by show 156 < 219; decide) hz2 ?_
  have hz3 := hz2.mono (Nat.le_succ _)
  refine M_putRF (pc := 19) (t := 157) (b := 156) dX8_init_19 f_X8_18 (⟨by decide, by decide, by decide +kernel, by decide⟩ : OB 157 155 8) rfl rfl rfl ?_
  have hz4 := hz3.upP (a := 155) (k := 2) (x := some 156) (by show 155 < 157; decide)
  refine M_aload_n (pc := 22) dX8_init_22 rfl ?_
  refine M_bipush (pc := 23) (v := 6) dX8_init_23 (by decide) ?_
  refine M_newaI (pc := 25) (t := 157) (n := 6) dX8_init_25 w_78 ⟨by decide, by decide⟩ (by decide) (by decide +kernel) (by show 157 < 201; decide) (by show 157 < 219; decide) hz4 ?_
  have hz5 := hz4.mono (Nat.le_succ _)
  refine M_putRF (pc := 27) (t := 158) (b := 157) dX8_init_27 f_X8_22 (⟨by decide, by decide, by decide +kernel, by decide⟩ : OB 158 155 8) rfl rfl rfl ?_
  have hz6 := hz5.upP (a := 155) (k := 3) (x := some 157) (by show 155 < 158; decide)
  refine M_aload_n (pc := 30) dX8_init_30 rfl ?_
  refine M_bipush (pc := 31) (v := 7) dX8_init_31 (by decide) ?_
  refine M_newqL (pc := 33) (t := 158) (n := 7) dX8_init_33 w_323 ⟨by decide, by decide⟩ (by decide) (by decide +kernel) (by show 158 < 201; decide) (by show 158 < 219; decide) hz6 ?_
  have hz7 := hz6.mono (Nat.le_succ _)
  refine M_putRF (pc := 36) (t := 159) (b := 158) dX8_init_36 f_X8_27 (⟨by decide, by decide, by decide +kernel, by decide⟩ : OB 159 155 8) rfl rfl rfl ?_
  have hz8 := hz7.upP (a := 155) (k := 4) (x := some 158) (by show 155 < 159; decide)
  refine M_iconst (pc := 39) (v := 0) dX8_init_39 (by decide) ?_
  refine M_istore_n (pc := 40) (ls' := [some (.ref 155), some (.int 0)]) dX8_init_40 (by decide) rfl ?_
  refine M_iload_n (pc := 41) dX8_init_41 rfl ?_
  refine M_bipush (pc := 42) (v := 6) dX8_init_42 (by decide) ?_
  refine M_icmp_gt (pc := 44) (tgt := 66) dX8_init_44 (by decide) (fun hc => absurd hc (by decide)) (fun _ => ?_)
  refine M_aload_n (pc := 47) dX8_init_47 rfl ?_
  refine M_getR (pc := 48) (b := 158) dX8_init_48 f_X8_27 (⟨by decide, by decide, by decide +kernel, by decide⟩ : OB 159 155 8) rfl ?_
  refine M_iload_n (pc := 51) dX8_init_51 rfl ?_
  refine M_new (pc := 52) (t := 159) (c := 3) dX8_init_52 cf3 zf3 (by decide) w_323 (by decide +kernel) (by show 159 < 201; decide) (by show 159 < 219; decide) hz8 ?_
  have hz9 := hz8.mono (Nat.le_succ _)
  refine M_dup (pc := 55) dX8_init_55 rfl ?_
  refine M_callI (pc := 56) dX8_init_56 i_X8_31 (Nat.le_of_ble_eq_true rfl) (K_X3 (d := d + 0) (a := 159) (by show 1 ≤ 159; decide) (by decide +kernel) hz9) (by show 165 ≤ 201; decide) ?_
  have hz10 := zr_X3 (a := 159) hz9
  refine M_aastL (pc := 59) (a := 158) (n := 7) (b := 159) dX8_init_59 ⟨by decide, by decide, by decide +kernel⟩ ⟨by decide, by decide, by decide +kernel, by decide⟩ (inB_in (by decide)) ?_
  have hz11 := hz10.upP (a := 158) (k := Int32.toNatClampNeg 0) (x := some 159) (by show 158 < 165; decide)
  refine M_iinc (pc := 60) (v := 1) (ls' := [some (.ref 155), some (.int 1)]) dX8_init_60 rfl (by decide) (by decide) rfl ?_
  refine M_goto (pc := 63) (tgt := 41) dX8_init_63 (by decide) ?_
  refine M_iload_n (pc := 41) dX8_init_41 rfl ?_
  refine M_bipush (pc := 42) (v := 6) dX8_init_42 (by decide) ?_
  refine M_icmp_gt (pc := 44) (tgt := 66) dX8_init_44 (by decide) (fun hc => absurd hc (by decide)) (fun _ => ?_)
  refine M_aload_n (pc := 47) dX8_init_47 rfl ?_
  refine M_getR (pc := 48) (b := 158) dX8_init_48 f_X8_27 (⟨by decide, by decide, by decide +kernel, by decide⟩ : OB 165 155 8) rfl ?_
  refine M_iload_n (pc := 51) dX8_init_51 rfl ?_
  refine M_new (pc := 52) (t := 165) (c := 3) dX8_init_52 cf3 zf3 (by decide) w_323 (by decide +kernel) (by show 165 < 201; decide) (by show 165 < 219; decide) hz11 ?_
  have hz12 := hz11.mono (Nat.le_succ _)
  refine M_dup (pc := 55) dX8_init_55 rfl ?_
  refine M_callI (pc := 56) dX8_init_56 i_X8_31 (Nat.le_of_ble_eq_true rfl) (K_X3 (d := d + 0) (a := 165) (by show 1 ≤ 165; decide) (by decide +kernel) hz12) (by show 171 ≤ 201; decide) ?_
  have hz13 := zr_X3 (a := 165) hz12
  refine M_aastL (pc := 59) (a := 158) (n := 7) (b := 165) dX8_init_59 ⟨by decide, by decide, by decide +kernel⟩ ⟨by decide, by decide, by decide +kernel, by decide⟩ (inB_in (by decide)) ?_
  have hz14 := hz13.upP (a := 158) (k := Int32.toNatClampNeg 1) (x := some 165) (by show 158 < 171; decide)
  refine M_iinc (pc := 60) (v := 2) (ls' := [some (.ref 155), some (.int 2)]) dX8_init_60 rfl (by decide) (by decide) rfl ?_
  refine M_goto (pc := 63) (tgt := 41) dX8_init_63 (by decide) ?_
  refine M_iload_n (pc := 41) dX8_init_41 rfl ?_
  refine M_bipush (pc := 42) (v := 6) dX8_init_42 (by decide) ?_
  refine M_icmp_gt (pc := 44) (tgt := 66) dX8_init_44 (by decide) (fun hc => absurd hc (by decide)) (fun _ => ?_)
  refine M_aload_n (pc := 47) dX8_init_47 rfl ?_
  refine M_getR (pc := 48) (b := 158) dX8_init_48 f_X8_27 (⟨by decide, by decide, by decide +kernel, by decide⟩ : OB 171 155 8) rfl ?_
  refine M_iload_n (pc := 51) dX8_init_51 rfl ?_
  refine M_new (pc := 52) (t := 171) (c := 3) dX8_init_52 cf3 zf3 (by decide) w_323 (by decide +kernel) (by show 171 < 201; decide) (by show 171 < 219; decide) hz14 ?_
  have hz15 := hz14.mono (Nat.le_succ _)
  refine M_dup (pc := 55) dX8_init_55 rfl ?_
  refine M_callI (pc := 56) dX8_init_56 i_X8_31 (Nat.le_of_ble_eq_true rfl) (K_X3 (d := d + 0) (a := 171) (by show 1 ≤ 171; decide) (by decide +kernel) hz15) (by show 177 ≤ 201; decide) ?_
  have hz16 := zr_X3 (a := 171) hz15
  refine M_aastL (pc := 59) (a := 158) (n := 7) (b := 171) dX8_init_59 ⟨by decide, by decide, by decide +kernel⟩ ⟨by decide, by decide, by decide +kernel, by decide⟩ (inB_in (by decide)) ?_
  have hz17 := hz16.upP (a := 158) (k := Int32.toNatClampNeg 2) (x := some 171) (by show 158 < 177; decide)
  refine M_iinc (pc := 60) (v := 3) (ls' := [some (.ref 155), some (.int 3)]) dX8_init_60 rfl (by decide) (by decide) rfl ?_
  refine M_goto (pc := 63) (tgt := 41) dX8_init_63 (by decide) ?_
  refine M_iload_n (pc := 41) dX8_init_41 rfl ?_
  refine M_bipush (pc := 42) (v := 6) dX8_init_42 (by decide) ?_
  refine M_icmp_gt (pc := 44) (tgt := 66) dX8_init_44 (by decide) (fun hc => absurd hc (by decide)) (fun _ => ?_)
  refine M_aload_n (pc := 47) dX8_init_47 rfl ?_
  refine M_getR (pc := 48) (b := 158) dX8_init_48 f_X8_27 (⟨by decide, by decide, by decide +kernel, by decide⟩ : OB 177 155 8) rfl ?_
  refine M_iload_n (pc := 51) dX8_init_51 rfl ?_
  refine M_new (pc := 52) (t := 177) (c := 3) dX8_init_52 cf3 zf3 (by decide) w_323 (by decide +kernel) (by show 177 < 201; decide) (by show 177 < 219; decide) hz17 ?_
  have hz18 := hz17.mono (Nat.le_succ _)
  refine M_dup (pc := 55) dX8_init_55 rfl ?_
  refine M_callI (pc := 56) dX8_init_56 i_X8_31 (Nat.le_of_ble_eq_true rfl) (K_X3 (d := d + 0) (a := 177) (by show 1 ≤ 177; decide) (by decide +kernel) hz18) (by show 183 ≤ 201; decide) ?_
  have hz19 := zr_X3 (a := 177) hz18
  refine M_aastL (pc := 59) (a := 158) (n := 7) (b := 177) dX8_init_59 ⟨by decide, by decide, by decide +kernel⟩ ⟨by decide, by decide, by decide +kernel, by decide⟩ (inB_in (by decide)) ?_
  have hz20 := hz19.upP (a := 158) (k := Int32.toNatClampNeg 3) (x := some 177) (by show 158 < 183; decide)
  refine M_iinc (pc := 60) (v := 4) (ls' := [some (.ref 155), some (.int 4)]) dX8_init_60 rfl (by decide) (by decide) rfl ?_
  refine M_goto (pc := 63) (tgt := 41) dX8_init_63 (by decide) ?_
  refine M_iload_n (pc := 41) dX8_init_41 rfl ?_
  refine M_bipush (pc := 42) (v := 6) dX8_init_42 (by decide) ?_
  refine M_icmp_gt (pc := 44) (tgt := 66) dX8_init_44 (by decide) (fun hc => absurd hc (by decide)) (fun _ => ?_)
  refine M_aload_n (pc := 47) dX8_init_47 rfl ?_
  refine M_getR (pc := 48) (b := 158) dX8_init_48 f_X8_27 (⟨by decide, by decide, by decide +kernel, by decide⟩ : OB 183 155 8) rfl ?_
  refine M_iload_n (pc := 51) dX8_init_51 rfl ?_
  refine M_new (pc := 52) (t := 183) (c := 3) dX8_init_52 cf3 zf3 (by decide) w_323 (by decide +kernel) (by show 183 < 201; decide) (by show 183 < 219; decide) hz20 ?_
  have hz21 := hz20.mono (Nat.le_succ _)
  refine M_dup (pc := 55) dX8_init_55 rfl ?_
  refine M_callI (pc := 56) dX8_init_56 i_X8_31 (Nat.le_of_ble_eq_true rfl) (K_X3 (d := d + 0) (a := 183) (by show 1 ≤ 183; decide) (by decide +kernel) hz21) (by show 189 ≤ 201; decide) ?_
  have hz22 := zr_X3 (a := 183) hz21
  refine M_aastL (pc := 59) (a := 158) (n := 7) (b := 183) dX8_init_59 ⟨by decide, by decide, by decide +kernel⟩ ⟨by decide, by decide, by decide +kernel, by decide⟩ (inB_in (by decide)) ?_
  have hz23 := hz22.upP (a := 158) (k := Int32.toNatClampNeg 4) (x := some 183) (by show 158 < 189; decide)
  refine M_iinc (pc := 60) (v := 5) (ls' := [some (.ref 155), some (.int 5)]) dX8_init_60 rfl (by decide) (by decide) rfl ?_
  refine M_goto (pc := 63) (tgt := 41) dX8_init_63 (by decide) ?_
  refine M_iload_n (pc := 41) dX8_init_41 rfl ?_
  refine M_bipush (pc := 42) (v := 6) dX8_init_42 (by decide) ?_
  refine M_icmp_gt (pc := 44) (tgt := 66) dX8_init_44 (by decide) (fun hc => absurd hc (by decide)) (fun _ => ?_)
  refine M_aload_n (pc := 47) dX8_init_47 rfl ?_
  refine M_getR (pc := 48) (b := 158) dX8_init_48 f_X8_27 (⟨by decide, by decide, by decide +kernel, by decide⟩ : OB 189 155 8) rfl ?_
  refine M_iload_n (pc := 51) dX8_init_51 rfl ?_
  refine M_new (pc := 52) (t := 189) (c := 3) dX8_init_52 cf3 zf3 (by decide) w_323 (by decide +kernel) (by show 189 < 201; decide) (by show 189 < 219; decide) hz23 ?_
  have hz24 := hz23.mono (Nat.le_succ _)
  refine M_dup (pc := 55) dX8_init_55 rfl ?_
  refine M_callI (pc := 56) dX8_init_56 i_X8_31 (Nat.le_of_ble_eq_true rfl) (K_X3 (d := d + 0) (a := 189) (by show 1 ≤ 189; decide) (by decide +kernel) hz24) (by show 195 ≤ 201; decide) ?_
  have hz25 := zr_X3 (a := 189) hz24
  refine M_aastL (pc := 59) (a := 158) (n := 7) (b := 189) dX8_init_59 ⟨by decide, by decide, by decide +kernel⟩ ⟨by decide, by decide, by decide +kernel, by decide⟩ (inB_in (by decide)) ?_
  have hz26 := hz25.upP (a := 158) (k := Int32.toNatClampNeg 5) (x := some 189) (by show 158 < 195; decide)
  refine M_iinc (pc := 60) (v := 6) (ls' := [some (.ref 155), some (.int 6)]) dX8_init_60 rfl (by decide) (by decide) rfl ?_
  refine M_goto (pc := 63) (tgt := 41) dX8_init_63 (by decide) ?_
  refine M_iload_n (pc := 41) dX8_init_41 rfl ?_
  refine M_bipush (pc := 42) (v := 6) dX8_init_42 (by decide) ?_
  refine M_icmp_gt (pc := 44) (tgt := 66) dX8_init_44 (by decide) (fun hc => absurd hc (by decide)) (fun _ => ?_)
  refine M_aload_n (pc := 47) dX8_init_47 rfl ?_
  refine M_getR (pc := 48) (b := 158) dX8_init_48 f_X8_27 (⟨by decide, by decide, by decide +kernel, by decide⟩ : OB 195 155 8) rfl ?_
  refine M_iload_n (pc := 51) dX8_init_51 rfl ?_
  refine M_new (pc := 52) (t := 195) (c := 3) dX8_init_52 cf3 zf3 (by decide) w_323 (by decide +kernel) (by show 195 < 201; decide) (by show 195 < 219; decide) hz26 ?_
  have hz27 := hz26.mono (Nat.le_succ _)
  refine M_dup (pc := 55) dX8_init_55 rfl ?_
  refine M_callI (pc := 56) dX8_init_56 i_X8_31 (Nat.le_of_ble_eq_true rfl) (K_X3 (d := d + 0) (a := 195) (by show 1 ≤ 195; decide) (by decide +kernel) hz27) (by show 201 ≤ 201; decide) ?_
  have hz28 := zr_X3 (a := 195) hz27
  refine M_aastL (pc := 59) (a := 158) (n := 7) (b := 195) dX8_init_59 ⟨by decide, by decide, by decide +kernel⟩ ⟨by decide, by decide, by decide +kernel, by decide⟩ (inB_in (by decide)) ?_
  have hz29 := hz28.upP (a := 158) (k := Int32.toNatClampNeg 6) (x := some 195) (by show 158 < 201; decide)
  refine M_iinc (pc := 60) (v := 7) (ls' := [some (.ref 155), some (.int 7)]) dX8_init_60 rfl (by decide) (by decide) rfl ?_
  refine M_goto (pc := 63) (tgt := 41) dX8_init_63 (by decide) ?_
  refine M_iload_n (pc := 41) dX8_init_41 rfl ?_
  refine M_bipush (pc := 42) (v := 6) dX8_init_42 (by decide) ?_
  refine M_icmp_gt (pc := 44) (tgt := 66) dX8_init_44 (by decide) (fun _ => ?_) (fun hc => absurd (by decide) hc)
  exact M_vret (pc := 66) dX8_init_66 rfl rfl rfl
def nI_X2 (I : HI) : HI := (up2 (up2 (up2 I 201 0 (-1)) 201 1 0) 201 2 0)
def nP_X2 (P : Nat → Nat → Option Nat) : Nat → Nat → Option Nat := (up2 (up2 (up2 P 201 3 (some 202)) 201 4 (some 203)) 201 5 (some 204))
theorem zr_X2 {I : HI} {J : HJ} {P : Nat → Nat → Option Nat} (hz : zr 202 I J P) : zr 205 (nI_X2 I) J (nP_X2 P) := by
  have hz1 := hz.upI (a := 201) (k := 0) (x := -1) (by show 201 < 202; decide)
  have hz2 := hz1.upI (a := 201) (k := 1) (x := 0) (by show 201 < 202; decide)
  have hz3 := hz2.upI (a := 201) (k := 2) (x := 0) (by show 201 < 202; decide)
  have hz4 := hz3.mono (Nat.le_succ _)
  have hz5 := hz4.upP (a := 201) (k := 3) (x := some 202) (by show 201 < 203; decide)
  have hz6 := hz5.mono (Nat.le_succ _)
  have hz7 := hz6.upP (a := 201) (k := 4) (x := some 203) (by show 201 < 204; decide)
  have hz8 := hz7.mono (Nat.le_succ _)
  have hz9 := hz8.upP (a := 201) (k := 5) (x := some 204) (by show 201 < 205; decide)
  exact hz9
set_option maxRecDepth 4000 in
set_option maxHeartbeats 4000000 in
theorem K_X2 {g : gX} {d : Nat} {I : HI} {J : HJ} {P : Nat → Nat → Option Nat} (hz : zr 202 I J P) : Cm g mX2_init (d + 1) [.ref 201] (202, I, J, P) none (205, nI_X2 I, J, nP_X2 P) := by
  refine Cm.of (by decide) (by simp [Value.category]) (Nat.le_of_ble_eq_true rfl) (by show 202 ≤ 205; decide) (ls := [some (.ref 201)]) rfl ?_
  refine M_aload_n (pc := 0) dX2_init_0 rfl ?_
  refine M_objInit (pc := 1) dX2_init_1 w_347 rfl ?_
  refine M_aload_n (pc := 4) dX2_init_4 rfl ?_
  refine M_iconst (pc := 5) (v := -1) dX2_init_5 (by decide) ?_
  refine M_putI (pc := 6) (t := 202) dX2_init_6 f_X2_9 (⟨by decide, by decide, by decide +kernel, by decide⟩ : OB 202 201 2) rfl ⟨rfl, rfl⟩ ?_
  have hz1 := hz.upI (a := 201) (k := 0) (x := -1) (by show 201 < 202; decide)
  refine M_aload_n (pc := 9) dX2_init_9 rfl ?_
  refine M_iconst (pc := 10) (v := 0) dX2_init_10 (by decide) ?_
  refine M_putI (pc := 11) (t := 202) dX2_init_11 f_X2_15 (⟨by decide, by decide, by decide +kernel, by decide⟩ : OB 202 201 2) rfl ⟨rfl, rfl⟩ ?_
  have hz2 := hz1.upI (a := 201) (k := 1) (x := 0) (by show 201 < 202; decide)
  refine M_aload_n (pc := 14) dX2_init_14 rfl ?_
  refine M_iconst (pc := 15) (v := 0) dX2_init_15 (by decide) ?_
  refine M_putI (pc := 16) (t := 202) dX2_init_16 f_X2_18 (⟨by decide, by decide, by decide +kernel, by decide⟩ : OB 202 201 2) rfl ⟨rfl, rfl⟩ ?_
  have hz3 := hz2.upI (a := 201) (k := 2) (x := 0) (by show 201 < 202; decide)
  refine M_aload_n (pc := 19) dX2_init_19 rfl ?_
  refine M_bipush (pc := 20) (v := 60) dX2_init_20 (by decide) ?_
  refine M_newaI (pc := 22) (t := 202) (n := 60) dX2_init_22 w_78 ⟨by decide, by decide⟩ (by decide) (by decide +kernel) (by show 202 < 205; decide) (by show 202 < 219; decide) hz3 ?_
  have hz4 := hz3.mono (Nat.le_succ _)
  refine M_putRF (pc := 24) (t := 203) (b := 202) dX2_init_24 f_X2_21 (⟨by decide, by decide, by decide +kernel, by decide⟩ : OB 203 201 2) rfl rfl rfl ?_
  have hz5 := hz4.upP (a := 201) (k := 3) (x := some 202) (by show 201 < 203; decide)
  refine M_aload_n (pc := 27) dX2_init_27 rfl ?_
  refine M_iconst (pc := 28) (v := 5) dX2_init_28 (by decide) ?_
  refine M_newaI (pc := 29) (t := 203) (n := 5) dX2_init_29 w_78 ⟨by decide, by decide⟩ (by decide) (by decide +kernel) (by show 203 < 205; decide) (by show 203 < 219; decide) hz5 ?_
  have hz6 := hz5.mono (Nat.le_succ _)
  refine M_putRF (pc := 31) (t := 204) (b := 203) dX2_init_31 f_X2_25 (⟨by decide, by decide, by decide +kernel, by decide⟩ : OB 204 201 2) rfl rfl rfl ?_
  have hz7 := hz6.upP (a := 201) (k := 4) (x := some 203) (by show 201 < 204; decide)
  refine M_aload_n (pc := 34) dX2_init_34 rfl ?_
  refine M_iconst (pc := 35) (v := 5) dX2_init_35 (by decide) ?_
  refine M_newaI (pc := 36) (t := 204) (n := 5) dX2_init_36 w_78 ⟨by decide, by decide⟩ (by decide) (by decide +kernel) (by show 204 < 205; decide) (by show 204 < 219; decide) hz7 ?_
  have hz8 := hz7.mono (Nat.le_succ _)
  refine M_putRF (pc := 38) (t := 205) (b := 204) dX2_init_38 f_X2_28 (⟨by decide, by decide, by decide +kernel, by decide⟩ : OB 205 201 2) rfl rfl rfl ?_
  have hz9 := hz8.upP (a := 201) (k := 5) (x := some 204) (by show 201 < 205; decide)
  exact M_vret (pc := 41) dX2_init_41 rfl rfl rfl
theorem i_X11_22 : IF RX11 22 mX3_init := ⟨Or.inr nw_39, ⟨w_40, w_2, w_41⟩, ⟨by decide, by decide, by decide +kernel⟩, by decide, rfl, rfl⟩
theorem i_X11_29 : IF RX11 29 mX4_init := ⟨Or.inr nw_161, ⟨w_162, w_4, w_163⟩, ⟨by decide, by decide, by decide +kernel⟩, by decide, rfl, rfl⟩
theorem i_X11_36 : IF RX11 36 mX7_init := ⟨Or.inr nw_190, ⟨w_191, w_5, w_192⟩, ⟨by decide, by decide, by decide +kernel⟩, by decide, rfl, rfl⟩
theorem i_X11_43 : IF RX11 43 mX0_init := ⟨Or.inl w_207, ⟨w_208, w_6, w_209⟩, ⟨by decide, by decide, by decide +kernel⟩, by decide, rfl, rfl⟩
theorem i_X11_66 : IF RX11 66 mX9_init := ⟨Or.inr nw_233, ⟨w_234, w_7, w_235⟩, ⟨by decide, by decide, by decide +kernel⟩, by decide, rfl, rfl⟩
theorem i_X11_73 : IF RX11 73 mX6_init := ⟨Or.inr nw_261, ⟨w_262, w_9, w_263⟩, ⟨by decide, by decide, by decide +kernel⟩, by decide, rfl, rfl⟩
theorem i_X11_80 : IF RX11 80 mX5_init := ⟨Or.inr nw_292, ⟨w_293, w_10, w_294⟩, ⟨by decide, by decide, by decide +kernel⟩, by decide, rfl, rfl⟩
theorem i_X11_87 : IF RX11 87 mX8_init := ⟨Or.inl w_319, ⟨w_320, w_11, w_321⟩, ⟨by decide, by decide, by decide +kernel⟩, by decide, rfl, rfl⟩
theorem i_X11_94 : IF RX11 94 mX2_init := ⟨Or.inr nw_344, ⟨w_345, w_12, w_346⟩, ⟨by decide, by decide, by decide +kernel⟩, by decide, rfl, rfl⟩
def nI_X11 (I : HI) : HI := (nI_X2 (nI_X8 (nI_X5 (nI_X6 (nI_X9 (nI_X3 130 (up2 (nI_X7 128 (nI_X4 122 (nI_X3 116 (nI_X0 (nI_X7 15 (nI_X4 9 (nI_X3 3 (up2 (up2 I 1 1 0) 1 2 (-1))))))))) 1 10 0)))))))
def nP_X11 (P : Nat → Nat → Option Nat) : Nat → Nat → Option Nat := (up2 (nP_X2 (up2 (nP_X8 (up2 (nP_X5 (up2 (nP_X6 (up2 (nP_X9 (up2 (nP_X3 130 (up2 (nP_X7 128 (up2 (nP_X4 122 (up2 (nP_X3 116 (up2 (nP_X0 (up2 (nP_X7 15 (up2 (nP_X4 9 (up2 (nP_X3 3 (up2 P 1 0 (some 2))) 1 3 (some 3))) 1 4 (some 9))) 1 5 (some 15))) 1 6 (some 17))) 1 7 (some 116))) 1 8 (some 122))) 1 9 (some 128))) 1 11 (some 130))) 1 12 (some 136))) 1 13 (some 138))) 1 14 (some 146))) 1 15 (some 155))) 1 16 (some 201))
theorem zr_X11 {I : HI} {J : HJ} {P : Nat → Nat → Option Nat} (hz : zr 2 I J P) : zr 205 (nI_X11 I) J (nP_X11 P) := by
  have hz1 := hz.mono (Nat.le_succ _)
  have hz2 := hz1.upP (a := 1) (k := 0) (x := some 2) (by show 1 < 3; decide)
  have hz3 := hz2.upI (a := 1) (k := 1) (x := 0) (by show 1 < 3; decide)
  have hz4 := hz3.upI (a := 1) (k := 2) (x := -1) (by show 1 < 3; decide)
  have hz5 := hz4.mono (Nat.le_succ _)
  have hz6 := zr_X3 (a := 3) hz5
  have hz7 := hz6.upP (a := 1) (k := 3) (x := some 3) (by show 1 < 9; decide)
  have hz8 := hz7.mono (Nat.le_succ _)
  have hz9 := zr_X4 (a := 9) hz8
  have hz10 := hz9.upP (a := 1) (k := 4) (x := some 9) (by show 1 < 15; decide)
  have hz11 := hz10.mono (Nat.le_succ _)
  have hz12 := zr_X7 (a := 15) hz11
  have hz13 := hz12.upP (a := 1) (k := 5) (x := some 15) (by show 1 < 17; decide)
  have hz14 := hz13.mono (Nat.le_succ _)
  have hz15 := zr_X0 hz14
  have hz16 := hz15.upP (a := 1) (k := 6) (x := some 17) (by show 1 < 116; decide)
  have hz17 := hz16.mono (Nat.le_succ _)
  have hz18 := zr_X3 (a := 116) hz17
  have hz19 := hz18.upP (a := 1) (k := 7) (x := some 116) (by show 1 < 122; decide)
  have hz20 := hz19.mono (Nat.le_succ _)
  have hz21 := zr_X4 (a := 122) hz20
  have hz22 := hz21.upP (a := 1) (k := 8) (x := some 122) (by show 1 < 128; decide)
  have hz23 := hz22.mono (Nat.le_succ _)
  have hz24 := zr_X7 (a := 128) hz23
  have hz25 := hz24.upP (a := 1) (k := 9) (x := some 128) (by show 1 < 130; decide)
  have hz26 := hz25.upI (a := 1) (k := 10) (x := 0) (by show 1 < 130; decide)
  have hz27 := hz26.mono (Nat.le_succ _)
  have hz28 := zr_X3 (a := 130) hz27
  have hz29 := hz28.upP (a := 1) (k := 11) (x := some 130) (by show 1 < 136; decide)
  have hz30 := hz29.mono (Nat.le_succ _)
  have hz31 := zr_X9 hz30
  have hz32 := hz31.upP (a := 1) (k := 12) (x := some 136) (by show 1 < 138; decide)
  have hz33 := hz32.mono (Nat.le_succ _)
  have hz34 := zr_X6 hz33
  have hz35 := hz34.upP (a := 1) (k := 13) (x := some 138) (by show 1 < 146; decide)
  have hz36 := hz35.mono (Nat.le_succ _)
  have hz37 := zr_X5 hz36
  have hz38 := hz37.upP (a := 1) (k := 14) (x := some 146) (by show 1 < 155; decide)
  have hz39 := hz38.mono (Nat.le_succ _)
  have hz40 := zr_X8 hz39
  have hz41 := hz40.upP (a := 1) (k := 15) (x := some 155) (by show 1 < 201; decide)
  have hz42 := hz41.mono (Nat.le_succ _)
  have hz43 := zr_X2 hz42
  have hz44 := hz43.upP (a := 1) (k := 16) (x := some 201) (by show 1 < 205; decide)
  exact hz44
set_option maxRecDepth 4000 in
set_option maxHeartbeats 4000000 in
theorem K_X11 {g : gX} {d : Nat} {I : HI} {J : HJ} {P : Nat → Nat → Option Nat} (hz : zr 2 I J P) : Cm g mX11_init (d + 4) [.ref 1] (2, I, J, P) none (205, nI_X11 I, J, nP_X11 P) := by
  refine Cm.of (by decide) (by simp [Value.category]) (Nat.le_of_ble_eq_true rfl) (by show 2 ≤ 205; decide) (ls := [some (.ref 1)]) rfl ?_
  refine M_aload_n (pc := 0) dX11_init_0 rfl ?_
  refine M_objInit (pc := 1) dX11_init_1 w_34 rfl ?_
  refine M_aload_n (pc := 4) dX11_init_4 rfl ?_
  refine M_sipush (pc := 5) (v := 400) dX11_init_5 (by decide) ?_
  refine M_newaI (pc := 8) (t := 2) (n := 400) dX11_init_8 w_78 ⟨by decide, by decide⟩ (by decide) (by decide +kernel) (by show 2 < 205; decide) (by show 2 < 219; decide) hz ?_
  have hz1 := hz.mono (Nat.le_succ _)
  refine M_putRF (pc := 10) (t := 3) (b := 2) dX11_init_10 f_X11_9 (⟨by decide, by decide, by decide +kernel, by decide⟩ : OB 3 1 10) rfl rfl rfl ?_
  have hz2 := hz1.upP (a := 1) (k := 0) (x := some 2) (by show 1 < 3; decide)
  refine M_aload_n (pc := 13) dX11_init_13 rfl ?_
  refine M_iconst (pc := 14) (v := 0) dX11_init_14 (by decide) ?_
  refine M_putI (pc := 15) (t := 3) dX11_init_15 f_X11_13 (⟨by decide, by decide, by decide +kernel, by decide⟩ : OB 3 1 10) rfl ⟨rfl, rfl⟩ ?_
  have hz3 := hz2.upI (a := 1) (k := 1) (x := 0) (by show 1 < 3; decide)
  refine M_aload_n (pc := 18) dX11_init_18 rfl ?_
  refine M_iconst (pc := 19) (v := -1) dX11_init_19 (by decide) ?_
  refine M_putI (pc := 20) (t := 3) dX11_init_20 f_X11_17 (⟨by decide, by decide, by decide +kernel, by decide⟩ : OB 3 1 10) rfl ⟨rfl, rfl⟩ ?_
  have hz4 := hz3.upI (a := 1) (k := 2) (x := -1) (by show 1 < 3; decide)
  refine M_aload_n (pc := 23) dX11_init_23 rfl ?_
  refine M_new (pc := 24) (t := 3) (c := 3) dX11_init_24 cf3 zf3 (by decide) w_37 (by decide +kernel) (by show 3 < 205; decide) (by show 3 < 219; decide) hz4 ?_
  have hz5 := hz4.mono (Nat.le_succ _)
  refine M_dup (pc := 27) dX11_init_27 rfl ?_
  refine M_callI (pc := 28) dX11_init_28 i_X11_22 (Nat.le_of_ble_eq_true rfl) (K_X3 (d := d + 1) (a := 3) (by show 1 ≤ 3; decide) (by decide +kernel) hz5) (by show 9 ≤ 205; decide) ?_
  have hz6 := zr_X3 (a := 3) hz5
  refine M_putRF (pc := 31) (t := 9) (b := 3) dX11_init_31 f_X11_23 (⟨by decide, by decide, by decide +kernel, by decide⟩ : OB 9 1 10) rfl rfl rfl ?_
  have hz7 := hz6.upP (a := 1) (k := 3) (x := some 3) (by show 1 < 9; decide)
  refine M_aload_n (pc := 34) dX11_init_34 rfl ?_
  refine M_new (pc := 35) (t := 9) (c := 4) dX11_init_35 cf4 zf4 (by decide) w_159 (by decide +kernel) (by show 9 < 205; decide) (by show 9 < 219; decide) hz7 ?_
  have hz8 := hz7.mono (Nat.le_succ _)
  refine M_dup (pc := 38) dX11_init_38 rfl ?_
  refine M_callI (pc := 39) dX11_init_39 i_X11_29 (Nat.le_of_ble_eq_true rfl) (K_X4 (d := d + 2) (a := 9) (by show 1 ≤ 9; decide) (by decide +kernel) hz8) (by show 15 ≤ 205; decide) ?_
  have hz9 := zr_X4 (a := 9) hz8
  refine M_putRF (pc := 42) (t := 15) (b := 9) dX11_init_42 f_X11_30 (⟨by decide, by decide, by decide +kernel, by decide⟩ : OB 15 1 10) rfl rfl rfl ?_
  have hz10 := hz9.upP (a := 1) (k := 4) (x := some 9) (by show 1 < 15; decide)
  refine M_aload_n (pc := 45) dX11_init_45 rfl ?_
  refine M_new (pc := 46) (t := 15) (c := 7) dX11_init_46 cf7 zf7 (by decide) w_188 (by decide +kernel) (by show 15 < 205; decide) (by show 15 < 219; decide) hz10 ?_
  have hz11 := hz10.mono (Nat.le_succ _)
  refine M_dup (pc := 49) dX11_init_49 rfl ?_
  refine M_callI (pc := 50) dX11_init_50 i_X11_36 (Nat.le_of_ble_eq_true rfl) (K_X7 (d := d + 2) (a := 15) (by show 1 ≤ 15; decide) (by decide +kernel) hz11) (by show 17 ≤ 205; decide) ?_
  have hz12 := zr_X7 (a := 15) hz11
  refine M_putRF (pc := 53) (t := 17) (b := 15) dX11_init_53 f_X11_37 (⟨by decide, by decide, by decide +kernel, by decide⟩ : OB 17 1 10) rfl rfl rfl ?_
  have hz13 := hz12.upP (a := 1) (k := 5) (x := some 15) (by show 1 < 17; decide)
  refine M_aload_n (pc := 56) dX11_init_56 rfl ?_
  refine M_new (pc := 57) (t := 17) (c := 0) dX11_init_57 cf0 zf0 (by decide) w_205 (by decide +kernel) (by show 17 < 205; decide) (by show 17 < 219; decide) hz13 ?_
  have hz14 := hz13.mono (Nat.le_succ _)
  refine M_dup (pc := 60) dX11_init_60 rfl ?_
  refine M_callI (pc := 61) dX11_init_61 i_X11_43 (Nat.le_of_ble_eq_true rfl) (K_X0 (d := d + 0) hz14) (by show 116 ≤ 205; decide) ?_
  have hz15 := zr_X0 hz14
  refine M_putRF (pc := 64) (t := 116) (b := 17) dX11_init_64 f_X11_44 (⟨by decide, by decide, by decide +kernel, by decide⟩ : OB 116 1 10) rfl rfl rfl ?_
  have hz16 := hz15.upP (a := 1) (k := 6) (x := some 17) (by show 1 < 116; decide)
  refine M_aload_n (pc := 67) dX11_init_67 rfl ?_
  refine M_new (pc := 68) (t := 116) (c := 3) dX11_init_68 cf3 zf3 (by decide) w_37 (by decide +kernel) (by show 116 < 205; decide) (by show 116 < 219; decide) hz16 ?_
  have hz17 := hz16.mono (Nat.le_succ _)
  refine M_dup (pc := 71) dX11_init_71 rfl ?_
  refine M_callI (pc := 72) dX11_init_72 i_X11_22 (Nat.le_of_ble_eq_true rfl) (K_X3 (d := d + 1) (a := 116) (by show 1 ≤ 116; decide) (by decide +kernel) hz17) (by show 122 ≤ 205; decide) ?_
  have hz18 := zr_X3 (a := 116) hz17
  refine M_putRF (pc := 75) (t := 122) (b := 116) dX11_init_75 f_X11_48 (⟨by decide, by decide, by decide +kernel, by decide⟩ : OB 122 1 10) rfl rfl rfl ?_
  have hz19 := hz18.upP (a := 1) (k := 7) (x := some 116) (by show 1 < 122; decide)
  refine M_aload_n (pc := 78) dX11_init_78 rfl ?_
  refine M_new (pc := 79) (t := 122) (c := 4) dX11_init_79 cf4 zf4 (by decide) w_159 (by decide +kernel) (by show 122 < 205; decide) (by show 122 < 219; decide) hz19 ?_
  have hz20 := hz19.mono (Nat.le_succ _)
  refine M_dup (pc := 82) dX11_init_82 rfl ?_
  refine M_callI (pc := 83) dX11_init_83 i_X11_29 (Nat.le_of_ble_eq_true rfl) (K_X4 (d := d + 2) (a := 122) (by show 1 ≤ 122; decide) (by decide +kernel) hz20) (by show 128 ≤ 205; decide) ?_
  have hz21 := zr_X4 (a := 122) hz20
  refine M_putRF (pc := 86) (t := 128) (b := 122) dX11_init_86 f_X11_51 (⟨by decide, by decide, by decide +kernel, by decide⟩ : OB 128 1 10) rfl rfl rfl ?_
  have hz22 := hz21.upP (a := 1) (k := 8) (x := some 122) (by show 1 < 128; decide)
  refine M_aload_n (pc := 89) dX11_init_89 rfl ?_
  refine M_new (pc := 90) (t := 128) (c := 7) dX11_init_90 cf7 zf7 (by decide) w_188 (by decide +kernel) (by show 128 < 205; decide) (by show 128 < 219; decide) hz22 ?_
  have hz23 := hz22.mono (Nat.le_succ _)
  refine M_dup (pc := 93) dX11_init_93 rfl ?_
  refine M_callI (pc := 94) dX11_init_94 i_X11_36 (Nat.le_of_ble_eq_true rfl) (K_X7 (d := d + 2) (a := 128) (by show 1 ≤ 128; decide) (by decide +kernel) hz23) (by show 130 ≤ 205; decide) ?_
  have hz24 := zr_X7 (a := 128) hz23
  refine M_putRF (pc := 97) (t := 130) (b := 128) dX11_init_97 f_X11_54 (⟨by decide, by decide, by decide +kernel, by decide⟩ : OB 130 1 10) rfl rfl rfl ?_
  have hz25 := hz24.upP (a := 1) (k := 9) (x := some 128) (by show 1 < 130; decide)
  refine M_aload_n (pc := 100) dX11_init_100 rfl ?_
  refine M_iconst (pc := 101) (v := 0) dX11_init_101 (by decide) ?_
  refine M_putI (pc := 102) (t := 130) dX11_init_102 f_X11_57 (⟨by decide, by decide, by decide +kernel, by decide⟩ : OB 130 1 10) rfl ⟨rfl, rfl⟩ ?_
  have hz26 := hz25.upI (a := 1) (k := 10) (x := 0) (by show 1 < 130; decide)
  refine M_aload_n (pc := 105) dX11_init_105 rfl ?_
  refine M_new (pc := 106) (t := 130) (c := 3) dX11_init_106 cf3 zf3 (by decide) w_37 (by decide +kernel) (by show 130 < 205; decide) (by show 130 < 219; decide) hz26 ?_
  have hz27 := hz26.mono (Nat.le_succ _)
  refine M_dup (pc := 109) dX11_init_109 rfl ?_
  refine M_callI (pc := 110) dX11_init_110 i_X11_22 (Nat.le_of_ble_eq_true rfl) (K_X3 (d := d + 1) (a := 130) (by show 1 ≤ 130; decide) (by decide +kernel) hz27) (by show 136 ≤ 205; decide) ?_
  have hz28 := zr_X3 (a := 130) hz27
  refine M_putRF (pc := 113) (t := 136) (b := 130) dX11_init_113 f_X11_61 (⟨by decide, by decide, by decide +kernel, by decide⟩ : OB 136 1 10) rfl rfl rfl ?_
  have hz29 := hz28.upP (a := 1) (k := 11) (x := some 130) (by show 1 < 136; decide)
  refine M_aload_n (pc := 116) dX11_init_116 rfl ?_
  refine M_new (pc := 117) (t := 136) (c := 9) dX11_init_117 cf9 zf9 (by decide) w_231 (by decide +kernel) (by show 136 < 205; decide) (by show 136 < 219; decide) hz29 ?_
  have hz30 := hz29.mono (Nat.le_succ _)
  refine M_dup (pc := 120) dX11_init_120 rfl ?_
  refine M_callI (pc := 121) dX11_init_121 i_X11_66 (Nat.le_of_ble_eq_true rfl) (K_X9 (d := d + 2) hz30) (by show 138 ≤ 205; decide) ?_
  have hz31 := zr_X9 hz30
  refine M_putRF (pc := 124) (t := 138) (b := 136) dX11_init_124 f_X11_67 (⟨by decide, by decide, by decide +kernel, by decide⟩ : OB 138 1 10) rfl rfl rfl ?_
  have hz32 := hz31.upP (a := 1) (k := 12) (x := some 136) (by show 1 < 138; decide)
  refine M_aload_n (pc := 127) dX11_init_127 rfl ?_
  refine M_new (pc := 128) (t := 138) (c := 6) dX11_init_128 cf6 zf6 (by decide) w_259 (by decide +kernel) (by show 138 < 205; decide) (by show 138 < 219; decide) hz32 ?_
  have hz33 := hz32.mono (Nat.le_succ _)
  refine M_dup (pc := 131) dX11_init_131 rfl ?_
  refine M_callI (pc := 132) dX11_init_132 i_X11_73 (Nat.le_of_ble_eq_true rfl) (K_X6 (d := d + 0) hz33) (by show 146 ≤ 205; decide) ?_
  have hz34 := zr_X6 hz33
  refine M_putRF (pc := 135) (t := 146) (b := 138) dX11_init_135 f_X11_74 (⟨by decide, by decide, by decide +kernel, by decide⟩ : OB 146 1 10) rfl rfl rfl ?_
  have hz35 := hz34.upP (a := 1) (k := 13) (x := some 138) (by show 1 < 146; decide)
  refine M_aload_n (pc := 138) dX11_init_138 rfl ?_
  refine M_new (pc := 139) (t := 146) (c := 5) dX11_init_139 cf5 zf5 (by decide) w_290 (by decide +kernel) (by show 146 < 205; decide) (by show 146 < 219; decide) hz35 ?_
  have hz36 := hz35.mono (Nat.le_succ _)
  refine M_dup (pc := 142) dX11_init_142 rfl ?_
  refine M_callI (pc := 143) dX11_init_143 i_X11_80 (Nat.le_of_ble_eq_true rfl) (K_X5 (d := d + 1) hz36) (by show 155 ≤ 205; decide) ?_
  have hz37 := zr_X5 hz36
  refine M_putRF (pc := 146) (t := 155) (b := 146) dX11_init_146 f_X11_81 (⟨by decide, by decide, by decide +kernel, by decide⟩ : OB 155 1 10) rfl rfl rfl ?_
  have hz38 := hz37.upP (a := 1) (k := 14) (x := some 146) (by show 1 < 155; decide)
  refine M_aload_n (pc := 149) dX11_init_149 rfl ?_
  refine M_new (pc := 150) (t := 155) (c := 8) dX11_init_150 cf8 zf8 (by decide) w_317 (by decide +kernel) (by show 155 < 205; decide) (by show 155 < 219; decide) hz38 ?_
  have hz39 := hz38.mono (Nat.le_succ _)
  refine M_dup (pc := 153) dX11_init_153 rfl ?_
  refine M_callI (pc := 154) dX11_init_154 i_X11_87 (Nat.le_of_ble_eq_true rfl) (K_X8 (d := d + 0) hz39) (by show 201 ≤ 205; decide) ?_
  have hz40 := zr_X8 hz39
  refine M_putRF (pc := 157) (t := 201) (b := 155) dX11_init_157 f_X11_88 (⟨by decide, by decide, by decide +kernel, by decide⟩ : OB 201 1 10) rfl rfl rfl ?_
  have hz41 := hz40.upP (a := 1) (k := 15) (x := some 155) (by show 1 < 201; decide)
  refine M_aload_n (pc := 160) dX11_init_160 rfl ?_
  refine M_new (pc := 161) (t := 201) (c := 2) dX11_init_161 cf2 zf2 (by decide) w_342 (by decide +kernel) (by show 201 < 205; decide) (by show 201 < 219; decide) hz41 ?_
  have hz42 := hz41.mono (Nat.le_succ _)
  refine M_dup (pc := 164) dX11_init_164 rfl ?_
  refine M_callI (pc := 165) dX11_init_165 i_X11_94 (Nat.le_of_ble_eq_true rfl) (K_X2 (d := d + 2) hz42) (by show 205 ≤ 205; decide) ?_
  have hz43 := zr_X2 hz42
  refine M_putRF (pc := 168) (t := 205) (b := 201) dX11_init_168 f_X11_95 (⟨by decide, by decide, by decide +kernel, by decide⟩ : OB 205 1 10) rfl rfl rfl ?_
  have hz44 := hz43.upP (a := 1) (k := 16) (x := some 201) (by show 1 < 205; decide)
  exact M_vret (pc := 171) dX11_init_171 rfl rfl rfl
def nI_X12 (I : HI) : HI := (up2 (up2 (up2 (up2 (up2 (up2 I 205 14 (-1)) 206 3 500) 206 4 500) 206 8 5) 206 13 1) 206 16 1)
def nP_X12 (P : Nat → Nat → Option Nat) : Nat → Nat → Option Nat := (up2 (up2 (up2 (up2 (up2 (up2 (up2 (up2 (up2 (up2 (up2 (up2 P 205 1 (some 206)) 205 2 (some 207)) 205 3 (some 208)) 205 4 (some 209)) 205 5 (some 210)) 205 8 (some 211)) 205 15 (some 212)) 205 17 (some 213)) 205 18 (some 214)) 205 19 (some 215)) 205 20 (some 216)) 205 21 (some 217))
theorem zr_X12 {I : HI} {J : HJ} {P : Nat → Nat → Option Nat} (hz : zr 206 I J P) : zr 218 (nI_X12 I) J (nP_X12 P) := by
  have hz1 := hz.mono (Nat.le_succ _)
  have hz2 := hz1.upP (a := 205) (k := 1) (x := some 206) (by show 205 < 207; decide)
  have hz3 := hz2.mono (Nat.le_succ _)
  have hz4 := hz3.upP (a := 205) (k := 2) (x := some 207) (by show 205 < 208; decide)
  have hz5 := hz4.mono (Nat.le_succ _)
  have hz6 := hz5.upP (a := 205) (k := 3) (x := some 208) (by show 205 < 209; decide)
  have hz7 := hz6.mono (Nat.le_succ _)
  have hz8 := hz7.upP (a := 205) (k := 4) (x := some 209) (by show 205 < 210; decide)
  have hz9 := hz8.mono (Nat.le_succ _)
  have hz10 := hz9.upP (a := 205) (k := 5) (x := some 210) (by show 205 < 211; decide)
  have hz11 := hz10.mono (Nat.le_succ _)
  have hz12 := hz11.upP (a := 205) (k := 8) (x := some 211) (by show 205 < 212; decide)
  have hz13 := hz12.upI (a := 205) (k := 14) (x := -1) (by show 205 < 212; decide)
  have hz14 := hz13.mono (Nat.le_succ _)
  have hz15 := hz14.upP (a := 205) (k := 15) (x := some 212) (by show 205 < 213; decide)
  have hz16 := hz15.mono (Nat.le_succ _)
  have hz17 := hz16.upP (a := 205) (k := 17) (x := some 213) (by show 205 < 214; decide)
  have hz18 := hz17.mono (Nat.le_succ _)
  have hz19 := hz18.upP (a := 205) (k := 18) (x := some 214) (by show 205 < 215; decide)
  have hz20 := hz19.mono (Nat.le_succ _)
  have hz21 := hz20.upP (a := 205) (k := 19) (x := some 215) (by show 205 < 216; decide)
  have hz22 := hz21.mono (Nat.le_succ _)
  have hz23 := hz22.upP (a := 205) (k := 20) (x := some 216) (by show 205 < 217; decide)
  have hz24 := hz23.mono (Nat.le_succ _)
  have hz25 := hz24.upP (a := 205) (k := 21) (x := some 217) (by show 205 < 218; decide)
  have hz26 := hz25.upI (a := 206) (k := 3) (x := 500) (by show 206 < 218; decide)
  have hz27 := hz26.upI (a := 206) (k := 4) (x := 500) (by show 206 < 218; decide)
  have hz28 := hz27.upI (a := 206) (k := 8) (x := 5) (by show 206 < 218; decide)
  have hz29 := hz28.upI (a := 206) (k := 13) (x := 1) (by show 206 < 218; decide)
  have hz30 := hz29.upI (a := 206) (k := 16) (x := 1) (by show 206 < 218; decide)
  exact hz30
set_option maxRecDepth 4000 in
set_option maxHeartbeats 4000000 in
theorem K_X12 {g : gX} {d : Nat} {I : HI} {J : HJ} {P : Nat → Nat → Option Nat} (hz : zr 206 I J P) : Cm g mX12_init (d + 1) [.ref 205] (206, I, J, P) none (218, nI_X12 I, J, nP_X12 P) := by
  refine Cm.of (by decide) (by simp [Value.category]) (Nat.le_of_ble_eq_true rfl) (by show 206 ≤ 218; decide) (ls := [some (.ref 205)]) rfl ?_
  refine M_aload_n (pc := 0) dX12_init_0 rfl ?_
  refine M_objInit (pc := 1) dX12_init_1 w_1375 rfl ?_
  refine M_aload_n (pc := 4) dX12_init_4 rfl ?_
  refine M_sipush (pc := 5) (v := 2051) dX12_init_5 (by decide) ?_
  refine M_newaI (pc := 8) (t := 206) (n := 2051) dX12_init_8 w_78 ⟨by decide, by decide⟩ (by decide) (by decide +kernel) (by show 206 < 218; decide) (by show 206 < 219; decide) hz ?_
  have hz1 := hz.mono (Nat.le_succ _)
  refine M_putRF (pc := 10) (t := 207) (b := 206) dX12_init_10 f_X12_13 (⟨by decide, by decide, by decide +kernel, by decide⟩ : OB 207 205 11) rfl rfl rfl ?_
  have hz2 := hz1.upP (a := 205) (k := 1) (x := some 206) (by show 205 < 207; decide)
  refine M_aload_n (pc := 13) dX12_init_13 rfl ?_
  refine M_sipush (pc := 14) (v := 1202) dX12_init_14 (by decide) ?_
  refine M_newaI (pc := 17) (t := 207) (n := 1202) dX12_init_17 w_78 ⟨by decide, by decide⟩ (by decide) (by decide +kernel) (by show 207 < 218; decide) (by show 207 < 219; decide) hz2 ?_
  have hz3 := hz2.mono (Nat.le_succ _)
  refine M_putRF (pc := 19) (t := 208) (b := 207) dX12_init_19 f_X12_17 (⟨by decide, by decide, by decide +kernel, by decide⟩ : OB 208 205 11) rfl rfl rfl ?_
  have hz4 := hz3.upP (a := 205) (k := 2) (x := some 207) (by show 205 < 208; decide)
  refine M_aload_n (pc := 22) dX12_init_22 rfl ?_
  refine M_sipush (pc := 23) (v := 1202) dX12_init_23 (by decide) ?_
  refine M_newaI (pc := 26) (t := 208) (n := 1202) dX12_init_26 w_78 ⟨by decide, by decide⟩ (by decide) (by decide +kernel) (by show 208 < 218; decide) (by show 208 < 219; decide) hz4 ?_
  have hz5 := hz4.mono (Nat.le_succ _)
  refine M_putRF (pc := 28) (t := 209) (b := 208) dX12_init_28 f_X12_20 (⟨by decide, by decide, by decide +kernel, by decide⟩ : OB 209 205 11) rfl rfl rfl ?_
  have hz6 := hz5.upP (a := 205) (k := 3) (x := some 208) (by show 205 < 209; decide)
  refine M_aload_n (pc := 31) dX12_init_31 rfl ?_
  refine M_sipush (pc := 32) (v := 353) dX12_init_32 (by decide) ?_
  refine M_newaI (pc := 35) (t := 209) (n := 353) dX12_init_35 w_78 ⟨by decide, by decide⟩ (by decide) (by decide +kernel) (by show 209 < 218; decide) (by show 209 < 219; decide) hz6 ?_
  have hz7 := hz6.mono (Nat.le_succ _)
  refine M_putRF (pc := 37) (t := 210) (b := 209) dX12_init_37 f_X12_23 (⟨by decide, by decide, by decide +kernel, by decide⟩ : OB 210 205 11) rfl rfl rfl ?_
  have hz8 := hz7.upP (a := 205) (k := 4) (x := some 209) (by show 205 < 210; decide)
  refine M_aload_n (pc := 40) dX12_init_40 rfl ?_
  refine M_sipush (pc := 41) (v := 4236) dX12_init_41 (by decide) ?_
  refine M_newaI (pc := 44) (t := 210) (n := 4236) dX12_init_44 w_78 ⟨by decide, by decide⟩ (by decide) (by decide +kernel) (by show 210 < 218; decide) (by show 210 < 219; decide) hz8 ?_
  have hz9 := hz8.mono (Nat.le_succ _)
  refine M_putRF (pc := 46) (t := 211) (b := 210) dX12_init_46 f_X12_26 (⟨by decide, by decide, by decide +kernel, by decide⟩ : OB 211 205 11) rfl rfl rfl ?_
  have hz10 := hz9.upP (a := 205) (k := 5) (x := some 210) (by show 205 < 211; decide)
  refine M_aload_n (pc := 49) dX12_init_49 rfl ?_
  refine M_sipush (pc := 50) (v := 400) dX12_init_50 (by decide) ?_
  refine M_newaB (pc := 53) (t := 211) (n := 400) dX12_init_53 w_943 ⟨by decide, by decide⟩ (by decide) (by decide +kernel) (by show 211 < 218; decide) (by show 211 < 219; decide) hz10 ?_
  have hz11 := hz10.mono (Nat.le_succ _)
  refine M_putRF (pc := 55) (t := 212) (b := 211) dX12_init_55 f_X12_29 (⟨by decide, by decide, by decide +kernel, by decide⟩ : OB 212 205 11) rfl rfl rfl ?_
  have hz12 := hz11.upP (a := 205) (k := 8) (x := some 211) (by show 205 < 212; decide)
  refine M_aload_n (pc := 58) dX12_init_58 rfl ?_
  refine M_iconst (pc := 59) (v := -1) dX12_init_59 (by decide) ?_
  refine M_putI (pc := 60) (t := 212) dX12_init_60 f_X12_33 (⟨by decide, by decide, by decide +kernel, by decide⟩ : OB 212 205 11) rfl ⟨rfl, rfl⟩ ?_
  have hz13 := hz12.upI (a := 205) (k := 14) (x := -1) (by show 205 < 212; decide)
  refine M_aload_n (pc := 63) dX12_init_63 rfl ?_
  refine M_iconst (pc := 64) (v := 5) dX12_init_64 (by decide) ?_
  refine M_newaI (pc := 65) (t := 212) (n := 5) dX12_init_65 w_78 ⟨by decide, by decide⟩ (by decide) (by decide +kernel) (by show 212 < 218; decide) (by show 212 < 219; decide) hz13 ?_
  have hz14 := hz13.mono (Nat.le_succ _)
  refine M_putRF (pc := 67) (t := 213) (b := 212) dX12_init_67 f_X12_36 (⟨by decide, by decide, by decide +kernel, by decide⟩ : OB 213 205 11) rfl rfl rfl ?_
  have hz15 := hz14.upP (a := 205) (k := 15) (x := some 212) (by show 205 < 213; decide)
  refine M_aload_n (pc := 70) dX12_init_70 rfl ?_
  refine M_sipush (pc := 71) (v := 400) dX12_init_71 (by decide) ?_
  refine M_newaI (pc := 74) (t := 213) (n := 400) dX12_init_74 w_78 ⟨by decide, by decide⟩ (by decide) (by decide +kernel) (by show 213 < 218; decide) (by show 213 < 219; decide) hz15 ?_
  have hz16 := hz15.mono (Nat.le_succ _)
  refine M_putRF (pc := 76) (t := 214) (b := 213) dX12_init_76 f_X12_39 (⟨by decide, by decide, by decide +kernel, by decide⟩ : OB 214 205 11) rfl rfl rfl ?_
  have hz17 := hz16.upP (a := 205) (k := 17) (x := some 213) (by show 205 < 214; decide)
  refine M_aload_n (pc := 79) dX12_init_79 rfl ?_
  refine M_bipush (pc := 80) (v := 6) dX12_init_80 (by decide) ?_
  refine M_newaI (pc := 82) (t := 214) (n := 6) dX12_init_82 w_78 ⟨by decide, by decide⟩ (by decide) (by decide +kernel) (by show 214 < 218; decide) (by show 214 < 219; decide) hz17 ?_
  have hz18 := hz17.mono (Nat.le_succ _)
  refine M_putRF (pc := 84) (t := 215) (b := 214) dX12_init_84 f_X12_42 (⟨by decide, by decide, by decide +kernel, by decide⟩ : OB 215 205 11) rfl rfl rfl ?_
  have hz19 := hz18.upP (a := 205) (k := 18) (x := some 214) (by show 205 < 215; decide)
  refine M_aload_n (pc := 87) dX12_init_87 rfl ?_
  refine M_bipush (pc := 88) (v := 6) dX12_init_88 (by decide) ?_
  refine M_newaI (pc := 90) (t := 215) (n := 6) dX12_init_90 w_78 ⟨by decide, by decide⟩ (by decide) (by decide +kernel) (by show 215 < 218; decide) (by show 215 < 219; decide) hz19 ?_
  have hz20 := hz19.mono (Nat.le_succ _)
  refine M_putRF (pc := 92) (t := 216) (b := 215) dX12_init_92 f_X12_45 (⟨by decide, by decide, by decide +kernel, by decide⟩ : OB 216 205 11) rfl rfl rfl ?_
  have hz21 := hz20.upP (a := 205) (k := 19) (x := some 215) (by show 205 < 216; decide)
  refine M_aload_n (pc := 95) dX12_init_95 rfl ?_
  refine M_sipush (pc := 96) (v := 4096) dX12_init_96 (by decide) ?_
  refine M_newaI (pc := 99) (t := 216) (n := 4096) dX12_init_99 w_78 ⟨by decide, by decide⟩ (by decide) (by decide +kernel) (by show 216 < 218; decide) (by show 216 < 219; decide) hz21 ?_
  have hz22 := hz21.mono (Nat.le_succ _)
  refine M_putRF (pc := 101) (t := 217) (b := 216) dX12_init_101 f_X12_48 (⟨by decide, by decide, by decide +kernel, by decide⟩ : OB 217 205 11) rfl rfl rfl ?_
  have hz23 := hz22.upP (a := 205) (k := 20) (x := some 216) (by show 205 < 217; decide)
  refine M_aload_n (pc := 104) dX12_init_104 rfl ?_
  refine M_bipush (pc := 105) (v := 7) dX12_init_105 (by decide) ?_
  refine M_newaJ (pc := 107) (t := 217) (n := 7) dX12_init_107 w_1443 ⟨by decide, by decide⟩ (by decide) (by decide +kernel) (by show 217 < 218; decide) (by show 217 < 219; decide) hz23 ?_
  have hz24 := hz23.mono (Nat.le_succ _)
  refine M_putRF (pc := 109) (t := 218) (b := 217) dX12_init_109 f_X12_51 (⟨by decide, by decide, by decide +kernel, by decide⟩ : OB 218 205 11) rfl rfl rfl ?_
  have hz25 := hz24.upP (a := 205) (k := 21) (x := some 217) (by show 205 < 218; decide)
  refine M_aload_n (pc := 112) dX12_init_112 rfl ?_
  refine M_getR (pc := 113) (b := 206) dX12_init_113 f_X12_13 (⟨by decide, by decide, by decide +kernel, by decide⟩ : OB 218 205 11) rfl ?_
  refine M_iconst (pc := 116) (v := 3) dX12_init_116 (by decide) ?_
  refine M_sipush (pc := 117) (v := 500) dX12_init_117 (by decide) ?_
  refine M_istc (pc := 120) (a := 206) (n := 2051) (j := 3) dX12_init_120 ⟨by decide, by decide, by decide +kernel⟩ (by decide) (by decide) ?_
  have hz26 := hz25.upI (a := 206) (k := 3) (x := 500) (by show 206 < 218; decide)
  refine M_aload_n (pc := 121) dX12_init_121 rfl ?_
  refine M_getR (pc := 122) (b := 206) dX12_init_122 f_X12_13 (⟨by decide, by decide, by decide +kernel, by decide⟩ : OB 218 205 11) rfl ?_
  refine M_iconst (pc := 125) (v := 4) dX12_init_125 (by decide) ?_
  refine M_sipush (pc := 126) (v := 500) dX12_init_126 (by decide) ?_
  refine M_istc (pc := 129) (a := 206) (n := 2051) (j := 4) dX12_init_129 ⟨by decide, by decide, by decide +kernel⟩ (by decide) (by decide) ?_
  have hz27 := hz26.upI (a := 206) (k := 4) (x := 500) (by show 206 < 218; decide)
  refine M_aload_n (pc := 130) dX12_init_130 rfl ?_
  refine M_getR (pc := 131) (b := 206) dX12_init_131 f_X12_13 (⟨by decide, by decide, by decide +kernel, by decide⟩ : OB 218 205 11) rfl ?_
  refine M_bipush (pc := 134) (v := 8) dX12_init_134 (by decide) ?_
  refine M_iconst (pc := 136) (v := 5) dX12_init_136 (by decide) ?_
  refine M_istc (pc := 137) (a := 206) (n := 2051) (j := 8) dX12_init_137 ⟨by decide, by decide, by decide +kernel⟩ (by decide) (by decide) ?_
  have hz28 := hz27.upI (a := 206) (k := 8) (x := 5) (by show 206 < 218; decide)
  refine M_aload_n (pc := 138) dX12_init_138 rfl ?_
  refine M_getR (pc := 139) (b := 206) dX12_init_139 f_X12_13 (⟨by decide, by decide, by decide +kernel, by decide⟩ : OB 218 205 11) rfl ?_
  refine M_bipush (pc := 142) (v := 13) dX12_init_142 (by decide) ?_
  refine M_iconst (pc := 144) (v := 1) dX12_init_144 (by decide) ?_
  refine M_istc (pc := 145) (a := 206) (n := 2051) (j := 13) dX12_init_145 ⟨by decide, by decide, by decide +kernel⟩ (by decide) (by decide) ?_
  have hz29 := hz28.upI (a := 206) (k := 13) (x := 1) (by show 206 < 218; decide)
  refine M_aload_n (pc := 146) dX12_init_146 rfl ?_
  refine M_getR (pc := 147) (b := 206) dX12_init_147 f_X12_13 (⟨by decide, by decide, by decide +kernel, by decide⟩ : OB 218 205 11) rfl ?_
  refine M_bipush (pc := 150) (v := 16) dX12_init_150 (by decide) ?_
  refine M_iconst (pc := 152) (v := 1) dX12_init_152 (by decide) ?_
  refine M_istc (pc := 153) (a := 206) (n := 2051) (j := 16) dX12_init_153 ⟨by decide, by decide, by decide +kernel⟩ (by decide) (by decide) ?_
  have hz30 := hz29.upI (a := 206) (k := 16) (x := 1) (by show 206 < 218; decide)
  exact M_vret (pc := 154) dX12_init_154 rfl rfl rfl
