def F_X11_life (I : HI) : Option ((Int32 ⊕ String) × HI) :=
  (F_X3_copy I 140 3) >>= fun r1 => (F_X11_takeTape r1) >>= fun r3 => (F_X10_firstWrong_c6 r3.2 r3.1 (14 : Int32)) >>= fun r5 => if r5.1 = (-1 : Int32) then if (r5.2 3 1) < (12 : Int32) then (F_X3_copy (up2 r5.2 1 2 r5.1) 3 140) >>= fun r9 => (F_X0_clear (up2 r9 3 1 ((r9 3 1) + (1 : Int32)))) >>= fun r11 => some ((Sum.inl (r11 3 1)), r11) else some ((Sum.inr "java/lang/UnsupportedOperationException"), (up2 r5.2 1 2 r5.1)) else some ((Sum.inr "java/lang/IllegalArgumentException"), (up2 r5.2 1 2 r5.1))
set_option maxRecDepth 4000 in
set_option maxHeartbeats 4000000 in
theorem C_X11_life {g : gX} {d : Nat} {P : Nat → Nat → Option Nat} {I : HI} {J : HJ} (hp : Wp P) {r : (Int32 ⊕ String) × HI} (h : F_X11_life I = some r) : Cx g mX11_life (d + 9) [.ref 1] (NT, I, J, P) ((thr_i r.1), (NT, r.2, J, (up2 P 1 0 (some 2)))) := by
  unfold F_X11_life at h
  refine Cx.of (by decide) (by simp [Value.category]) (Nat.le_of_ble_eq_true rfl) (Nat.le_refl _) (ls := [some (.ref 1)]) rfl ?_
  refine M_aload_n (pc := 0) dX11_life_0 rfl ?_
  refine M_getR (pc := 1) dX11_life_1 f_X11_74 at_10 (gc_1_13 hp).1 ?_
  refine M_getR (pc := 4) dX11_life_4 f_X11_103 (gc_1_13 hp).2 (gc_138_5 hp).1 ?_
  refine M_aload_n (pc := 7) dX11_life_7 rfl ?_
  refine M_getR (pc := 8) dX11_life_8 f_X11_23 at_10 (gc_1_3 hp).1 ?_
  obtain ⟨r1, hr2, h⟩ := bnd h
  refine M_callVv (pc := 11) dX11_life_11 v_X11_106 rfl rfl (gc_138_5 hp).2 (Nat.le_of_ble_eq_true rfl) (C_X3_copy (d := d + 6) hp (gc_138_5 hp).2 (gc_1_3 hp).2 hr2) (Nat.le_refl _) ?_
  refine M_aload_n (pc := 14) dX11_life_14 rfl ?_
  refine M_aload_n (pc := 15) dX11_life_15 rfl ?_
  refine M_getR (pc := 16) dX11_life_16 f_X11_74 at_10 (gc_1_13 hp).1 ?_
  refine M_aload_n (pc := 19) dX11_life_19 rfl ?_
  refine M_getR (pc := 20) dX11_life_20 f_X11_9 at_10 (gc_1_0 hp).1 ?_
  refine M_aload_n (pc := 23) dX11_life_23 rfl ?_
  obtain ⟨r3, hr4, h⟩ := bnd h
  refine M_callVi (pc := 24) dX11_life_24 v_X11_110 rfl rfl at_10 (Nat.le_of_ble_eq_true rfl) (C_X11_takeTape (d := d + 8) hp hr4) (Nat.le_refl _) ?_
  refine M_bipush (pc := 27) (v := 14) dX11_life_27 (by decide) ?_
  obtain ⟨r5, hr6, h⟩ := bnd h
  refine M_callUi (pc := 29) dX11_life_29 u_X11_114 rfl rfl (gc_1_13 hp).2 (Nat.le_of_ble_eq_true rfl) (C_X10_firstWrong_c6 (d := d + 0) hp hr6) (Nat.le_refl _) ?_
  refine M_putI (pc := 32) dX11_life_32 f_X11_17 at_10 rfl ⟨rfl, rfl⟩ ?_
  refine M_aload_n (pc := 35) dX11_life_35 rfl ?_
  refine M_getIs (pc := 36) (x := r5.1) dX11_life_36 f_X11_17 at_10 rd_eq ?_
  refine M_iconst (pc := 39) (v := -1) dX11_life_39 (by decide) ?_
  refine M_icmp_eq (pc := 40) (tgt := 53) dX11_life_40 (by decide) (fun hc7 => ?_) (fun hc7 => ?_)
  · have h := (if_pos hc7).symm.trans h
    refine M_aload_n (pc := 53) dX11_life_53 rfl ?_
    refine M_getR (pc := 54) dX11_life_54 f_X11_23 at_10 (gc_1_3 hp).1 ?_
    refine M_getIs (pc := 57) (x := (r5.2 3 1)) dX11_life_57 f_X11_125 (gc_1_3 hp).2 (rd_ne (Or.inr (by decide))) ?_
    refine M_bipush (pc := 60) (v := 12) dX11_life_60 (by decide) ?_
    refine M_icmp_lt (pc := 62) (tgt := 75) dX11_life_62 (by decide) (fun hc8 => ?_) (fun hc8 => ?_)
    · have h := (if_pos hc8).symm.trans h
      refine M_aload_n (pc := 75) dX11_life_75 rfl ?_
      refine M_getR (pc := 76) dX11_life_76 f_X11_23 at_10 (gc_1_3 hp).1 ?_
      refine M_aload_n (pc := 79) dX11_life_79 rfl ?_
      refine M_getR (pc := 80) dX11_life_80 f_X11_74 at_10 (gc_1_13 hp).1 ?_
      refine M_getR (pc := 83) dX11_life_83 f_X11_103 (gc_1_13 hp).2 (gc_138_5 hp).1 ?_
      obtain ⟨r9, hr10, h⟩ := bnd h
      refine M_callVv (pc := 86) dX11_life_86 v_X11_106 rfl rfl (gc_1_3 hp).2 (Nat.le_of_ble_eq_true rfl) (C_X3_copy (d := d + 6) hp (gc_1_3 hp).2 (gc_138_5 hp).2 hr10) (Nat.le_refl _) ?_
      refine M_aload_n (pc := 89) dX11_life_89 rfl ?_
      refine M_getR (pc := 90) dX11_life_90 f_X11_23 at_10 (gc_1_3 hp).1 ?_
      refine M_dup (pc := 93) dX11_life_93 rfl ?_
      refine M_getI (pc := 94) dX11_life_94 f_X11_125 (gc_1_3 hp).2 ?_
      refine M_iconst (pc := 97) (v := 1) dX11_life_97 (by decide) ?_
      refine M_iadd (pc := 98) dX11_life_98 ?_
      refine M_putI (pc := 99) dX11_life_99 f_X11_125 (gc_1_3 hp).2 rfl ⟨rfl, rfl⟩ ?_
      refine M_aload_n (pc := 102) dX11_life_102 rfl ?_
      refine M_getR (pc := 103) dX11_life_103 f_X11_44 at_10 (gc_1_6 hp).1 ?_
      obtain ⟨r11, hr12, h⟩ := bnd h
      refine M_callVv (pc := 106) dX11_life_106 v_X11_133 rfl rfl (gc_1_6 hp).2 (Nat.le_of_ble_eq_true rfl) (C_X0_clear (d := d + 8) hp hr12) (Nat.le_refl _) ?_
      refine M_aload_n (pc := 109) dX11_life_109 rfl ?_
      refine M_getR (pc := 110) dX11_life_110 f_X11_23 at_10 (gc_1_3 hp).1 ?_
      refine M_getI (pc := 113) dX11_life_113 f_X11_125 (gc_1_3 hp).2 ?_
      obtain rfl := Option.some.inj h
      exact M_iret (pc := 116) dX11_life_116 rfl rfl rfl rfl
    · have h := (if_neg hc8).symm.trans h
      obtain rfl := Option.some.inj h
      exact M_throw (pc := 65) dX11_life_65 dX11_life_68 dX11_life_69 dX11_life_71 dX11_life_74 ⟨rfl, rfl, rfl, rfl⟩ x_X11_128 (j := 1) (by decide) str_X11_130 rfl rfl
  · have h := (if_neg hc7).symm.trans h
    obtain rfl := Option.some.inj h
    exact M_throw (pc := 43) dX11_life_43 dX11_life_46 dX11_life_47 dX11_life_49 dX11_life_52 ⟨rfl, rfl, rfl, rfl⟩ x_X11_118 (j := 0) (by decide) str_X11_120 rfl rfl
