def F_X11_law (I : HI) : Option ((Int32 ⊕ String) × HI) :=
  (F_X4_clear I 148) >>= fun r1 => (F_X11_takeTape r1) >>= fun r3 => (F_X10_firstWrong_c5 r3.2 r3.1 (12 : Int32)) >>= fun r5 => if r5.1 = (-1 : Int32) then (F_X4_copy (up2 r5.2 1 2 r5.1) 9 148) >>= fun r8 => (F_X0_clear r8) >>= fun r10 => some ((Sum.inl (r10 9 0)), r10) else some ((Sum.inr "java/lang/IllegalArgumentException"), (up2 r5.2 1 2 r5.1))
set_option maxRecDepth 4000 in
set_option maxHeartbeats 4000000 in
theorem C_X11_law {g : gX} {d : Nat} {P : Nat → Nat → Option Nat} {I : HI} {J : HJ} (hp : Wp P) {r : (Int32 ⊕ String) × HI} (h : F_X11_law I = some r) : Cx g mX11_law (d + 11) [.ref 1] (NT, I, J, P) ((thr_i r.1), (NT, r.2, J, (up2 P 1 0 (some 2)))) := by
  unfold F_X11_law at h
  refine Cx.of (by decide) (by simp [Value.category]) (Nat.le_of_ble_eq_true rfl) (Nat.le_refl _) (ls := [some (.ref 1)]) rfl ?_
  refine M_aload_n (pc := 0) dX11_law_0 rfl ?_
  refine M_getR (pc := 1) dX11_law_1 f_X11_81 at_10 (gc_1_14 hp).1 ?_
  refine M_getR (pc := 4) dX11_law_4 f_X11_136 (gc_1_14 hp).2 (gc_146_5 hp).1 ?_
  obtain ⟨r1, hr2, h⟩ := bnd h
  refine M_callVv (pc := 7) dX11_law_7 v_X11_138 rfl rfl (gc_146_5 hp).2 (Nat.le_of_ble_eq_true rfl) (C_X4_clear (d := d + 10) hp (gc_146_5 hp).2 hr2) (Nat.le_refl _) ?_
  refine M_aload_n (pc := 10) dX11_law_10 rfl ?_
  refine M_aload_n (pc := 11) dX11_law_11 rfl ?_
  refine M_getR (pc := 12) dX11_law_12 f_X11_81 at_10 (gc_1_14 hp).1 ?_
  refine M_aload_n (pc := 15) dX11_law_15 rfl ?_
  refine M_getR (pc := 16) dX11_law_16 f_X11_9 at_10 (gc_1_0 hp).1 ?_
  refine M_aload_n (pc := 19) dX11_law_19 rfl ?_
  obtain ⟨r3, hr4, h⟩ := bnd h
  refine M_callVi (pc := 20) dX11_law_20 v_X11_110 rfl rfl at_10 (Nat.le_of_ble_eq_true rfl) (C_X11_takeTape (d := d + 10) hp hr4) (Nat.le_refl _) ?_
  refine M_bipush (pc := 23) (v := 12) dX11_law_23 (by decide) ?_
  obtain ⟨r5, hr6, h⟩ := bnd h
  refine M_callUi (pc := 25) dX11_law_25 u_X11_139 rfl rfl (gc_1_14 hp).2 (Nat.le_of_ble_eq_true rfl) (C_X10_firstWrong_c5 (d := d + 0) hp hr6) (Nat.le_refl _) ?_
  refine M_putI (pc := 28) dX11_law_28 f_X11_17 at_10 rfl ⟨rfl, rfl⟩ ?_
  refine M_aload_n (pc := 31) dX11_law_31 rfl ?_
  refine M_getIs (pc := 32) (x := r5.1) dX11_law_32 f_X11_17 at_10 rd_eq ?_
  refine M_iconst (pc := 35) (v := -1) dX11_law_35 (by decide) ?_
  refine M_icmp_eq (pc := 36) (tgt := 49) dX11_law_36 (by decide) (fun hc7 => ?_) (fun hc7 => ?_)
  · have h := (if_pos hc7).symm.trans h
    refine M_aload_n (pc := 49) dX11_law_49 rfl ?_
    refine M_getR (pc := 50) dX11_law_50 f_X11_30 at_10 (gc_1_4 hp).1 ?_
    refine M_aload_n (pc := 53) dX11_law_53 rfl ?_
    refine M_getR (pc := 54) dX11_law_54 f_X11_81 at_10 (gc_1_14 hp).1 ?_
    refine M_getR (pc := 57) dX11_law_57 f_X11_136 (gc_1_14 hp).2 (gc_146_5 hp).1 ?_
    obtain ⟨r8, hr9, h⟩ := bnd h
    refine M_callVv (pc := 60) dX11_law_60 v_X11_142 rfl rfl (gc_1_4 hp).2 (Nat.le_of_ble_eq_true rfl) (C_X4_copy (d := d + 9) hp (gc_1_4 hp).2 (gc_146_5 hp).2 hr9) (Nat.le_refl _) ?_
    refine M_aload_n (pc := 63) dX11_law_63 rfl ?_
    refine M_getR (pc := 64) dX11_law_64 f_X11_44 at_10 (gc_1_6 hp).1 ?_
    obtain ⟨r10, hr11, h⟩ := bnd h
    refine M_callVv (pc := 67) dX11_law_67 v_X11_133 rfl rfl (gc_1_6 hp).2 (Nat.le_of_ble_eq_true rfl) (C_X0_clear (d := d + 10) hp hr11) (Nat.le_refl _) ?_
    refine M_aload_n (pc := 70) dX11_law_70 rfl ?_
    refine M_getR (pc := 71) dX11_law_71 f_X11_30 at_10 (gc_1_4 hp).1 ?_
    refine M_getI (pc := 74) dX11_law_74 f_X11_145 (gc_1_4 hp).2 ?_
    obtain rfl := Option.some.inj h
    exact M_iret (pc := 77) dX11_law_77 rfl rfl rfl rfl
  · have h := (if_neg hc7).symm.trans h
    obtain rfl := Option.some.inj h
    exact M_throw (pc := 39) dX11_law_39 dX11_law_42 dX11_law_43 dX11_law_45 dX11_law_48 ⟨rfl, rfl, rfl, rfl⟩ x_X11_118 (j := 2) (by decide) str_X11_140 rfl rfl
