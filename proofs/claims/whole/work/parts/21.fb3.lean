def F_X11_feed (I : HI) (x1 : Int32) (x2 : Int32) (x3 : Int32) (x4 : Int32) (x5 : Int32) : Option (Int32 × HI) :=
  if (I 1 1) ≤ (380 : Int32) then (F_X11_putBytes I x1) >>= fun r2 => (F_X11_putBytes r2 x2) >>= fun r4 => (F_X11_putBytes r4 x3) >>= fun r6 => (F_X11_putBytes r6 x4) >>= fun r8 => (F_X11_putBytes r8 x5) >>= fun r10 => some ((r10 1 1), r10) else some ((-1 : Int32), I)
set_option maxRecDepth 4000 in
set_option maxHeartbeats 4000000 in
theorem C_X11_feed {g : gX} {d : Nat} {P : Nat → Nat → Option Nat} {I : HI} {x1 : Int32} {x2 : Int32} {x3 : Int32} {x4 : Int32} {x5 : Int32} {J : HJ} (hp : Wp P) {r : Int32 × HI} (h : F_X11_feed I x1 x2 x3 x4 x5 = some r) : Cm g mX11_feed (d + 1) [.ref 1, .int x1, .int x2, .int x3, .int x4, .int x5] (NT, I, J, P) (some (.int r.1)) (NT, r.2, J, P) := by
  unfold F_X11_feed at h
  refine Cm.of (by decide) (by simp [Value.category]) (Nat.le_of_ble_eq_true rfl) (Nat.le_refl _) (ls := [some (.ref 1), some (.int x1), some (.int x2), some (.int x3), some (.int x4), some (.int x5)]) rfl ?_
  refine M_aload_n (pc := 0) dX11_feed_0 rfl ?_
  refine M_getI (pc := 1) dX11_feed_1 f_X11_13 at_10 ?_
  refine M_sipush (pc := 4) (v := 380) dX11_feed_4 (by decide) ?_
  refine M_icmp_le (pc := 7) (tgt := 12) dX11_feed_7 (by decide) (fun hc1 => ?_) (fun hc1 => ?_)
  · have h := (if_pos hc1).symm.trans h
    refine M_aload_n (pc := 12) dX11_feed_12 rfl ?_
    refine M_iload_n (pc := 13) dX11_feed_13 rfl ?_
    obtain ⟨r2, hr3, h⟩ := bnd h
    refine M_callVv (pc := 14) dX11_feed_14 v_X11_99 rfl rfl at_10 (Nat.le_of_ble_eq_true rfl) (C_X11_putBytes (d := d + 0) hp hr3) (Nat.le_refl _) ?_
    refine M_aload_n (pc := 17) dX11_feed_17 rfl ?_
    refine M_iload_n (pc := 18) dX11_feed_18 rfl ?_
    obtain ⟨r4, hr5, h⟩ := bnd h
    refine M_callVv (pc := 19) dX11_feed_19 v_X11_99 rfl rfl at_10 (Nat.le_of_ble_eq_true rfl) (C_X11_putBytes (d := d + 0) hp hr5) (Nat.le_refl _) ?_
    refine M_aload_n (pc := 22) dX11_feed_22 rfl ?_
    refine M_iload_n (pc := 23) dX11_feed_23 rfl ?_
    obtain ⟨r6, hr7, h⟩ := bnd h
    refine M_callVv (pc := 24) dX11_feed_24 v_X11_99 rfl rfl at_10 (Nat.le_of_ble_eq_true rfl) (C_X11_putBytes (d := d + 0) hp hr7) (Nat.le_refl _) ?_
    refine M_aload_n (pc := 27) dX11_feed_27 rfl ?_
    refine M_iload (pc := 28) dX11_feed_28 rfl ?_
    obtain ⟨r8, hr9, h⟩ := bnd h
    refine M_callVv (pc := 30) dX11_feed_30 v_X11_99 rfl rfl at_10 (Nat.le_of_ble_eq_true rfl) (C_X11_putBytes (d := d + 0) hp hr9) (Nat.le_refl _) ?_
    refine M_aload_n (pc := 33) dX11_feed_33 rfl ?_
    refine M_iload (pc := 34) dX11_feed_34 rfl ?_
    obtain ⟨r10, hr11, h⟩ := bnd h
    refine M_callVv (pc := 36) dX11_feed_36 v_X11_99 rfl rfl at_10 (Nat.le_of_ble_eq_true rfl) (C_X11_putBytes (d := d + 0) hp hr11) (Nat.le_refl _) ?_
    refine M_aload_n (pc := 39) dX11_feed_39 rfl ?_
    refine M_getI (pc := 40) dX11_feed_40 f_X11_13 at_10 ?_
    obtain rfl := Option.some.inj h
    exact M_iret (pc := 43) dX11_feed_43 rfl rfl rfl rfl
  · have h := (if_neg hc1).symm.trans h
    refine M_iconst (pc := 10) (v := -1) dX11_feed_10 (by decide) ?_
    obtain rfl := Option.some.inj h
    exact M_iret (pc := 11) dX11_feed_11 rfl rfl rfl rfl
def F_X11_left (I : HI) : Option (Int32) :=
  (F_X1_all I 4) >>= fun r1 => (F_X1_allHad I 4) >>= fun r3 => some (r1 &&& (r3 ^^^ (-1 : Int32)))
set_option maxRecDepth 4000 in
set_option maxHeartbeats 4000000 in
theorem C_X11_left {g : gX} {d : Nat} {P : Nat → Nat → Option Nat} {I : HI} {J : HJ} (hp : Wp P) {r : Int32} (h : F_X11_left I = some r) : Cm g mX11_left (d + 2) [.ref 1] (NT, I, J, P) (some (.int r)) (NT, I, J, P) := by
  unfold F_X11_left at h
  refine Cm.of (by decide) (by simp [Value.category]) (Nat.le_of_ble_eq_true rfl) (Nat.le_refl _) (ls := [some (.ref 1)]) rfl ?_
  refine M_aload_n (pc := 0) dX11_left_0 rfl ?_
  refine M_getR (pc := 1) dX11_left_1 f_X11_23 at_10 (gr_10_3 hp at_10).1 ?_
  refine M_getR (pc := 4) dX11_left_4 f_X11_148 (gr_10_3 hp at_10).2 (gr_3_0 hp (gr_10_3 hp at_10).2).1 ?_
  obtain ⟨r1, hr2, h⟩ := bnd h
  refine M_callVi (pc := 7) dX11_left_7 v_X11_214 rfl rfl (gr_3_0 hp (gr_10_3 hp at_10).2).2 (Nat.le_of_ble_eq_true rfl) (C_X1_all (d := d + 1) hp (gr_3_0 hp (gr_10_3 hp at_10).2).2 hr2) (Nat.le_refl _) ?_
  refine M_aload_n (pc := 10) dX11_left_10 rfl ?_
  refine M_getR (pc := 11) dX11_left_11 f_X11_23 at_10 (gr_10_3 hp at_10).1 ?_
  refine M_getR (pc := 14) dX11_left_14 f_X11_148 (gr_10_3 hp at_10).2 (gr_3_0 hp (gr_10_3 hp at_10).2).1 ?_
  obtain ⟨r3, hr4, h⟩ := bnd h
  refine M_callVi (pc := 17) dX11_left_17 v_X11_217 rfl rfl (gr_3_0 hp (gr_10_3 hp at_10).2).2 (Nat.le_of_ble_eq_true rfl) (C_X1_allHad (d := d + 0) hp (gr_3_0 hp (gr_10_3 hp at_10).2).2 hr4) (Nat.le_refl _) ?_
  refine M_iconst (pc := 20) (v := -1) dX11_left_20 (by decide) ?_
  refine M_ixor (pc := 21) dX11_left_21 ?_
  refine M_iand (pc := 22) dX11_left_22 ?_
  obtain rfl := Option.some.inj h
  exact M_iret (pc := 23) dX11_left_23 rfl rfl rfl rfl
def F_X11_crust (I : HI) : Option (Int32 × HI) :=
  (F_X0_remember I 3 15) >>= fun r1 => (F_X3_comeBack r1 3) >>= fun r3 => some ((r3 3 2), r3)
set_option maxRecDepth 4000 in
set_option maxHeartbeats 4000000 in
theorem C_X11_crust {g : gX} {d : Nat} {P : Nat → Nat → Option Nat} {I : HI} {J : HJ} (hp : Wp P) {r : Int32 × HI} (h : F_X11_crust I = some r) : Cm g mX11_crust (d + 4) [.ref 1] (NT, I, J, P) (some (.int r.1)) (NT, r.2, J, P) := by
  unfold F_X11_crust at h
  refine Cm.of (by decide) (by simp [Value.category]) (Nat.le_of_ble_eq_true rfl) (Nat.le_refl _) (ls := [some (.ref 1)]) rfl ?_
  refine M_aload_n (pc := 0) dX11_crust_0 rfl ?_
  refine M_getR (pc := 1) dX11_crust_1 f_X11_44 at_10 (gr_10_6 hp at_10).1 ?_
  refine M_aload_n (pc := 4) dX11_crust_4 rfl ?_
  refine M_getR (pc := 5) dX11_crust_5 f_X11_23 at_10 (gr_10_3 hp at_10).1 ?_
  refine M_aload_n (pc := 8) dX11_crust_8 rfl ?_
  refine M_getR (pc := 9) dX11_crust_9 f_X11_37 at_10 (gr_10_5 hp at_10).1 ?_
  obtain ⟨r1, hr2, h⟩ := bnd h
  refine M_callVv (pc := 12) dX11_crust_12 v_X11_228 rfl rfl (gr_10_6 hp at_10).2 (Nat.le_of_ble_eq_true rfl) (C_X0_remember (d := d + 0) hp (gr_10_3 hp at_10).2 (gr_10_5 hp at_10).2 hr2) (Nat.le_refl _) ?_
  refine M_aload_n (pc := 15) dX11_crust_15 rfl ?_
  refine M_getR (pc := 16) dX11_crust_16 f_X11_23 at_10 (gr_10_3 hp at_10).1 ?_
  obtain ⟨r3, hr4, h⟩ := bnd h
  refine M_callVv (pc := 19) dX11_crust_19 v_X11_249 rfl rfl (gr_10_3 hp at_10).2 (Nat.le_of_ble_eq_true rfl) (C_X3_comeBack (d := d + 2) hp (gr_10_3 hp at_10).2 hr4) (Nat.le_refl _) ?_
  refine M_aload_n (pc := 22) dX11_crust_22 rfl ?_
  refine M_getR (pc := 23) dX11_crust_23 f_X11_23 at_10 (gr_10_3 hp at_10).1 ?_
  refine M_getI (pc := 26) dX11_crust_26 f_X11_252 (gr_10_3 hp at_10).2 ?_
  obtain rfl := Option.some.inj h
  exact M_iret (pc := 29) dX11_crust_29 rfl rfl rfl rfl
def F_X11_had (I : HI) (x1 : Int32) (x2 : Int32) (x3 : Int32) (x4 : Int32) : Option ((Int32 ⊕ String) × HI) :=
  (F_X1_has I 4 x1) >>= fun r1 => if r1 = 0 then some ((Sum.inr "java/lang/IndexOutOfBoundsException"), I) else (F_X11_isPlace I x3) >>= fun r4 => if r4 = 0 then some ((Sum.inr "java/lang/IndexOutOfBoundsException"), I) else if x2 < 0 then some ((Sum.inr "java/lang/IllegalArgumentException"), I) else if (9999 : Int32) < x2 then some ((Sum.inr "java/lang/IllegalArgumentException"), I) else if x4 < (-1 : Int32) then some ((Sum.inr "java/lang/IllegalArgumentException"), I) else if x4 ≤ (7 : Int32) then (F_X0_remember I 3 15) >>= fun r11 => (ald 12 (r11 6) x1) >>= fun v13 => (F_X1_tell r11 4 x1 x2 x3 x4) >>= fun r15 => some ((Sum.inl v13), r15) else some ((Sum.inr "java/lang/IllegalArgumentException"), I)
set_option maxRecDepth 4000 in
set_option maxHeartbeats 4000000 in
theorem C_X11_had {g : gX} {d : Nat} {P : Nat → Nat → Option Nat} {I : HI} {x1 : Int32} {x2 : Int32} {x3 : Int32} {x4 : Int32} {J : HJ} (hp : Wp P) {r : (Int32 ⊕ String) × HI} (h : F_X11_had I x1 x2 x3 x4 = some r) : Cx g mX11_had (d + 6) [.ref 1, .int x1, .int x2, .int x3, .int x4] (NT, I, J, P) ((thr_i r.1), (NT, r.2, J, P)) := by
  unfold F_X11_had at h
  refine Cx.of (by decide) (by simp [Value.category]) (Nat.le_of_ble_eq_true rfl) (Nat.le_refl _) (ls := [some (.ref 1), some (.int x1), some (.int x2), some (.int x3), some (.int x4), none]) rfl ?_
  refine M_aload_n (pc := 0) dX11_had_0 rfl ?_
  refine M_getR (pc := 1) dX11_had_1 f_X11_23 at_10 (gr_10_3 hp at_10).1 ?_
  refine M_getR (pc := 4) dX11_had_4 f_X11_148 (gr_10_3 hp at_10).2 (gr_3_0 hp (gr_10_3 hp at_10).2).1 ?_
  refine M_iload_n (pc := 7) dX11_had_7 rfl ?_
  obtain ⟨r1, hr2, h⟩ := bnd h
  refine M_callVi (pc := 8) dX11_had_8 v_X11_152 rfl rfl (gr_3_0 hp (gr_10_3 hp at_10).2).2 (Nat.le_of_ble_eq_true rfl) (C_X1_has (d := d + 5) hp (gr_3_0 hp (gr_10_3 hp at_10).2).2 hr2) (Nat.le_refl _) ?_
  refine M_if_eq (pc := 11) (tgt := 21) dX11_had_11 (by decide) (fun hc3 => ?_) (fun hc3 => ?_)
  · have h := (if_pos hc3).symm.trans h
    obtain rfl := Option.some.inj h
    exact M_throwW (pc := 21) dX11_had_21 dX11_had_24 dX11_had_25 dX11_had_28 dX11_had_31 x_X11_158 (j := 6) (by decide) str_X11_258 rfl rfl
  · have h := (if_neg hc3).symm.trans h
    refine M_iload_n (pc := 14) dX11_had_14 rfl ?_
    obtain ⟨r4, hr5, h⟩ := bnd h
    refine M_callSi (pc := 15) dX11_had_15 s_X11_255 rfl rfl (Nat.le_of_ble_eq_true rfl) (C_X11_isPlace (d := d + 5) hp hr5) (Nat.le_refl _) ?_
    refine M_if_ne (pc := 18) (tgt := 32) dX11_had_18 (by decide) (fun hc6 => ?_) (fun hc6 => ?_)
    · have h := (if_neg hc6).symm.trans h
      refine M_iload_n (pc := 32) dX11_had_32 rfl ?_
      refine M_if_lt (pc := 33) (tgt := 56) dX11_had_33 (by decide) (fun hc7 => ?_) (fun hc7 => ?_)
      · have h := (if_pos hc7).symm.trans h
        obtain rfl := Option.some.inj h
        exact M_throwW (pc := 56) dX11_had_56 dX11_had_59 dX11_had_60 dX11_had_63 dX11_had_66 x_X11_118 (j := 7) (by decide) str_X11_260 rfl rfl
      · have h := (if_neg hc7).symm.trans h
        refine M_iload_n (pc := 36) dX11_had_36 rfl ?_
        refine M_sipush (pc := 37) (v := 9999) dX11_had_37 (by decide) ?_
        refine M_icmp_gt (pc := 40) (tgt := 56) dX11_had_40 (by decide) (fun hc8 => ?_) (fun hc8 => ?_)
        · have h := (if_pos hc8).symm.trans h
          obtain rfl := Option.some.inj h
          exact M_throwW (pc := 56) dX11_had_56 dX11_had_59 dX11_had_60 dX11_had_63 dX11_had_66 x_X11_118 (j := 7) (by decide) str_X11_260 rfl rfl
        · have h := (if_neg hc8).symm.trans h
          refine M_iload (pc := 43) dX11_had_43 rfl ?_
          refine M_iconst (pc := 45) (v := -1) dX11_had_45 (by decide) ?_
          refine M_icmp_lt (pc := 46) (tgt := 56) dX11_had_46 (by decide) (fun hc9 => ?_) (fun hc9 => ?_)
          · have h := (if_pos hc9).symm.trans h
            obtain rfl := Option.some.inj h
            exact M_throwW (pc := 56) dX11_had_56 dX11_had_59 dX11_had_60 dX11_had_63 dX11_had_66 x_X11_118 (j := 7) (by decide) str_X11_260 rfl rfl
          · have h := (if_neg hc9).symm.trans h
            refine M_iload (pc := 49) dX11_had_49 rfl ?_
            refine M_bipush (pc := 51) (v := 7) dX11_had_51 (by decide) ?_
            refine M_icmp_le (pc := 53) (tgt := 67) dX11_had_53 (by decide) (fun hc10 => ?_) (fun hc10 => ?_)
            · have h := (if_pos hc10).symm.trans h
              refine M_aload_n (pc := 67) dX11_had_67 rfl ?_
              refine M_getR (pc := 68) dX11_had_68 f_X11_44 at_10 (gr_10_6 hp at_10).1 ?_
              refine M_aload_n (pc := 71) dX11_had_71 rfl ?_
              refine M_getR (pc := 72) dX11_had_72 f_X11_23 at_10 (gr_10_3 hp at_10).1 ?_
              refine M_aload_n (pc := 75) dX11_had_75 rfl ?_
              refine M_getR (pc := 76) dX11_had_76 f_X11_37 at_10 (gr_10_5 hp at_10).1 ?_
              obtain ⟨r11, hr12, h⟩ := bnd h
              refine M_callVv (pc := 79) dX11_had_79 v_X11_228 rfl rfl (gr_10_6 hp at_10).2 (Nat.le_of_ble_eq_true rfl) (C_X0_remember (d := d + 2) hp (gr_10_3 hp at_10).2 (gr_10_5 hp at_10).2 hr12) (Nat.le_refl _) ?_
              refine M_aload_n (pc := 82) dX11_had_82 rfl ?_
              refine M_getR (pc := 83) dX11_had_83 f_X11_23 at_10 (gr_10_3 hp at_10).1 ?_
              refine M_getR (pc := 86) dX11_had_86 f_X11_148 (gr_10_3 hp at_10).2 (gr_3_0 hp (gr_10_3 hp at_10).2).1 ?_
              refine M_getR (pc := 89) dX11_had_89 f_X11_171 (gr_3_0 hp (gr_10_3 hp at_10).2).2 (gr_1_2 hp (gr_3_0 hp (gr_10_3 hp at_10).2).2).1 ?_
              refine M_iload_n (pc := 92) dX11_had_92 rfl ?_
              obtain ⟨v13, hv14, h⟩ := bnd h
              refine M_aldI (pc := 93) dX11_had_93 (gr_1_2 hp (gr_3_0 hp (gr_10_3 hp at_10).2).2).2 hv14 ?_
              refine M_istore (pc := 94) (ls' := [some (.ref 1), some (.int x1), some (.int x2), some (.int x3), some (.int x4), some (.int v13)]) dX11_had_94 (by decide) rfl ?_
              refine M_aload_n (pc := 96) dX11_had_96 rfl ?_
              refine M_getR (pc := 97) dX11_had_97 f_X11_23 at_10 (gr_10_3 hp at_10).1 ?_
              refine M_getR (pc := 100) dX11_had_100 f_X11_148 (gr_10_3 hp at_10).2 (gr_3_0 hp (gr_10_3 hp at_10).2).1 ?_
              refine M_iload_n (pc := 103) dX11_had_103 rfl ?_
              refine M_iload_n (pc := 104) dX11_had_104 rfl ?_
              refine M_iload_n (pc := 105) dX11_had_105 rfl ?_
              refine M_iload (pc := 106) dX11_had_106 rfl ?_
              obtain ⟨r15, hr16, h⟩ := bnd h
              refine M_callVv (pc := 108) dX11_had_108 v_X11_262 rfl rfl (gr_3_0 hp (gr_10_3 hp at_10).2).2 (Nat.le_of_ble_eq_true rfl) (C_X1_tell (d := d + 4) hp (gr_3_0 hp (gr_10_3 hp at_10).2).2 hr16) (Nat.le_refl _) ?_
              refine M_iload (pc := 111) dX11_had_111 rfl ?_
              obtain rfl := Option.some.inj h
              exact M_iret (pc := 113) dX11_had_113 rfl rfl rfl rfl
            · have h := (if_neg hc10).symm.trans h
              obtain rfl := Option.some.inj h
              exact M_throwW (pc := 56) dX11_had_56 dX11_had_59 dX11_had_60 dX11_had_63 dX11_had_66 x_X11_118 (j := 7) (by decide) str_X11_260 rfl rfl
    · have h := (if_pos hc6).symm.trans h
      obtain rfl := Option.some.inj h
      exact M_throwW (pc := 21) dX11_had_21 dX11_had_24 dX11_had_25 dX11_had_28 dX11_had_31 x_X11_158 (j := 6) (by decide) str_X11_258 rfl rfl
def F_X11_forget (I : HI) (x1 : Int32) : Option ((Int32 ⊕ String) × HI) :=
  (F_X1_has I 4 x1) >>= fun r1 => if r1 = 0 then some ((Sum.inr "java/lang/IndexOutOfBoundsException"), I) else (F_X1_isHad I 4 x1) >>= fun r4 => if r4 = 0 then some ((Sum.inr "java/lang/IllegalStateException"), I) else (F_X0_remember I 3 15) >>= fun r7 => (ald 12 (r7 6) x1) >>= fun v9 => (F_X1_tell r7 4 x1 (-1 : Int32) (-1 : Int32) (-1 : Int32)) >>= fun r11 => some ((Sum.inl v9), r11)
set_option maxRecDepth 4000 in
set_option maxHeartbeats 4000000 in
theorem C_X11_forget {g : gX} {d : Nat} {P : Nat → Nat → Option Nat} {I : HI} {x1 : Int32} {J : HJ} (hp : Wp P) {r : (Int32 ⊕ String) × HI} (h : F_X11_forget I x1 = some r) : Cx g mX11_forget (d + 6) [.ref 1, .int x1] (NT, I, J, P) ((thr_i r.1), (NT, r.2, J, P)) := by
  unfold F_X11_forget at h
  refine Cx.of (by decide) (by simp [Value.category]) (Nat.le_of_ble_eq_true rfl) (Nat.le_refl _) (ls := [some (.ref 1), some (.int x1), none]) rfl ?_
  refine M_aload_n (pc := 0) dX11_forget_0 rfl ?_
  refine M_getR (pc := 1) dX11_forget_1 f_X11_23 at_10 (gr_10_3 hp at_10).1 ?_
  refine M_getR (pc := 4) dX11_forget_4 f_X11_148 (gr_10_3 hp at_10).2 (gr_3_0 hp (gr_10_3 hp at_10).2).1 ?_
  refine M_iload_n (pc := 7) dX11_forget_7 rfl ?_
  obtain ⟨r1, hr2, h⟩ := bnd h
  refine M_callVi (pc := 8) dX11_forget_8 v_X11_152 rfl rfl (gr_3_0 hp (gr_10_3 hp at_10).2).2 (Nat.le_of_ble_eq_true rfl) (C_X1_has (d := d + 5) hp (gr_3_0 hp (gr_10_3 hp at_10).2).2 hr2) (Nat.le_refl _) ?_
  refine M_if_ne (pc := 11) (tgt := 24) dX11_forget_11 (by decide) (fun hc3 => ?_) (fun hc3 => ?_)
  · have h := (if_neg hc3).symm.trans h
    refine M_aload_n (pc := 24) dX11_forget_24 rfl ?_
    refine M_getR (pc := 25) dX11_forget_25 f_X11_23 at_10 (gr_10_3 hp at_10).1 ?_
    refine M_getR (pc := 28) dX11_forget_28 f_X11_148 (gr_10_3 hp at_10).2 (gr_3_0 hp (gr_10_3 hp at_10).2).1 ?_
    refine M_iload_n (pc := 31) dX11_forget_31 rfl ?_
    obtain ⟨r4, hr5, h⟩ := bnd h
    refine M_callVi (pc := 32) dX11_forget_32 v_X11_265 rfl rfl (gr_3_0 hp (gr_10_3 hp at_10).2).2 (Nat.le_of_ble_eq_true rfl) (C_X1_isHad (d := d + 4) hp (gr_3_0 hp (gr_10_3 hp at_10).2).2 hr5) (Nat.le_refl _) ?_
    refine M_if_ne (pc := 35) (tgt := 49) dX11_forget_35 (by decide) (fun hc6 => ?_) (fun hc6 => ?_)
    · have h := (if_neg hc6).symm.trans h
      refine M_aload_n (pc := 49) dX11_forget_49 rfl ?_
      refine M_getR (pc := 50) dX11_forget_50 f_X11_44 at_10 (gr_10_6 hp at_10).1 ?_
      refine M_aload_n (pc := 53) dX11_forget_53 rfl ?_
      refine M_getR (pc := 54) dX11_forget_54 f_X11_23 at_10 (gr_10_3 hp at_10).1 ?_
      refine M_aload_n (pc := 57) dX11_forget_57 rfl ?_
      refine M_getR (pc := 58) dX11_forget_58 f_X11_37 at_10 (gr_10_5 hp at_10).1 ?_
      obtain ⟨r7, hr8, h⟩ := bnd h
      refine M_callVv (pc := 61) dX11_forget_61 v_X11_228 rfl rfl (gr_10_6 hp at_10).2 (Nat.le_of_ble_eq_true rfl) (C_X0_remember (d := d + 2) hp (gr_10_3 hp at_10).2 (gr_10_5 hp at_10).2 hr8) (Nat.le_refl _) ?_
      refine M_aload_n (pc := 64) dX11_forget_64 rfl ?_
      refine M_getR (pc := 65) dX11_forget_65 f_X11_23 at_10 (gr_10_3 hp at_10).1 ?_
      refine M_getR (pc := 68) dX11_forget_68 f_X11_148 (gr_10_3 hp at_10).2 (gr_3_0 hp (gr_10_3 hp at_10).2).1 ?_
      refine M_getR (pc := 71) dX11_forget_71 f_X11_171 (gr_3_0 hp (gr_10_3 hp at_10).2).2 (gr_1_2 hp (gr_3_0 hp (gr_10_3 hp at_10).2).2).1 ?_
      refine M_iload_n (pc := 74) dX11_forget_74 rfl ?_
      obtain ⟨v9, hv10, h⟩ := bnd h
      refine M_aldI (pc := 75) dX11_forget_75 (gr_1_2 hp (gr_3_0 hp (gr_10_3 hp at_10).2).2).2 hv10 ?_
      refine M_istore_n (pc := 76) (ls' := [some (.ref 1), some (.int x1), some (.int v9)]) dX11_forget_76 (by decide) rfl ?_
      refine M_aload_n (pc := 77) dX11_forget_77 rfl ?_
      refine M_getR (pc := 78) dX11_forget_78 f_X11_23 at_10 (gr_10_3 hp at_10).1 ?_
      refine M_getR (pc := 81) dX11_forget_81 f_X11_148 (gr_10_3 hp at_10).2 (gr_3_0 hp (gr_10_3 hp at_10).2).1 ?_
      refine M_iload_n (pc := 84) dX11_forget_84 rfl ?_
      refine M_iconst (pc := 85) (v := -1) dX11_forget_85 (by decide) ?_
      refine M_iconst (pc := 86) (v := -1) dX11_forget_86 (by decide) ?_
      refine M_iconst (pc := 87) (v := -1) dX11_forget_87 (by decide) ?_
      obtain ⟨r11, hr12, h⟩ := bnd h
      refine M_callVv (pc := 88) dX11_forget_88 v_X11_262 rfl rfl (gr_3_0 hp (gr_10_3 hp at_10).2).2 (Nat.le_of_ble_eq_true rfl) (C_X1_tell (d := d + 4) hp (gr_3_0 hp (gr_10_3 hp at_10).2).2 hr12) (Nat.le_refl _) ?_
      refine M_iload_n (pc := 91) dX11_forget_91 rfl ?_
      obtain rfl := Option.some.inj h
      exact M_iret (pc := 92) dX11_forget_92 rfl rfl rfl rfl
    · have h := (if_pos hc6).symm.trans h
      obtain rfl := Option.some.inj h
      exact M_throwW (pc := 38) dX11_forget_38 dX11_forget_41 dX11_forget_42 dX11_forget_45 dX11_forget_48 x_X11_223 (j := 8) (by decide) str_X11_268 rfl rfl
  · have h := (if_pos hc3).symm.trans h
    obtain rfl := Option.some.inj h
    exact M_throw (pc := 14) dX11_forget_14 dX11_forget_17 dX11_forget_18 dX11_forget_20 dX11_forget_23 x_X11_158 (j := 3) (by decide) str_X11_160 rfl rfl
def F_X11_reach (I : HI) (x1 : Int32) : Option ((Int32 ⊕ String) × HI) :=
  if x1 < 0 then some ((Sum.inr "java/lang/IllegalArgumentException"), I) else if x1 ≤ (45 : Int32) then (F_X0_remember I 3 15) >>= fun r3 => some ((Sum.inl (r3 3 7)), (up2 r3 3 7 x1)) else some ((Sum.inr "java/lang/IllegalArgumentException"), I)
set_option maxRecDepth 4000 in
set_option maxHeartbeats 4000000 in
theorem C_X11_reach {g : gX} {d : Nat} {P : Nat → Nat → Option Nat} {I : HI} {x1 : Int32} {J : HJ} (hp : Wp P) {r : (Int32 ⊕ String) × HI} (h : F_X11_reach I x1 = some r) : Cx g mX11_reach (d + 6) [.ref 1, .int x1] (NT, I, J, P) ((thr_i r.1), (NT, r.2, J, P)) := by
  unfold F_X11_reach at h
  refine Cx.of (by decide) (by simp [Value.category]) (Nat.le_of_ble_eq_true rfl) (Nat.le_refl _) (ls := [some (.ref 1), some (.int x1), none]) rfl ?_
  refine M_iload_n (pc := 0) dX11_reach_0 rfl ?_
  refine M_if_lt (pc := 1) (tgt := 10) dX11_reach_1 (by decide) (fun hc1 => ?_) (fun hc1 => ?_)
  · have h := (if_pos hc1).symm.trans h
    obtain rfl := Option.some.inj h
    exact M_throwW (pc := 10) dX11_reach_10 dX11_reach_13 dX11_reach_14 dX11_reach_17 dX11_reach_20 x_X11_118 (j := 9) (by decide) str_X11_270 rfl rfl
  · have h := (if_neg hc1).symm.trans h
    refine M_iload_n (pc := 4) dX11_reach_4 rfl ?_
    refine M_bipush (pc := 5) (v := 45) dX11_reach_5 (by decide) ?_
    refine M_icmp_le (pc := 7) (tgt := 21) dX11_reach_7 (by decide) (fun hc2 => ?_) (fun hc2 => ?_)
    · have h := (if_pos hc2).symm.trans h
      refine M_aload_n (pc := 21) dX11_reach_21 rfl ?_
      refine M_getR (pc := 22) dX11_reach_22 f_X11_44 at_10 (gr_10_6 hp at_10).1 ?_
      refine M_aload_n (pc := 25) dX11_reach_25 rfl ?_
      refine M_getR (pc := 26) dX11_reach_26 f_X11_23 at_10 (gr_10_3 hp at_10).1 ?_
      refine M_aload_n (pc := 29) dX11_reach_29 rfl ?_
      refine M_getR (pc := 30) dX11_reach_30 f_X11_37 at_10 (gr_10_5 hp at_10).1 ?_
      obtain ⟨r3, hr4, h⟩ := bnd h
      refine M_callVv (pc := 33) dX11_reach_33 v_X11_228 rfl rfl (gr_10_6 hp at_10).2 (Nat.le_of_ble_eq_true rfl) (C_X0_remember (d := d + 2) hp (gr_10_3 hp at_10).2 (gr_10_5 hp at_10).2 hr4) (Nat.le_refl _) ?_
      refine M_aload_n (pc := 36) dX11_reach_36 rfl ?_
      refine M_getR (pc := 37) dX11_reach_37 f_X11_23 at_10 (gr_10_3 hp at_10).1 ?_
      refine M_getI (pc := 40) dX11_reach_40 f_X11_180 (gr_10_3 hp at_10).2 ?_
      refine M_istore_n (pc := 43) (ls' := [some (.ref 1), some (.int x1), some (.int (r3 3 7))]) dX11_reach_43 (by decide) rfl ?_
      refine M_aload_n (pc := 44) dX11_reach_44 rfl ?_
      refine M_getR (pc := 45) dX11_reach_45 f_X11_23 at_10 (gr_10_3 hp at_10).1 ?_
      refine M_iload_n (pc := 48) dX11_reach_48 rfl ?_
      refine M_putI (pc := 49) dX11_reach_49 f_X11_180 (gr_10_3 hp at_10).2 rfl ⟨rfl, rfl⟩ ?_
      refine M_iload_n (pc := 52) dX11_reach_52 rfl ?_
      obtain rfl := Option.some.inj h
      exact M_iret (pc := 53) dX11_reach_53 rfl rfl rfl rfl
    · have h := (if_neg hc2).symm.trans h
      obtain rfl := Option.some.inj h
      exact M_throwW (pc := 10) dX11_reach_10 dX11_reach_13 dX11_reach_14 dX11_reach_17 dX11_reach_20 x_X11_118 (j := 9) (by decide) str_X11_270 rfl rfl
def F_X11_house (I : HI) (x1 : Int32) : Option ((Int32 ⊕ String) × HI) :=
  (F_X11_isPlace I x1) >>= fun r1 => if r1 = 0 then some ((Sum.inr "java/lang/IndexOutOfBoundsException"), I) else (F_X0_remember I 3 15) >>= fun r4 => some ((Sum.inl (r4 3 11)), (up2 r4 3 11 x1))
set_option maxRecDepth 4000 in
set_option maxHeartbeats 4000000 in
theorem C_X11_house {g : gX} {d : Nat} {P : Nat → Nat → Option Nat} {I : HI} {x1 : Int32} {J : HJ} (hp : Wp P) {r : (Int32 ⊕ String) × HI} (h : F_X11_house I x1 = some r) : Cx g mX11_house (d + 6) [.ref 1, .int x1] (NT, I, J, P) ((thr_i r.1), (NT, r.2, J, P)) := by
  unfold F_X11_house at h
  refine Cx.of (by decide) (by simp [Value.category]) (Nat.le_of_ble_eq_true rfl) (Nat.le_refl _) (ls := [some (.ref 1), some (.int x1), none]) rfl ?_
  refine M_iload_n (pc := 0) dX11_house_0 rfl ?_
  obtain ⟨r1, hr2, h⟩ := bnd h
  refine M_callSi (pc := 1) dX11_house_1 s_X11_255 rfl rfl (Nat.le_of_ble_eq_true rfl) (C_X11_isPlace (d := d + 5) hp hr2) (Nat.le_refl _) ?_
  refine M_if_ne (pc := 4) (tgt := 18) dX11_house_4 (by decide) (fun hc3 => ?_) (fun hc3 => ?_)
  · have h := (if_neg hc3).symm.trans h
    refine M_aload_n (pc := 18) dX11_house_18 rfl ?_
    refine M_getR (pc := 19) dX11_house_19 f_X11_44 at_10 (gr_10_6 hp at_10).1 ?_
    refine M_aload_n (pc := 22) dX11_house_22 rfl ?_
    refine M_getR (pc := 23) dX11_house_23 f_X11_23 at_10 (gr_10_3 hp at_10).1 ?_
    refine M_aload_n (pc := 26) dX11_house_26 rfl ?_
    refine M_getR (pc := 27) dX11_house_27 f_X11_37 at_10 (gr_10_5 hp at_10).1 ?_
    obtain ⟨r4, hr5, h⟩ := bnd h
    refine M_callVv (pc := 30) dX11_house_30 v_X11_228 rfl rfl (gr_10_6 hp at_10).2 (Nat.le_of_ble_eq_true rfl) (C_X0_remember (d := d + 2) hp (gr_10_3 hp at_10).2 (gr_10_5 hp at_10).2 hr5) (Nat.le_refl _) ?_
    refine M_aload_n (pc := 33) dX11_house_33 rfl ?_
    refine M_getR (pc := 34) dX11_house_34 f_X11_23 at_10 (gr_10_3 hp at_10).1 ?_
    refine M_getI (pc := 37) dX11_house_37 f_X11_274 (gr_10_3 hp at_10).2 ?_
    refine M_istore_n (pc := 40) (ls' := [some (.ref 1), some (.int x1), some (.int (r4 3 11))]) dX11_house_40 (by decide) rfl ?_
    refine M_aload_n (pc := 41) dX11_house_41 rfl ?_
    refine M_getR (pc := 42) dX11_house_42 f_X11_23 at_10 (gr_10_3 hp at_10).1 ?_
    refine M_iload_n (pc := 45) dX11_house_45 rfl ?_
    refine M_putI (pc := 46) dX11_house_46 f_X11_274 (gr_10_3 hp at_10).2 rfl ⟨rfl, rfl⟩ ?_
    refine M_iload_n (pc := 49) dX11_house_49 rfl ?_
    obtain rfl := Option.some.inj h
    exact M_iret (pc := 50) dX11_house_50 rfl rfl rfl rfl
  · have h := (if_pos hc3).symm.trans h
    obtain rfl := Option.some.inj h
    exact M_throwW (pc := 7) dX11_house_7 dX11_house_10 dX11_house_11 dX11_house_14 dX11_house_17 x_X11_158 (j := 10) (by decide) str_X11_272 rfl rfl
def F_X11_look (I : HI) : Option (Int32 × HI) :=
  (F_X0_remember I 3 15) >>= fun r1 => (F_X3_draw r1 3) >>= fun r3 => if (r3.2 3 10) ≤ (r3.1 - r3.1 / (100 : Int32) * (100 : Int32)) then some ((((r3.2 3 3) / (10 : Int32)) + (0 : Int32)), r3.2) else some ((((r3.2 3 3) / (10 : Int32)) + (1 : Int32)), r3.2)
set_option maxRecDepth 4000 in
set_option maxHeartbeats 4000000 in
theorem C_X11_look {g : gX} {d : Nat} {P : Nat → Nat → Option Nat} {I : HI} {J : HJ} (hp : Wp P) {r : Int32 × HI} (h : F_X11_look I = some r) : Cm g mX11_look (d + 4) [.ref 1] (NT, I, J, P) (some (.int r.1)) (NT, r.2, J, P) := by
  unfold F_X11_look at h
  refine Cm.of (by decide) (by simp [Value.category]) (Nat.le_of_ble_eq_true rfl) (Nat.le_refl _) (ls := [some (.ref 1), none]) rfl ?_
  refine M_aload_n (pc := 0) dX11_look_0 rfl ?_
  refine M_getR (pc := 1) dX11_look_1 f_X11_44 at_10 (gr_10_6 hp at_10).1 ?_
  refine M_aload_n (pc := 4) dX11_look_4 rfl ?_
  refine M_getR (pc := 5) dX11_look_5 f_X11_23 at_10 (gr_10_3 hp at_10).1 ?_
  refine M_aload_n (pc := 8) dX11_look_8 rfl ?_
  refine M_getR (pc := 9) dX11_look_9 f_X11_37 at_10 (gr_10_5 hp at_10).1 ?_
  obtain ⟨r1, hr2, h⟩ := bnd h
  refine M_callVv (pc := 12) dX11_look_12 v_X11_228 rfl rfl (gr_10_6 hp at_10).2 (Nat.le_of_ble_eq_true rfl) (C_X0_remember (d := d + 0) hp (gr_10_3 hp at_10).2 (gr_10_5 hp at_10).2 hr2) (Nat.le_refl _) ?_
  refine M_aload_n (pc := 15) dX11_look_15 rfl ?_
  refine M_getR (pc := 16) dX11_look_16 f_X11_23 at_10 (gr_10_3 hp at_10).1 ?_
  obtain ⟨r3, hr4, h⟩ := bnd h
  refine M_callVi (pc := 19) dX11_look_19 v_X11_277 rfl rfl (gr_10_3 hp at_10).2 (Nat.le_of_ble_eq_true rfl) (C_X3_draw (d := d + 3) hp (gr_10_3 hp at_10).2 hr4) (Nat.le_refl _) ?_
  refine M_bipush (pc := 22) (v := 100) dX11_look_22 (by decide) ?_
  refine M_irem (pc := 24) dX11_look_24 (by decide) ?_
  refine M_aload_n (pc := 25) dX11_look_25 rfl ?_
  refine M_getR (pc := 26) dX11_look_26 f_X11_23 at_10 (gr_10_3 hp at_10).1 ?_
  refine M_getI (pc := 29) dX11_look_29 f_X11_280 (gr_10_3 hp at_10).2 ?_
  refine M_icmp_ge (pc := 32) (tgt := 39) dX11_look_32 (by decide) (fun hc5 => ?_) (fun hc5 => ?_)
  · have h := (if_pos hc5).symm.trans h
    refine M_iconst (pc := 39) (v := 0) dX11_look_39 (by decide) ?_
    refine M_istore_n (pc := 40) (ls' := [some (.ref 1), some (.int (0 : Int32))]) dX11_look_40 (by decide) rfl ?_
    refine M_aload_n (pc := 41) dX11_look_41 rfl ?_
    refine M_getR (pc := 42) dX11_look_42 f_X11_23 at_10 (gr_10_3 hp at_10).1 ?_
    refine M_getI (pc := 45) dX11_look_45 f_X11_242 (gr_10_3 hp at_10).2 ?_
    refine M_bipush (pc := 48) (v := 10) dX11_look_48 (by decide) ?_
    refine M_idiv (pc := 50) dX11_look_50 (by decide) ?_
    refine M_iload_n (pc := 51) dX11_look_51 rfl ?_
    refine M_iadd (pc := 52) dX11_look_52 ?_
    obtain rfl := Option.some.inj h
    exact M_iret (pc := 53) dX11_look_53 rfl rfl rfl rfl
  · have h := (if_neg hc5).symm.trans h
    refine M_iconst (pc := 35) (v := 1) dX11_look_35 (by decide) ?_
    refine M_goto (pc := 36) (tgt := 40) dX11_look_36 (by decide) ?_
    refine M_istore_n (pc := 40) (ls' := [some (.ref 1), some (.int (1 : Int32))]) dX11_look_40 (by decide) rfl ?_
    refine M_aload_n (pc := 41) dX11_look_41 rfl ?_
    refine M_getR (pc := 42) dX11_look_42 f_X11_23 at_10 (gr_10_3 hp at_10).1 ?_
    refine M_getI (pc := 45) dX11_look_45 f_X11_242 (gr_10_3 hp at_10).2 ?_
    refine M_bipush (pc := 48) (v := 10) dX11_look_48 (by decide) ?_
    refine M_idiv (pc := 50) dX11_look_50 (by decide) ?_
    refine M_iload_n (pc := 51) dX11_look_51 rfl ?_
    refine M_iadd (pc := 52) dX11_look_52 ?_
    obtain rfl := Option.some.inj h
    exact M_iret (pc := 53) dX11_look_53 rfl rfl rfl rfl
