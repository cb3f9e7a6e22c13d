def F_X11_forget (I : HI) (x1 : Int32) : Option ((Int32 ⊕ String) × HI) :=
  (F_X1_has I 4 x1) >>= fun r1 => if r1 = 0 then some ((Sum.inr "java/lang/IndexOutOfBoundsException"), I) else (F_X1_isHad I 4 x1) >>= fun r4 => if r4 = 0 then some ((Sum.inr "java/lang/IllegalStateException"), I) else (F_X0_remember I 3 15) >>= fun r7 => (ald 12 (r7 6) x1) >>= fun v9 => (F_X1_tell r7 4 x1 (-1 : Int32) (-1 : Int32) (-1 : Int32)) >>= fun r11 => some ((Sum.inl v9), r11)
set_option maxRecDepth 4000 in
set_option maxHeartbeats 4000000 in
theorem C_X11_forget {g : gX} {d : Nat} {P : Nat → Nat → Option Nat} {I : HI} {x1 : Int32} {J : HJ} (hp : Wp P) {r : (Int32 ⊕ String) × HI} (h : F_X11_forget I x1 = some r) : Cx g mX11_forget (d + 6) [.ref 1, .int x1] (NT, I, J, P) ((thr_i r.1), (NT, r.2, J, P)) := by
  unfold F_X11_forget at h
  refine Cx.of (by decide) (by simp [Value.category]) (Nat.le_of_ble_eq_true rfl) (Nat.le_refl _) (ls := [some (.ref 1), some (.int x1), none]) rfl ?_
  refine M_aload_n (pc := 0) dX11_forget_0 rfl ?_
  refine M_getR (pc := 1) dX11_forget_1 f_X11_23 at_10 (gc_1_3 hp).1 ?_
  refine M_getR (pc := 4) dX11_forget_4 f_X11_148 (gc_1_3 hp).2 (gc_3_0 hp).1 ?_
  refine M_iload_n (pc := 7) dX11_forget_7 rfl ?_
  obtain ⟨r1, hr2, h⟩ := bnd h
  refine M_callVi (pc := 8) dX11_forget_8 v_X11_152 rfl rfl (gc_3_0 hp).2 (Nat.le_of_ble_eq_true rfl) (C_X1_has (d := d + 5) hp (gc_3_0 hp).2 hr2) (Nat.le_refl _) ?_
  refine M_if_ne (pc := 11) (tgt := 24) dX11_forget_11 (by decide) (fun hc3 => ?_) (fun hc3 => ?_)
  · have h := (if_neg hc3).symm.trans h
    refine M_aload_n (pc := 24) dX11_forget_24 rfl ?_
    refine M_getR (pc := 25) dX11_forget_25 f_X11_23 at_10 (gc_1_3 hp).1 ?_
    refine M_getR (pc := 28) dX11_forget_28 f_X11_148 (gc_1_3 hp).2 (gc_3_0 hp).1 ?_
    refine M_iload_n (pc := 31) dX11_forget_31 rfl ?_
    obtain ⟨r4, hr5, h⟩ := bnd h
    refine M_callVi (pc := 32) dX11_forget_32 v_X11_265 rfl rfl (gc_3_0 hp).2 (Nat.le_of_ble_eq_true rfl) (C_X1_isHad (d := d + 4) hp (gc_3_0 hp).2 hr5) (Nat.le_refl _) ?_
    refine M_if_ne (pc := 35) (tgt := 49) dX11_forget_35 (by decide) (fun hc6 => ?_) (fun hc6 => ?_)
    · have h := (if_neg hc6).symm.trans h
      refine M_aload_n (pc := 49) dX11_forget_49 rfl ?_
      refine M_getR (pc := 50) dX11_forget_50 f_X11_44 at_10 (gc_1_6 hp).1 ?_
      refine M_aload_n (pc := 53) dX11_forget_53 rfl ?_
      refine M_getR (pc := 54) dX11_forget_54 f_X11_23 at_10 (gc_1_3 hp).1 ?_
      refine M_aload_n (pc := 57) dX11_forget_57 rfl ?_
      refine M_getR (pc := 58) dX11_forget_58 f_X11_37 at_10 (gc_1_5 hp).1 ?_
      obtain ⟨r7, hr8, h⟩ := bnd h
      refine M_callVv (pc := 61) dX11_forget_61 v_X11_228 rfl rfl (gc_1_6 hp).2 (Nat.le_of_ble_eq_true rfl) (C_X0_remember (d := d + 2) hp (gc_1_3 hp).2 (gc_1_5 hp).2 hr8) (Nat.le_refl _) ?_
      refine M_aload_n (pc := 64) dX11_forget_64 rfl ?_
      refine M_getR (pc := 65) dX11_forget_65 f_X11_23 at_10 (gc_1_3 hp).1 ?_
      refine M_getR (pc := 68) dX11_forget_68 f_X11_148 (gc_1_3 hp).2 (gc_3_0 hp).1 ?_
      refine M_getR (pc := 71) dX11_forget_71 f_X11_171 (gc_3_0 hp).2 (gc_4_2 hp).1 ?_
      refine M_iload_n (pc := 74) dX11_forget_74 rfl ?_
      obtain ⟨v9, hv10, h⟩ := bnd h
      refine M_aldI (pc := 75) dX11_forget_75 (gc_4_2 hp).2 hv10 ?_
      refine M_istore_n (pc := 76) (ls' := [some (.ref 1), some (.int x1), some (.int v9)]) dX11_forget_76 (by decide) rfl ?_
      refine M_aload_n (pc := 77) dX11_forget_77 rfl ?_
      refine M_getR (pc := 78) dX11_forget_78 f_X11_23 at_10 (gc_1_3 hp).1 ?_
      refine M_getR (pc := 81) dX11_forget_81 f_X11_148 (gc_1_3 hp).2 (gc_3_0 hp).1 ?_
      refine M_iload_n (pc := 84) dX11_forget_84 rfl ?_
      refine M_iconst (pc := 85) (v := -1) dX11_forget_85 (by decide) ?_
      refine M_iconst (pc := 86) (v := -1) dX11_forget_86 (by decide) ?_
      refine M_iconst (pc := 87) (v := -1) dX11_forget_87 (by decide) ?_
      obtain ⟨r11, hr12, h⟩ := bnd h
      refine M_callVv (pc := 88) dX11_forget_88 v_X11_262 rfl rfl (gc_3_0 hp).2 (Nat.le_of_ble_eq_true rfl) (C_X1_tell (d := d + 4) hp (gc_3_0 hp).2 hr12) (Nat.le_refl _) ?_
      refine M_iload_n (pc := 91) dX11_forget_91 rfl ?_
      obtain rfl := Option.some.inj h
      exact M_iret (pc := 92) dX11_forget_92 rfl rfl rfl rfl
    · have h := (if_pos hc6).symm.trans h
      obtain rfl := Option.some.inj h
      exact M_throwW (pc := 38) dX11_forget_38 dX11_forget_41 dX11_forget_42 dX11_forget_45 dX11_forget_48 ⟨rfl, rfl, rfl, rfl⟩ x_X11_223 (j := 8) (by decide) str_X11_268 rfl rfl
  · have h := (if_pos hc3).symm.trans h
    obtain rfl := Option.some.inj h
    exact M_throw (pc := 14) dX11_forget_14 dX11_forget_17 dX11_forget_18 dX11_forget_20 dX11_forget_23 ⟨rfl, rfl, rfl, rfl⟩ x_X11_158 (j := 3) (by decide) str_X11_160 rfl rfl
def F_X11_reach (I : HI) (x1 : Int32) : Option ((Int32 ⊕ String) × HI) :=
  if x1 < 0 then some ((Sum.inr "java/lang/IllegalArgumentException"), I) else if x1 ≤ (45 : Int32) then (F_X0_remember I 3 15) >>= fun r3 => some ((Sum.inl (r3 3 7)), (up2 r3 3 7 x1)) else some ((Sum.inr "java/lang/IllegalArgumentException"), I)
set_option maxRecDepth 4000 in
set_option maxHeartbeats 4000000 in
theorem C_X11_reach {g : gX} {d : Nat} {P : Nat → Nat → Option Nat} {I : HI} {x1 : Int32} {J : HJ} (hp : Wp P) {r : (Int32 ⊕ String) × HI} (h : F_X11_reach I x1 = some r) : Cx g mX11_reach (d + 6) [.ref 1, .int x1] (NT, I, J, P) ((thr_i r.1), (NT, r.2, J, P)) := by
  unfold F_X11_reach at h
  refine Cx.of (by decide) (by simp [Value.category]) (Nat.le_of_ble_eq_true rfl) (Nat.le_refl _) (ls := [some (.ref 1), some (.int x1), none]) rfl ?_
  refine M_iload_n (pc := 0) dX11_reach_0 rfl ?_
  refine M_if_lt (pc := 1) (tgt := 10) dX11_reach_1 (by decide) (fun hc1 => ?_) (fun hc1 => ?_)
  · have h := (if_pos hc1).symm.trans h
    obtain rfl := Option.some.inj h
    exact M_throwW (pc := 10) dX11_reach_10 dX11_reach_13 dX11_reach_14 dX11_reach_17 dX11_reach_20 ⟨rfl, rfl, rfl, rfl⟩ x_X11_118 (j := 9) (by decide) str_X11_270 rfl rfl
  · have h := (if_neg hc1).symm.trans h
    refine M_iload_n (pc := 4) dX11_reach_4 rfl ?_
    refine M_bipush (pc := 5) (v := 45) dX11_reach_5 (by decide) ?_
    refine M_icmp_le (pc := 7) (tgt := 21) dX11_reach_7 (by decide) (fun hc2 => ?_) (fun hc2 => ?_)
    · have h := (if_pos hc2).symm.trans h
      refine M_aload_n (pc := 21) dX11_reach_21 rfl ?_
      refine M_getR (pc := 22) dX11_reach_22 f_X11_44 at_10 (gc_1_6 hp).1 ?_
      refine M_aload_n (pc := 25) dX11_reach_25 rfl ?_
      refine M_getR (pc := 26) dX11_reach_26 f_X11_23 at_10 (gc_1_3 hp).1 ?_
      refine M_aload_n (pc := 29) dX11_reach_29 rfl ?_
      refine M_getR (pc := 30) dX11_reach_30 f_X11_37 at_10 (gc_1_5 hp).1 ?_
      obtain ⟨r3, hr4, h⟩ := bnd h
      refine M_callVv (pc := 33) dX11_reach_33 v_X11_228 rfl rfl (gc_1_6 hp).2 (Nat.le_of_ble_eq_true rfl) (C_X0_remember (d := d + 2) hp (gc_1_3 hp).2 (gc_1_5 hp).2 hr4) (Nat.le_refl _) ?_
      refine M_aload_n (pc := 36) dX11_reach_36 rfl ?_
      refine M_getR (pc := 37) dX11_reach_37 f_X11_23 at_10 (gc_1_3 hp).1 ?_
      refine M_getI (pc := 40) dX11_reach_40 f_X11_180 (gc_1_3 hp).2 ?_
      refine M_istore_n (pc := 43) (ls' := [some (.ref 1), some (.int x1), some (.int (r3 3 7))]) dX11_reach_43 (by decide) rfl ?_
      refine M_aload_n (pc := 44) dX11_reach_44 rfl ?_
      refine M_getR (pc := 45) dX11_reach_45 f_X11_23 at_10 (gc_1_3 hp).1 ?_
      refine M_iload_n (pc := 48) dX11_reach_48 rfl ?_
      refine M_putI (pc := 49) dX11_reach_49 f_X11_180 (gc_1_3 hp).2 rfl ⟨rfl, rfl⟩ ?_
      refine M_iload_n (pc := 52) dX11_reach_52 rfl ?_
      obtain rfl := Option.some.inj h
      exact M_iret (pc := 53) dX11_reach_53 rfl rfl rfl rfl
    · have h := (if_neg hc2).symm.trans h
      obtain rfl := Option.some.inj h
      exact M_throwW (pc := 10) dX11_reach_10 dX11_reach_13 dX11_reach_14 dX11_reach_17 dX11_reach_20 ⟨rfl, rfl, rfl, rfl⟩ x_X11_118 (j := 9) (by decide) str_X11_270 rfl rfl
def F_X11_house (I : HI) (x1 : Int32) : Option ((Int32 ⊕ String) × HI) :=
  (F_X11_isPlace I x1) >>= fun r1 => if r1 = 0 then some ((Sum.inr "java/lang/IndexOutOfBoundsException"), I) else (F_X0_remember I 3 15) >>= fun r4 => some ((Sum.inl (r4 3 11)), (up2 r4 3 11 x1))
set_option maxRecDepth 4000 in
set_option maxHeartbeats 4000000 in
theorem C_X11_house {g : gX} {d : Nat} {P : Nat → Nat → Option Nat} {I : HI} {x1 : Int32} {J : HJ} (hp : Wp P) {r : (Int32 ⊕ String) × HI} (h : F_X11_house I x1 = some r) : Cx g mX11_house (d + 6) [.ref 1, .int x1] (NT, I, J, P) ((thr_i r.1), (NT, r.2, J, P)) := by
  unfold F_X11_house at h
  refine Cx.of (by decide) (by simp [Value.category]) (Nat.le_of_ble_eq_true rfl) (Nat.le_refl _) (ls := [some (.ref 1), some (.int x1), none]) rfl ?_
  refine M_iload_n (pc := 0) dX11_house_0 rfl ?_
  obtain ⟨r1, hr2, h⟩ := bnd h
  refine M_callSi (pc := 1) dX11_house_1 s_X11_255 rfl rfl (Nat.le_of_ble_eq_true rfl) (C_X11_isPlace (d := d + 5) hp hr2) (Nat.le_refl _) ?_
  refine M_if_ne (pc := 4) (tgt := 18) dX11_house_4 (by decide) (fun hc3 => ?_) (fun hc3 => ?_)
  · have h := (if_neg hc3).symm.trans h
    refine M_aload_n (pc := 18) dX11_house_18 rfl ?_
    refine M_getR (pc := 19) dX11_house_19 f_X11_44 at_10 (gc_1_6 hp).1 ?_
    refine M_aload_n (pc := 22) dX11_house_22 rfl ?_
    refine M_getR (pc := 23) dX11_house_23 f_X11_23 at_10 (gc_1_3 hp).1 ?_
    refine M_aload_n (pc := 26) dX11_house_26 rfl ?_
    refine M_getR (pc := 27) dX11_house_27 f_X11_37 at_10 (gc_1_5 hp).1 ?_
    obtain ⟨r4, hr5, h⟩ := bnd h
    refine M_callVv (pc := 30) dX11_house_30 v_X11_228 rfl rfl (gc_1_6 hp).2 (Nat.le_of_ble_eq_true rfl) (C_X0_remember (d := d + 2) hp (gc_1_3 hp).2 (gc_1_5 hp).2 hr5) (Nat.le_refl _) ?_
    refine M_aload_n (pc := 33) dX11_house_33 rfl ?_
    refine M_getR (pc := 34) dX11_house_34 f_X11_23 at_10 (gc_1_3 hp).1 ?_
    refine M_getI (pc := 37) dX11_house_37 f_X11_274 (gc_1_3 hp).2 ?_
    refine M_istore_n (pc := 40) (ls' := [some (.ref 1), some (.int x1), some (.int (r4 3 11))]) dX11_house_40 (by decide) rfl ?_
    refine M_aload_n (pc := 41) dX11_house_41 rfl ?_
    refine M_getR (pc := 42) dX11_house_42 f_X11_23 at_10 (gc_1_3 hp).1 ?_
    refine M_iload_n (pc := 45) dX11_house_45 rfl ?_
    refine M_putI (pc := 46) dX11_house_46 f_X11_274 (gc_1_3 hp).2 rfl ⟨rfl, rfl⟩ ?_
    refine M_iload_n (pc := 49) dX11_house_49 rfl ?_
    obtain rfl := Option.some.inj h
    exact M_iret (pc := 50) dX11_house_50 rfl rfl rfl rfl
  · have h := (if_pos hc3).symm.trans h
    obtain rfl := Option.some.inj h
    exact M_throwW (pc := 7) dX11_house_7 dX11_house_10 dX11_house_11 dX11_house_14 dX11_house_17 ⟨rfl, rfl, rfl, rfl⟩ x_X11_158 (j := 10) (by decide) str_X11_272 rfl rfl
def F_X11_look (I : HI) : Option (Int32 × HI) :=
  (F_X0_remember I 3 15) >>= fun r1 => (F_X3_draw r1 3) >>= fun r3 => if (r3.2 3 10) ≤ (r3.1 - r3.1 / (100 : Int32) * (100 : Int32)) then some ((((r3.2 3 3) / (10 : Int32)) + (0 : Int32)), r3.2) else some ((((r3.2 3 3) / (10 : Int32)) + (1 : Int32)), r3.2)
set_option maxRecDepth 4000 in
set_option maxHeartbeats 4000000 in
theorem C_X11_look {g : gX} {d : Nat} {P : Nat → Nat → Option Nat} {I : HI} {J : HJ} (hp : Wp P) {r : Int32 × HI} (h : F_X11_look I = some r) : Cm g mX11_look (d + 4) [.ref 1] (NT, I, J, P) (some (.int r.1)) (NT, r.2, J, P) := by
  unfold F_X11_look at h
  refine Cm.of (by decide) (by simp [Value.category]) (Nat.le_of_ble_eq_true rfl) (Nat.le_refl _) (ls := [some (.ref 1), none]) rfl ?_
  refine M_aload_n (pc := 0) dX11_look_0 rfl ?_
  refine M_getR (pc := 1) dX11_look_1 f_X11_44 at_10 (gc_1_6 hp).1 ?_
  refine M_aload_n (pc := 4) dX11_look_4 rfl ?_
  refine M_getR (pc := 5) dX11_look_5 f_X11_23 at_10 (gc_1_3 hp).1 ?_
  refine M_aload_n (pc := 8) dX11_look_8 rfl ?_
  refine M_getR (pc := 9) dX11_look_9 f_X11_37 at_10 (gc_1_5 hp).1 ?_
  obtain ⟨r1, hr2, h⟩ := bnd h
  refine M_callVv (pc := 12) dX11_look_12 v_X11_228 rfl rfl (gc_1_6 hp).2 (Nat.le_of_ble_eq_true rfl) (C_X0_remember (d := d + 0) hp (gc_1_3 hp).2 (gc_1_5 hp).2 hr2) (Nat.le_refl _) ?_
  refine M_aload_n (pc := 15) dX11_look_15 rfl ?_
  refine M_getR (pc := 16) dX11_look_16 f_X11_23 at_10 (gc_1_3 hp).1 ?_
  obtain ⟨r3, hr4, h⟩ := bnd h
  refine M_callVi (pc := 19) dX11_look_19 v_X11_277 rfl rfl (gc_1_3 hp).2 (Nat.le_of_ble_eq_true rfl) (C_X3_draw (d := d + 3) hp (gc_1_3 hp).2 hr4) (Nat.le_refl _) ?_
  refine M_bipush (pc := 22) (v := 100) dX11_look_22 (by decide) ?_
  refine M_irem (pc := 24) dX11_look_24 (by decide) ?_
  refine M_aload_n (pc := 25) dX11_look_25 rfl ?_
  refine M_getR (pc := 26) dX11_look_26 f_X11_23 at_10 (gc_1_3 hp).1 ?_
  refine M_getI (pc := 29) dX11_look_29 f_X11_280 (gc_1_3 hp).2 ?_
  refine M_icmp_ge (pc := 32) (tgt := 39) dX11_look_32 (by decide) (fun hc5 => ?_) (fun hc5 => ?_)
  · have h := (if_pos hc5).symm.trans h
    refine M_iconst (pc := 39) (v := 0) dX11_look_39 (by decide) ?_
    refine M_istore_n (pc := 40) (ls' := [some (.ref 1), some (.int (0 : Int32))]) dX11_look_40 (by decide) rfl ?_
    refine M_aload_n (pc := 41) dX11_look_41 rfl ?_
    refine M_getR (pc := 42) dX11_look_42 f_X11_23 at_10 (gc_1_3 hp).1 ?_
    refine M_getI (pc := 45) dX11_look_45 f_X11_242 (gc_1_3 hp).2 ?_
    refine M_bipush (pc := 48) (v := 10) dX11_look_48 (by decide) ?_
    refine M_idiv (pc := 50) dX11_look_50 (by decide) ?_
    refine M_iload_n (pc := 51) dX11_look_51 rfl ?_
    refine M_iadd (pc := 52) dX11_look_52 ?_
    obtain rfl := Option.some.inj h
    exact M_iret (pc := 53) dX11_look_53 rfl rfl rfl rfl
  · have h := (if_neg hc5).symm.trans h
    refine M_iconst (pc := 35) (v := 1) dX11_look_35 (by decide) ?_
    refine M_goto (pc := 36) (tgt := 40) dX11_look_36 (by decide) ?_
    refine M_istore_n (pc := 40) (ls' := [some (.ref 1), some (.int (1 : Int32))]) dX11_look_40 (by decide) rfl ?_
    refine M_aload_n (pc := 41) dX11_look_41 rfl ?_
    refine M_getR (pc := 42) dX11_look_42 f_X11_23 at_10 (gc_1_3 hp).1 ?_
    refine M_getI (pc := 45) dX11_look_45 f_X11_242 (gc_1_3 hp).2 ?_
    refine M_bipush (pc := 48) (v := 10) dX11_look_48 (by decide) ?_
    refine M_idiv (pc := 50) dX11_look_50 (by decide) ?_
    refine M_iload_n (pc := 51) dX11_look_51 rfl ?_
    refine M_iadd (pc := 52) dX11_look_52 ?_
    obtain rfl := Option.some.inj h
    exact M_iret (pc := 53) dX11_look_53 rfl rfl rfl rfl
def L_X11_he_42 (I : HI) (x1 : Int32) (x2 : Int32) (x3 : Int32) : Option ((Int32 ⊕ String) × HI) :=
  if x1 ≤ x3 then some ((Sum.inl x2), I) else if (400 : Int32) ≤ (x3 + (1 : Int32)) then some ((Sum.inl x2), I) else (ald 400 (I 2) x3) >>= fun v10 => (ald 400 (I 2) (x3 + (1 : Int32))) >>= fun v12 => (F_X1_companyIn I 4 v10 v12) >>= fun r14 => L_X11_he_42 I x1 (x2 &&& r14) (x3 + (2 : Int32))
partial_fixpoint
def F_X11_he (I : HI) : Option ((Int32 ⊕ String) × HI) :=
  (F_X11_takeTape I) >>= fun r1 => if (40 : Int32) < r1.1 then some ((Sum.inr "java/lang/IllegalArgumentException"), r1.2) else if (r1.1 - r1.1 / (2 : Int32) * (2 : Int32)) = 0 then (F_X11_arePairs r1.2 r1.1) >>= fun r5 => if r5 = 0 then some ((Sum.inr "java/lang/IllegalArgumentException"), r1.2) else L_X11_he_42 r1.2 r1.1 (255 : Int32) (0 : Int32) else some ((Sum.inr "java/lang/IllegalArgumentException"), r1.2)
set_option maxRecDepth 4000 in
set_option maxHeartbeats 4000000 in
theorem LC_X11_he_42 {g : gX} {d : Nat} {P : Nat → Nat → Option Nat} {J : HJ} {I : HI} {x1 : Int32} (hp : Wp P) : ∀ (x2 : Int32) (x3 : Int32) (r : (Int32 ⊕ String) × HI), L_X11_he_42 I x1 x2 x3 = some r → M g mX11_he (d + 6) (NT, NT, 1) ((thr_i r.1), (NT, r.2, J, P)) 42 [some (.ref 1), some (.int x1), some (.int x2), some (.int x3)] [] (NT, I, J, P) := by
  refine L_X11_he_42.partial_correctness I x1 (fun x2 x3 r => M g mX11_he (d + 6) (NT, NT, 1) ((thr_i r.1), (NT, r.2, J, P)) 42 [some (.ref 1), some (.int x1), some (.int x2), some (.int x3)] [] (NT, I, J, P)) ?_
  intro f ih x2 x3 r h
  refine M_iload_n (pc := 42) dX11_he_42 rfl ?_
  refine M_iload_n (pc := 43) dX11_he_43 rfl ?_
  refine M_icmp_ge (pc := 44) (tgt := 89) dX11_he_44 (by decide) (fun hc8 => ?_) (fun hc8 => ?_)
  · have h := (if_pos hc8).symm.trans h
    refine M_iload_n (pc := 89) dX11_he_89 rfl ?_
    obtain rfl := Option.some.inj h
    exact M_iret (pc := 90) dX11_he_90 rfl rfl rfl rfl
  · have h := (if_neg hc8).symm.trans h
    refine M_iload_n (pc := 47) dX11_he_47 rfl ?_
    refine M_iconst (pc := 48) (v := 1) dX11_he_48 (by decide) ?_
    refine M_iadd (pc := 49) dX11_he_49 ?_
    refine M_sipush (pc := 50) (v := 400) dX11_he_50 (by decide) ?_
    refine M_icmp_ge (pc := 53) (tgt := 89) dX11_he_53 (by decide) (fun hc9 => ?_) (fun hc9 => ?_)
    · have h := (if_pos hc9).symm.trans h
      refine M_iload_n (pc := 89) dX11_he_89 rfl ?_
      obtain rfl := Option.some.inj h
      exact M_iret (pc := 90) dX11_he_90 rfl rfl rfl rfl
    · have h := (if_neg hc9).symm.trans h
      refine M_iload_n (pc := 56) dX11_he_56 rfl ?_
      refine M_aload_n (pc := 57) dX11_he_57 rfl ?_
      refine M_getR (pc := 58) dX11_he_58 f_X11_23 at_10 (gc_1_3 hp).1 ?_
      refine M_getR (pc := 61) dX11_he_61 f_X11_148 (gc_1_3 hp).2 (gc_3_0 hp).1 ?_
      refine M_aload_n (pc := 64) dX11_he_64 rfl ?_
      refine M_getR (pc := 65) dX11_he_65 f_X11_9 at_10 (gc_1_0 hp).1 ?_
      refine M_iload_n (pc := 68) dX11_he_68 rfl ?_
      obtain ⟨v10, hv11, h⟩ := bnd h
      refine M_aldI (pc := 69) dX11_he_69 (gc_1_0 hp).2 hv11 ?_
      refine M_aload_n (pc := 70) dX11_he_70 rfl ?_
      refine M_getR (pc := 71) dX11_he_71 f_X11_9 at_10 (gc_1_0 hp).1 ?_
      refine M_iload_n (pc := 74) dX11_he_74 rfl ?_
      refine M_iconst (pc := 75) (v := 1) dX11_he_75 (by decide) ?_
      refine M_iadd (pc := 76) dX11_he_76 ?_
      obtain ⟨v12, hv13, h⟩ := bnd h
      refine M_aldI (pc := 77) dX11_he_77 (gc_1_0 hp).2 hv13 ?_
      obtain ⟨r14, hr15, h⟩ := bnd h
      refine M_callVi (pc := 78) dX11_he_78 v_X11_333 rfl rfl (gc_3_0 hp).2 (Nat.le_of_ble_eq_true rfl) (C_X1_companyIn (d := d + 3) hp (gc_3_0 hp).2 hr15) (Nat.le_refl _) ?_
      refine M_iand (pc := 81) dX11_he_81 ?_
      refine M_istore_n (pc := 82) (ls' := [some (.ref 1), some (.int x1), some (.int (x2 &&& r14)), some (.int x3)]) dX11_he_82 (by decide) rfl ?_
      refine M_iinc (pc := 83) (v := (x3 + (2 : Int32))) (ls' := [some (.ref 1), some (.int x1), some (.int (x2 &&& r14)), some (.int (x3 + (2 : Int32)))]) dX11_he_83 rfl rfl (by decide) rfl ?_
      refine M_goto (pc := 86) (tgt := 42) dX11_he_86 (by decide) ?_
      exact ih (x2 &&& r14) (x3 + (2 : Int32)) _ h
set_option maxRecDepth 4000 in
set_option maxHeartbeats 4000000 in
theorem C_X11_he {g : gX} {d : Nat} {P : Nat → Nat → Option Nat} {I : HI} {J : HJ} (hp : Wp P) {r : (Int32 ⊕ String) × HI} (h : F_X11_he I = some r) : Cx g mX11_he (d + 6) [.ref 1] (NT, I, J, P) ((thr_i r.1), (NT, r.2, J, P)) := by
  unfold F_X11_he at h
  refine Cx.of (by decide) (by simp [Value.category]) (Nat.le_of_ble_eq_true rfl) (Nat.le_refl _) (ls := [some (.ref 1), none, none, none]) rfl ?_
  refine M_aload_n (pc := 0) dX11_he_0 rfl ?_
  obtain ⟨r1, hr2, h⟩ := bnd h
  refine M_callVi (pc := 1) dX11_he_1 v_X11_110 rfl rfl at_10 (Nat.le_of_ble_eq_true rfl) (C_X11_takeTape (d := d + 5) hp hr2) (Nat.le_refl _) ?_
  refine M_istore_n (pc := 4) (ls' := [some (.ref 1), some (.int r1.1), none, none]) dX11_he_4 (by decide) rfl ?_
  refine M_iload_n (pc := 5) dX11_he_5 rfl ?_
  refine M_bipush (pc := 6) (v := 40) dX11_he_6 (by decide) ?_
  refine M_icmp_gt (pc := 8) (tgt := 25) dX11_he_8 (by decide) (fun hc3 => ?_) (fun hc3 => ?_)
  · have h := (if_pos hc3).symm.trans h
    obtain rfl := Option.some.inj h
    exact M_throwW (pc := 25) dX11_he_25 dX11_he_28 dX11_he_29 dX11_he_32 dX11_he_35 ⟨rfl, rfl, rfl, rfl⟩ x_X11_118 (j := 16) (by decide) str_X11_331 rfl rfl
  · have h := (if_neg hc3).symm.trans h
    refine M_iload_n (pc := 11) dX11_he_11 rfl ?_
    refine M_iconst (pc := 12) (v := 2) dX11_he_12 (by decide) ?_
    refine M_irem (pc := 13) dX11_he_13 (by decide) ?_
    refine M_if_ne (pc := 14) (tgt := 25) dX11_he_14 (by decide) (fun hc4 => ?_) (fun hc4 => ?_)
    · have h := (if_neg hc4).symm.trans h
      obtain rfl := Option.some.inj h
      exact M_throwW (pc := 25) dX11_he_25 dX11_he_28 dX11_he_29 dX11_he_32 dX11_he_35 ⟨rfl, rfl, rfl, rfl⟩ x_X11_118 (j := 16) (by decide) str_X11_331 rfl rfl
    · have h := (if_pos hc4).symm.trans h
      refine M_aload_n (pc := 17) dX11_he_17 rfl ?_
      refine M_iload_n (pc := 18) dX11_he_18 rfl ?_
      obtain ⟨r5, hr6, h⟩ := bnd h
      refine M_callVi (pc := 19) dX11_he_19 v_X11_328 rfl rfl at_10 (Nat.le_of_ble_eq_true rfl) (C_X11_arePairs (d := d + 4) hp hr6) (Nat.le_refl _) ?_
      refine M_if_ne (pc := 22) (tgt := 36) dX11_he_22 (by decide) (fun hc7 => ?_) (fun hc7 => ?_)
      · have h := (if_neg hc7).symm.trans h
        refine M_sipush (pc := 36) (v := 255) dX11_he_36 (by decide) ?_
        refine M_istore_n (pc := 39) (ls' := [some (.ref 1), some (.int r1.1), some (.int (255 : Int32)), none]) dX11_he_39 (by decide) rfl ?_
        refine M_iconst (pc := 40) (v := 0) dX11_he_40 (by decide) ?_
        refine M_istore_n (pc := 41) (ls' := [some (.ref 1), some (.int r1.1), some (.int (255 : Int32)), some (.int (0 : Int32))]) dX11_he_41 (by decide) rfl ?_
        exact LC_X11_he_42 (P := P) hp (255 : Int32) (0 : Int32) _ h
      · have h := (if_pos hc7).symm.trans h
        obtain rfl := Option.some.inj h
        exact M_throwW (pc := 25) dX11_he_25 dX11_he_28 dX11_he_29 dX11_he_32 dX11_he_35 ⟨rfl, rfl, rfl, rfl⟩ x_X11_118 (j := 16) (by decide) str_X11_331 rfl rfl
def L_X11_fitting_13 (I : HI) (x1 : Int32) (x2 : Int32) (x3 : Int32) : Option (Int32) :=
  if x1 ≤ x3 then some x2 else if (400 : Int32) ≤ x3 then some x2 else (ald 400 (I 2) x3) >>= fun v5 => (F_X1_inDecade I 4 v5) >>= fun r7 => (ald 400 (I 2) x3) >>= fun v9 => (F_X1_inDecade I 4 (v9 - (1 : Int32))) >>= fun r11 => L_X11_fitting_13 I x1 (x2 &&& (r7 ||| r11)) (x3 + (1 : Int32))
partial_fixpoint
def F_X11_fitting (I : HI) (x1 : Int32) : Option (Int32) :=
  (F_X1_allHad I 4) >>= fun r1 => L_X11_fitting_13 I x1 r1 (0 : Int32)
set_option maxRecDepth 4000 in
set_option maxHeartbeats 4000000 in
theorem LC_X11_fitting_13 {g : gX} {d : Nat} {P : Nat → Nat → Option Nat} {J : HJ} {I : HI} {x1 : Int32} (hp : Wp P) : ∀ (x2 : Int32) (x3 : Int32) (r : Int32), L_X11_fitting_13 I x1 x2 x3 = some r → M g mX11_fitting (d + 2) (NT, NT, 0) ((.inl (some (.int r))), (NT, I, J, P)) 13 [some (.ref 1), some (.int x1), some (.int x2), some (.int x3)] [] (NT, I, J, P) := by
  refine L_X11_fitting_13.partial_correctness I x1 (fun x2 x3 r => M g mX11_fitting (d + 2) (NT, NT, 0) ((.inl (some (.int r))), (NT, I, J, P)) 13 [some (.ref 1), some (.int x1), some (.int x2), some (.int x3)] [] (NT, I, J, P)) ?_
  intro f ih x2 x3 r h
  refine M_iload_n (pc := 13) dX11_fitting_13 rfl ?_
  refine M_iload_n (pc := 14) dX11_fitting_14 rfl ?_
  refine M_icmp_ge (pc := 15) (tgt := 69) dX11_fitting_15 (by decide) (fun hc3 => ?_) (fun hc3 => ?_)
  · have h := (if_pos hc3).symm.trans h
    refine M_iload_n (pc := 69) dX11_fitting_69 rfl ?_
    obtain rfl := Option.some.inj h
    exact M_iret (pc := 70) dX11_fitting_70 rfl rfl rfl rfl
  · have h := (if_neg hc3).symm.trans h
    refine M_iload_n (pc := 18) dX11_fitting_18 rfl ?_
    refine M_sipush (pc := 19) (v := 400) dX11_fitting_19 (by decide) ?_
    refine M_icmp_ge (pc := 22) (tgt := 69) dX11_fitting_22 (by decide) (fun hc4 => ?_) (fun hc4 => ?_)
    · have h := (if_pos hc4).symm.trans h
      refine M_iload_n (pc := 69) dX11_fitting_69 rfl ?_
      obtain rfl := Option.some.inj h
      exact M_iret (pc := 70) dX11_fitting_70 rfl rfl rfl rfl
    · have h := (if_neg hc4).symm.trans h
      refine M_iload_n (pc := 25) dX11_fitting_25 rfl ?_
      refine M_aload_n (pc := 26) dX11_fitting_26 rfl ?_
      refine M_getR (pc := 27) dX11_fitting_27 f_X11_23 at_10 (gc_1_3 hp).1 ?_
      refine M_getR (pc := 30) dX11_fitting_30 f_X11_148 (gc_1_3 hp).2 (gc_3_0 hp).1 ?_
      refine M_aload_n (pc := 33) dX11_fitting_33 rfl ?_
      refine M_getR (pc := 34) dX11_fitting_34 f_X11_9 at_10 (gc_1_0 hp).1 ?_
      refine M_iload_n (pc := 37) dX11_fitting_37 rfl ?_
      obtain ⟨v5, hv6, h⟩ := bnd h
      refine M_aldI (pc := 38) dX11_fitting_38 (gc_1_0 hp).2 hv6 ?_
      obtain ⟨r7, hr8, h⟩ := bnd h
      refine M_callVi (pc := 39) dX11_fitting_39 v_X11_341 rfl rfl (gc_3_0 hp).2 (Nat.le_of_ble_eq_true rfl) (C_X1_inDecade (d := d + 0) hp (gc_3_0 hp).2 hr8) (Nat.le_refl _) ?_
      refine M_aload_n (pc := 42) dX11_fitting_42 rfl ?_
      refine M_getR (pc := 43) dX11_fitting_43 f_X11_23 at_10 (gc_1_3 hp).1 ?_
      refine M_getR (pc := 46) dX11_fitting_46 f_X11_148 (gc_1_3 hp).2 (gc_3_0 hp).1 ?_
      refine M_aload_n (pc := 49) dX11_fitting_49 rfl ?_
      refine M_getR (pc := 50) dX11_fitting_50 f_X11_9 at_10 (gc_1_0 hp).1 ?_
      refine M_iload_n (pc := 53) dX11_fitting_53 rfl ?_
      obtain ⟨v9, hv10, h⟩ := bnd h
      refine M_aldI (pc := 54) dX11_fitting_54 (gc_1_0 hp).2 hv10 ?_
      refine M_iconst (pc := 55) (v := 1) dX11_fitting_55 (by decide) ?_
      refine M_isub (pc := 56) dX11_fitting_56 ?_
      obtain ⟨r11, hr12, h⟩ := bnd h
      refine M_callVi (pc := 57) dX11_fitting_57 v_X11_341 rfl rfl (gc_3_0 hp).2 (Nat.le_of_ble_eq_true rfl) (C_X1_inDecade (d := d + 0) hp (gc_3_0 hp).2 hr12) (Nat.le_refl _) ?_
      refine M_ior (pc := 60) dX11_fitting_60 ?_
      refine M_iand (pc := 61) dX11_fitting_61 ?_
      refine M_istore_n (pc := 62) (ls' := [some (.ref 1), some (.int x1), some (.int (x2 &&& (r7 ||| r11))), some (.int x3)]) dX11_fitting_62 (by decide) rfl ?_
      refine M_iinc (pc := 63) (v := (x3 + (1 : Int32))) (ls' := [some (.ref 1), some (.int x1), some (.int (x2 &&& (r7 ||| r11))), some (.int (x3 + (1 : Int32)))]) dX11_fitting_63 rfl rfl (by decide) rfl ?_
      refine M_goto (pc := 66) (tgt := 13) dX11_fitting_66 (by decide) ?_
      exact ih (x2 &&& (r7 ||| r11)) (x3 + (1 : Int32)) _ h
set_option maxRecDepth 4000 in
set_option maxHeartbeats 4000000 in
theorem C_X11_fitting {g : gX} {d : Nat} {P : Nat → Nat → Option Nat} {I : HI} {x1 : Int32} {J : HJ} (hp : Wp P) {r : Int32} (h : F_X11_fitting I x1 = some r) : Cm g mX11_fitting (d + 2) [.ref 1, .int x1] (NT, I, J, P) (some (.int r)) (NT, I, J, P) := by
  unfold F_X11_fitting at h
  refine Cm.of (by decide) (by simp [Value.category]) (Nat.le_of_ble_eq_true rfl) (Nat.le_refl _) (ls := [some (.ref 1), some (.int x1), none, none]) rfl ?_
  refine M_aload_n (pc := 0) dX11_fitting_0 rfl ?_
  refine M_getR (pc := 1) dX11_fitting_1 f_X11_23 at_10 (gc_1_3 hp).1 ?_
  refine M_getR (pc := 4) dX11_fitting_4 f_X11_148 (gc_1_3 hp).2 (gc_3_0 hp).1 ?_
  obtain ⟨r1, hr2, h⟩ := bnd h
  refine M_callVi (pc := 7) dX11_fitting_7 v_X11_217 rfl rfl (gc_3_0 hp).2 (Nat.le_of_ble_eq_true rfl) (C_X1_allHad (d := d + 0) hp (gc_3_0 hp).2 hr2) (Nat.le_refl _) ?_
  refine M_istore_n (pc := 10) (ls' := [some (.ref 1), some (.int x1), some (.int r1), none]) dX11_fitting_10 (by decide) rfl ?_
  refine M_iconst (pc := 11) (v := 0) dX11_fitting_11 (by decide) ?_
  refine M_istore_n (pc := 12) (ls' := [some (.ref 1), some (.int x1), some (.int r1), some (.int (0 : Int32))]) dX11_fitting_12 (by decide) rfl ?_
  exact LC_X11_fitting_13 (P := P) hp r1 (0 : Int32) _ h
def F_X11_greaterPart (I : HI) (x1 : Int32) (x2 : Int32) : Option (Int32) :=
  (ald 12 (I 6) x1) >>= fun v1 => (F_X1_firstIn I 4 (0 : Int32) v1) >>= fun r3 => (F_J6_bitCount_0f7a4 I (x2 &&& r3)) >>= fun r5 => (F_J6_bitCount_0f7a4 I x2) >>= fun r7 => some (if r5 < (r7 - r5) then (r7 - r5) else r5)
set_option maxRecDepth 4000 in
set_option maxHeartbeats 4000000 in
theorem C_X11_greaterPart {g : gX} {d : Nat} {P : Nat → Nat → Option Nat} {I : HI} {x1 : Int32} {x2 : Int32} {J : HJ} (hp : Wp P) {r : Int32} (h : F_X11_greaterPart I x1 x2 = some r) : Cm g mX11_greaterPart (d + 1) [.ref 1, .int x1, .int x2] (NT, I, J, P) (some (.int r)) (NT, I, J, P) := by
  unfold F_X11_greaterPart at h
  refine Cm.of (by decide) (by simp [Value.category]) (Nat.le_of_ble_eq_true rfl) (Nat.le_refl _) (ls := [some (.ref 1), some (.int x1), some (.int x2), none]) rfl ?_
  refine M_iload_n (pc := 0) dX11_greaterPart_0 rfl ?_
  refine M_aload_n (pc := 1) dX11_greaterPart_1 rfl ?_
  refine M_getR (pc := 2) dX11_greaterPart_2 f_X11_23 at_10 (gc_1_3 hp).1 ?_
  refine M_getR (pc := 5) dX11_greaterPart_5 f_X11_148 (gc_1_3 hp).2 (gc_3_0 hp).1 ?_
  refine M_iconst (pc := 8) (v := 0) dX11_greaterPart_8 (by decide) ?_
  refine M_aload_n (pc := 9) dX11_greaterPart_9 rfl ?_
  refine M_getR (pc := 10) dX11_greaterPart_10 f_X11_23 at_10 (gc_1_3 hp).1 ?_
  refine M_getR (pc := 13) dX11_greaterPart_13 f_X11_148 (gc_1_3 hp).2 (gc_3_0 hp).1 ?_
  refine M_getR (pc := 16) dX11_greaterPart_16 f_X11_171 (gc_3_0 hp).2 (gc_4_2 hp).1 ?_
  refine M_iload_n (pc := 19) dX11_greaterPart_19 rfl ?_
  obtain ⟨v1, hv2, h⟩ := bnd h
  refine M_aldI (pc := 20) dX11_greaterPart_20 (gc_4_2 hp).2 hv2 ?_
  obtain ⟨r3, hr4, h⟩ := bnd h
  refine M_callVi (pc := 21) dX11_greaterPart_21 v_X11_347 rfl rfl (gc_3_0 hp).2 (Nat.le_of_ble_eq_true rfl) (C_X1_firstIn (d := d + 0) hp (gc_3_0 hp).2 hr4) (Nat.le_refl _) ?_
  refine M_iand (pc := 24) dX11_greaterPart_24 ?_
  obtain ⟨r5, hr6, h⟩ := bnd h
  refine M_callSi (pc := 25) dX11_greaterPart_25 s_X11_311 rfl rfl (Nat.le_of_ble_eq_true rfl) (C_J6_bitCount_0f7a4 (d := d + 0) hp hr6) (Nat.le_refl _) ?_
  refine M_istore_n (pc := 28) (ls' := [some (.ref 1), some (.int x1), some (.int x2), some (.int r5)]) dX11_greaterPart_28 (by decide) rfl ?_
  refine M_iload_n (pc := 29) dX11_greaterPart_29 rfl ?_
  refine M_iload_n (pc := 30) dX11_greaterPart_30 rfl ?_
  obtain ⟨r7, hr8, h⟩ := bnd h
  refine M_callSi (pc := 31) dX11_greaterPart_31 s_X11_311 rfl rfl (Nat.le_of_ble_eq_true rfl) (C_J6_bitCount_0f7a4 (d := d + 0) hp hr8) (Nat.le_refl _) ?_
  refine M_iload_n (pc := 34) dX11_greaterPart_34 rfl ?_
  refine M_isub (pc := 35) dX11_greaterPart_35 ?_
  refine M_mmax (pc := 36) dX11_greaterPart_36 mm_X11_350.1 mm_X11_350.2.1 mm_X11_350.2.2.1 mm_X11_350.2.2.2 (Nat.le_of_ble_eq_true rfl) ?_
  obtain rfl := Option.some.inj h
  exact M_iret (pc := 39) dX11_greaterPart_39 rfl rfl rfl rfl
def L_X11_lover_6 (I : HI) (x1 : Int32) (x2 : Int32) (x3 : Int32) : Option (Int32) :=
  if (7 : Int32) < x3 then some x1 else (F_X1_hadWith I 4 x3) >>= fun r2 => (F_J6_bitCount_0f7a4 I r2) >>= fun r4 => if r4 ≤ x2 then L_X11_lover_6 I x1 x2 (x3 + (1 : Int32)) else L_X11_lover_6 I x3 r4 (x3 + (1 : Int32))
partial_fixpoint
def F_X11_lover (I : HI) : Option (Int32) :=
  L_X11_lover_6 I (-1 : Int32) (0 : Int32) (0 : Int32)
set_option maxRecDepth 4000 in
set_option maxHeartbeats 4000000 in
theorem LC_X11_lover_6 {g : gX} {d : Nat} {P : Nat → Nat → Option Nat} {J : HJ} {I : HI} (hp : Wp P) : ∀ (x1 : Int32) (x2 : Int32) (x3 : Int32) (r : Int32), L_X11_lover_6 I x1 x2 x3 = some r → M g mX11_lover (d + 1) (NT, NT, 0) ((.inl (some (.int r))), (NT, I, J, P)) 6 [some (.ref 1), some (.int x1), some (.int x2), some (.int x3), none] [] (NT, I, J, P) := by
  refine L_X11_lover_6.partial_correctness I (fun x1 x2 x3 r => M g mX11_lover (d + 1) (NT, NT, 0) ((.inl (some (.int r))), (NT, I, J, P)) 6 [some (.ref 1), some (.int x1), some (.int x2), some (.int x3), none] [] (NT, I, J, P)) ?_
  intro f ih x1 x2 x3 r h
  refine M_iload_n (pc := 6) dX11_lover_6 rfl ?_
  refine M_bipush (pc := 7) (v := 7) dX11_lover_7 (by decide) ?_
  refine M_icmp_gt (pc := 9) (tgt := 45) dX11_lover_9 (by decide) (fun hc1 => ?_) (fun hc1 => ?_)
  · have h := (if_pos hc1).symm.trans h
    refine M_iload_n (pc := 45) dX11_lover_45 rfl ?_
    obtain rfl := Option.some.inj h
    exact M_iret (pc := 46) dX11_lover_46 rfl rfl rfl rfl
  · have h := (if_neg hc1).symm.trans h
    refine M_aload_n (pc := 12) dX11_lover_12 rfl ?_
    refine M_getR (pc := 13) dX11_lover_13 f_X11_23 at_10 (gc_1_3 hp).1 ?_
    refine M_getR (pc := 16) dX11_lover_16 f_X11_148 (gc_1_3 hp).2 (gc_3_0 hp).1 ?_
    refine M_iload_n (pc := 19) dX11_lover_19 rfl ?_
    obtain ⟨r2, hr3, h⟩ := bnd h
    refine M_callVi (pc := 20) dX11_lover_20 v_X11_368 rfl rfl (gc_3_0 hp).2 (Nat.le_of_ble_eq_true rfl) (C_X1_hadWith (d := d + 0) hp (gc_3_0 hp).2 hr3) (Nat.le_refl _) ?_
    obtain ⟨r4, hr5, h⟩ := bnd h
    refine M_callSi (pc := 23) dX11_lover_23 s_X11_311 rfl rfl (Nat.le_of_ble_eq_true rfl) (C_J6_bitCount_0f7a4 (d := d + 0) hp hr5) (Nat.le_refl _) ?_
    refine M_istore (pc := 26) (ls' := [some (.ref 1), some (.int x1), some (.int x2), some (.int x3), some (.int r4)]) dX11_lover_26 (by decide) rfl ?_
    refine M_iload (pc := 28) dX11_lover_28 rfl ?_
    refine M_iload_n (pc := 30) dX11_lover_30 rfl ?_
    refine M_icmp_le (pc := 31) (tgt := 39) dX11_lover_31 (by decide) (fun hc6 => ?_) (fun hc6 => ?_)
    · have h := (if_pos hc6).symm.trans h
      refine M_iinc (pc := 39) (v := (x3 + (1 : Int32))) (ls' := [some (.ref 1), some (.int x1), some (.int x2), some (.int (x3 + (1 : Int32))), some (.int r4)]) dX11_lover_39 rfl rfl (by decide) rfl ?_
      refine M_goto (pc := 42) (tgt := 6) dX11_lover_42 (by decide) ?_
      refine M_mask (pc := 6) [true, true, true, true, false] rfl ?_
      exact ih x1 x2 (x3 + (1 : Int32)) _ h
    · have h := (if_neg hc6).symm.trans h
      refine M_iload (pc := 34) dX11_lover_34 rfl ?_
      refine M_istore_n (pc := 36) (ls' := [some (.ref 1), some (.int x1), some (.int r4), some (.int x3), some (.int r4)]) dX11_lover_36 (by decide) rfl ?_
      refine M_iload_n (pc := 37) dX11_lover_37 rfl ?_
      refine M_istore_n (pc := 38) (ls' := [some (.ref 1), some (.int x3), some (.int r4), some (.int x3), some (.int r4)]) dX11_lover_38 (by decide) rfl ?_
      refine M_iinc (pc := 39) (v := (x3 + (1 : Int32))) (ls' := [some (.ref 1), some (.int x3), some (.int r4), some (.int (x3 + (1 : Int32))), some (.int r4)]) dX11_lover_39 rfl rfl (by decide) rfl ?_
      refine M_goto (pc := 42) (tgt := 6) dX11_lover_42 (by decide) ?_
      refine M_mask (pc := 6) [true, true, true, true, false] rfl ?_
      exact ih x3 r4 (x3 + (1 : Int32)) _ h
set_option maxRecDepth 4000 in
set_option maxHeartbeats 4000000 in
theorem C_X11_lover {g : gX} {d : Nat} {P : Nat → Nat → Option Nat} {I : HI} {J : HJ} (hp : Wp P) {r : Int32} (h : F_X11_lover I = some r) : Cm g mX11_lover (d + 1) [.ref 1] (NT, I, J, P) (some (.int r)) (NT, I, J, P) := by
  unfold F_X11_lover at h
  refine Cm.of (by decide) (by simp [Value.category]) (Nat.le_of_ble_eq_true rfl) (Nat.le_refl _) (ls := [some (.ref 1), none, none, none, none]) rfl ?_
  refine M_iconst (pc := 0) (v := -1) dX11_lover_0 (by decide) ?_
  refine M_istore_n (pc := 1) (ls' := [some (.ref 1), some (.int (-1 : Int32)), none, none, none]) dX11_lover_1 (by decide) rfl ?_
  refine M_iconst (pc := 2) (v := 0) dX11_lover_2 (by decide) ?_
  refine M_istore_n (pc := 3) (ls' := [some (.ref 1), some (.int (-1 : Int32)), some (.int (0 : Int32)), none, none]) dX11_lover_3 (by decide) rfl ?_
  refine M_iconst (pc := 4) (v := 0) dX11_lover_4 (by decide) ?_
  refine M_istore_n (pc := 5) (ls' := [some (.ref 1), some (.int (-1 : Int32)), some (.int (0 : Int32)), some (.int (0 : Int32)), none]) dX11_lover_5 (by decide) rfl ?_
  exact LC_X11_lover_6 (P := P) hp (-1 : Int32) (0 : Int32) (0 : Int32) _ h
def L_X11_odds_68 (I : HI) (x3 : Int64) (x5 : Int32) : Option ((Int32 ⊕ String)) :=
  if x5 ≤ (2 : Int32) then some (Sum.inl (x3).toInt32) else L_X11_odds_68 I (x3 / (100 : Int64)) (x5 + (-1 : Int32))
partial_fixpoint
def L_X11_odds_47 (I : HI) (x1 : Int32) (x3 : Int64) (x5 : Int32) : Option ((Int32 ⊕ String)) :=
  if (2 : Int32) ≤ x5 then L_X11_odds_68 I x3 x1 else L_X11_odds_47 I x1 (x3 * (100 : Int64)) (x5 + (1 : Int32))
partial_fixpoint
def F_X11_odds (I : HI) (x1 : Int32) (x2 : Int32) : Option ((Int32 ⊕ String)) :=
  if x1 < 0 then some (Sum.inr "java/lang/IllegalArgumentException") else if (6 : Int32) < x1 then some (Sum.inr "java/lang/IllegalArgumentException") else if x2 < 0 then some (Sum.inr "java/lang/IllegalArgumentException") else if x2 ≤ (6 : Int32) then (F_X11_slipParts 8 I x1 x2 (I 3 10)) >>= fun r5 => L_X11_odds_47 I x1 r5 x1 else some (Sum.inr "java/lang/IllegalArgumentException")
set_option maxRecDepth 4000 in
set_option maxHeartbeats 4000000 in
theorem LC_X11_odds_68 {g : gX} {d : Nat} {P : Nat → Nat → Option Nat} {J : HJ} {I : HI} (hp : Wp P) : ∀ (x3 : Int64) (x5 : Int32) (r : (Int32 ⊕ String)), L_X11_odds_68 I x3 x5 = some r → M g mX11_odds (d + 17) (NT, NT, 1) ((thr_i r), (NT, I, J, P)) 68 [none, none, none, some (.long x3), none, some (.int x5)] [] (NT, I, J, P) := by
  refine L_X11_odds_68.partial_correctness I (fun x3 x5 r => M g mX11_odds (d + 17) (NT, NT, 1) ((thr_i r), (NT, I, J, P)) 68 [none, none, none, some (.long x3), none, some (.int x5)] [] (NT, I, J, P)) ?_
  intro f ih x3 x5 r h
  refine M_iload (pc := 68) dX11_odds_68 rfl ?_
  refine M_iconst (pc := 70) (v := 2) dX11_odds_70 (by decide) ?_
  refine M_icmp_le (pc := 71) (tgt := 86) dX11_odds_71 (by decide) (fun hc8 => ?_) (fun hc8 => ?_)
  · have h := (if_pos hc8).symm.trans h
    refine M_lload_n (pc := 86) dX11_odds_86 rfl ?_
    refine M_l2i (pc := 87) dX11_odds_87 ?_
    obtain rfl := Option.some.inj h
    exact M_iret (pc := 88) dX11_odds_88 rfl rfl rfl rfl
  · have h := (if_neg hc8).symm.trans h
    refine M_lload_n (pc := 74) dX11_odds_74 rfl ?_
    refine M_ldc2 (pc := 75) (v := 100) dX11_odds_75 w_1311 ?_
    refine M_ldiv (pc := 78) dX11_odds_78 (by decide) ?_
    refine M_lstore_n (pc := 79) (ls' := [none, none, none, some (.long (x3 / (100 : Int64))), none, some (.int x5)]) dX11_odds_79 (by decide) rfl ?_
    refine M_iinc (pc := 80) (v := (x5 + (-1 : Int32))) (ls' := [none, none, none, some (.long (x3 / (100 : Int64))), none, some (.int (x5 + (-1 : Int32)))]) dX11_odds_80 rfl rfl (by decide) rfl ?_
    refine M_goto (pc := 83) (tgt := 68) dX11_odds_83 (by decide) ?_
    exact ih (x3 / (100 : Int64)) (x5 + (-1 : Int32)) _ h
set_option maxRecDepth 4000 in
set_option maxHeartbeats 4000000 in
theorem LC_X11_odds_47 {g : gX} {d : Nat} {P : Nat → Nat → Option Nat} {J : HJ} {I : HI} {x1 : Int32} (hp : Wp P) : ∀ (x3 : Int64) (x5 : Int32) (r : (Int32 ⊕ String)), L_X11_odds_47 I x1 x3 x5 = some r → M g mX11_odds (d + 17) (NT, NT, 1) ((thr_i r), (NT, I, J, P)) 47 [none, some (.int x1), none, some (.long x3), none, some (.int x5)] [] (NT, I, J, P) := by
  refine L_X11_odds_47.partial_correctness I x1 (fun x3 x5 r => M g mX11_odds (d + 17) (NT, NT, 1) ((thr_i r), (NT, I, J, P)) 47 [none, some (.int x1), none, some (.long x3), none, some (.int x5)] [] (NT, I, J, P)) ?_
  intro f ih x3 x5 r h
  refine M_iload (pc := 47) dX11_odds_47 rfl ?_
  refine M_iconst (pc := 49) (v := 2) dX11_odds_49 (by decide) ?_
  refine M_icmp_ge (pc := 50) (tgt := 65) dX11_odds_50 (by decide) (fun hc7 => ?_) (fun hc7 => ?_)
  · have h := (if_pos hc7).symm.trans h
    refine M_iload_n (pc := 65) dX11_odds_65 rfl ?_
    refine M_istore (pc := 66) (ls' := [none, some (.int x1), none, some (.long x3), none, some (.int x1)]) dX11_odds_66 (by decide) rfl ?_
    refine M_mask (pc := 68) [false, false, false, true, false, true] rfl ?_
    exact LC_X11_odds_68 (P := P) hp x3 x1 _ h
  · have h := (if_neg hc7).symm.trans h
    refine M_lload_n (pc := 53) dX11_odds_53 rfl ?_
    refine M_ldc2 (pc := 54) (v := 100) dX11_odds_54 w_1311 ?_
    refine M_lmul (pc := 57) dX11_odds_57 ?_
    refine M_lstore_n (pc := 58) (ls' := [none, some (.int x1), none, some (.long (x3 * (100 : Int64))), none, some (.int x5)]) dX11_odds_58 (by decide) rfl ?_
    refine M_iinc (pc := 59) (v := (x5 + (1 : Int32))) (ls' := [none, some (.int x1), none, some (.long (x3 * (100 : Int64))), none, some (.int (x5 + (1 : Int32)))]) dX11_odds_59 rfl rfl (by decide) rfl ?_
    refine M_goto (pc := 62) (tgt := 47) dX11_odds_62 (by decide) ?_
    exact ih (x3 * (100 : Int64)) (x5 + (1 : Int32)) _ h
set_option maxRecDepth 4000 in
set_option maxHeartbeats 4000000 in
theorem C_X11_odds {g : gX} {d : Nat} {P : Nat → Nat → Option Nat} {I : HI} {x1 : Int32} {x2 : Int32} {J : HJ} (hp : Wp P) {r : (Int32 ⊕ String)} (h : F_X11_odds I x1 x2 = some r) : Cx g mX11_odds (d + 17) [.ref 1, .int x1, .int x2] (NT, I, J, P) ((thr_i r), (NT, I, J, P)) := by
  unfold F_X11_odds at h
  refine Cx.of (by decide) (by simp [Value.category]) (Nat.le_of_ble_eq_true rfl) (Nat.le_refl _) (ls := [some (.ref 1), some (.int x1), some (.int x2), none, none, none]) rfl ?_
  refine M_iload_n (pc := 0) dX11_odds_0 rfl ?_
  refine M_if_lt (pc := 1) (tgt := 20) dX11_odds_1 (by decide) (fun hc1 => ?_) (fun hc1 => ?_)
  · have h := (if_pos hc1).symm.trans h
    obtain rfl := Option.some.inj h
    exact M_throwW (pc := 20) dX11_odds_20 dX11_odds_23 dX11_odds_24 dX11_odds_27 dX11_odds_30 ⟨rfl, rfl, rfl, rfl⟩ x_X11_118 (j := 21) (by decide) str_X11_381 rfl rfl
  · have h := (if_neg hc1).symm.trans h
    refine M_iload_n (pc := 4) dX11_odds_4 rfl ?_
    refine M_bipush (pc := 5) (v := 6) dX11_odds_5 (by decide) ?_
    refine M_icmp_gt (pc := 7) (tgt := 20) dX11_odds_7 (by decide) (fun hc2 => ?_) (fun hc2 => ?_)
    · have h := (if_pos hc2).symm.trans h
      obtain rfl := Option.some.inj h
      exact M_throwW (pc := 20) dX11_odds_20 dX11_odds_23 dX11_odds_24 dX11_odds_27 dX11_odds_30 ⟨rfl, rfl, rfl, rfl⟩ x_X11_118 (j := 21) (by decide) str_X11_381 rfl rfl
    · have h := (if_neg hc2).symm.trans h
      refine M_iload_n (pc := 10) dX11_odds_10 rfl ?_
      refine M_if_lt (pc := 11) (tgt := 20) dX11_odds_11 (by decide) (fun hc3 => ?_) (fun hc3 => ?_)
      · have h := (if_pos hc3).symm.trans h
        obtain rfl := Option.some.inj h
        exact M_throwW (pc := 20) dX11_odds_20 dX11_odds_23 dX11_odds_24 dX11_odds_27 dX11_odds_30 ⟨rfl, rfl, rfl, rfl⟩ x_X11_118 (j := 21) (by decide) str_X11_381 rfl rfl
      · have h := (if_neg hc3).symm.trans h
        refine M_iload_n (pc := 14) dX11_odds_14 rfl ?_
        refine M_bipush (pc := 15) (v := 6) dX11_odds_15 (by decide) ?_
        refine M_icmp_le (pc := 17) (tgt := 31) dX11_odds_17 (by decide) (fun hc4 => ?_) (fun hc4 => ?_)
        · have h := (if_pos hc4).symm.trans h
          refine M_iload_n (pc := 31) dX11_odds_31 rfl ?_
          refine M_iload_n (pc := 32) dX11_odds_32 rfl ?_
          refine M_aload_n (pc := 33) dX11_odds_33 rfl ?_
          refine M_getR (pc := 34) dX11_odds_34 f_X11_23 at_10 (gc_1_3 hp).1 ?_
          refine M_getI (pc := 37) dX11_odds_37 f_X11_280 (gc_1_3 hp).2 ?_
          obtain ⟨r5, hr6, h⟩ := bnd h
          refine M_callSi (pc := 40) dX11_odds_40 s_X11_383 rfl rfl (Nat.le_of_ble_eq_true rfl) (C_X11_slipParts hp 8 (d := d + 0) _ _ _ _  _ hr6) (Nat.le_refl _) ?_
          refine M_lstore_n (pc := 43) (ls' := [some (.ref 1), some (.int x1), some (.int x2), some (.long r5), none, none]) dX11_odds_43 (by decide) rfl ?_
          refine M_iload_n (pc := 44) dX11_odds_44 rfl ?_
          refine M_istore (pc := 45) (ls' := [some (.ref 1), some (.int x1), some (.int x2), some (.long r5), none, some (.int x1)]) dX11_odds_45 (by decide) rfl ?_
          refine M_mask (pc := 47) [false, true, false, true, false, true] rfl ?_
          exact LC_X11_odds_47 (P := P) hp r5 x1 _ h
        · have h := (if_neg hc4).symm.trans h
          obtain rfl := Option.some.inj h
          exact M_throwW (pc := 20) dX11_odds_20 dX11_odds_23 dX11_odds_24 dX11_odds_27 dX11_odds_30 ⟨rfl, rfl, rfl, rfl⟩ x_X11_118 (j := 21) (by decide) str_X11_381 rfl rfl
def F_X11_share (I : HI) (x1 : Int32) : Option ((Int32 ⊕ String)) :=
  (F_X11_isPlace I x1) >>= fun r1 => if r1 = 0 then some (Sum.inr "java/lang/IndexOutOfBoundsException") else (F_X1_allHad I 4) >>= fun r4 => (F_J6_bitCount_0f7a4 I r4) >>= fun r6 => if r6 ≤ 0 then some (Sum.inl (0 : Int32)) else (F_X1_hadAt I 4 x1) >>= fun r9 => (F_J6_bitCount_0f7a4 I r9) >>= fun r11 => if ¬ r6 = 0 then some (Sum.inl ((r11 * (100 : Int32)) / r6)) else none
set_option maxRecDepth 4000 in
set_option maxHeartbeats 4000000 in
theorem C_X11_share {g : gX} {d : Nat} {P : Nat → Nat → Option Nat} {I : HI} {x1 : Int32} {J : HJ} (hp : Wp P) {r : (Int32 ⊕ String)} (h : F_X11_share I x1 = some r) : Cx g mX11_share (d + 6) [.ref 1, .int x1] (NT, I, J, P) ((thr_i r), (NT, I, J, P)) := by
  unfold F_X11_share at h
  refine Cx.of (by decide) (by simp [Value.category]) (Nat.le_of_ble_eq_true rfl) (Nat.le_refl _) (ls := [some (.ref 1), some (.int x1), none]) rfl ?_
  refine M_iload_n (pc := 0) dX11_share_0 rfl ?_
  obtain ⟨r1, hr2, h⟩ := bnd h
  refine M_callSi (pc := 1) dX11_share_1 s_X11_255 rfl rfl (Nat.le_of_ble_eq_true rfl) (C_X11_isPlace (d := d + 5) hp hr2) (Nat.le_refl _) ?_
  refine M_if_ne (pc := 4) (tgt := 18) dX11_share_4 (by decide) (fun hc3 => ?_) (fun hc3 => ?_)
  · have h := (if_neg hc3).symm.trans h
    refine M_aload_n (pc := 18) dX11_share_18 rfl ?_
    refine M_getR (pc := 19) dX11_share_19 f_X11_23 at_10 (gc_1_3 hp).1 ?_
    refine M_getR (pc := 22) dX11_share_22 f_X11_148 (gc_1_3 hp).2 (gc_3_0 hp).1 ?_
    obtain ⟨r4, hr5, h⟩ := bnd h
    refine M_callVi (pc := 25) dX11_share_25 v_X11_217 rfl rfl (gc_3_0 hp).2 (Nat.le_of_ble_eq_true rfl) (C_X1_allHad (d := d + 4) hp (gc_3_0 hp).2 hr5) (Nat.le_refl _) ?_
    obtain ⟨r6, hr7, h⟩ := bnd h
    refine M_callSi (pc := 28) dX11_share_28 s_X11_311 rfl rfl (Nat.le_of_ble_eq_true rfl) (C_J6_bitCount_0f7a4 (d := d + 5) hp hr7) (Nat.le_refl _) ?_
    refine M_istore_n (pc := 31) (ls' := [some (.ref 1), some (.int x1), some (.int r6)]) dX11_share_31 (by decide) rfl ?_
    refine M_iload_n (pc := 32) dX11_share_32 rfl ?_
    refine M_if_le (pc := 33) (tgt := 58) dX11_share_33 (by decide) (fun hc8 => ?_) (fun hc8 => ?_)
    · have h := (if_pos hc8).symm.trans h
      refine M_iconst (pc := 58) (v := 0) dX11_share_58 (by decide) ?_
      obtain rfl := Option.some.inj h
      exact M_iret (pc := 59) dX11_share_59 rfl rfl rfl rfl
    · have h := (if_neg hc8).symm.trans h
      refine M_aload_n (pc := 36) dX11_share_36 rfl ?_
      refine M_getR (pc := 37) dX11_share_37 f_X11_23 at_10 (gc_1_3 hp).1 ?_
      refine M_getR (pc := 40) dX11_share_40 f_X11_148 (gc_1_3 hp).2 (gc_3_0 hp).1 ?_
      refine M_iload_n (pc := 43) dX11_share_43 rfl ?_
      obtain ⟨r9, hr10, h⟩ := bnd h
      refine M_callVi (pc := 44) dX11_share_44 v_X11_362 rfl rfl (gc_3_0 hp).2 (Nat.le_of_ble_eq_true rfl) (C_X1_hadAt (d := d + 5) hp (gc_3_0 hp).2 hr10) (Nat.le_refl _) ?_
      obtain ⟨r11, hr12, h⟩ := bnd h
      refine M_callSi (pc := 47) dX11_share_47 s_X11_311 rfl rfl (Nat.le_of_ble_eq_true rfl) (C_J6_bitCount_0f7a4 (d := d + 5) hp hr12) (Nat.le_refl _) ?_
      refine M_bipush (pc := 50) (v := 100) dX11_share_50 (by decide) ?_
      refine M_imul (pc := 52) dX11_share_52 ?_
      refine M_iload_n (pc := 53) dX11_share_53 rfl ?_
      obtain ⟨hz13, h⟩ := chk h
      refine M_idiv (pc := 54) dX11_share_54 hz13 ?_
      refine M_goto (pc := 55) (tgt := 59) dX11_share_55 (by decide) ?_
      obtain rfl := Option.some.inj h
      exact M_iret (pc := 59) dX11_share_59 rfl rfl rfl rfl
  · have h := (if_pos hc3).symm.trans h
    obtain rfl := Option.some.inj h
    exact M_throwW (pc := 7) dX11_share_7 dX11_share_10 dX11_share_11 dX11_share_14 dX11_share_17 ⟨rfl, rfl, rfl, rfl⟩ x_X11_158 (j := 10) (by decide) str_X11_272 rfl rfl
def F_X11_undo (I : HI) : Option (Int32 × HI) :=
  (F_X0_recall I 3 15) >>= fun r1 => if r1.1 = 0 ∨ r1.1 = 1 then some (r1.1, r1.2) else none
set_option maxRecDepth 4000 in
set_option maxHeartbeats 4000000 in
theorem C_X11_undo {g : gX} {d : Nat} {P : Nat → Nat → Option Nat} {I : HI} {J : HJ} (hp : Wp P) {r : Int32 × HI} (h : F_X11_undo I = some r) : Cm g mX11_undo (d + 4) [.ref 1] (NT, I, J, P) (some (.int r.1)) (NT, r.2, J, P) := by
  unfold F_X11_undo at h
  refine Cm.of (by decide) (by simp [Value.category]) (Nat.le_of_ble_eq_true rfl) (Nat.le_refl _) (ls := [some (.ref 1)]) rfl ?_
  refine M_aload_n (pc := 0) dX11_undo_0 rfl ?_
  refine M_getR (pc := 1) dX11_undo_1 f_X11_44 at_10 (gc_1_6 hp).1 ?_
  refine M_aload_n (pc := 4) dX11_undo_4 rfl ?_
  refine M_getR (pc := 5) dX11_undo_5 f_X11_23 at_10 (gc_1_3 hp).1 ?_
  refine M_aload_n (pc := 8) dX11_undo_8 rfl ?_
  refine M_getR (pc := 9) dX11_undo_9 f_X11_37 at_10 (gc_1_5 hp).1 ?_
  obtain ⟨r1, hr2, h⟩ := bnd h
  refine M_callVi (pc := 12) dX11_undo_12 v_X11_413 rfl rfl (gc_1_6 hp).2 (Nat.le_of_ble_eq_true rfl) (C_X0_recall (d := d + 0) hp (gc_1_3 hp).2 (gc_1_5 hp).2 hr2) (Nat.le_refl _) ?_
  obtain ⟨hq3, h⟩ := chk h
  obtain rfl := Option.some.inj h
  exact M_iret (pc := 15) dX11_undo_15 rfl (by rcases hq3 with q | q <;> rw [q] <;> rfl) rfl rfl
def F_X11_unknown (I : HI) : Option ((Int32 ⊕ String) × HI) :=
  (F_X11_takeTape I) >>= fun r1 => if r1.1 ≤ (20 : Int32) then (F_X11_fitting r1.2 r1.1) >>= fun r4 => some ((Sum.inl r4), r1.2) else some ((Sum.inr "java/lang/IllegalArgumentException"), r1.2)
set_option maxRecDepth 4000 in
set_option maxHeartbeats 4000000 in
theorem C_X11_unknown {g : gX} {d : Nat} {P : Nat → Nat → Option Nat} {I : HI} {J : HJ} (hp : Wp P) {r : (Int32 ⊕ String) × HI} (h : F_X11_unknown I = some r) : Cx g mX11_unknown (d + 6) [.ref 1] (NT, I, J, P) ((thr_i r.1), (NT, r.2, J, P)) := by
  unfold F_X11_unknown at h
  refine Cx.of (by decide) (by simp [Value.category]) (Nat.le_of_ble_eq_true rfl) (Nat.le_refl _) (ls := [some (.ref 1), none]) rfl ?_
  refine M_aload_n (pc := 0) dX11_unknown_0 rfl ?_
  obtain ⟨r1, hr2, h⟩ := bnd h
  refine M_callVi (pc := 1) dX11_unknown_1 v_X11_110 rfl rfl at_10 (Nat.le_of_ble_eq_true rfl) (C_X11_takeTape (d := d + 5) hp hr2) (Nat.le_refl _) ?_
  refine M_istore_n (pc := 4) (ls' := [some (.ref 1), some (.int r1.1)]) dX11_unknown_4 (by decide) rfl ?_
  refine M_iload_n (pc := 5) dX11_unknown_5 rfl ?_
  refine M_bipush (pc := 6) (v := 20) dX11_unknown_6 (by decide) ?_
  refine M_icmp_le (pc := 8) (tgt := 22) dX11_unknown_8 (by decide) (fun hc3 => ?_) (fun hc3 => ?_)
  · have h := (if_pos hc3).symm.trans h
    refine M_aload_n (pc := 22) dX11_unknown_22 rfl ?_
    refine M_iload_n (pc := 23) dX11_unknown_23 rfl ?_
    obtain ⟨r4, hr5, h⟩ := bnd h
    refine M_callVi (pc := 24) dX11_unknown_24 v_X11_338 rfl rfl at_10 (Nat.le_of_ble_eq_true rfl) (C_X11_fitting (d := d + 3) hp hr5) (Nat.le_refl _) ?_
    obtain rfl := Option.some.inj h
    exact M_iret (pc := 27) dX11_unknown_27 rfl rfl rfl rfl
  · have h := (if_neg hc3).symm.trans h
    obtain rfl := Option.some.inj h
    exact M_throwW (pc := 11) dX11_unknown_11 dX11_unknown_14 dX11_unknown_15 dX11_unknown_18 dX11_unknown_21 ⟨rfl, rfl, rfl, rfl⟩ x_X11_118 (j := 17) (by decide) str_X11_336 rfl rfl
def L_X11_serve_47 (I : HI) (x2 : Int32) (x3 : Int32) (x4 : Int32) (x5 : Int32) : Option ((Int32 ⊕ String) × HI) :=
  if (I 4 0) ≤ x5 then some ((Sum.inl x3), I) else (F_X11_greaterPart I x5 x2) >>= fun r10 => (F_X1_isHad I 4 x5) >>= fun r12 => if r12 = 0 then L_X11_serve_47 I x2 x3 x4 (x5 + (1 : Int32)) else if x4 ≤ r10 then L_X11_serve_47 I x2 x3 x4 (x5 + (1 : Int32)) else L_X11_serve_47 I x2 x5 r10 (x5 + (1 : Int32))
partial_fixpoint
def F_X11_serve (I : HI) : Option ((Int32 ⊕ String) × HI) :=
  (F_X11_takeTape I) >>= fun r1 => if r1.1 ≤ (20 : Int32) then (F_X11_fitting r1.2 r1.1) >>= fun r4 => (F_J6_bitCount_0f7a4 r1.2 r4) >>= fun r6 => if (2 : Int32) ≤ r6 then L_X11_serve_47 r1.2 r4 (-1 : Int32) (13 : Int32) (0 : Int32) else some ((Sum.inl (-1 : Int32)), r1.2) else some ((Sum.inr "java/lang/IllegalArgumentException"), r1.2)
set_option maxRecDepth 4000 in
set_option maxHeartbeats 4000000 in
theorem LC_X11_serve_47 {g : gX} {d : Nat} {P : Nat → Nat → Option Nat} {J : HJ} {I : HI} {x2 : Int32} (hp : Wp P) : ∀ (x3 : Int32) (x4 : Int32) (x5 : Int32) (r : (Int32 ⊕ String) × HI), L_X11_serve_47 I x2 x3 x4 x5 = some r → M g mX11_serve (d + 6) (NT, NT, 1) ((thr_i r.1), (NT, r.2, J, P)) 47 [some (.ref 1), none, some (.int x2), some (.int x3), some (.int x4), some (.int x5), none] [] (NT, I, J, P) := by
  refine L_X11_serve_47.partial_correctness I x2 (fun x3 x4 x5 r => M g mX11_serve (d + 6) (NT, NT, 1) ((thr_i r.1), (NT, r.2, J, P)) 47 [some (.ref 1), none, some (.int x2), some (.int x3), some (.int x4), some (.int x5), none] [] (NT, I, J, P)) ?_
  intro f ih x3 x4 x5 r h
  refine M_iload (pc := 47) dX11_serve_47 rfl ?_
  refine M_aload_n (pc := 49) dX11_serve_49 rfl ?_
  refine M_getR (pc := 50) dX11_serve_50 f_X11_23 at_10 (gc_1_3 hp).1 ?_
  refine M_getR (pc := 53) dX11_serve_53 f_X11_148 (gc_1_3 hp).2 (gc_3_0 hp).1 ?_
  refine M_getI (pc := 56) dX11_serve_56 f_X11_211 (gc_3_0 hp).2 ?_
  refine M_icmp_ge (pc := 59) (tgt := 106) dX11_serve_59 (by decide) (fun hc9 => ?_) (fun hc9 => ?_)
  · have h := (if_pos hc9).symm.trans h
    refine M_iload_n (pc := 106) dX11_serve_106 rfl ?_
    obtain rfl := Option.some.inj h
    exact M_iret (pc := 107) dX11_serve_107 rfl rfl rfl rfl
  · have h := (if_neg hc9).symm.trans h
    refine M_aload_n (pc := 62) dX11_serve_62 rfl ?_
    refine M_iload (pc := 63) dX11_serve_63 rfl ?_
    refine M_iload_n (pc := 65) dX11_serve_65 rfl ?_
    obtain ⟨r10, hr11, h⟩ := bnd h
    refine M_callVi (pc := 66) dX11_serve_66 v_X11_344 rfl rfl at_10 (Nat.le_of_ble_eq_true rfl) (C_X11_greaterPart (d := d + 4) hp hr11) (Nat.le_refl _) ?_
    refine M_istore (pc := 69) (ls' := [some (.ref 1), none, some (.int x2), some (.int x3), some (.int x4), some (.int x5), some (.int r10)]) dX11_serve_69 (by decide) rfl ?_
    refine M_aload_n (pc := 71) dX11_serve_71 rfl ?_
    refine M_getR (pc := 72) dX11_serve_72 f_X11_23 at_10 (gc_1_3 hp).1 ?_
    refine M_getR (pc := 75) dX11_serve_75 f_X11_148 (gc_1_3 hp).2 (gc_3_0 hp).1 ?_
    refine M_iload (pc := 78) dX11_serve_78 rfl ?_
    obtain ⟨r12, hr13, h⟩ := bnd h
    refine M_callVi (pc := 80) dX11_serve_80 v_X11_265 rfl rfl (gc_3_0 hp).2 (Nat.le_of_ble_eq_true rfl) (C_X1_isHad (d := d + 4) hp (gc_3_0 hp).2 hr13) (Nat.le_refl _) ?_
    refine M_if_eq (pc := 83) (tgt := 100) dX11_serve_83 (by decide) (fun hc14 => ?_) (fun hc14 => ?_)
    · have h := (if_pos hc14).symm.trans h
      refine M_iinc (pc := 100) (v := (x5 + (1 : Int32))) (ls' := [some (.ref 1), none, some (.int x2), some (.int x3), some (.int x4), some (.int (x5 + (1 : Int32))), some (.int r10)]) dX11_serve_100 rfl rfl (by decide) rfl ?_
      refine M_goto (pc := 103) (tgt := 47) dX11_serve_103 (by decide) ?_
      refine M_mask (pc := 47) [true, false, true, true, true, true, false] rfl ?_
      exact ih x3 x4 (x5 + (1 : Int32)) _ h
    · have h := (if_neg hc14).symm.trans h
      refine M_iload (pc := 86) dX11_serve_86 rfl ?_
      refine M_iload (pc := 88) dX11_serve_88 rfl ?_
      refine M_icmp_ge (pc := 90) (tgt := 100) dX11_serve_90 (by decide) (fun hc15 => ?_) (fun hc15 => ?_)
      · have h := (if_pos hc15).symm.trans h
        refine M_iinc (pc := 100) (v := (x5 + (1 : Int32))) (ls' := [some (.ref 1), none, some (.int x2), some (.int x3), some (.int x4), some (.int (x5 + (1 : Int32))), some (.int r10)]) dX11_serve_100 rfl rfl (by decide) rfl ?_
        refine M_goto (pc := 103) (tgt := 47) dX11_serve_103 (by decide) ?_
        refine M_mask (pc := 47) [true, false, true, true, true, true, false] rfl ?_
        exact ih x3 x4 (x5 + (1 : Int32)) _ h
      · have h := (if_neg hc15).symm.trans h
        refine M_iload (pc := 93) dX11_serve_93 rfl ?_
        refine M_istore (pc := 95) (ls' := [some (.ref 1), none, some (.int x2), some (.int x3), some (.int r10), some (.int x5), some (.int r10)]) dX11_serve_95 (by decide) rfl ?_
        refine M_iload (pc := 97) dX11_serve_97 rfl ?_
        refine M_istore_n (pc := 99) (ls' := [some (.ref 1), none, some (.int x2), some (.int x5), some (.int r10), some (.int x5), some (.int r10)]) dX11_serve_99 (by decide) rfl ?_
        refine M_iinc (pc := 100) (v := (x5 + (1 : Int32))) (ls' := [some (.ref 1), none, some (.int x2), some (.int x5), some (.int r10), some (.int (x5 + (1 : Int32))), some (.int r10)]) dX11_serve_100 rfl rfl (by decide) rfl ?_
        refine M_goto (pc := 103) (tgt := 47) dX11_serve_103 (by decide) ?_
        refine M_mask (pc := 47) [true, false, true, true, true, true, false] rfl ?_
        exact ih x5 r10 (x5 + (1 : Int32)) _ h
set_option maxRecDepth 4000 in
set_option maxHeartbeats 4000000 in
theorem C_X11_serve {g : gX} {d : Nat} {P : Nat → Nat → Option Nat} {I : HI} {J : HJ} (hp : Wp P) {r : (Int32 ⊕ String) × HI} (h : F_X11_serve I = some r) : Cx g mX11_serve (d + 6) [.ref 1] (NT, I, J, P) ((thr_i r.1), (NT, r.2, J, P)) := by
  unfold F_X11_serve at h
  refine Cx.of (by decide) (by simp [Value.category]) (Nat.le_of_ble_eq_true rfl) (Nat.le_refl _) (ls := [some (.ref 1), none, none, none, none, none, none]) rfl ?_
  refine M_aload_n (pc := 0) dX11_serve_0 rfl ?_
  obtain ⟨r1, hr2, h⟩ := bnd h
  refine M_callVi (pc := 1) dX11_serve_1 v_X11_110 rfl rfl at_10 (Nat.le_of_ble_eq_true rfl) (C_X11_takeTape (d := d + 5) hp hr2) (Nat.le_refl _) ?_
  refine M_istore_n (pc := 4) (ls' := [some (.ref 1), some (.int r1.1), none, none, none, none, none]) dX11_serve_4 (by decide) rfl ?_
  refine M_iload_n (pc := 5) dX11_serve_5 rfl ?_
  refine M_bipush (pc := 6) (v := 20) dX11_serve_6 (by decide) ?_
  refine M_icmp_le (pc := 8) (tgt := 22) dX11_serve_8 (by decide) (fun hc3 => ?_) (fun hc3 => ?_)
  · have h := (if_pos hc3).symm.trans h
    refine M_aload_n (pc := 22) dX11_serve_22 rfl ?_
    refine M_iload_n (pc := 23) dX11_serve_23 rfl ?_
    obtain ⟨r4, hr5, h⟩ := bnd h
    refine M_callVi (pc := 24) dX11_serve_24 v_X11_338 rfl rfl at_10 (Nat.le_of_ble_eq_true rfl) (C_X11_fitting (d := d + 3) hp hr5) (Nat.le_refl _) ?_
    refine M_istore_n (pc := 27) (ls' := [some (.ref 1), some (.int r1.1), some (.int r4), none, none, none, none]) dX11_serve_27 (by decide) rfl ?_
    refine M_iload_n (pc := 28) dX11_serve_28 rfl ?_
    obtain ⟨r6, hr7, h⟩ := bnd h
    refine M_callSi (pc := 29) dX11_serve_29 s_X11_311 rfl rfl (Nat.le_of_ble_eq_true rfl) (C_J6_bitCount_0f7a4 (d := d + 5) hp hr7) (Nat.le_refl _) ?_
    refine M_iconst (pc := 32) (v := 2) dX11_serve_32 (by decide) ?_
    refine M_icmp_ge (pc := 33) (tgt := 38) dX11_serve_33 (by decide) (fun hc8 => ?_) (fun hc8 => ?_)
    · have h := (if_pos hc8).symm.trans h
      refine M_iconst (pc := 38) (v := -1) dX11_serve_38 (by decide) ?_
      refine M_istore_n (pc := 39) (ls' := [some (.ref 1), some (.int r1.1), some (.int r4), some (.int (-1 : Int32)), none, none, none]) dX11_serve_39 (by decide) rfl ?_
      refine M_bipush (pc := 40) (v := 13) dX11_serve_40 (by decide) ?_
      refine M_istore (pc := 42) (ls' := [some (.ref 1), some (.int r1.1), some (.int r4), some (.int (-1 : Int32)), some (.int (13 : Int32)), none, none]) dX11_serve_42 (by decide) rfl ?_
      refine M_iconst (pc := 44) (v := 0) dX11_serve_44 (by decide) ?_
      refine M_istore (pc := 45) (ls' := [some (.ref 1), some (.int r1.1), some (.int r4), some (.int (-1 : Int32)), some (.int (13 : Int32)), some (.int (0 : Int32)), none]) dX11_serve_45 (by decide) rfl ?_
      refine M_mask (pc := 47) [true, false, true, true, true, true, false] rfl ?_
      exact LC_X11_serve_47 (P := P) hp (-1 : Int32) (13 : Int32) (0 : Int32) _ h
    · have h := (if_neg hc8).symm.trans h
      refine M_iconst (pc := 36) (v := -1) dX11_serve_36 (by decide) ?_
      obtain rfl := Option.some.inj h
      exact M_iret (pc := 37) dX11_serve_37 rfl rfl rfl rfl
  · have h := (if_neg hc3).symm.trans h
    obtain rfl := Option.some.inj h
    exact M_throwW (pc := 11) dX11_serve_11 dX11_serve_14 dX11_serve_15 dX11_serve_18 dX11_serve_21 ⟨rfl, rfl, rfl, rfl⟩ x_X11_118 (j := 17) (by decide) str_X11_336 rfl rfl
def F_X11_jars (I : HI) (x1 : Int32) : Option ((Int32 ⊕ String) × HI) :=
  (F_X11_takeTape I) >>= fun r1 => if (25 : Int32) < r1.1 then some ((Sum.inr "java/lang/IllegalArgumentException"), r1.2) else if (r1.1 - r1.1 / (5 : Int32) * (5 : Int32)) = 0 then (F_X11_toldAtMost r1.2 r1.1 (9 : Int32)) >>= fun r5 => if r5 = 0 then some ((Sum.inr "java/lang/IllegalArgumentException"), r1.2) else (F_X2_search r1.2 (r1.1 / (5 : Int32)) 4) >>= fun r8 => if x1 = (-1 : Int32) then some ((Sum.inl (r8 201 0)), r8) else (F_X2_nth r8 x1) >>= fun r11 => some ((Sum.inl r11), r8) else some ((Sum.inr "java/lang/IllegalArgumentException"), r1.2)
set_option maxRecDepth 4000 in
set_option maxHeartbeats 4000000 in
theorem C_X11_jars {g : gX} {d : Nat} {P : Nat → Nat → Option Nat} {I : HI} {x1 : Int32} {J : HJ} (hp : Wp P) {r : (Int32 ⊕ String) × HI} (h : F_X11_jars I x1 = some r) : Cx g mX11_jars (d + 18) [.ref 1, .int x1] (NT, I, J, P) ((thr_i r.1), (NT, r.2, J, P)) := by
  unfold F_X11_jars at h
  refine Cx.of (by decide) (by simp [Value.category]) (Nat.le_of_ble_eq_true rfl) (Nat.le_refl _) (ls := [some (.ref 1), some (.int x1), none]) rfl ?_
  refine M_aload_n (pc := 0) dX11_jars_0 rfl ?_
  obtain ⟨r1, hr2, h⟩ := bnd h
  refine M_callVi (pc := 1) dX11_jars_1 v_X11_110 rfl rfl at_10 (Nat.le_of_ble_eq_true rfl) (C_X11_takeTape (d := d + 17) hp hr2) (Nat.le_refl _) ?_
  refine M_istore_n (pc := 4) (ls' := [some (.ref 1), some (.int x1), some (.int r1.1)]) dX11_jars_4 (by decide) rfl ?_
  refine M_iload_n (pc := 5) dX11_jars_5 rfl ?_
  refine M_bipush (pc := 6) (v := 25) dX11_jars_6 (by decide) ?_
  refine M_icmp_gt (pc := 8) (tgt := 27) dX11_jars_8 (by decide) (fun hc3 => ?_) (fun hc3 => ?_)
  · have h := (if_pos hc3).symm.trans h
    obtain rfl := Option.some.inj h
    exact M_throwW (pc := 27) dX11_jars_27 dX11_jars_30 dX11_jars_31 dX11_jars_34 dX11_jars_37 ⟨rfl, rfl, rfl, rfl⟩ x_X11_118 (j := 18) (by decide) str_X11_355 rfl rfl
  · have h := (if_neg hc3).symm.trans h
    refine M_iload_n (pc := 11) dX11_jars_11 rfl ?_
    refine M_iconst (pc := 12) (v := 5) dX11_jars_12 (by decide) ?_
    refine M_irem (pc := 13) dX11_jars_13 (by decide) ?_
    refine M_if_ne (pc := 14) (tgt := 27) dX11_jars_14 (by decide) (fun hc4 => ?_) (fun hc4 => ?_)
    · have h := (if_neg hc4).symm.trans h
      obtain rfl := Option.some.inj h
      exact M_throwW (pc := 27) dX11_jars_27 dX11_jars_30 dX11_jars_31 dX11_jars_34 dX11_jars_37 ⟨rfl, rfl, rfl, rfl⟩ x_X11_118 (j := 18) (by decide) str_X11_355 rfl rfl
    · have h := (if_pos hc4).symm.trans h
      refine M_aload_n (pc := 17) dX11_jars_17 rfl ?_
      refine M_iload_n (pc := 18) dX11_jars_18 rfl ?_
      refine M_bipush (pc := 19) (v := 9) dX11_jars_19 (by decide) ?_
      obtain ⟨r5, hr6, h⟩ := bnd h
      refine M_callVi (pc := 21) dX11_jars_21 v_X11_298 rfl rfl at_10 (Nat.le_of_ble_eq_true rfl) (C_X11_toldAtMost (d := d + 17) hp hr6) (Nat.le_refl _) ?_
      refine M_if_ne (pc := 24) (tgt := 38) dX11_jars_24 (by decide) (fun hc7 => ?_) (fun hc7 => ?_)
      · have h := (if_neg hc7).symm.trans h
        refine M_aload_n (pc := 38) dX11_jars_38 rfl ?_
        refine M_getR (pc := 39) dX11_jars_39 f_X11_95 at_10 (gc_1_16 hp).1 ?_
        refine M_aload_n (pc := 42) dX11_jars_42 rfl ?_
        refine M_getR (pc := 43) dX11_jars_43 f_X11_9 at_10 (gc_1_0 hp).1 ?_
        refine M_iload_n (pc := 46) dX11_jars_46 rfl ?_
        refine M_iconst (pc := 47) (v := 5) dX11_jars_47 (by decide) ?_
        refine M_idiv (pc := 48) dX11_jars_48 (by decide) ?_
        refine M_aload_n (pc := 49) dX11_jars_49 rfl ?_
        refine M_getR (pc := 50) dX11_jars_50 f_X11_23 at_10 (gc_1_3 hp).1 ?_
        refine M_getR (pc := 53) dX11_jars_53 f_X11_148 (gc_1_3 hp).2 (gc_3_0 hp).1 ?_
        obtain ⟨r8, hr9, h⟩ := bnd h
        refine M_callVv (pc := 56) dX11_jars_56 v_X11_357 rfl rfl (gc_1_16 hp).2 (Nat.le_of_ble_eq_true rfl) (C_X2_search (d := d + 0) hp (gc_3_0 hp).2 hr9) (Nat.le_refl _) ?_
        refine M_iload_n (pc := 59) dX11_jars_59 rfl ?_
        refine M_iconst (pc := 60) (v := -1) dX11_jars_60 (by decide) ?_
        refine M_icmp_ne (pc := 61) (tgt := 74) dX11_jars_61 (by decide) (fun hc10 => ?_) (fun hc10 => ?_)
        · have h := (if_neg hc10).symm.trans h
          refine M_aload_n (pc := 74) dX11_jars_74 rfl ?_
          refine M_getR (pc := 75) dX11_jars_75 f_X11_95 at_10 (gc_1_16 hp).1 ?_
          refine M_iload_n (pc := 78) dX11_jars_78 rfl ?_
          obtain ⟨r11, hr12, h⟩ := bnd h
          refine M_callVi (pc := 79) dX11_jars_79 v_X11_361 rfl rfl (gc_1_16 hp).2 (Nat.le_of_ble_eq_true rfl) (C_X2_nth (d := d + 17) hp hr12) (Nat.le_refl _) ?_
          obtain rfl := Option.some.inj h
          exact M_iret (pc := 82) dX11_jars_82 rfl rfl rfl rfl
        · have h := (if_pos hc10).symm.trans h
          refine M_aload_n (pc := 64) dX11_jars_64 rfl ?_
          refine M_getR (pc := 65) dX11_jars_65 f_X11_95 at_10 (gc_1_16 hp).1 ?_
          refine M_getI (pc := 68) dX11_jars_68 f_X11_360 (gc_1_16 hp).2 ?_
          refine M_goto (pc := 71) (tgt := 82) dX11_jars_71 (by decide) ?_
          obtain rfl := Option.some.inj h
          exact M_iret (pc := 82) dX11_jars_82 rfl rfl rfl rfl
      · have h := (if_pos hc7).symm.trans h
        obtain rfl := Option.some.inj h
        exact M_throwW (pc := 27) dX11_jars_27 dX11_jars_30 dX11_jars_31 dX11_jars_34 dX11_jars_37 ⟨rfl, rfl, rfl, rfl⟩ x_X11_118 (j := 18) (by decide) str_X11_355 rfl rfl
