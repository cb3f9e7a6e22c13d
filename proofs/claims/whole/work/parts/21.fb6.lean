def L_X11_tryEvenings_21 (x1 : Int32) (x3 : Int32) (I : HI) : Option (HI) :=
  if x1 ≤ x3 then some I else (F_X11_passEvening I 130 (0 : Int32)) >>= fun r4 => L_X11_tryEvenings_21 x1 (x3 + (1 : Int32)) r4.2
partial_fixpoint
def F_X11_tryEvenings (I : HI) (x1 : Int32) (x2 : Int32) : Option (HI) :=
  (F_X3_copy I 130 3) >>= fun r1 => L_X11_tryEvenings_21 x1 (0 : Int32) (up2 r1 130 14 x2)
set_option maxRecDepth 4000 in
set_option maxHeartbeats 4000000 in
theorem LC_X11_tryEvenings_21 {g : gX} {d : Nat} {P : Nat → Nat → Option Nat} {J : HJ} {x1 : Int32} (hp : Wp P) : ∀ (x3 : Int32) (I : HI) (r : HI), L_X11_tryEvenings_21 x1 x3 I = some r → M g mX11_tryEvenings (d + 6) (NT, NT, 0) ((.inl none), (NT, r, J, P)) 21 [some (.ref 1), some (.int x1), none, some (.int x3)] [] (NT, I, J, P) := by
  refine L_X11_tryEvenings_21.partial_correctness x1 (fun x3 I r => M g mX11_tryEvenings (d + 6) (NT, NT, 0) ((.inl none), (NT, r, J, P)) 21 [some (.ref 1), some (.int x1), none, some (.int x3)] [] (NT, I, J, P)) ?_
  intro f ih x3 I r h
  refine M_iload_n (pc := 21) dX11_tryEvenings_21 rfl ?_
  refine M_iload_n (pc := 22) dX11_tryEvenings_22 rfl ?_
  refine M_icmp_ge (pc := 23) (tgt := 42) dX11_tryEvenings_23 (by decide) (fun hc3 => ?_) (fun hc3 => ?_)
  · have h := (if_pos hc3).symm.trans h
    obtain rfl := Option.some.inj h
    exact M_vret (pc := 42) dX11_tryEvenings_42 rfl rfl rfl
  · have h := (if_neg hc3).symm.trans h
    refine M_aload_n (pc := 26) dX11_tryEvenings_26 rfl ?_
    refine M_aload_n (pc := 27) dX11_tryEvenings_27 rfl ?_
    refine M_getR (pc := 28) dX11_tryEvenings_28 f_X11_61 at_10 (gr_10_11 hp at_10).1 ?_
    refine M_iconst (pc := 31) (v := 0) dX11_tryEvenings_31 (by decide) ?_
    obtain ⟨r4, hr5, h⟩ := bnd h
    refine M_callVi (pc := 32) dX11_tryEvenings_32 v_X11_285 rfl rfl at_10 (Nat.le_of_ble_eq_true rfl) (C_X11_passEvening (d := d + 0) hp (gr_10_11 hp at_10).2 hr5) (Nat.le_refl _) ?_
    refine M_pop (pc := 35) dX11_tryEvenings_35 rfl ?_
    refine M_iinc (pc := 36) (v := (x3 + (1 : Int32))) (ls' := [some (.ref 1), some (.int x1), none, some (.int (x3 + (1 : Int32)))]) dX11_tryEvenings_36 rfl rfl (by decide) rfl ?_
    refine M_goto (pc := 39) (tgt := 21) dX11_tryEvenings_39 (by decide) ?_
    exact ih (x3 + (1 : Int32)) r4.2 _ h
set_option maxRecDepth 4000 in
set_option maxHeartbeats 4000000 in
theorem C_X11_tryEvenings {g : gX} {d : Nat} {P : Nat → Nat → Option Nat} {I : HI} {x1 : Int32} {x2 : Int32} {J : HJ} (hp : Wp P) {r : HI} (h : F_X11_tryEvenings I x1 x2 = some r) : Cm g mX11_tryEvenings (d + 6) [.ref 1, .int x1, .int x2] (NT, I, J, P) none (NT, r, J, P) := by
  unfold F_X11_tryEvenings at h
  refine Cm.of (by decide) (by simp [Value.category]) (Nat.le_of_ble_eq_true rfl) (Nat.le_refl _) (ls := [some (.ref 1), some (.int x1), some (.int x2), none]) rfl ?_
  refine M_aload_n (pc := 0) dX11_tryEvenings_0 rfl ?_
  refine M_getR (pc := 1) dX11_tryEvenings_1 f_X11_61 at_10 (gr_10_11 hp at_10).1 ?_
  refine M_aload_n (pc := 4) dX11_tryEvenings_4 rfl ?_
  refine M_getR (pc := 5) dX11_tryEvenings_5 f_X11_23 at_10 (gr_10_3 hp at_10).1 ?_
  obtain ⟨r1, hr2, h⟩ := bnd h
  refine M_callVv (pc := 8) dX11_tryEvenings_8 v_X11_106 rfl rfl (gr_10_11 hp at_10).2 (Nat.le_of_ble_eq_true rfl) (C_X3_copy (d := d + 3) hp (gr_10_11 hp at_10).2 (gr_10_3 hp at_10).2 hr2) (Nat.le_refl _) ?_
  refine M_aload_n (pc := 11) dX11_tryEvenings_11 rfl ?_
  refine M_getR (pc := 12) dX11_tryEvenings_12 f_X11_61 at_10 (gr_10_11 hp at_10).1 ?_
  refine M_iload_n (pc := 15) dX11_tryEvenings_15 rfl ?_
  refine M_putI (pc := 16) dX11_tryEvenings_16 f_X11_389 (gr_10_11 hp at_10).2 rfl ⟨rfl, rfl⟩ ?_
  refine M_iconst (pc := 19) (v := 0) dX11_tryEvenings_19 (by decide) ?_
  refine M_istore_n (pc := 20) (ls' := [some (.ref 1), some (.int x1), some (.int x2), some (.int (0 : Int32))]) dX11_tryEvenings_20 (by decide) rfl ?_
  refine M_mask (pc := 21) [true, true, false, true] rfl ?_
  exact LC_X11_tryEvenings_21 (P := P) hp (0 : Int32) (up2 r1 130 14 x2) _ h
def L_X11_span_31 (x1 : Int32) (x2 : Int32) (x3 : Int32) (x4 : Int32) (x5 : Int32) (I : HI) : Option ((Int32 ⊕ String) × HI) :=
  if (6 : Int32) < x5 then if x2 = 0 then some ((Sum.inl x3), I) else some ((Sum.inl x4), I) else (F_X11_tryEvenings I x1 x5) >>= fun r5 => L_X11_span_31 x1 x2 (if (r5 130 13) < x3 then (r5 130 13) else x3) (if x4 < (r5 130 13) then (r5 130 13) else x4) (x5 + (1 : Int32)) r5
partial_fixpoint
def F_X11_span (I : HI) (x1 : Int32) (x2 : Int32) : Option ((Int32 ⊕ String) × HI) :=
  if x1 < 0 then some ((Sum.inr "java/lang/IllegalArgumentException"), I) else if x1 ≤ (60 : Int32) then L_X11_span_31 x1 x2 (9999 : Int32) (0 : Int32) (1 : Int32) I else some ((Sum.inr "java/lang/IllegalArgumentException"), I)
set_option maxRecDepth 4000 in
set_option maxHeartbeats 4000000 in
theorem LC_X11_span_31 {g : gX} {d : Nat} {P : Nat → Nat → Option Nat} {J : HJ} {x1 : Int32} {x2 : Int32} (hp : Wp P) : ∀ (x3 : Int32) (x4 : Int32) (x5 : Int32) (I : HI) (r : (Int32 ⊕ String) × HI), L_X11_span_31 x1 x2 x3 x4 x5 I = some r → M g mX11_span (d + 7) (NT, NT, 1) ((thr_i r.1), (NT, r.2, J, P)) 31 [some (.ref 1), some (.int x1), some (.int x2), some (.int x3), some (.int x4), some (.int x5)] [] (NT, I, J, P) := by
  refine L_X11_span_31.partial_correctness x1 x2 (fun x3 x4 x5 I r => M g mX11_span (d + 7) (NT, NT, 1) ((thr_i r.1), (NT, r.2, J, P)) 31 [some (.ref 1), some (.int x1), some (.int x2), some (.int x3), some (.int x4), some (.int x5)] [] (NT, I, J, P)) ?_
  intro f ih x3 x4 x5 I r h
  refine M_iload (pc := 31) dX11_span_31 rfl ?_
  refine M_bipush (pc := 33) (v := 6) dX11_span_33 (by decide) ?_
  refine M_icmp_gt (pc := 35) (tgt := 77) dX11_span_35 (by decide) (fun hc3 => ?_) (fun hc3 => ?_)
  · have h := (if_pos hc3).symm.trans h
    refine M_iload_n (pc := 77) dX11_span_77 rfl ?_
    refine M_if_eq (pc := 78) (tgt := 86) dX11_span_78 (by decide) (fun hc4 => ?_) (fun hc4 => ?_)
    · have h := (if_pos hc4).symm.trans h
      refine M_iload_n (pc := 86) dX11_span_86 rfl ?_
      obtain rfl := Option.some.inj h
      exact M_iret (pc := 87) dX11_span_87 rfl rfl rfl rfl
    · have h := (if_neg hc4).symm.trans h
      refine M_iload (pc := 81) dX11_span_81 rfl ?_
      refine M_goto (pc := 83) (tgt := 87) dX11_span_83 (by decide) ?_
      obtain rfl := Option.some.inj h
      exact M_iret (pc := 87) dX11_span_87 rfl rfl rfl rfl
  · have h := (if_neg hc3).symm.trans h
    refine M_aload_n (pc := 38) dX11_span_38 rfl ?_
    refine M_iload_n (pc := 39) dX11_span_39 rfl ?_
    refine M_iload (pc := 40) dX11_span_40 rfl ?_
    obtain ⟨r5, hr6, h⟩ := bnd h
    refine M_callVv (pc := 42) dX11_span_42 v_X11_392 rfl rfl at_10 (Nat.le_of_ble_eq_true rfl) (C_X11_tryEvenings (d := d + 0) hp hr6) (Nat.le_refl _) ?_
    refine M_iload_n (pc := 45) dX11_span_45 rfl ?_
    refine M_aload_n (pc := 46) dX11_span_46 rfl ?_
    refine M_getR (pc := 47) dX11_span_47 f_X11_61 at_10 (gr_10_11 hp at_10).1 ?_
    refine M_getI (pc := 50) dX11_span_50 f_X11_396 (gr_10_11 hp at_10).2 ?_
    refine M_mmin (pc := 53) dX11_span_53 mm_X11_399.1 mm_X11_399.2.1 mm_X11_399.2.2.1 mm_X11_399.2.2.2 (Nat.le_of_ble_eq_true rfl) ?_
    refine M_istore_n (pc := 56) (ls' := [some (.ref 1), some (.int x1), some (.int x2), some (.int (if (r5 130 13) < x3 then (r5 130 13) else x3)), some (.int x4), some (.int x5)]) dX11_span_56 (by decide) rfl ?_
    refine M_iload (pc := 57) dX11_span_57 rfl ?_
    refine M_aload_n (pc := 59) dX11_span_59 rfl ?_
    refine M_getR (pc := 60) dX11_span_60 f_X11_61 at_10 (gr_10_11 hp at_10).1 ?_
    refine M_getI (pc := 63) dX11_span_63 f_X11_396 (gr_10_11 hp at_10).2 ?_
    refine M_mmax (pc := 66) dX11_span_66 mm_X11_350.1 mm_X11_350.2.1 mm_X11_350.2.2.1 mm_X11_350.2.2.2 (Nat.le_of_ble_eq_true rfl) ?_
    refine M_istore (pc := 69) (ls' := [some (.ref 1), some (.int x1), some (.int x2), some (.int (if (r5 130 13) < x3 then (r5 130 13) else x3)), some (.int (if x4 < (r5 130 13) then (r5 130 13) else x4)), some (.int x5)]) dX11_span_69 (by decide) rfl ?_
    refine M_iinc (pc := 71) (v := (x5 + (1 : Int32))) (ls' := [some (.ref 1), some (.int x1), some (.int x2), some (.int (if (r5 130 13) < x3 then (r5 130 13) else x3)), some (.int (if x4 < (r5 130 13) then (r5 130 13) else x4)), some (.int (x5 + (1 : Int32)))]) dX11_span_71 rfl rfl (by decide) rfl ?_
    refine M_goto (pc := 74) (tgt := 31) dX11_span_74 (by decide) ?_
    exact ih (if (r5 130 13) < x3 then (r5 130 13) else x3) (if x4 < (r5 130 13) then (r5 130 13) else x4) (x5 + (1 : Int32)) r5 _ h
set_option maxRecDepth 4000 in
set_option maxHeartbeats 4000000 in
theorem C_X11_span {g : gX} {d : Nat} {P : Nat → Nat → Option Nat} {I : HI} {x1 : Int32} {x2 : Int32} {J : HJ} (hp : Wp P) {r : (Int32 ⊕ String) × HI} (h : F_X11_span I x1 x2 = some r) : Cx g mX11_span (d + 7) [.ref 1, .int x1, .int x2] (NT, I, J, P) ((thr_i r.1), (NT, r.2, J, P)) := by
  unfold F_X11_span at h
  refine Cx.of (by decide) (by simp [Value.category]) (Nat.le_of_ble_eq_true rfl) (Nat.le_refl _) (ls := [some (.ref 1), some (.int x1), some (.int x2), none, none, none]) rfl ?_
  refine M_iload_n (pc := 0) dX11_span_0 rfl ?_
  refine M_if_lt (pc := 1) (tgt := 10) dX11_span_1 (by decide) (fun hc1 => ?_) (fun hc1 => ?_)
  · have h := (if_pos hc1).symm.trans h
    obtain rfl := Option.some.inj h
    exact M_throwW (pc := 10) dX11_span_10 dX11_span_13 dX11_span_14 dX11_span_17 dX11_span_20 x_X11_118 (j := 11) (by decide) str_X11_283 rfl rfl
  · have h := (if_neg hc1).symm.trans h
    refine M_iload_n (pc := 4) dX11_span_4 rfl ?_
    refine M_bipush (pc := 5) (v := 60) dX11_span_5 (by decide) ?_
    refine M_icmp_le (pc := 7) (tgt := 21) dX11_span_7 (by decide) (fun hc2 => ?_) (fun hc2 => ?_)
    · have h := (if_pos hc2).symm.trans h
      refine M_sipush (pc := 21) (v := 9999) dX11_span_21 (by decide) ?_
      refine M_istore_n (pc := 24) (ls' := [some (.ref 1), some (.int x1), some (.int x2), some (.int (9999 : Int32)), none, none]) dX11_span_24 (by decide) rfl ?_
      refine M_iconst (pc := 25) (v := 0) dX11_span_25 (by decide) ?_
      refine M_istore (pc := 26) (ls' := [some (.ref 1), some (.int x1), some (.int x2), some (.int (9999 : Int32)), some (.int (0 : Int32)), none]) dX11_span_26 (by decide) rfl ?_
      refine M_iconst (pc := 28) (v := 1) dX11_span_28 (by decide) ?_
      refine M_istore (pc := 29) (ls' := [some (.ref 1), some (.int x1), some (.int x2), some (.int (9999 : Int32)), some (.int (0 : Int32)), some (.int (1 : Int32))]) dX11_span_29 (by decide) rfl ?_
      exact LC_X11_span_31 (P := P) hp (9999 : Int32) (0 : Int32) (1 : Int32) I _ h
    · have h := (if_neg hc2).symm.trans h
      obtain rfl := Option.some.inj h
      exact M_throwW (pc := 10) dX11_span_10 dX11_span_13 dX11_span_14 dX11_span_17 dX11_span_20 x_X11_118 (j := 11) (by decide) str_X11_283 rfl rfl
def F_X11_life (I : HI) : Option ((Int32 ⊕ String) × HI) :=
  (F_X3_copy I 140 3) >>= fun r1 => (F_X11_takeTape r1) >>= fun r3 => (F_X10_firstWrong_c6 r3.2 r3.1 (14 : Int32)) >>= fun r5 => if r5.1 = (-1 : Int32) then if (r5.2 3 1) < (12 : Int32) then (F_X3_copy (up2 r5.2 1 2 r5.1) 3 140) >>= fun r9 => (F_X0_clear (up2 r9 3 1 ((r9 3 1) + (1 : Int32)))) >>= fun r11 => some ((Sum.inl (r11 3 1)), r11) else some ((Sum.inr "java/lang/UnsupportedOperationException"), (up2 r5.2 1 2 r5.1)) else some ((Sum.inr "java/lang/IllegalArgumentException"), (up2 r5.2 1 2 r5.1))
set_option maxRecDepth 4000 in
set_option maxHeartbeats 4000000 in
theorem C_X11_life {g : gX} {d : Nat} {P : Nat → Nat → Option Nat} {I : HI} {J : HJ} (hp : Wp P) {r : (Int32 ⊕ String) × HI} (h : F_X11_life I = some r) : Cx g mX11_life (d + 9) [.ref 1] (NT, I, J, P) ((thr_i r.1), (NT, r.2, J, (up2 P 1 0 (some 2)))) := by
  unfold F_X11_life at h
  refine Cx.of (by decide) (by simp [Value.category]) (Nat.le_of_ble_eq_true rfl) (Nat.le_refl _) (ls := [some (.ref 1)]) rfl ?_
  refine M_aload_n (pc := 0) dX11_life_0 rfl ?_
  refine M_getR (pc := 1) dX11_life_1 f_X11_74 at_10 (gr_10_13 hp at_10).1 ?_
  refine M_getR (pc := 4) dX11_life_4 f_X11_103 (gr_10_13 hp at_10).2 (gr_6_5 hp (gr_10_13 hp at_10).2).1 ?_
  refine M_aload_n (pc := 7) dX11_life_7 rfl ?_
  refine M_getR (pc := 8) dX11_life_8 f_X11_23 at_10 (gr_10_3 hp at_10).1 ?_
  obtain ⟨r1, hr2, h⟩ := bnd h
  refine M_callVv (pc := 11) dX11_life_11 v_X11_106 rfl rfl (gr_6_5 hp (gr_10_13 hp at_10).2).2 (Nat.le_of_ble_eq_true rfl) (C_X3_copy (d := d + 6) hp (gr_6_5 hp (gr_10_13 hp at_10).2).2 (gr_10_3 hp at_10).2 hr2) (Nat.le_refl _) ?_
  refine M_aload_n (pc := 14) dX11_life_14 rfl ?_
  refine M_aload_n (pc := 15) dX11_life_15 rfl ?_
  refine M_getR (pc := 16) dX11_life_16 f_X11_74 at_10 (gr_10_13 hp at_10).1 ?_
  refine M_aload_n (pc := 19) dX11_life_19 rfl ?_
  refine M_getR (pc := 20) dX11_life_20 f_X11_9 at_10 (gr_10_0 hp at_10).1 ?_
  refine M_aload_n (pc := 23) dX11_life_23 rfl ?_
  obtain ⟨r3, hr4, h⟩ := bnd h
  refine M_callVi (pc := 24) dX11_life_24 v_X11_110 rfl rfl at_10 (Nat.le_of_ble_eq_true rfl) (C_X11_takeTape (d := d + 8) hp hr4) (Nat.le_refl _) ?_
  refine M_bipush (pc := 27) (v := 14) dX11_life_27 (by decide) ?_
  obtain ⟨r5, hr6, h⟩ := bnd h
  refine M_callUi (pc := 29) dX11_life_29 u_X11_114 rfl rfl (gr_10_13 hp at_10).2 (Nat.le_of_ble_eq_true rfl) (C_X10_firstWrong_c6 (d := d + 0) hp hr6) (Nat.le_refl _) ?_
  refine M_putI (pc := 32) dX11_life_32 f_X11_17 at_10 rfl ⟨rfl, rfl⟩ ?_
  refine M_aload_n (pc := 35) dX11_life_35 rfl ?_
  refine M_getIs (pc := 36) (x := r5.1) dX11_life_36 f_X11_17 at_10 rd_eq ?_
  refine M_iconst (pc := 39) (v := -1) dX11_life_39 (by decide) ?_
  refine M_icmp_eq (pc := 40) (tgt := 53) dX11_life_40 (by decide) (fun hc7 => ?_) (fun hc7 => ?_)
  · have h := (if_pos hc7).symm.trans h
    refine M_aload_n (pc := 53) dX11_life_53 rfl ?_
    refine M_getR (pc := 54) dX11_life_54 f_X11_23 at_10 (gr_10_3 hp at_10).1 ?_
    refine M_getIs (pc := 57) (x := (r5.2 3 1)) dX11_life_57 f_X11_125 (gr_10_3 hp at_10).2 (rd_ne (Or.inr (by decide))) ?_
    refine M_bipush (pc := 60) (v := 12) dX11_life_60 (by decide) ?_
    refine M_icmp_lt (pc := 62) (tgt := 75) dX11_life_62 (by decide) (fun hc8 => ?_) (fun hc8 => ?_)
    · have h := (if_pos hc8).symm.trans h
      refine M_aload_n (pc := 75) dX11_life_75 rfl ?_
      refine M_getR (pc := 76) dX11_life_76 f_X11_23 at_10 (gr_10_3 hp at_10).1 ?_
      refine M_aload_n (pc := 79) dX11_life_79 rfl ?_
      refine M_getR (pc := 80) dX11_life_80 f_X11_74 at_10 (gr_10_13 hp at_10).1 ?_
      refine M_getR (pc := 83) dX11_life_83 f_X11_103 (gr_10_13 hp at_10).2 (gr_6_5 hp (gr_10_13 hp at_10).2).1 ?_
      obtain ⟨r9, hr10, h⟩ := bnd h
      refine M_callVv (pc := 86) dX11_life_86 v_X11_106 rfl rfl (gr_10_3 hp at_10).2 (Nat.le_of_ble_eq_true rfl) (C_X3_copy (d := d + 6) hp (gr_10_3 hp at_10).2 (gr_6_5 hp (gr_10_13 hp at_10).2).2 hr10) (Nat.le_refl _) ?_
      refine M_aload_n (pc := 89) dX11_life_89 rfl ?_
      refine M_getR (pc := 90) dX11_life_90 f_X11_23 at_10 (gr_10_3 hp at_10).1 ?_
      refine M_dup (pc := 93) dX11_life_93 rfl ?_
      refine M_getI (pc := 94) dX11_life_94 f_X11_125 (gr_10_3 hp at_10).2 ?_
      refine M_iconst (pc := 97) (v := 1) dX11_life_97 (by decide) ?_
      refine M_iadd (pc := 98) dX11_life_98 ?_
      refine M_putI (pc := 99) dX11_life_99 f_X11_125 (gr_10_3 hp at_10).2 rfl ⟨rfl, rfl⟩ ?_
      refine M_aload_n (pc := 102) dX11_life_102 rfl ?_
      refine M_getR (pc := 103) dX11_life_103 f_X11_44 at_10 (gr_10_6 hp at_10).1 ?_
      obtain ⟨r11, hr12, h⟩ := bnd h
      refine M_callVv (pc := 106) dX11_life_106 v_X11_133 rfl rfl (gr_10_6 hp at_10).2 (Nat.le_of_ble_eq_true rfl) (C_X0_clear (d := d + 8) hp hr12) (Nat.le_refl _) ?_
      refine M_aload_n (pc := 109) dX11_life_109 rfl ?_
      refine M_getR (pc := 110) dX11_life_110 f_X11_23 at_10 (gr_10_3 hp at_10).1 ?_
      refine M_getI (pc := 113) dX11_life_113 f_X11_125 (gr_10_3 hp at_10).2 ?_
      obtain rfl := Option.some.inj h
      exact M_iret (pc := 116) dX11_life_116 rfl rfl rfl rfl
    · have h := (if_neg hc8).symm.trans h
      obtain rfl := Option.some.inj h
      exact M_throw (pc := 65) dX11_life_65 dX11_life_68 dX11_life_69 dX11_life_71 dX11_life_74 x_X11_128 (j := 1) (by decide) str_X11_130 rfl rfl
  · have h := (if_neg hc7).symm.trans h
    obtain rfl := Option.some.inj h
    exact M_throw (pc := 43) dX11_life_43 dX11_life_46 dX11_life_47 dX11_life_49 dX11_life_52 x_X11_118 (j := 0) (by decide) str_X11_120 rfl rfl
def L_X11_evenings_41 (x1 : Int32) (x2 : Int32) (x3 : Int32) (I : HI) : Option ((Int32 ⊕ String) × HI) :=
  if x1 ≤ x3 then some ((Sum.inl x2), I) else (F_X11_passEvening I 3 (1 : Int32)) >>= fun r6 => L_X11_evenings_41 x1 (x2 + r6.1) (x3 + (1 : Int32)) r6.2
partial_fixpoint
def F_X11_evenings (I : HI) (x1 : Int32) : Option ((Int32 ⊕ String) × HI) :=
  if x1 < (1 : Int32) then some ((Sum.inr "java/lang/IllegalArgumentException"), I) else if x1 ≤ (60 : Int32) then (F_X0_remember I 3 15) >>= fun r3 => L_X11_evenings_41 x1 (0 : Int32) (0 : Int32) r3 else some ((Sum.inr "java/lang/IllegalArgumentException"), I)
set_option maxRecDepth 4000 in
set_option maxHeartbeats 4000000 in
theorem LC_X11_evenings_41 {g : gX} {d : Nat} {P : Nat → Nat → Option Nat} {J : HJ} {x1 : Int32} (hp : Wp P) : ∀ (x2 : Int32) (x3 : Int32) (I : HI) (r : (Int32 ⊕ String) × HI), L_X11_evenings_41 x1 x2 x3 I = some r → M g mX11_evenings (d + 6) (NT, NT, 1) ((thr_i r.1), (NT, r.2, J, P)) 41 [some (.ref 1), some (.int x1), some (.int x2), some (.int x3)] [] (NT, I, J, P) := by
  refine L_X11_evenings_41.partial_correctness x1 (fun x2 x3 I r => M g mX11_evenings (d + 6) (NT, NT, 1) ((thr_i r.1), (NT, r.2, J, P)) 41 [some (.ref 1), some (.int x1), some (.int x2), some (.int x3)] [] (NT, I, J, P)) ?_
  intro f ih x2 x3 I r h
  refine M_iload_n (pc := 41) dX11_evenings_41 rfl ?_
  refine M_iload_n (pc := 42) dX11_evenings_42 rfl ?_
  refine M_icmp_ge (pc := 43) (tgt := 64) dX11_evenings_43 (by decide) (fun hc5 => ?_) (fun hc5 => ?_)
  · have h := (if_pos hc5).symm.trans h
    refine M_iload_n (pc := 64) dX11_evenings_64 rfl ?_
    obtain rfl := Option.some.inj h
    exact M_iret (pc := 65) dX11_evenings_65 rfl rfl rfl rfl
  · have h := (if_neg hc5).symm.trans h
    refine M_iload_n (pc := 46) dX11_evenings_46 rfl ?_
    refine M_aload_n (pc := 47) dX11_evenings_47 rfl ?_
    refine M_aload_n (pc := 48) dX11_evenings_48 rfl ?_
    refine M_getR (pc := 49) dX11_evenings_49 f_X11_23 at_10 (gr_10_3 hp at_10).1 ?_
    refine M_iconst (pc := 52) (v := 1) dX11_evenings_52 (by decide) ?_
    obtain ⟨r6, hr7, h⟩ := bnd h
    refine M_callVi (pc := 53) dX11_evenings_53 v_X11_285 rfl rfl at_10 (Nat.le_of_ble_eq_true rfl) (C_X11_passEvening (d := d + 0) hp (gr_10_3 hp at_10).2 hr7) (Nat.le_refl _) ?_
    refine M_iadd (pc := 56) dX11_evenings_56 ?_
    refine M_istore_n (pc := 57) (ls' := [some (.ref 1), some (.int x1), some (.int (x2 + r6.1)), some (.int x3)]) dX11_evenings_57 (by decide) rfl ?_
    refine M_iinc (pc := 58) (v := (x3 + (1 : Int32))) (ls' := [some (.ref 1), some (.int x1), some (.int (x2 + r6.1)), some (.int (x3 + (1 : Int32)))]) dX11_evenings_58 rfl rfl (by decide) rfl ?_
    refine M_goto (pc := 61) (tgt := 41) dX11_evenings_61 (by decide) ?_
    exact ih (x2 + r6.1) (x3 + (1 : Int32)) r6.2 _ h
set_option maxRecDepth 4000 in
set_option maxHeartbeats 4000000 in
theorem C_X11_evenings {g : gX} {d : Nat} {P : Nat → Nat → Option Nat} {I : HI} {x1 : Int32} {J : HJ} (hp : Wp P) {r : (Int32 ⊕ String) × HI} (h : F_X11_evenings I x1 = some r) : Cx g mX11_evenings (d + 6) [.ref 1, .int x1] (NT, I, J, P) ((thr_i r.1), (NT, r.2, J, P)) := by
  unfold F_X11_evenings at h
  refine Cx.of (by decide) (by simp [Value.category]) (Nat.le_of_ble_eq_true rfl) (Nat.le_refl _) (ls := [some (.ref 1), some (.int x1), none, none]) rfl ?_
  refine M_iload_n (pc := 0) dX11_evenings_0 rfl ?_
  refine M_iconst (pc := 1) (v := 1) dX11_evenings_1 (by decide) ?_
  refine M_icmp_lt (pc := 2) (tgt := 11) dX11_evenings_2 (by decide) (fun hc1 => ?_) (fun hc1 => ?_)
  · have h := (if_pos hc1).symm.trans h
    obtain rfl := Option.some.inj h
    exact M_throwW (pc := 11) dX11_evenings_11 dX11_evenings_14 dX11_evenings_15 dX11_evenings_18 dX11_evenings_21 x_X11_118 (j := 11) (by decide) str_X11_283 rfl rfl
  · have h := (if_neg hc1).symm.trans h
    refine M_iload_n (pc := 5) dX11_evenings_5 rfl ?_
    refine M_bipush (pc := 6) (v := 60) dX11_evenings_6 (by decide) ?_
    refine M_icmp_le (pc := 8) (tgt := 22) dX11_evenings_8 (by decide) (fun hc2 => ?_) (fun hc2 => ?_)
    · have h := (if_pos hc2).symm.trans h
      refine M_aload_n (pc := 22) dX11_evenings_22 rfl ?_
      refine M_getR (pc := 23) dX11_evenings_23 f_X11_44 at_10 (gr_10_6 hp at_10).1 ?_
      refine M_aload_n (pc := 26) dX11_evenings_26 rfl ?_
      refine M_getR (pc := 27) dX11_evenings_27 f_X11_23 at_10 (gr_10_3 hp at_10).1 ?_
      refine M_aload_n (pc := 30) dX11_evenings_30 rfl ?_
      refine M_getR (pc := 31) dX11_evenings_31 f_X11_37 at_10 (gr_10_5 hp at_10).1 ?_
      obtain ⟨r3, hr4, h⟩ := bnd h
      refine M_callVv (pc := 34) dX11_evenings_34 v_X11_228 rfl rfl (gr_10_6 hp at_10).2 (Nat.le_of_ble_eq_true rfl) (C_X0_remember (d := d + 2) hp (gr_10_3 hp at_10).2 (gr_10_5 hp at_10).2 hr4) (Nat.le_refl _) ?_
      refine M_iconst (pc := 37) (v := 0) dX11_evenings_37 (by decide) ?_
      refine M_istore_n (pc := 38) (ls' := [some (.ref 1), some (.int x1), some (.int (0 : Int32)), none]) dX11_evenings_38 (by decide) rfl ?_
      refine M_iconst (pc := 39) (v := 0) dX11_evenings_39 (by decide) ?_
      refine M_istore_n (pc := 40) (ls' := [some (.ref 1), some (.int x1), some (.int (0 : Int32)), some (.int (0 : Int32))]) dX11_evenings_40 (by decide) rfl ?_
      exact LC_X11_evenings_41 (P := P) hp (0 : Int32) (0 : Int32) r3 _ h
    · have h := (if_neg hc2).symm.trans h
      obtain rfl := Option.some.inj h
      exact M_throwW (pc := 11) dX11_evenings_11 dX11_evenings_14 dX11_evenings_15 dX11_evenings_18 dX11_evenings_21 x_X11_118 (j := 11) (by decide) str_X11_283 rfl rfl
def F_X11_order (I : HI) (x1 : Int32) (x2 : Int32) : Option ((Int32 ⊕ String) × HI) :=
  (F_X1_all I 4) >>= fun r1 => (F_J6_bitCount_0f7a4 I (x1 &&& r1)) >>= fun r3 => if r3 ≤ (6 : Int32) then (F_X8_search I 3 (x1 &&& r1) 9) >>= fun r6 => if x2 = (-1 : Int32) then some ((Sum.inl (r6 155 0)), r6) else (F_X8_nth r6 x2) >>= fun r9 => some ((Sum.inl r9), r6) else some ((Sum.inr "java/lang/IllegalArgumentException"), I)
set_option maxRecDepth 4000 in
set_option maxHeartbeats 4000000 in
theorem C_X11_order {g : gX} {d : Nat} {P : Nat → Nat → Option Nat} {I : HI} {x1 : Int32} {x2 : Int32} {J : HJ} (hp : Wp P) {r : (Int32 ⊕ String) × HI} (h : F_X11_order I x1 x2 = some r) : Cx g mX11_order (d + 18) [.ref 1, .int x1, .int x2] (NT, I, J, P) ((thr_i r.1), (NT, r.2, J, P)) := by
  unfold F_X11_order at h
  refine Cx.of (by decide) (by simp [Value.category]) (Nat.le_of_ble_eq_true rfl) (Nat.le_refl _) (ls := [some (.ref 1), some (.int x1), some (.int x2), none]) rfl ?_
  refine M_iload_n (pc := 0) dX11_order_0 rfl ?_
  refine M_aload_n (pc := 1) dX11_order_1 rfl ?_
  refine M_getR (pc := 2) dX11_order_2 f_X11_23 at_10 (gr_10_3 hp at_10).1 ?_
  refine M_getR (pc := 5) dX11_order_5 f_X11_148 (gr_10_3 hp at_10).2 (gr_3_0 hp (gr_10_3 hp at_10).2).1 ?_
  obtain ⟨r1, hr2, h⟩ := bnd h
  refine M_callVi (pc := 8) dX11_order_8 v_X11_214 rfl rfl (gr_3_0 hp (gr_10_3 hp at_10).2).2 (Nat.le_of_ble_eq_true rfl) (C_X1_all (d := d + 17) hp (gr_3_0 hp (gr_10_3 hp at_10).2).2 hr2) (Nat.le_refl _) ?_
  refine M_iand (pc := 11) dX11_order_11 ?_
  refine M_istore_n (pc := 12) (ls' := [some (.ref 1), some (.int x1), some (.int x2), some (.int (x1 &&& r1))]) dX11_order_12 (by decide) rfl ?_
  refine M_iload_n (pc := 13) dX11_order_13 rfl ?_
  obtain ⟨r3, hr4, h⟩ := bnd h
  refine M_callSi (pc := 14) dX11_order_14 s_X11_311 rfl rfl (Nat.le_of_ble_eq_true rfl) (C_J6_bitCount_0f7a4 (d := d + 17) hp hr4) (Nat.le_refl _) ?_
  refine M_bipush (pc := 17) (v := 6) dX11_order_17 (by decide) ?_
  refine M_icmp_le (pc := 19) (tgt := 33) dX11_order_19 (by decide) (fun hc5 => ?_) (fun hc5 => ?_)
  · have h := (if_pos hc5).symm.trans h
    refine M_aload_n (pc := 33) dX11_order_33 rfl ?_
    refine M_getR (pc := 34) dX11_order_34 f_X11_88 at_10 (gr_10_15 hp at_10).1 ?_
    refine M_aload_n (pc := 37) dX11_order_37 rfl ?_
    refine M_getR (pc := 38) dX11_order_38 f_X11_23 at_10 (gr_10_3 hp at_10).1 ?_
    refine M_iload_n (pc := 41) dX11_order_41 rfl ?_
    refine M_aload_n (pc := 42) dX11_order_42 rfl ?_
    refine M_getR (pc := 43) dX11_order_43 f_X11_30 at_10 (gr_10_4 hp at_10).1 ?_
    refine M_aload_n (pc := 46) dX11_order_46 rfl ?_
    refine M_getR (pc := 47) dX11_order_47 f_X11_67 at_10 (gr_10_12 hp at_10).1 ?_
    obtain ⟨r6, hr7, h⟩ := bnd h
    refine M_callVv (pc := 50) dX11_order_50 v_X11_318 rfl rfl (gr_10_15 hp at_10).2 (Nat.le_of_ble_eq_true rfl) (C_X8_search (d := d + 0) hp (gr_10_3 hp at_10).2 (gr_10_4 hp at_10).2 hr7) (Nat.le_refl _) ?_
    refine M_iload_n (pc := 53) dX11_order_53 rfl ?_
    refine M_iconst (pc := 54) (v := -1) dX11_order_54 (by decide) ?_
    refine M_icmp_ne (pc := 55) (tgt := 68) dX11_order_55 (by decide) (fun hc8 => ?_) (fun hc8 => ?_)
    · have h := (if_neg hc8).symm.trans h
      refine M_aload_n (pc := 68) dX11_order_68 rfl ?_
      refine M_getR (pc := 69) dX11_order_69 f_X11_88 at_10 (gr_10_15 hp at_10).1 ?_
      refine M_iload_n (pc := 72) dX11_order_72 rfl ?_
      obtain ⟨r9, hr10, h⟩ := bnd h
      refine M_callVi (pc := 73) dX11_order_73 v_X11_325 rfl rfl (gr_10_15 hp at_10).2 (Nat.le_of_ble_eq_true rfl) (C_X8_nth (d := d + 17) hp hr10) (Nat.le_refl _) ?_
      obtain rfl := Option.some.inj h
      exact M_iret (pc := 76) dX11_order_76 rfl rfl rfl rfl
    · have h := (if_pos hc8).symm.trans h
      refine M_aload_n (pc := 58) dX11_order_58 rfl ?_
      refine M_getR (pc := 59) dX11_order_59 f_X11_88 at_10 (gr_10_15 hp at_10).1 ?_
      refine M_getI (pc := 62) dX11_order_62 f_X11_322 (gr_10_15 hp at_10).2 ?_
      refine M_goto (pc := 65) (tgt := 76) dX11_order_65 (by decide) ?_
      obtain rfl := Option.some.inj h
      exact M_iret (pc := 76) dX11_order_76 rfl rfl rfl rfl
  · have h := (if_neg hc5).symm.trans h
    obtain rfl := Option.some.inj h
    exact M_throwW (pc := 22) dX11_order_22 dX11_order_25 dX11_order_26 dX11_order_29 dX11_order_32 x_X11_118 (j := 15) (by decide) str_X11_316 rfl rfl
def F_X11_trial (I : HI) (x1 : Int32) (x2 : Int32) : Option ((Int32 ⊕ String) × HI) :=
  if x1 < 0 then some ((Sum.inr "java/lang/IllegalArgumentException"), I) else if x1 ≤ (60 : Int32) then (F_X11_tryEvenings I x1 (I 3 14)) >>= fun r3 => if x2 = 0 then some ((Sum.inl (r3 130 4)), r3) else some ((Sum.inl (r3 130 13)), r3) else some ((Sum.inr "java/lang/IllegalArgumentException"), I)
set_option maxRecDepth 4000 in
set_option maxHeartbeats 4000000 in
theorem C_X11_trial {g : gX} {d : Nat} {P : Nat → Nat → Option Nat} {I : HI} {x1 : Int32} {x2 : Int32} {J : HJ} (hp : Wp P) {r : (Int32 ⊕ String) × HI} (h : F_X11_trial I x1 x2 = some r) : Cx g mX11_trial (d + 7) [.ref 1, .int x1, .int x2] (NT, I, J, P) ((thr_i r.1), (NT, r.2, J, P)) := by
  unfold F_X11_trial at h
  refine Cx.of (by decide) (by simp [Value.category]) (Nat.le_of_ble_eq_true rfl) (Nat.le_refl _) (ls := [some (.ref 1), some (.int x1), some (.int x2)]) rfl ?_
  refine M_iload_n (pc := 0) dX11_trial_0 rfl ?_
  refine M_if_lt (pc := 1) (tgt := 10) dX11_trial_1 (by decide) (fun hc1 => ?_) (fun hc1 => ?_)
  · have h := (if_pos hc1).symm.trans h
    obtain rfl := Option.some.inj h
    exact M_throwW (pc := 10) dX11_trial_10 dX11_trial_13 dX11_trial_14 dX11_trial_17 dX11_trial_20 x_X11_118 (j := 11) (by decide) str_X11_283 rfl rfl
  · have h := (if_neg hc1).symm.trans h
    refine M_iload_n (pc := 4) dX11_trial_4 rfl ?_
    refine M_bipush (pc := 5) (v := 60) dX11_trial_5 (by decide) ?_
    refine M_icmp_le (pc := 7) (tgt := 21) dX11_trial_7 (by decide) (fun hc2 => ?_) (fun hc2 => ?_)
    · have h := (if_pos hc2).symm.trans h
      refine M_aload_n (pc := 21) dX11_trial_21 rfl ?_
      refine M_iload_n (pc := 22) dX11_trial_22 rfl ?_
      refine M_aload_n (pc := 23) dX11_trial_23 rfl ?_
      refine M_getR (pc := 24) dX11_trial_24 f_X11_23 at_10 (gr_10_3 hp at_10).1 ?_
      refine M_getI (pc := 27) dX11_trial_27 f_X11_389 (gr_10_3 hp at_10).2 ?_
      obtain ⟨r3, hr4, h⟩ := bnd h
      refine M_callVv (pc := 30) dX11_trial_30 v_X11_392 rfl rfl at_10 (Nat.le_of_ble_eq_true rfl) (C_X11_tryEvenings (d := d + 0) hp hr4) (Nat.le_refl _) ?_
      refine M_iload_n (pc := 33) dX11_trial_33 rfl ?_
      refine M_if_eq (pc := 34) (tgt := 47) dX11_trial_34 (by decide) (fun hc5 => ?_) (fun hc5 => ?_)
      · have h := (if_pos hc5).symm.trans h
        refine M_aload_n (pc := 47) dX11_trial_47 rfl ?_
        refine M_getR (pc := 48) dX11_trial_48 f_X11_61 at_10 (gr_10_11 hp at_10).1 ?_
        refine M_getI (pc := 51) dX11_trial_51 f_X11_220 (gr_10_11 hp at_10).2 ?_
        obtain rfl := Option.some.inj h
        exact M_iret (pc := 54) dX11_trial_54 rfl rfl rfl rfl
      · have h := (if_neg hc5).symm.trans h
        refine M_aload_n (pc := 37) dX11_trial_37 rfl ?_
        refine M_getR (pc := 38) dX11_trial_38 f_X11_61 at_10 (gr_10_11 hp at_10).1 ?_
        refine M_getI (pc := 41) dX11_trial_41 f_X11_396 (gr_10_11 hp at_10).2 ?_
        refine M_goto (pc := 44) (tgt := 54) dX11_trial_44 (by decide) ?_
        obtain rfl := Option.some.inj h
        exact M_iret (pc := 54) dX11_trial_54 rfl rfl rfl rfl
    · have h := (if_neg hc2).symm.trans h
      obtain rfl := Option.some.inj h
      exact M_throwW (pc := 10) dX11_trial_10 dX11_trial_13 dX11_trial_14 dX11_trial_17 dX11_trial_20 x_X11_118 (j := 11) (by decide) str_X11_283 rfl rfl
def F_X11_law (I : HI) : Option ((Int32 ⊕ String) × HI) :=
  (F_X4_clear I 148) >>= fun r1 => (F_X11_takeTape r1) >>= fun r3 => (F_X10_firstWrong_c5 r3.2 r3.1 (12 : Int32)) >>= fun r5 => if r5.1 = (-1 : Int32) then (F_X4_copy (up2 r5.2 1 2 r5.1) 9 148) >>= fun r8 => (F_X0_clear r8) >>= fun r10 => some ((Sum.inl (r10 9 0)), r10) else some ((Sum.inr "java/lang/IllegalArgumentException"), (up2 r5.2 1 2 r5.1))
set_option maxRecDepth 4000 in
set_option maxHeartbeats 4000000 in
theorem C_X11_law {g : gX} {d : Nat} {P : Nat → Nat → Option Nat} {I : HI} {J : HJ} (hp : Wp P) {r : (Int32 ⊕ String) × HI} (h : F_X11_law I = some r) : Cx g mX11_law (d + 11) [.ref 1] (NT, I, J, P) ((thr_i r.1), (NT, r.2, J, (up2 P 1 0 (some 2)))) := by
  unfold F_X11_law at h
  refine Cx.of (by decide) (by simp [Value.category]) (Nat.le_of_ble_eq_true rfl) (Nat.le_refl _) (ls := [some (.ref 1)]) rfl ?_
  refine M_aload_n (pc := 0) dX11_law_0 rfl ?_
  refine M_getR (pc := 1) dX11_law_1 f_X11_81 at_10 (gr_10_14 hp at_10).1 ?_
  refine M_getR (pc := 4) dX11_law_4 f_X11_136 (gr_10_14 hp at_10).2 (gr_5_5 hp (gr_10_14 hp at_10).2).1 ?_
  obtain ⟨r1, hr2, h⟩ := bnd h
  refine M_callVv (pc := 7) dX11_law_7 v_X11_138 rfl rfl (gr_5_5 hp (gr_10_14 hp at_10).2).2 (Nat.le_of_ble_eq_true rfl) (C_X4_clear (d := d + 10) hp (gr_5_5 hp (gr_10_14 hp at_10).2).2 hr2) (Nat.le_refl _) ?_
  refine M_aload_n (pc := 10) dX11_law_10 rfl ?_
  refine M_aload_n (pc := 11) dX11_law_11 rfl ?_
  refine M_getR (pc := 12) dX11_law_12 f_X11_81 at_10 (gr_10_14 hp at_10).1 ?_
  refine M_aload_n (pc := 15) dX11_law_15 rfl ?_
  refine M_getR (pc := 16) dX11_law_16 f_X11_9 at_10 (gr_10_0 hp at_10).1 ?_
  refine M_aload_n (pc := 19) dX11_law_19 rfl ?_
  obtain ⟨r3, hr4, h⟩ := bnd h
  refine M_callVi (pc := 20) dX11_law_20 v_X11_110 rfl rfl at_10 (Nat.le_of_ble_eq_true rfl) (C_X11_takeTape (d := d + 10) hp hr4) (Nat.le_refl _) ?_
  refine M_bipush (pc := 23) (v := 12) dX11_law_23 (by decide) ?_
  obtain ⟨r5, hr6, h⟩ := bnd h
  refine M_callUi (pc := 25) dX11_law_25 u_X11_139 rfl rfl (gr_10_14 hp at_10).2 (Nat.le_of_ble_eq_true rfl) (C_X10_firstWrong_c5 (d := d + 0) hp hr6) (Nat.le_refl _) ?_
  refine M_putI (pc := 28) dX11_law_28 f_X11_17 at_10 rfl ⟨rfl, rfl⟩ ?_
  refine M_aload_n (pc := 31) dX11_law_31 rfl ?_
  refine M_getIs (pc := 32) (x := r5.1) dX11_law_32 f_X11_17 at_10 rd_eq ?_
  refine M_iconst (pc := 35) (v := -1) dX11_law_35 (by decide) ?_
  refine M_icmp_eq (pc := 36) (tgt := 49) dX11_law_36 (by decide) (fun hc7 => ?_) (fun hc7 => ?_)
  · have h := (if_pos hc7).symm.trans h
    refine M_aload_n (pc := 49) dX11_law_49 rfl ?_
    refine M_getR (pc := 50) dX11_law_50 f_X11_30 at_10 (gr_10_4 hp at_10).1 ?_
    refine M_aload_n (pc := 53) dX11_law_53 rfl ?_
    refine M_getR (pc := 54) dX11_law_54 f_X11_81 at_10 (gr_10_14 hp at_10).1 ?_
    refine M_getR (pc := 57) dX11_law_57 f_X11_136 (gr_10_14 hp at_10).2 (gr_5_5 hp (gr_10_14 hp at_10).2).1 ?_
    obtain ⟨r8, hr9, h⟩ := bnd h
    refine M_callVv (pc := 60) dX11_law_60 v_X11_142 rfl rfl (gr_10_4 hp at_10).2 (Nat.le_of_ble_eq_true rfl) (C_X4_copy (d := d + 9) hp (gr_10_4 hp at_10).2 (gr_5_5 hp (gr_10_14 hp at_10).2).2 hr9) (Nat.le_refl _) ?_
    refine M_aload_n (pc := 63) dX11_law_63 rfl ?_
    refine M_getR (pc := 64) dX11_law_64 f_X11_44 at_10 (gr_10_6 hp at_10).1 ?_
    obtain ⟨r10, hr11, h⟩ := bnd h
    refine M_callVv (pc := 67) dX11_law_67 v_X11_133 rfl rfl (gr_10_6 hp at_10).2 (Nat.le_of_ble_eq_true rfl) (C_X0_clear (d := d + 10) hp hr11) (Nat.le_refl _) ?_
    refine M_aload_n (pc := 70) dX11_law_70 rfl ?_
    refine M_getR (pc := 71) dX11_law_71 f_X11_30 at_10 (gr_10_4 hp at_10).1 ?_
    refine M_getI (pc := 74) dX11_law_74 f_X11_145 (gr_10_4 hp at_10).2 ?_
    obtain rfl := Option.some.inj h
    exact M_iret (pc := 77) dX11_law_77 rfl rfl rfl rfl
  · have h := (if_neg hc7).symm.trans h
    obtain rfl := Option.some.inj h
    exact M_throw (pc := 39) dX11_law_39 dX11_law_42 dX11_law_43 dX11_law_45 dX11_law_48 x_X11_118 (j := 2) (by decide) str_X11_140 rfl rfl
