def F_X12_ofLog (I : HI) (x1 : Int32) (x2 : Int32) : Option (Int32) :=
  (ald 2051 (I 206) (((113 : Int32) + ((4 : Int32) * x1)) + x2)) >>= fun v1 => some v1
set_option maxRecDepth 4000 in
set_option maxHeartbeats 4000000 in
theorem C_X12_ofLog {g : gX} {d : Nat} {P : Nat → Nat → Option Nat} {I : HI} {x1 : Int32} {x2 : Int32} {J : HJ} (hp : Wp P) {r : Int32} (h : F_X12_ofLog I x1 x2 = some r) : Cm g mX12_ofLog (d + 0) [.ref 205, .int x1, .int x2] (NT, I, J, P) (some (.int r)) (NT, I, J, P) := by
  unfold F_X12_ofLog at h
  refine Cm.of (by decide) (by simp [Value.category]) (Nat.le_of_ble_eq_true rfl) (Nat.le_refl _) (ls := [some (.ref 205), some (.int x1), some (.int x2)]) rfl ?_
  refine M_aload_n (pc := 0) dX12_ofLog_0 rfl ?_
  refine M_getR (pc := 1) dX12_ofLog_1 f_X12_13 at_11 (gr_11_1 hp at_11).1 ?_
  refine M_bipush (pc := 4) (v := 113) dX12_ofLog_4 (by decide) ?_
  refine M_iconst (pc := 6) (v := 4) dX12_ofLog_6 (by decide) ?_
  refine M_iload_n (pc := 7) dX12_ofLog_7 rfl ?_
  refine M_imul (pc := 8) dX12_ofLog_8 ?_
  refine M_iadd (pc := 9) dX12_ofLog_9 ?_
  refine M_iload_n (pc := 10) dX12_ofLog_10 rfl ?_
  refine M_iadd (pc := 11) dX12_ofLog_11 ?_
  obtain ⟨v1, hv2, h⟩ := bnd h
  refine M_aldI (pc := 12) dX12_ofLog_12 (gr_11_1 hp at_11).2 hv2 ?_
  obtain rfl := Option.some.inj h
  exact M_iret (pc := 13) dX12_ofLog_13 rfl rfl rfl rfl
def L_X12_led_36 (I : HI) (x1 : Int32) (x2 : Int32) (x3 : Int32) (x4 : Int32) (x5 : Int32) : Option (Int32 × HI) :=
  if x5 < 0 then if x2 = 0 then some (x3, I) else some (x4, I) else (F_X12_ofLog I x5 (1 : Int32)) >>= fun r8 => if r8 = x1 then (F_X12_ofLog I x5 (0 : Int32)) >>= fun r11 => L_X12_led_36 I x1 x2 (x3 + (1 : Int32)) r11 (x5 + (-1 : Int32)) else L_X12_led_36 I x1 x2 x3 x4 (x5 + (-1 : Int32))
partial_fixpoint
def F_X12_led (I : HI) (x1 : Int32) (x2 : Int32) : Option (Int32 × HI) :=
  (F_X12_noDish (up2 I 205 0 (0 : Int32)) x1) >>= fun r1 => (F_X12_throwsIf (up2 I 205 0 (0 : Int32)) r1 (1 : Int32)) >>= fun r3 => if r3.1 = 0 then L_X12_led_36 r3.2 x1 x2 (0 : Int32) (-1 : Int32) ((r3.2 206 15) - (1 : Int32)) else some ((0 : Int32), r3.2)
set_option maxRecDepth 4000 in
set_option maxHeartbeats 4000000 in
theorem LC_X12_led_36 {g : gX} {d : Nat} {P : Nat → Nat → Option Nat} {J : HJ} {I : HI} {x1 : Int32} {x2 : Int32} (hp : Wp P) : ∀ (x3 : Int32) (x4 : Int32) (x5 : Int32) (r : Int32 × HI), L_X12_led_36 I x1 x2 x3 x4 x5 = some r → M g mX12_led (d + 2) (NT, NT, 0) ((.inl (some (.int r.1))), (NT, r.2, J, P)) 36 [some (.ref 205), some (.int x1), some (.int x2), some (.int x3), some (.int x4), some (.int x5)] [] (NT, I, J, P) := by
  refine L_X12_led_36.partial_correctness I x1 x2 (fun x3 x4 x5 r => M g mX12_led (d + 2) (NT, NT, 0) ((.inl (some (.int r.1))), (NT, r.2, J, P)) 36 [some (.ref 205), some (.int x1), some (.int x2), some (.int x3), some (.int x4), some (.int x5)] [] (NT, I, J, P)) ?_
  intro f ih x3 x4 x5 r h
  refine M_iload (pc := 36) dX12_led_36 rfl ?_
  refine M_if_lt (pc := 38) (tgt := 73) dX12_led_38 (by decide) (fun hc6 => ?_) (fun hc6 => ?_)
  · have h := (if_pos hc6).symm.trans h
    refine M_iload_n (pc := 73) dX12_led_73 rfl ?_
    refine M_if_eq (pc := 74) (tgt := 82) dX12_led_74 (by decide) (fun hc7 => ?_) (fun hc7 => ?_)
    · have h := (if_pos hc7).symm.trans h
      refine M_iload_n (pc := 82) dX12_led_82 rfl ?_
      obtain rfl := Option.some.inj h
      exact M_iret (pc := 83) dX12_led_83 rfl rfl rfl rfl
    · have h := (if_neg hc7).symm.trans h
      refine M_iload (pc := 77) dX12_led_77 rfl ?_
      refine M_goto (pc := 79) (tgt := 83) dX12_led_79 (by decide) ?_
      obtain rfl := Option.some.inj h
      exact M_iret (pc := 83) dX12_led_83 rfl rfl rfl rfl
  · have h := (if_neg hc6).symm.trans h
    refine M_aload_n (pc := 41) dX12_led_41 rfl ?_
    refine M_iload (pc := 42) dX12_led_42 rfl ?_
    refine M_iconst (pc := 44) (v := 1) dX12_led_44 (by decide) ?_
    obtain ⟨r8, hr9, h⟩ := bnd h
    refine M_callVi (pc := 45) dX12_led_45 v_X12_396 rfl rfl at_11 (Nat.le_of_ble_eq_true rfl) (C_X12_ofLog (d := d + 1) hp hr9) (Nat.le_refl _) ?_
    refine M_iload_n (pc := 48) dX12_led_48 rfl ?_
    refine M_icmp_eq (pc := 49) (tgt := 55) dX12_led_49 (by decide) (fun hc10 => ?_) (fun hc10 => ?_)
    · have h := (if_pos hc10).symm.trans h
      refine M_iinc (pc := 55) (v := (x3 + (1 : Int32))) (ls' := [some (.ref 205), some (.int x1), some (.int x2), some (.int (x3 + (1 : Int32))), some (.int x4), some (.int x5)]) dX12_led_55 rfl rfl (by decide) rfl ?_
      refine M_aload_n (pc := 58) dX12_led_58 rfl ?_
      refine M_iload (pc := 59) dX12_led_59 rfl ?_
      refine M_iconst (pc := 61) (v := 0) dX12_led_61 (by decide) ?_
      obtain ⟨r11, hr12, h⟩ := bnd h
      refine M_callVi (pc := 62) dX12_led_62 v_X12_396 rfl rfl at_11 (Nat.le_of_ble_eq_true rfl) (C_X12_ofLog (d := d + 1) hp hr12) (Nat.le_refl _) ?_
      refine M_istore (pc := 65) (ls' := [some (.ref 205), some (.int x1), some (.int x2), some (.int (x3 + (1 : Int32))), some (.int r11), some (.int x5)]) dX12_led_65 (by decide) rfl ?_
      refine M_iinc (pc := 67) (v := (x5 + (-1 : Int32))) (ls' := [some (.ref 205), some (.int x1), some (.int x2), some (.int (x3 + (1 : Int32))), some (.int r11), some (.int (x5 + (-1 : Int32)))]) dX12_led_67 rfl rfl (by decide) rfl ?_
      refine M_goto (pc := 70) (tgt := 36) dX12_led_70 (by decide) ?_
      exact ih (x3 + (1 : Int32)) r11 (x5 + (-1 : Int32)) _ h
    · have h := (if_neg hc10).symm.trans h
      refine M_goto (pc := 52) (tgt := 67) dX12_led_52 (by decide) ?_
      refine M_iinc (pc := 67) (v := (x5 + (-1 : Int32))) (ls' := [some (.ref 205), some (.int x1), some (.int x2), some (.int x3), some (.int x4), some (.int (x5 + (-1 : Int32)))]) dX12_led_67 rfl rfl (by decide) rfl ?_
      refine M_goto (pc := 70) (tgt := 36) dX12_led_70 (by decide) ?_
      exact ih x3 x4 (x5 + (-1 : Int32)) _ h
set_option maxRecDepth 4000 in
set_option maxHeartbeats 4000000 in
theorem C_X12_led {g : gX} {d : Nat} {P : Nat → Nat → Option Nat} {I : HI} {x1 : Int32} {x2 : Int32} {J : HJ} (hp : Wp P) {r : Int32 × HI} (h : F_X12_led I x1 x2 = some r) : Cm g mX12_led (d + 2) [.ref 205, .int x1, .int x2] (NT, I, J, P) (some (.int r.1)) (NT, r.2, J, P) := by
  unfold F_X12_led at h
  refine Cm.of (by decide) (by simp [Value.category]) (Nat.le_of_ble_eq_true rfl) (Nat.le_refl _) (ls := [some (.ref 205), some (.int x1), some (.int x2), none, none, none]) rfl ?_
  refine M_aload_n (pc := 0) dX12_led_0 rfl ?_
  refine M_iconst (pc := 1) (v := 0) dX12_led_1 (by decide) ?_
  refine M_putI (pc := 2) dX12_led_2 f_X12_3 at_11 rfl ⟨rfl, rfl⟩ ?_
  refine M_aload_n (pc := 5) dX12_led_5 rfl ?_
  refine M_aload_n (pc := 6) dX12_led_6 rfl ?_
  refine M_iload_n (pc := 7) dX12_led_7 rfl ?_
  obtain ⟨r1, hr2, h⟩ := bnd h
  refine M_callVi (pc := 8) dX12_led_8 v_X12_278 rfl rfl at_11 (Nat.le_of_ble_eq_true rfl) (C_X12_noDish (d := d + 0) hp hr2) (Nat.le_refl _) ?_
  refine M_iconst (pc := 11) (v := 1) dX12_led_11 (by decide) ?_
  obtain ⟨r3, hr4, h⟩ := bnd h
  refine M_callVi (pc := 12) dX12_led_12 v_X12_243 rfl rfl at_11 (Nat.le_of_ble_eq_true rfl) (C_X12_throwsIf (d := d + 1) hp hr4) (Nat.le_refl _) ?_
  refine M_if_eq (pc := 15) (tgt := 20) dX12_led_15 (by decide) (fun hc5 => ?_) (fun hc5 => ?_)
  · have h := (if_pos hc5).symm.trans h
    refine M_iconst (pc := 20) (v := 0) dX12_led_20 (by decide) ?_
    refine M_istore_n (pc := 21) (ls' := [some (.ref 205), some (.int x1), some (.int x2), some (.int (0 : Int32)), none, none]) dX12_led_21 (by decide) rfl ?_
    refine M_iconst (pc := 22) (v := -1) dX12_led_22 (by decide) ?_
    refine M_istore (pc := 23) (ls' := [some (.ref 205), some (.int x1), some (.int x2), some (.int (0 : Int32)), some (.int (-1 : Int32)), none]) dX12_led_23 (by decide) rfl ?_
    refine M_aload_n (pc := 25) dX12_led_25 rfl ?_
    refine M_getR (pc := 26) dX12_led_26 f_X12_13 at_11 (gr_11_1 hp at_11).1 ?_
    refine M_bipush (pc := 29) (v := 15) dX12_led_29 (by decide) ?_
    refine M_ildc (pc := 31) (j := 15) dX12_led_31 (gr_11_1 hp at_11).2 (by decide) (by decide) ?_
    refine M_iconst (pc := 32) (v := 1) dX12_led_32 (by decide) ?_
    refine M_isub (pc := 33) dX12_led_33 ?_
    refine M_istore (pc := 34) (ls' := [some (.ref 205), some (.int x1), some (.int x2), some (.int (0 : Int32)), some (.int (-1 : Int32)), some (.int ((r3.2 206 15) - (1 : Int32)))]) dX12_led_34 (by decide) rfl ?_
    exact LC_X12_led_36 (P := P) hp (0 : Int32) (-1 : Int32) ((r3.2 206 15) - (1 : Int32)) _ h
  · have h := (if_neg hc5).symm.trans h
    refine M_iconst (pc := 18) (v := 0) dX12_led_18 (by decide) ?_
    obtain rfl := Option.some.inj h
    exact M_iret (pc := 19) dX12_led_19 rfl rfl rfl rfl
def F_X12_log (I : HI) (x1 : Int32) (x2 : Int32) : Option (Int32 × HI) :=
  (F_X12_in (up2 I 205 0 (0 : Int32)) x2 (0 : Int32) (3 : Int32)) >>= fun r1 => if r1 = 0 then (F_X12_throwsIf (up2 I 205 0 (0 : Int32)) (1 : Int32) (1 : Int32)) >>= fun r12 => if r12.1 = 0 then (F_X12_in r12.2 x1 (0 : Int32) ((r12.2 206 15) - (1 : Int32))) >>= fun r15 => if r15 = 0 then some ((-2 : Int32), r12.2) else (F_X12_ofLog r12.2 x1 x2) >>= fun r18 => some (r18, r12.2) else some ((0 : Int32), r12.2) else (F_X12_throwsIf (up2 I 205 0 (0 : Int32)) (0 : Int32) (1 : Int32)) >>= fun r4 => if r4.1 = 0 then (F_X12_in r4.2 x1 (0 : Int32) ((r4.2 206 15) - (1 : Int32))) >>= fun r7 => if r7 = 0 then some ((-2 : Int32), r4.2) else (F_X12_ofLog r4.2 x1 x2) >>= fun r10 => some (r10, r4.2) else some ((0 : Int32), r4.2)
set_option maxRecDepth 4000 in
set_option maxHeartbeats 4000000 in
theorem C_X12_log {g : gX} {d : Nat} {P : Nat → Nat → Option Nat} {I : HI} {x1 : Int32} {x2 : Int32} {J : HJ} (hp : Wp P) {r : Int32 × HI} (h : F_X12_log I x1 x2 = some r) : Cm g mX12_log (d + 1) [.ref 205, .int x1, .int x2] (NT, I, J, P) (some (.int r.1)) (NT, r.2, J, P) := by
  unfold F_X12_log at h
  refine Cm.of (by decide) (by simp [Value.category]) (Nat.le_of_ble_eq_true rfl) (Nat.le_refl _) (ls := [some (.ref 205), some (.int x1), some (.int x2)]) rfl ?_
  refine M_aload_n (pc := 0) dX12_log_0 rfl ?_
  refine M_iconst (pc := 1) (v := 0) dX12_log_1 (by decide) ?_
  refine M_putI (pc := 2) dX12_log_2 f_X12_3 at_11 rfl ⟨rfl, rfl⟩ ?_
  refine M_aload_n (pc := 5) dX12_log_5 rfl ?_
  refine M_iload_n (pc := 6) dX12_log_6 rfl ?_
  refine M_iconst (pc := 7) (v := 0) dX12_log_7 (by decide) ?_
  refine M_iconst (pc := 8) (v := 3) dX12_log_8 (by decide) ?_
  obtain ⟨r1, hr2, h⟩ := bnd h
  refine M_callSi (pc := 9) dX12_log_9 s_X12_73 rfl rfl (Nat.le_of_ble_eq_true rfl) (C_X12_in (d := d + 0) hp hr2) (Nat.le_refl _) ?_
  refine M_if_ne (pc := 12) (tgt := 19) dX12_log_12 (by decide) (fun hc3 => ?_) (fun hc3 => ?_)
  · have h := (if_neg hc3).symm.trans h
    refine M_iconst (pc := 19) (v := 0) dX12_log_19 (by decide) ?_
    refine M_iconst (pc := 20) (v := 1) dX12_log_20 (by decide) ?_
    obtain ⟨r4, hr5, h⟩ := bnd h
    refine M_callVi (pc := 21) dX12_log_21 v_X12_243 rfl rfl at_11 (Nat.le_of_ble_eq_true rfl) (C_X12_throwsIf (d := d + 0) hp hr5) (Nat.le_refl _) ?_
    refine M_if_eq (pc := 24) (tgt := 29) dX12_log_24 (by decide) (fun hc6 => ?_) (fun hc6 => ?_)
    · have h := (if_pos hc6).symm.trans h
      refine M_iload_n (pc := 29) dX12_log_29 rfl ?_
      refine M_iconst (pc := 30) (v := 0) dX12_log_30 (by decide) ?_
      refine M_aload_n (pc := 31) dX12_log_31 rfl ?_
      refine M_getR (pc := 32) dX12_log_32 f_X12_13 at_11 (gr_11_1 hp at_11).1 ?_
      refine M_bipush (pc := 35) (v := 15) dX12_log_35 (by decide) ?_
      refine M_ildc (pc := 37) (j := 15) dX12_log_37 (gr_11_1 hp at_11).2 (by decide) (by decide) ?_
      refine M_iconst (pc := 38) (v := 1) dX12_log_38 (by decide) ?_
      refine M_isub (pc := 39) dX12_log_39 ?_
      obtain ⟨r7, hr8, h⟩ := bnd h
      refine M_callSi (pc := 40) dX12_log_40 s_X12_73 rfl rfl (Nat.le_of_ble_eq_true rfl) (C_X12_in (d := d + 0) hp hr8) (Nat.le_refl _) ?_
      refine M_if_eq (pc := 43) (tgt := 55) dX12_log_43 (by decide) (fun hc9 => ?_) (fun hc9 => ?_)
      · have h := (if_pos hc9).symm.trans h
        refine M_bipush (pc := 55) (v := -2) dX12_log_55 (by decide) ?_
        obtain rfl := Option.some.inj h
        exact M_iret (pc := 57) dX12_log_57 rfl rfl rfl rfl
      · have h := (if_neg hc9).symm.trans h
        refine M_aload_n (pc := 46) dX12_log_46 rfl ?_
        refine M_iload_n (pc := 47) dX12_log_47 rfl ?_
        refine M_iload_n (pc := 48) dX12_log_48 rfl ?_
        obtain ⟨r10, hr11, h⟩ := bnd h
        refine M_callVi (pc := 49) dX12_log_49 v_X12_396 rfl rfl at_11 (Nat.le_of_ble_eq_true rfl) (C_X12_ofLog (d := d + 0) hp hr11) (Nat.le_refl _) ?_
        refine M_goto (pc := 52) (tgt := 57) dX12_log_52 (by decide) ?_
        obtain rfl := Option.some.inj h
        exact M_iret (pc := 57) dX12_log_57 rfl rfl rfl rfl
    · have h := (if_neg hc6).symm.trans h
      refine M_iconst (pc := 27) (v := 0) dX12_log_27 (by decide) ?_
      obtain rfl := Option.some.inj h
      exact M_iret (pc := 28) dX12_log_28 rfl rfl rfl rfl
  · have h := (if_pos hc3).symm.trans h
    refine M_iconst (pc := 15) (v := 1) dX12_log_15 (by decide) ?_
    refine M_goto (pc := 16) (tgt := 20) dX12_log_16 (by decide) ?_
    refine M_iconst (pc := 20) (v := 1) dX12_log_20 (by decide) ?_
    obtain ⟨r12, hr13, h⟩ := bnd h
    refine M_callVi (pc := 21) dX12_log_21 v_X12_243 rfl rfl at_11 (Nat.le_of_ble_eq_true rfl) (C_X12_throwsIf (d := d + 0) hp hr13) (Nat.le_refl _) ?_
    refine M_if_eq (pc := 24) (tgt := 29) dX12_log_24 (by decide) (fun hc14 => ?_) (fun hc14 => ?_)
    · have h := (if_pos hc14).symm.trans h
      refine M_iload_n (pc := 29) dX12_log_29 rfl ?_
      refine M_iconst (pc := 30) (v := 0) dX12_log_30 (by decide) ?_
      refine M_aload_n (pc := 31) dX12_log_31 rfl ?_
      refine M_getR (pc := 32) dX12_log_32 f_X12_13 at_11 (gr_11_1 hp at_11).1 ?_
      refine M_bipush (pc := 35) (v := 15) dX12_log_35 (by decide) ?_
      refine M_ildc (pc := 37) (j := 15) dX12_log_37 (gr_11_1 hp at_11).2 (by decide) (by decide) ?_
      refine M_iconst (pc := 38) (v := 1) dX12_log_38 (by decide) ?_
      refine M_isub (pc := 39) dX12_log_39 ?_
      obtain ⟨r15, hr16, h⟩ := bnd h
      refine M_callSi (pc := 40) dX12_log_40 s_X12_73 rfl rfl (Nat.le_of_ble_eq_true rfl) (C_X12_in (d := d + 0) hp hr16) (Nat.le_refl _) ?_
      refine M_if_eq (pc := 43) (tgt := 55) dX12_log_43 (by decide) (fun hc17 => ?_) (fun hc17 => ?_)
      · have h := (if_pos hc17).symm.trans h
        refine M_bipush (pc := 55) (v := -2) dX12_log_55 (by decide) ?_
        obtain rfl := Option.some.inj h
        exact M_iret (pc := 57) dX12_log_57 rfl rfl rfl rfl
      · have h := (if_neg hc17).symm.trans h
        refine M_aload_n (pc := 46) dX12_log_46 rfl ?_
        refine M_iload_n (pc := 47) dX12_log_47 rfl ?_
        refine M_iload_n (pc := 48) dX12_log_48 rfl ?_
        obtain ⟨r18, hr19, h⟩ := bnd h
        refine M_callVi (pc := 49) dX12_log_49 v_X12_396 rfl rfl at_11 (Nat.le_of_ble_eq_true rfl) (C_X12_ofLog (d := d + 0) hp hr19) (Nat.le_refl _) ?_
        refine M_goto (pc := 52) (tgt := 57) dX12_log_52 (by decide) ?_
        obtain rfl := Option.some.inj h
        exact M_iret (pc := 57) dX12_log_57 rfl rfl rfl rfl
    · have h := (if_neg hc14).symm.trans h
      refine M_iconst (pc := 27) (v := 0) dX12_log_27 (by decide) ?_
      obtain rfl := Option.some.inj h
      exact M_iret (pc := 28) dX12_log_28 rfl rfl rfl rfl
def F_X12_seed (I : HI) (x1 : Int32) : Option (Int32 × HI) :=
  some (((up2 I 205 0 (0 : Int32)) 206 16), (up2 (up2 I 205 0 (0 : Int32)) 206 16 x1))
set_option maxRecDepth 4000 in
set_option maxHeartbeats 4000000 in
theorem C_X12_seed {g : gX} {d : Nat} {P : Nat → Nat → Option Nat} {I : HI} {x1 : Int32} {J : HJ} (hp : Wp P) {r : Int32 × HI} (h : F_X12_seed I x1 = some r) : Cm g mX12_seed (d + 0) [.ref 205, .int x1] (NT, I, J, P) (some (.int r.1)) (NT, r.2, J, P) := by
  unfold F_X12_seed at h
  refine Cm.of (by decide) (by simp [Value.category]) (Nat.le_of_ble_eq_true rfl) (Nat.le_refl _) (ls := [some (.ref 205), some (.int x1), none]) rfl ?_
  refine M_aload_n (pc := 0) dX12_seed_0 rfl ?_
  refine M_iconst (pc := 1) (v := 0) dX12_seed_1 (by decide) ?_
  refine M_putI (pc := 2) dX12_seed_2 f_X12_3 at_11 rfl ⟨rfl, rfl⟩ ?_
  refine M_aload_n (pc := 5) dX12_seed_5 rfl ?_
  refine M_getR (pc := 6) dX12_seed_6 f_X12_13 at_11 (gr_11_1 hp at_11).1 ?_
  refine M_bipush (pc := 9) (v := 16) dX12_seed_9 (by decide) ?_
  refine M_ildc (pc := 11) (j := 16) dX12_seed_11 (gr_11_1 hp at_11).2 (by decide) (by decide) ?_
  refine M_istore_n (pc := 12) (ls' := [some (.ref 205), some (.int x1), some (.int ((up2 I 205 0 (0 : Int32)) 206 16))]) dX12_seed_12 (by decide) rfl ?_
  refine M_aload_n (pc := 13) dX12_seed_13 rfl ?_
  refine M_getR (pc := 14) dX12_seed_14 f_X12_13 at_11 (gr_11_1 hp at_11).1 ?_
  refine M_bipush (pc := 17) (v := 16) dX12_seed_17 (by decide) ?_
  refine M_iload_n (pc := 19) dX12_seed_19 rfl ?_
  refine M_istc (pc := 20) (j := 16) dX12_seed_20 (gr_11_1 hp at_11).2 (by decide) (by decide) ?_
  refine M_iload_n (pc := 21) dX12_seed_21 rfl ?_
  obtain rfl := Option.some.inj h
  exact M_iret (pc := 22) dX12_seed_22 rfl rfl rfl rfl
def F_X12_count (I : HI) (x1 : Int32) : Option (Int32 × HI) :=
  if x1 = (2 : Int32) then if ((up2 I 205 0 (0 : Int32)) 206 2) = (1 : Int32) then some (((up2 I 205 0 (0 : Int32)) 206 353), (up2 I 205 0 (0 : Int32))) else some ((-1 : Int32), (up2 I 205 0 (0 : Int32))) else if x1 = (15 : Int32) then some (((up2 I 205 0 (0 : Int32)) 206 15), (up2 I 205 0 (0 : Int32))) else if x1 = (16 : Int32) then some (((up2 I 205 0 (0 : Int32)) 205 7), (up2 I 205 0 (0 : Int32))) else (F_X12_in (up2 I 205 0 (0 : Int32)) x1 (0 : Int32) (14 : Int32)) >>= fun r5 => if r5 = 0 then some ((-1 : Int32), (up2 I 205 0 (0 : Int32))) else (ald 2051 ((up2 I 205 0 (0 : Int32)) 206) x1) >>= fun v8 => some (v8, (up2 I 205 0 (0 : Int32)))
set_option maxRecDepth 4000 in
set_option maxHeartbeats 4000000 in
theorem C_X12_count {g : gX} {d : Nat} {P : Nat → Nat → Option Nat} {I : HI} {x1 : Int32} {J : HJ} (hp : Wp P) {r : Int32 × HI} (h : F_X12_count I x1 = some r) : Cm g mX12_count (d + 1) [.ref 205, .int x1] (NT, I, J, P) (some (.int r.1)) (NT, r.2, J, P) := by
  unfold F_X12_count at h
  refine Cm.of (by decide) (by simp [Value.category]) (Nat.le_of_ble_eq_true rfl) (Nat.le_refl _) (ls := [some (.ref 205), some (.int x1)]) rfl ?_
  refine M_aload_n (pc := 0) dX12_count_0 rfl ?_
  refine M_iconst (pc := 1) (v := 0) dX12_count_1 (by decide) ?_
  refine M_putI (pc := 2) dX12_count_2 f_X12_3 at_11 rfl ⟨rfl, rfl⟩ ?_
  refine M_iload_n (pc := 5) dX12_count_5 rfl ?_
  by_cases hc1 : x1 = (2 : Int32)
  · have h := (if_pos hc1).symm.trans h
    refine M_lookup (pc := 6) (x := x1) (tgt := 40) dX12_count_6 (by decide) (by rw [hc1]) (by decide) ?_
    refine M_aload_n (pc := 40) dX12_count_40 rfl ?_
    refine M_getR (pc := 41) dX12_count_41 f_X12_13 at_11 (gr_11_1 hp at_11).1 ?_
    refine M_iconst (pc := 44) (v := 2) dX12_count_44 (by decide) ?_
    refine M_ildc (pc := 45) (j := 2) dX12_count_45 (gr_11_1 hp at_11).2 (by decide) (by decide) ?_
    refine M_iconst (pc := 46) (v := 1) dX12_count_46 (by decide) ?_
    refine M_icmp_ne (pc := 47) (tgt := 61) dX12_count_47 (by decide) (fun hc2 => ?_) (fun hc2 => ?_)
    · have h := (if_neg hc2).symm.trans h
      refine M_iconst (pc := 61) (v := -1) dX12_count_61 (by decide) ?_
      obtain rfl := Option.some.inj h
      exact M_iret (pc := 62) dX12_count_62 rfl rfl rfl rfl
    · have h := (if_pos hc2).symm.trans h
      refine M_aload_n (pc := 50) dX12_count_50 rfl ?_
      refine M_getR (pc := 51) dX12_count_51 f_X12_13 at_11 (gr_11_1 hp at_11).1 ?_
      refine M_sipush (pc := 54) (v := 353) dX12_count_54 (by decide) ?_
      refine M_ildc (pc := 57) (j := 353) dX12_count_57 (gr_11_1 hp at_11).2 (by decide) (by decide) ?_
      refine M_goto (pc := 58) (tgt := 62) dX12_count_58 (by decide) ?_
      obtain rfl := Option.some.inj h
      exact M_iret (pc := 62) dX12_count_62 rfl rfl rfl rfl
  have h := (if_neg hc1).symm.trans h
  by_cases hc3 : x1 = (15 : Int32)
  · have h := (if_pos hc3).symm.trans h
    refine M_lookup (pc := 6) (x := x1) (tgt := 63) dX12_count_6 (by decide) (by rw [hc3]) (by decide) ?_
    refine M_aload_n (pc := 63) dX12_count_63 rfl ?_
    refine M_getR (pc := 64) dX12_count_64 f_X12_13 at_11 (gr_11_1 hp at_11).1 ?_
    refine M_bipush (pc := 67) (v := 15) dX12_count_67 (by decide) ?_
    refine M_ildc (pc := 69) (j := 15) dX12_count_69 (gr_11_1 hp at_11).2 (by decide) (by decide) ?_
    obtain rfl := Option.some.inj h
    exact M_iret (pc := 70) dX12_count_70 rfl rfl rfl rfl
  have h := (if_neg hc3).symm.trans h
  by_cases hc4 : x1 = (16 : Int32)
  · have h := (if_pos hc4).symm.trans h
    refine M_lookup (pc := 6) (x := x1) (tgt := 71) dX12_count_6 (by decide) (by rw [hc4]) (by decide) ?_
    refine M_aload_n (pc := 71) dX12_count_71 rfl ?_
    refine M_getI (pc := 72) dX12_count_72 f_X12_59 at_11 ?_
    obtain rfl := Option.some.inj h
    exact M_iret (pc := 75) dX12_count_75 rfl rfl rfl rfl
  have h := (if_neg hc4).symm.trans h
  refine M_lookup (pc := 6) (x := x1) (off := 70) (tgt := 76) dX12_count_6 (by decide) ((lv_osw hc1 rfl).trans ((lv_osw hc3 rfl).trans ((lv_osw hc4 rfl).trans rfl))) (by decide) ?_
  refine M_iload_n (pc := 76) dX12_count_76 rfl ?_
  refine M_iconst (pc := 77) (v := 0) dX12_count_77 (by decide) ?_
  refine M_bipush (pc := 78) (v := 14) dX12_count_78 (by decide) ?_
  obtain ⟨r5, hr6, h⟩ := bnd h
  refine M_callSi (pc := 80) dX12_count_80 s_X12_73 rfl rfl (Nat.le_of_ble_eq_true rfl) (C_X12_in (d := d + 0) hp hr6) (Nat.le_refl _) ?_
  refine M_if_eq (pc := 83) (tgt := 95) dX12_count_83 (by decide) (fun hc7 => ?_) (fun hc7 => ?_)
  · have h := (if_pos hc7).symm.trans h
    refine M_iconst (pc := 95) (v := -1) dX12_count_95 (by decide) ?_
    obtain rfl := Option.some.inj h
    exact M_iret (pc := 96) dX12_count_96 rfl rfl rfl rfl
  · have h := (if_neg hc7).symm.trans h
    refine M_aload_n (pc := 86) dX12_count_86 rfl ?_
    refine M_getR (pc := 87) dX12_count_87 f_X12_13 at_11 (gr_11_1 hp at_11).1 ?_
    refine M_iload_n (pc := 90) dX12_count_90 rfl ?_
    obtain ⟨v8, hv9, h⟩ := bnd h
    refine M_aldI (pc := 91) dX12_count_91 (gr_11_1 hp at_11).2 hv9 ?_
    refine M_goto (pc := 92) (tgt := 96) dX12_count_92 (by decide) ?_
    obtain rfl := Option.some.inj h
    exact M_iret (pc := 96) dX12_count_96 rfl rfl rfl rfl
def L_X12_laysRow_43 (I : HI) (x3 : Int32) (x4 : Int32) (x5 : Int32) (x6 : Int32) (x7 : Int32) (x8 : Int32) (x9 : Int32) : Option (Int32 × Int32) :=
  (F_X12_has I x3 x9) >>= fun r7 => if r7 = 0 then (F_X12_has I x3 x9) >>= fun r10 => if r10 = 0 then L_X12_laysRow_43 I x3 x4 x5 x6 x7 (x8 - (0 : Int32)) (x9 + (1 : Int32)) else L_X12_laysRow_43 I x3 x4 x5 x6 x7 (x8 - (1 : Int32)) (x9 + (1 : Int32)) else if x8 ≤ 0 then some (x8, x9) else (F_X12_has I x3 x9) >>= fun r14 => if r14 = 0 then L_X12_laysRow_43 I x3 x4 x5 x6 x7 (x8 - (0 : Int32)) (x9 + (1 : Int32)) else L_X12_laysRow_43 I x3 x4 x5 x6 x7 (x8 - (1 : Int32)) (x9 + (1 : Int32))
partial_fixpoint
def L_X12_laysRow_14 (x4 : Int32) (x3 : Int32) (x5 : Int32) (x6 : Int32) (I : HI) : Option (HI) :=
  if x4 ≤ x6 then some I else (F_X12_ordersOf I ((x4 - (1 : Int32)) - x6)) >>= fun r4 => if ¬ r4 = 0 then (L_X12_laysRow_43 I x3 x4 x5 x6 r4 (x5 / r4) (0 : Int32)) >>= fun r17 => if inB x6 6 = true then if ¬ r4 = 0 then L_X12_laysRow_14 x4 (x3 &&& (((1 : Int32) <<< (r17.2 &&& 31)) ^^^ (-1 : Int32))) (x5 - x5 / r4 * r4) (x6 + (1 : Int32)) (up2 I 214 (x6).toNatClampNeg r17.2) else none else none else none
partial_fixpoint
def F_X12_laysRow (I : HI) (x1 : Int32) (x2 : Int32) : Option (HI) :=
  (F_J6_bitCount_0f7a4 I x1) >>= fun r1 => L_X12_laysRow_14 r1 x1 x2 (0 : Int32) I
set_option maxRecDepth 4000 in
set_option maxHeartbeats 4000000 in
theorem LC_X12_laysRow_43 {g : gX} {d : Nat} {R : rX} {P : Nat → Nat → Option Nat} {J : HJ} {I : HI} {x3 : Int32} {x4 : Int32} {x5 : Int32} {x6 : Int32} {x7 : Int32} (hp : Wp P) : ∀ (x8 : Int32) (x9 : Int32) (r : Int32 × Int32), L_X12_laysRow_43 I x3 x4 x5 x6 x7 x8 x9 = some r → M g mX12_laysRow (d + 1) (NT, NT, 0) R 82 [some (.ref 205), none, none, some (.int x3), some (.int x4), some (.int x5), some (.int x6), some (.int x7), some (.int r.1), some (.int r.2)] [] (NT, I, J, P) → M g mX12_laysRow (d + 1) (NT, NT, 0) R 43 [some (.ref 205), none, none, some (.int x3), some (.int x4), some (.int x5), some (.int x6), some (.int x7), some (.int x8), some (.int x9)] [] (NT, I, J, P) := by
  refine L_X12_laysRow_43.partial_correctness I x3 x4 x5 x6 x7 (fun x8 x9 r => M g mX12_laysRow (d + 1) (NT, NT, 0) R 82 [some (.ref 205), none, none, some (.int x3), some (.int x4), some (.int x5), some (.int x6), some (.int x7), some (.int r.1), some (.int r.2)] [] (NT, I, J, P) → M g mX12_laysRow (d + 1) (NT, NT, 0) R 43 [some (.ref 205), none, none, some (.int x3), some (.int x4), some (.int x5), some (.int x6), some (.int x7), some (.int x8), some (.int x9)] [] (NT, I, J, P)) ?_
  intro f ih x8 x9 r h hk
  refine M_iload_n (pc := 43) dX12_laysRow_43 rfl ?_
  refine M_iload (pc := 44) dX12_laysRow_44 rfl ?_
  obtain ⟨r7, hr8, h⟩ := bnd h
  refine M_callSi (pc := 46) dX12_laysRow_46 s_X12_337 rfl rfl (Nat.le_of_ble_eq_true rfl) (C_X12_has (d := d + 0) hp hr8) (Nat.le_refl _) ?_
  refine M_if_eq (pc := 49) (tgt := 57) dX12_laysRow_49 (by decide) (fun hc9 => ?_) (fun hc9 => ?_)
  · have h := (if_pos hc9).symm.trans h
    refine M_iload (pc := 57) dX12_laysRow_57 rfl ?_
    refine M_iload_n (pc := 59) dX12_laysRow_59 rfl ?_
    refine M_iload (pc := 60) dX12_laysRow_60 rfl ?_
    obtain ⟨r10, hr11, h⟩ := bnd h
    refine M_callSi (pc := 62) dX12_laysRow_62 s_X12_337 rfl rfl (Nat.le_of_ble_eq_true rfl) (C_X12_has (d := d + 0) hp hr11) (Nat.le_refl _) ?_
    refine M_if_eq (pc := 65) (tgt := 72) dX12_laysRow_65 (by decide) (fun hc12 => ?_) (fun hc12 => ?_)
    · have h := (if_pos hc12).symm.trans h
      refine M_iconst (pc := 72) (v := 0) dX12_laysRow_72 (by decide) ?_
      refine M_isub (pc := 73) dX12_laysRow_73 ?_
      refine M_istore (pc := 74) (ls' := [some (.ref 205), none, none, some (.int x3), some (.int x4), some (.int x5), some (.int x6), some (.int x7), some (.int (x8 - (0 : Int32))), some (.int x9)]) dX12_laysRow_74 (by decide) rfl ?_
      refine M_iinc (pc := 76) (v := (x9 + (1 : Int32))) (ls' := [some (.ref 205), none, none, some (.int x3), some (.int x4), some (.int x5), some (.int x6), some (.int x7), some (.int (x8 - (0 : Int32))), some (.int (x9 + (1 : Int32)))]) dX12_laysRow_76 rfl rfl (by decide) rfl ?_
      refine M_goto (pc := 79) (tgt := 43) dX12_laysRow_79 (by decide) ?_
      exact ih (x8 - (0 : Int32)) (x9 + (1 : Int32)) _ h hk
    · have h := (if_neg hc12).symm.trans h
      refine M_iconst (pc := 68) (v := 1) dX12_laysRow_68 (by decide) ?_
      refine M_goto (pc := 69) (tgt := 73) dX12_laysRow_69 (by decide) ?_
      refine M_isub (pc := 73) dX12_laysRow_73 ?_
      refine M_istore (pc := 74) (ls' := [some (.ref 205), none, none, some (.int x3), some (.int x4), some (.int x5), some (.int x6), some (.int x7), some (.int (x8 - (1 : Int32))), some (.int x9)]) dX12_laysRow_74 (by decide) rfl ?_
      refine M_iinc (pc := 76) (v := (x9 + (1 : Int32))) (ls' := [some (.ref 205), none, none, some (.int x3), some (.int x4), some (.int x5), some (.int x6), some (.int x7), some (.int (x8 - (1 : Int32))), some (.int (x9 + (1 : Int32)))]) dX12_laysRow_76 rfl rfl (by decide) rfl ?_
      refine M_goto (pc := 79) (tgt := 43) dX12_laysRow_79 (by decide) ?_
      exact ih (x8 - (1 : Int32)) (x9 + (1 : Int32)) _ h hk
  · have h := (if_neg hc9).symm.trans h
    refine M_iload (pc := 52) dX12_laysRow_52 rfl ?_
    refine M_if_le (pc := 54) (tgt := 82) dX12_laysRow_54 (by decide) (fun hc13 => ?_) (fun hc13 => ?_)
    · have h := (if_pos hc13).symm.trans h
      obtain rfl := Option.some.inj h
      exact hk
    · have h := (if_neg hc13).symm.trans h
      refine M_iload (pc := 57) dX12_laysRow_57 rfl ?_
      refine M_iload_n (pc := 59) dX12_laysRow_59 rfl ?_
      refine M_iload (pc := 60) dX12_laysRow_60 rfl ?_
      obtain ⟨r14, hr15, h⟩ := bnd h
      refine M_callSi (pc := 62) dX12_laysRow_62 s_X12_337 rfl rfl (Nat.le_of_ble_eq_true rfl) (C_X12_has (d := d + 0) hp hr15) (Nat.le_refl _) ?_
      refine M_if_eq (pc := 65) (tgt := 72) dX12_laysRow_65 (by decide) (fun hc16 => ?_) (fun hc16 => ?_)
      · have h := (if_pos hc16).symm.trans h
        refine M_iconst (pc := 72) (v := 0) dX12_laysRow_72 (by decide) ?_
        refine M_isub (pc := 73) dX12_laysRow_73 ?_
        refine M_istore (pc := 74) (ls' := [some (.ref 205), none, none, some (.int x3), some (.int x4), some (.int x5), some (.int x6), some (.int x7), some (.int (x8 - (0 : Int32))), some (.int x9)]) dX12_laysRow_74 (by decide) rfl ?_
        refine M_iinc (pc := 76) (v := (x9 + (1 : Int32))) (ls' := [some (.ref 205), none, none, some (.int x3), some (.int x4), some (.int x5), some (.int x6), some (.int x7), some (.int (x8 - (0 : Int32))), some (.int (x9 + (1 : Int32)))]) dX12_laysRow_76 rfl rfl (by decide) rfl ?_
        refine M_goto (pc := 79) (tgt := 43) dX12_laysRow_79 (by decide) ?_
        exact ih (x8 - (0 : Int32)) (x9 + (1 : Int32)) _ h hk
      · have h := (if_neg hc16).symm.trans h
        refine M_iconst (pc := 68) (v := 1) dX12_laysRow_68 (by decide) ?_
        refine M_goto (pc := 69) (tgt := 73) dX12_laysRow_69 (by decide) ?_
        refine M_isub (pc := 73) dX12_laysRow_73 ?_
        refine M_istore (pc := 74) (ls' := [some (.ref 205), none, none, some (.int x3), some (.int x4), some (.int x5), some (.int x6), some (.int x7), some (.int (x8 - (1 : Int32))), some (.int x9)]) dX12_laysRow_74 (by decide) rfl ?_
        refine M_iinc (pc := 76) (v := (x9 + (1 : Int32))) (ls' := [some (.ref 205), none, none, some (.int x3), some (.int x4), some (.int x5), some (.int x6), some (.int x7), some (.int (x8 - (1 : Int32))), some (.int (x9 + (1 : Int32)))]) dX12_laysRow_76 rfl rfl (by decide) rfl ?_
        refine M_goto (pc := 79) (tgt := 43) dX12_laysRow_79 (by decide) ?_
        exact ih (x8 - (1 : Int32)) (x9 + (1 : Int32)) _ h hk
set_option maxRecDepth 4000 in
set_option maxHeartbeats 4000000 in
theorem LC_X12_laysRow_14 {g : gX} {d : Nat} {P : Nat → Nat → Option Nat} {J : HJ} {x4 : Int32} (hp : Wp P) : ∀ (x3 : Int32) (x5 : Int32) (x6 : Int32) (I : HI) (r : HI), L_X12_laysRow_14 x4 x3 x5 x6 I = some r → M g mX12_laysRow (d + 1) (NT, NT, 0) ((.inl none), (NT, r, J, P)) 14 [some (.ref 205), none, none, some (.int x3), some (.int x4), some (.int x5), some (.int x6), none, none, none] [] (NT, I, J, P) := by
  refine L_X12_laysRow_14.partial_correctness x4 (fun x3 x5 x6 I r => M g mX12_laysRow (d + 1) (NT, NT, 0) ((.inl none), (NT, r, J, P)) 14 [some (.ref 205), none, none, some (.int x3), some (.int x4), some (.int x5), some (.int x6), none, none, none] [] (NT, I, J, P)) ?_
  intro f ih x3 x5 x6 I r h
  refine M_iload (pc := 14) dX12_laysRow_14 rfl ?_
  refine M_iload (pc := 16) dX12_laysRow_16 rfl ?_
  refine M_icmp_ge (pc := 18) (tgt := 113) dX12_laysRow_18 (by decide) (fun hc3 => ?_) (fun hc3 => ?_)
  · have h := (if_pos hc3).symm.trans h
    obtain rfl := Option.some.inj h
    exact M_vret (pc := 113) dX12_laysRow_113 rfl rfl rfl
  · have h := (if_neg hc3).symm.trans h
    refine M_iload (pc := 21) dX12_laysRow_21 rfl ?_
    refine M_iconst (pc := 23) (v := 1) dX12_laysRow_23 (by decide) ?_
    refine M_isub (pc := 24) dX12_laysRow_24 ?_
    refine M_iload (pc := 25) dX12_laysRow_25 rfl ?_
    refine M_isub (pc := 27) dX12_laysRow_27 ?_
    obtain ⟨r4, hr5, h⟩ := bnd h
    refine M_callSi (pc := 28) dX12_laysRow_28 s_X12_334 rfl rfl (Nat.le_of_ble_eq_true rfl) (C_X12_ordersOf (d := d + 0) hp hr5) (Nat.le_refl _) ?_
    refine M_istore (pc := 31) (ls' := [some (.ref 205), none, none, some (.int x3), some (.int x4), some (.int x5), some (.int x6), some (.int r4), none, none]) dX12_laysRow_31 (by decide) rfl ?_
    refine M_iload (pc := 33) dX12_laysRow_33 rfl ?_
    refine M_iload (pc := 35) dX12_laysRow_35 rfl ?_
    obtain ⟨hz6, h⟩ := chk h
    refine M_idiv (pc := 37) dX12_laysRow_37 hz6 ?_
    refine M_istore (pc := 38) (ls' := [some (.ref 205), none, none, some (.int x3), some (.int x4), some (.int x5), some (.int x6), some (.int r4), some (.int (x5 / r4)), none]) dX12_laysRow_38 (by decide) rfl ?_
    refine M_iconst (pc := 40) (v := 0) dX12_laysRow_40 (by decide) ?_
    refine M_istore (pc := 41) (ls' := [some (.ref 205), none, none, some (.int x3), some (.int x4), some (.int x5), some (.int x6), some (.int r4), some (.int (x5 / r4)), some (.int (0 : Int32))]) dX12_laysRow_41 (by decide) rfl ?_
    obtain ⟨r17, hr18, h⟩ := bnd h
    refine LC_X12_laysRow_43 (P := P) hp (x5 / r4) (0 : Int32) _ hr18 ?_
    refine M_aload_n (pc := 82) dX12_laysRow_82 rfl ?_
    refine M_getR (pc := 83) dX12_laysRow_83 f_X12_42 at_11 (gr_11_18 hp at_11).1 ?_
    refine M_iload (pc := 86) dX12_laysRow_86 rfl ?_
    refine M_iload (pc := 88) dX12_laysRow_88 rfl ?_
    obtain ⟨hb19, h⟩ := chk h
    refine M_iast (pc := 90) dX12_laysRow_90 (gr_11_18 hp at_11).2 (inB_in hb19) ?_
    refine M_iload_n (pc := 91) dX12_laysRow_91 rfl ?_
    refine M_iconst (pc := 92) (v := 1) dX12_laysRow_92 (by decide) ?_
    refine M_iload (pc := 93) dX12_laysRow_93 rfl ?_
    refine M_ishl (pc := 95) dX12_laysRow_95 ?_
    refine M_iconst (pc := 96) (v := -1) dX12_laysRow_96 (by decide) ?_
    refine M_ixor (pc := 97) dX12_laysRow_97 ?_
    refine M_iand (pc := 98) dX12_laysRow_98 ?_
    refine M_istore_n (pc := 99) (ls' := [some (.ref 205), none, none, some (.int (x3 &&& (((1 : Int32) <<< (r17.2 &&& 31)) ^^^ (-1 : Int32)))), some (.int x4), some (.int x5), some (.int x6), some (.int r4), some (.int r17.1), some (.int r17.2)]) dX12_laysRow_99 (by decide) rfl ?_
    refine M_iload (pc := 100) dX12_laysRow_100 rfl ?_
    refine M_iload (pc := 102) dX12_laysRow_102 rfl ?_
    obtain ⟨hz20, h⟩ := chk h
    refine M_irem (pc := 104) dX12_laysRow_104 hz20 ?_
    refine M_istore (pc := 105) (ls' := [some (.ref 205), none, none, some (.int (x3 &&& (((1 : Int32) <<< (r17.2 &&& 31)) ^^^ (-1 : Int32)))), some (.int x4), some (.int (x5 - x5 / r4 * r4)), some (.int x6), some (.int r4), some (.int r17.1), some (.int r17.2)]) dX12_laysRow_105 (by decide) rfl ?_
    refine M_iinc (pc := 107) (v := (x6 + (1 : Int32))) (ls' := [some (.ref 205), none, none, some (.int (x3 &&& (((1 : Int32) <<< (r17.2 &&& 31)) ^^^ (-1 : Int32)))), some (.int x4), some (.int (x5 - x5 / r4 * r4)), some (.int (x6 + (1 : Int32))), some (.int r4), some (.int r17.1), some (.int r17.2)]) dX12_laysRow_107 rfl rfl (by decide) rfl ?_
    refine M_goto (pc := 110) (tgt := 14) dX12_laysRow_110 (by decide) ?_
    refine M_mask (pc := 14) [true, false, false, true, true, true, true, false, false, false] rfl ?_
    exact ih (x3 &&& (((1 : Int32) <<< (r17.2 &&& 31)) ^^^ (-1 : Int32))) (x5 - x5 / r4 * r4) (x6 + (1 : Int32)) (up2 I 214 (x6).toNatClampNeg r17.2) _ h
set_option maxRecDepth 4000 in
set_option maxHeartbeats 4000000 in
theorem C_X12_laysRow {g : gX} {d : Nat} {P : Nat → Nat → Option Nat} {I : HI} {x1 : Int32} {x2 : Int32} {J : HJ} (hp : Wp P) {r : HI} (h : F_X12_laysRow I x1 x2 = some r) : Cm g mX12_laysRow (d + 1) [.ref 205, .int x1, .int x2] (NT, I, J, P) none (NT, r, J, P) := by
  unfold F_X12_laysRow at h
  refine Cm.of (by decide) (by simp [Value.category]) (Nat.le_of_ble_eq_true rfl) (Nat.le_refl _) (ls := [some (.ref 205), some (.int x1), some (.int x2), none, none, none, none, none, none, none]) rfl ?_
  refine M_iload_n (pc := 0) dX12_laysRow_0 rfl ?_
  refine M_istore_n (pc := 1) (ls' := [some (.ref 205), some (.int x1), some (.int x2), some (.int x1), none, none, none, none, none, none]) dX12_laysRow_1 (by decide) rfl ?_
  refine M_iload_n (pc := 2) dX12_laysRow_2 rfl ?_
  obtain ⟨r1, hr2, h⟩ := bnd h
  refine M_callSi (pc := 3) dX12_laysRow_3 s_X12_329 rfl rfl (Nat.le_of_ble_eq_true rfl) (C_J6_bitCount_0f7a4 (d := d + 0) hp hr2) (Nat.le_refl _) ?_
  refine M_istore (pc := 6) (ls' := [some (.ref 205), some (.int x1), some (.int x2), some (.int x1), some (.int r1), none, none, none, none, none]) dX12_laysRow_6 (by decide) rfl ?_
  refine M_iload_n (pc := 8) dX12_laysRow_8 rfl ?_
  refine M_istore (pc := 9) (ls' := [some (.ref 205), some (.int x1), some (.int x2), some (.int x1), some (.int r1), some (.int x2), none, none, none, none]) dX12_laysRow_9 (by decide) rfl ?_
  refine M_iconst (pc := 11) (v := 0) dX12_laysRow_11 (by decide) ?_
  refine M_istore (pc := 12) (ls' := [some (.ref 205), some (.int x1), some (.int x2), some (.int x1), some (.int r1), some (.int x2), some (.int (0 : Int32)), none, none, none]) dX12_laysRow_12 (by decide) rfl ?_
  refine M_mask (pc := 14) [true, false, false, true, true, true, true, false, false, false] rfl ?_
  exact LC_X12_laysRow_14 (P := P) hp x1 x2 (0 : Int32) I _ h
def L_X12_order_75 (x2 : Int32) (x3 : Int32) (x4 : Int32) (x5 : Int32) (x6 : Int32) (x7 : Int32) (x8 : Int32) (I : HI) : Option (Int32 × HI) :=
  if x4 ≤ x8 then some (x8, I) else if x5 ≤ x7 then some (x8, I) else (ald 6 (I 214) x8) >>= fun v24 => if inB x8 6 = true then L_X12_order_75 x2 x3 x4 x5 x6 x7 (x8 + (1 : Int32)) (up2 I 215 (x8).toNatClampNeg v24) else none
partial_fixpoint
def L_X12_order_47 (x2 : Int32) (x3 : Int32) (x4 : Int32) (x5 : Int32) (x6 : Int32) (I : HI) : Option (Int32 × HI) :=
  (F_X12_ordersOf I x4) >>= fun r9 => if r9 ≤ x6 then if x2 = (-1 : Int32) then some (x5, I) else (F_X12_in I x2 (0 : Int32) (x4 - (1 : Int32))) >>= fun r13 => if r13 = 0 then some ((-1 : Int32), I) else (ald 6 (I 215) x2) >>= fun v16 => some (v16, I) else (F_X12_laysRow I x3 x6) >>= fun r18 => (F_X12_saddest r18 x4) >>= fun r20 => (L_X12_order_75 x2 x3 x4 x5 x6 r20.1 (0 : Int32) r20.2) >>= fun r27 => L_X12_order_47 x2 x3 x4 (if r20.1 < x5 then r20.1 else x5) (x6 + (1 : Int32)) r27.2
partial_fixpoint
def F_X12_order (I : HI) (x1 : Int32) (x2 : Int32) : Option (Int32 × HI) :=
  (F_X12_allDishes (up2 I 205 0 (0 : Int32))) >>= fun r1 => (F_J6_bitCount_0f7a4 (up2 I 205 0 (0 : Int32)) (x1 &&& r1)) >>= fun r3 => if r3 ≤ (6 : Int32) then (F_X12_throwsIf (up2 I 205 0 (0 : Int32)) (0 : Int32) (1 : Int32)) >>= fun r6 => if r6.1 = 0 then L_X12_order_47 x2 (x1 &&& r1) r3 (1000000 : Int32) (0 : Int32) r6.2 else some ((0 : Int32), r6.2) else (F_X12_throwsIf (up2 I 205 0 (0 : Int32)) (1 : Int32) (1 : Int32)) >>= fun r29 => if r29.1 = 0 then L_X12_order_47 x2 (x1 &&& r1) r3 (1000000 : Int32) (0 : Int32) r29.2 else some ((0 : Int32), r29.2)
set_option maxRecDepth 4000 in
set_option maxHeartbeats 4000000 in
theorem LC_X12_order_75 {g : gX} {d : Nat} {R : rX} {P : Nat → Nat → Option Nat} {J : HJ} {x2 : Int32} {x3 : Int32} {x4 : Int32} {x5 : Int32} {x6 : Int32} {x7 : Int32} (hp : Wp P) : ∀ (x8 : Int32) (I : HI) (r : Int32 × HI), L_X12_order_75 x2 x3 x4 x5 x6 x7 x8 I = some r → M g mX12_order (d + 10) (NT, NT, 0) R 109 [some (.ref 205), none, some (.int x2), some (.int x3), some (.int x4), some (.int x5), some (.int x6), some (.int x7), some (.int r.1)] [] (NT, r.2, J, P) → M g mX12_order (d + 10) (NT, NT, 0) R 75 [some (.ref 205), none, some (.int x2), some (.int x3), some (.int x4), some (.int x5), some (.int x6), some (.int x7), some (.int x8)] [] (NT, I, J, P) := by
  refine L_X12_order_75.partial_correctness x2 x3 x4 x5 x6 x7 (fun x8 I r => M g mX12_order (d + 10) (NT, NT, 0) R 109 [some (.ref 205), none, some (.int x2), some (.int x3), some (.int x4), some (.int x5), some (.int x6), some (.int x7), some (.int r.1)] [] (NT, r.2, J, P) → M g mX12_order (d + 10) (NT, NT, 0) R 75 [some (.ref 205), none, some (.int x2), some (.int x3), some (.int x4), some (.int x5), some (.int x6), some (.int x7), some (.int x8)] [] (NT, I, J, P)) ?_
  intro f ih x8 I r h hk
  refine M_iload (pc := 75) dX12_order_75 rfl ?_
  refine M_iload (pc := 77) dX12_order_77 rfl ?_
  refine M_icmp_ge (pc := 79) (tgt := 109) dX12_order_79 (by decide) (fun hc22 => ?_) (fun hc22 => ?_)
  · have h := (if_pos hc22).symm.trans h
    obtain rfl := Option.some.inj h
    exact hk
  · have h := (if_neg hc22).symm.trans h
    refine M_iload (pc := 82) dX12_order_82 rfl ?_
    refine M_iload (pc := 84) dX12_order_84 rfl ?_
    refine M_icmp_ge (pc := 86) (tgt := 109) dX12_order_86 (by decide) (fun hc23 => ?_) (fun hc23 => ?_)
    · have h := (if_pos hc23).symm.trans h
      obtain rfl := Option.some.inj h
      exact hk
    · have h := (if_neg hc23).symm.trans h
      refine M_aload_n (pc := 89) dX12_order_89 rfl ?_
      refine M_getR (pc := 90) dX12_order_90 f_X12_45 at_11 (gr_11_19 hp at_11).1 ?_
      refine M_iload (pc := 93) dX12_order_93 rfl ?_
      refine M_aload_n (pc := 95) dX12_order_95 rfl ?_
      refine M_getR (pc := 96) dX12_order_96 f_X12_42 at_11 (gr_11_18 hp at_11).1 ?_
      refine M_iload (pc := 99) dX12_order_99 rfl ?_
      obtain ⟨v24, hv25, h⟩ := bnd h
      refine M_aldI (pc := 101) dX12_order_101 (gr_11_18 hp at_11).2 hv25 ?_
      obtain ⟨hb26, h⟩ := chk h
      refine M_iast (pc := 102) dX12_order_102 (gr_11_19 hp at_11).2 (inB_in hb26) ?_
      refine M_iinc (pc := 103) (v := (x8 + (1 : Int32))) (ls' := [some (.ref 205), none, some (.int x2), some (.int x3), some (.int x4), some (.int x5), some (.int x6), some (.int x7), some (.int (x8 + (1 : Int32)))]) dX12_order_103 rfl rfl (by decide) rfl ?_
      refine M_goto (pc := 106) (tgt := 75) dX12_order_106 (by decide) ?_
      exact ih (x8 + (1 : Int32)) (up2 I 215 (x8).toNatClampNeg v24) _ h hk
set_option maxRecDepth 4000 in
set_option maxHeartbeats 4000000 in
theorem LC_X12_order_47 {g : gX} {d : Nat} {P : Nat → Nat → Option Nat} {J : HJ} {x2 : Int32} {x3 : Int32} {x4 : Int32} (hp : Wp P) : ∀ (x5 : Int32) (x6 : Int32) (I : HI) (r : Int32 × HI), L_X12_order_47 x2 x3 x4 x5 x6 I = some r → M g mX12_order (d + 10) (NT, NT, 0) ((.inl (some (.int r.1))), (NT, r.2, J, P)) 47 [some (.ref 205), none, some (.int x2), some (.int x3), some (.int x4), some (.int x5), some (.int x6), none, none] [] (NT, I, J, P) := by
  refine L_X12_order_47.partial_correctness x2 x3 x4 (fun x5 x6 I r => M g mX12_order (d + 10) (NT, NT, 0) ((.inl (some (.int r.1))), (NT, r.2, J, P)) 47 [some (.ref 205), none, some (.int x2), some (.int x3), some (.int x4), some (.int x5), some (.int x6), none, none] [] (NT, I, J, P)) ?_
  intro f ih x5 x6 I r h
  refine M_iload (pc := 47) dX12_order_47 rfl ?_
  refine M_iload (pc := 49) dX12_order_49 rfl ?_
  obtain ⟨r9, hr10, h⟩ := bnd h
  refine M_callSi (pc := 51) dX12_order_51 s_X12_334 rfl rfl (Nat.le_of_ble_eq_true rfl) (C_X12_ordersOf (d := d + 9) hp hr10) (Nat.le_refl _) ?_
  refine M_icmp_ge (pc := 54) (tgt := 124) dX12_order_54 (by decide) (fun hc11 => ?_) (fun hc11 => ?_)
  · have h := (if_pos hc11).symm.trans h
    refine M_iload_n (pc := 124) dX12_order_124 rfl ?_
    refine M_iconst (pc := 125) (v := -1) dX12_order_125 (by decide) ?_
    refine M_icmp_ne (pc := 126) (tgt := 134) dX12_order_126 (by decide) (fun hc12 => ?_) (fun hc12 => ?_)
    · have h := (if_neg hc12).symm.trans h
      refine M_iload_n (pc := 134) dX12_order_134 rfl ?_
      refine M_iconst (pc := 135) (v := 0) dX12_order_135 (by decide) ?_
      refine M_iload (pc := 136) dX12_order_136 rfl ?_
      refine M_iconst (pc := 138) (v := 1) dX12_order_138 (by decide) ?_
      refine M_isub (pc := 139) dX12_order_139 ?_
      obtain ⟨r13, hr14, h⟩ := bnd h
      refine M_callSi (pc := 140) dX12_order_140 s_X12_73 rfl rfl (Nat.le_of_ble_eq_true rfl) (C_X12_in (d := d + 9) hp hr14) (Nat.le_refl _) ?_
      refine M_if_eq (pc := 143) (tgt := 155) dX12_order_143 (by decide) (fun hc15 => ?_) (fun hc15 => ?_)
      · have h := (if_pos hc15).symm.trans h
        refine M_iconst (pc := 155) (v := -1) dX12_order_155 (by decide) ?_
        obtain rfl := Option.some.inj h
        exact M_iret (pc := 156) dX12_order_156 rfl rfl rfl rfl
      · have h := (if_neg hc15).symm.trans h
        refine M_aload_n (pc := 146) dX12_order_146 rfl ?_
        refine M_getR (pc := 147) dX12_order_147 f_X12_45 at_11 (gr_11_19 hp at_11).1 ?_
        refine M_iload_n (pc := 150) dX12_order_150 rfl ?_
        obtain ⟨v16, hv17, h⟩ := bnd h
        refine M_aldI (pc := 151) dX12_order_151 (gr_11_19 hp at_11).2 hv17 ?_
        refine M_goto (pc := 152) (tgt := 156) dX12_order_152 (by decide) ?_
        obtain rfl := Option.some.inj h
        exact M_iret (pc := 156) dX12_order_156 rfl rfl rfl rfl
    · have h := (if_pos hc12).symm.trans h
      refine M_iload (pc := 129) dX12_order_129 rfl ?_
      refine M_goto (pc := 131) (tgt := 156) dX12_order_131 (by decide) ?_
      obtain rfl := Option.some.inj h
      exact M_iret (pc := 156) dX12_order_156 rfl rfl rfl rfl
  · have h := (if_neg hc11).symm.trans h
    refine M_aload_n (pc := 57) dX12_order_57 rfl ?_
    refine M_iload_n (pc := 58) dX12_order_58 rfl ?_
    refine M_iload (pc := 59) dX12_order_59 rfl ?_
    obtain ⟨r18, hr19, h⟩ := bnd h
    refine M_callVv (pc := 61) dX12_order_61 v_X12_343 rfl rfl at_11 (Nat.le_of_ble_eq_true rfl) (C_X12_laysRow (d := d + 8) hp hr19) (Nat.le_refl _) ?_
    refine M_aload_n (pc := 64) dX12_order_64 rfl ?_
    refine M_iload (pc := 65) dX12_order_65 rfl ?_
    obtain ⟨r20, hr21, h⟩ := bnd h
    refine M_callVi (pc := 67) dX12_order_67 v_X12_346 rfl rfl at_11 (Nat.le_of_ble_eq_true rfl) (C_X12_saddest (d := d + 0) hp hr21) (Nat.le_refl _) ?_
    refine M_istore (pc := 70) (ls' := [some (.ref 205), none, some (.int x2), some (.int x3), some (.int x4), some (.int x5), some (.int x6), some (.int r20.1), none]) dX12_order_70 (by decide) rfl ?_
    refine M_iconst (pc := 72) (v := 0) dX12_order_72 (by decide) ?_
    refine M_istore (pc := 73) (ls' := [some (.ref 205), none, some (.int x2), some (.int x3), some (.int x4), some (.int x5), some (.int x6), some (.int r20.1), some (.int (0 : Int32))]) dX12_order_73 (by decide) rfl ?_
    obtain ⟨r27, hr28, h⟩ := bnd h
    refine LC_X12_order_75 (P := P) hp (0 : Int32) r20.2 _ hr28 ?_
    refine M_iload (pc := 109) dX12_order_109 rfl ?_
    refine M_iload (pc := 111) dX12_order_111 rfl ?_
    refine M_mmin (pc := 113) dX12_order_113 mm_X12_259.1 mm_X12_259.2.1 mm_X12_259.2.2.1 mm_X12_259.2.2.2 (Nat.le_of_ble_eq_true rfl) ?_
    refine M_istore (pc := 116) (ls' := [some (.ref 205), none, some (.int x2), some (.int x3), some (.int x4), some (.int (if r20.1 < x5 then r20.1 else x5)), some (.int x6), some (.int r20.1), some (.int r27.1)]) dX12_order_116 (by decide) rfl ?_
    refine M_iinc (pc := 118) (v := (x6 + (1 : Int32))) (ls' := [some (.ref 205), none, some (.int x2), some (.int x3), some (.int x4), some (.int (if r20.1 < x5 then r20.1 else x5)), some (.int (x6 + (1 : Int32))), some (.int r20.1), some (.int r27.1)]) dX12_order_118 rfl rfl (by decide) rfl ?_
    refine M_goto (pc := 121) (tgt := 47) dX12_order_121 (by decide) ?_
    refine M_mask (pc := 47) [true, false, true, true, true, true, true, false, false] rfl ?_
    exact ih (if r20.1 < x5 then r20.1 else x5) (x6 + (1 : Int32)) r27.2 _ h
set_option maxRecDepth 4000 in
set_option maxHeartbeats 4000000 in
theorem C_X12_order {g : gX} {d : Nat} {P : Nat → Nat → Option Nat} {I : HI} {x1 : Int32} {x2 : Int32} {J : HJ} (hp : Wp P) {r : Int32 × HI} (h : F_X12_order I x1 x2 = some r) : Cm g mX12_order (d + 10) [.ref 205, .int x1, .int x2] (NT, I, J, P) (some (.int r.1)) (NT, r.2, J, P) := by
  unfold F_X12_order at h
  refine Cm.of (by decide) (by simp [Value.category]) (Nat.le_of_ble_eq_true rfl) (Nat.le_refl _) (ls := [some (.ref 205), some (.int x1), some (.int x2), none, none, none, none, none, none]) rfl ?_
  refine M_aload_n (pc := 0) dX12_order_0 rfl ?_
  refine M_iconst (pc := 1) (v := 0) dX12_order_1 (by decide) ?_
  refine M_putI (pc := 2) dX12_order_2 f_X12_3 at_11 rfl ⟨rfl, rfl⟩ ?_
  refine M_iload_n (pc := 5) dX12_order_5 rfl ?_
  refine M_aload_n (pc := 6) dX12_order_6 rfl ?_
  obtain ⟨r1, hr2, h⟩ := bnd h
  refine M_callVi (pc := 7) dX12_order_7 v_X12_340 rfl rfl at_11 (Nat.le_of_ble_eq_true rfl) (C_X12_allDishes (d := d + 8) hp hr2) (Nat.le_refl _) ?_
  refine M_iand (pc := 10) dX12_order_10 ?_
  refine M_istore_n (pc := 11) (ls' := [some (.ref 205), some (.int x1), some (.int x2), some (.int (x1 &&& r1)), none, none, none, none, none]) dX12_order_11 (by decide) rfl ?_
  refine M_iload_n (pc := 12) dX12_order_12 rfl ?_
  obtain ⟨r3, hr4, h⟩ := bnd h
  refine M_callSi (pc := 13) dX12_order_13 s_X12_329 rfl rfl (Nat.le_of_ble_eq_true rfl) (C_J6_bitCount_0f7a4 (d := d + 9) hp hr4) (Nat.le_refl _) ?_
  refine M_istore (pc := 16) (ls' := [some (.ref 205), some (.int x1), some (.int x2), some (.int (x1 &&& r1)), some (.int r3), none, none, none, none]) dX12_order_16 (by decide) rfl ?_
  refine M_aload_n (pc := 18) dX12_order_18 rfl ?_
  refine M_iload (pc := 19) dX12_order_19 rfl ?_
  refine M_bipush (pc := 21) (v := 6) dX12_order_21 (by decide) ?_
  refine M_icmp_le (pc := 23) (tgt := 30) dX12_order_23 (by decide) (fun hc5 => ?_) (fun hc5 => ?_)
  · have h := (if_pos hc5).symm.trans h
    refine M_iconst (pc := 30) (v := 0) dX12_order_30 (by decide) ?_
    refine M_iconst (pc := 31) (v := 1) dX12_order_31 (by decide) ?_
    obtain ⟨r6, hr7, h⟩ := bnd h
    refine M_callVi (pc := 32) dX12_order_32 v_X12_243 rfl rfl at_11 (Nat.le_of_ble_eq_true rfl) (C_X12_throwsIf (d := d + 9) hp hr7) (Nat.le_refl _) ?_
    refine M_if_eq (pc := 35) (tgt := 40) dX12_order_35 (by decide) (fun hc8 => ?_) (fun hc8 => ?_)
    · have h := (if_pos hc8).symm.trans h
      refine M_ldc (pc := 40) (v := 1000000) dX12_order_40 w_1645 ?_
      refine M_istore (pc := 42) (ls' := [some (.ref 205), some (.int x1), some (.int x2), some (.int (x1 &&& r1)), some (.int r3), some (.int (1000000 : Int32)), none, none, none]) dX12_order_42 (by decide) rfl ?_
      refine M_iconst (pc := 44) (v := 0) dX12_order_44 (by decide) ?_
      refine M_istore (pc := 45) (ls' := [some (.ref 205), some (.int x1), some (.int x2), some (.int (x1 &&& r1)), some (.int r3), some (.int (1000000 : Int32)), some (.int (0 : Int32)), none, none]) dX12_order_45 (by decide) rfl ?_
      refine M_mask (pc := 47) [true, false, true, true, true, true, true, false, false] rfl ?_
      exact LC_X12_order_47 (P := P) hp (1000000 : Int32) (0 : Int32) r6.2 _ h
    · have h := (if_neg hc8).symm.trans h
      refine M_iconst (pc := 38) (v := 0) dX12_order_38 (by decide) ?_
      obtain rfl := Option.some.inj h
      exact M_iret (pc := 39) dX12_order_39 rfl rfl rfl rfl
  · have h := (if_neg hc5).symm.trans h
    refine M_iconst (pc := 26) (v := 1) dX12_order_26 (by decide) ?_
    refine M_goto (pc := 27) (tgt := 31) dX12_order_27 (by decide) ?_
    refine M_iconst (pc := 31) (v := 1) dX12_order_31 (by decide) ?_
    obtain ⟨r29, hr30, h⟩ := bnd h
    refine M_callVi (pc := 32) dX12_order_32 v_X12_243 rfl rfl at_11 (Nat.le_of_ble_eq_true rfl) (C_X12_throwsIf (d := d + 9) hp hr30) (Nat.le_refl _) ?_
    refine M_if_eq (pc := 35) (tgt := 40) dX12_order_35 (by decide) (fun hc31 => ?_) (fun hc31 => ?_)
    · have h := (if_pos hc31).symm.trans h
      refine M_ldc (pc := 40) (v := 1000000) dX12_order_40 w_1645 ?_
      refine M_istore (pc := 42) (ls' := [some (.ref 205), some (.int x1), some (.int x2), some (.int (x1 &&& r1)), some (.int r3), some (.int (1000000 : Int32)), none, none, none]) dX12_order_42 (by decide) rfl ?_
      refine M_iconst (pc := 44) (v := 0) dX12_order_44 (by decide) ?_
      refine M_istore (pc := 45) (ls' := [some (.ref 205), some (.int x1), some (.int x2), some (.int (x1 &&& r1)), some (.int r3), some (.int (1000000 : Int32)), some (.int (0 : Int32)), none, none]) dX12_order_45 (by decide) rfl ?_
      refine M_mask (pc := 47) [true, false, true, true, true, true, true, false, false] rfl ?_
      exact LC_X12_order_47 (P := P) hp (1000000 : Int32) (0 : Int32) r29.2 _ h
    · have h := (if_neg hc31).symm.trans h
      refine M_iconst (pc := 38) (v := 0) dX12_order_38 (by decide) ?_
      obtain rfl := Option.some.inj h
      exact M_iret (pc := 39) dX12_order_39 rfl rfl rfl rfl
def L_X12_fewest_43 (I : HI) (x1 : Int32) (x2 : Int32) (x3 : Int32) (x4 : Int32) (x5 : Int32) : Option (Int32 × HI) :=
  (F_X12_allDishes I) >>= fun r7 => if r7 < x5 then some (x3, I) else (F_J6_bitCount_0f7a4 I x5) >>= fun r10 => if r10 < x4 then (F_X12_agesOf I x5) >>= fun r13 => if r13 = (-1 : Int32) then L_X12_fewest_43 I x1 x2 x3 x4 (x5 + (1 : Int32)) else if (x1 &&& (r13 ^^^ (-1 : Int32))) = 0 then if (r13 &&& x2) = 0 then (F_J6_bitCount_0f7a4 I x5) >>= fun r18 => L_X12_fewest_43 I x1 x2 x5 r18 (x5 + (1 : Int32)) else L_X12_fewest_43 I x1 x2 x3 x4 (x5 + (1 : Int32)) else L_X12_fewest_43 I x1 x2 x3 x4 (x5 + (1 : Int32)) else L_X12_fewest_43 I x1 x2 x3 x4 (x5 + (1 : Int32))
partial_fixpoint
def F_X12_fewest (I : HI) (x1 : Int32) (x2 : Int32) : Option (Int32 × HI) :=
  (F_X12_noAges (up2 I 205 0 (0 : Int32)) x1) >>= fun r1 => if r1 = 0 then (F_X12_noAges (up2 I 205 0 (0 : Int32)) x2) >>= fun r20 => if r20 = 0 then (F_X12_throwsIf (up2 I 205 0 (0 : Int32)) (0 : Int32) (1 : Int32)) >>= fun r23 => if r23.1 = 0 then L_X12_fewest_43 r23.2 x1 x2 (-1 : Int32) (1000000 : Int32) (0 : Int32) else some ((0 : Int32), r23.2) else (F_X12_throwsIf (up2 I 205 0 (0 : Int32)) (1 : Int32) (1 : Int32)) >>= fun r26 => if r26.1 = 0 then L_X12_fewest_43 r26.2 x1 x2 (-1 : Int32) (1000000 : Int32) (0 : Int32) else some ((0 : Int32), r26.2) else (F_X12_throwsIf (up2 I 205 0 (0 : Int32)) (1 : Int32) (1 : Int32)) >>= fun r4 => if r4.1 = 0 then L_X12_fewest_43 r4.2 x1 x2 (-1 : Int32) (1000000 : Int32) (0 : Int32) else some ((0 : Int32), r4.2)
set_option maxRecDepth 4000 in
set_option maxHeartbeats 4000000 in
theorem LC_X12_fewest_43 {g : gX} {d : Nat} {P : Nat → Nat → Option Nat} {J : HJ} {I : HI} {x1 : Int32} {x2 : Int32} (hp : Wp P) : ∀ (x3 : Int32) (x4 : Int32) (x5 : Int32) (r : Int32 × HI), L_X12_fewest_43 I x1 x2 x3 x4 x5 = some r → M g mX12_fewest (d + 4) (NT, NT, 0) ((.inl (some (.int r.1))), (NT, r.2, J, P)) 43 [some (.ref 205), some (.int x1), some (.int x2), some (.int x3), some (.int x4), some (.int x5), none] [] (NT, I, J, P) := by
  refine L_X12_fewest_43.partial_correctness I x1 x2 (fun x3 x4 x5 r => M g mX12_fewest (d + 4) (NT, NT, 0) ((.inl (some (.int r.1))), (NT, r.2, J, P)) 43 [some (.ref 205), some (.int x1), some (.int x2), some (.int x3), some (.int x4), some (.int x5), none] [] (NT, I, J, P)) ?_
  intro f ih x3 x4 x5 r h
  refine M_iload (pc := 43) dX12_fewest_43 rfl ?_
  refine M_aload_n (pc := 45) dX12_fewest_45 rfl ?_
  obtain ⟨r7, hr8, h⟩ := bnd h
  refine M_callVi (pc := 46) dX12_fewest_46 v_X12_340 rfl rfl at_11 (Nat.le_of_ble_eq_true rfl) (C_X12_allDishes (d := d + 2) hp hr8) (Nat.le_refl _) ?_
  refine M_icmp_gt (pc := 49) (tgt := 114) dX12_fewest_49 (by decide) (fun hc9 => ?_) (fun hc9 => ?_)
  · have h := (if_pos hc9).symm.trans h
    refine M_iload_n (pc := 114) dX12_fewest_114 rfl ?_
    obtain rfl := Option.some.inj h
    exact M_iret (pc := 115) dX12_fewest_115 rfl rfl rfl rfl
  · have h := (if_neg hc9).symm.trans h
    refine M_iload (pc := 52) dX12_fewest_52 rfl ?_
    obtain ⟨r10, hr11, h⟩ := bnd h
    refine M_callSi (pc := 54) dX12_fewest_54 s_X12_329 rfl rfl (Nat.le_of_ble_eq_true rfl) (C_J6_bitCount_0f7a4 (d := d + 3) hp hr11) (Nat.le_refl _) ?_
    refine M_iload (pc := 57) dX12_fewest_57 rfl ?_
    refine M_icmp_lt (pc := 59) (tgt := 65) dX12_fewest_59 (by decide) (fun hc12 => ?_) (fun hc12 => ?_)
    · have h := (if_pos hc12).symm.trans h
      refine M_aload_n (pc := 65) dX12_fewest_65 rfl ?_
      refine M_iload (pc := 66) dX12_fewest_66 rfl ?_
      obtain ⟨r13, hr14, h⟩ := bnd h
      refine M_callVi (pc := 68) dX12_fewest_68 v_X12_355 rfl rfl at_11 (Nat.le_of_ble_eq_true rfl) (C_X12_agesOf (d := d + 0) hp hr14) (Nat.le_refl _) ?_
      refine M_istore (pc := 71) (ls' := [some (.ref 205), some (.int x1), some (.int x2), some (.int x3), some (.int x4), some (.int x5), some (.int r13)]) dX12_fewest_71 (by decide) rfl ?_
      refine M_iload (pc := 73) dX12_fewest_73 rfl ?_
      refine M_iconst (pc := 75) (v := -1) dX12_fewest_75 (by decide) ?_
      refine M_icmp_eq (pc := 76) (tgt := 108) dX12_fewest_76 (by decide) (fun hc15 => ?_) (fun hc15 => ?_)
      · have h := (if_pos hc15).symm.trans h
        refine M_iinc (pc := 108) (v := (x5 + (1 : Int32))) (ls' := [some (.ref 205), some (.int x1), some (.int x2), some (.int x3), some (.int x4), some (.int (x5 + (1 : Int32))), some (.int r13)]) dX12_fewest_108 rfl rfl (by decide) rfl ?_
        refine M_goto (pc := 111) (tgt := 43) dX12_fewest_111 (by decide) ?_
        refine M_mask (pc := 43) [true, true, true, true, true, true, false] rfl ?_
        exact ih x3 x4 (x5 + (1 : Int32)) _ h
      · have h := (if_neg hc15).symm.trans h
        refine M_iload_n (pc := 79) dX12_fewest_79 rfl ?_
        refine M_iload (pc := 80) dX12_fewest_80 rfl ?_
        refine M_iconst (pc := 82) (v := -1) dX12_fewest_82 (by decide) ?_
        refine M_ixor (pc := 83) dX12_fewest_83 ?_
        refine M_iand (pc := 84) dX12_fewest_84 ?_
        refine M_if_ne (pc := 85) (tgt := 108) dX12_fewest_85 (by decide) (fun hc16 => ?_) (fun hc16 => ?_)
        · have h := (if_neg hc16).symm.trans h
          refine M_iinc (pc := 108) (v := (x5 + (1 : Int32))) (ls' := [some (.ref 205), some (.int x1), some (.int x2), some (.int x3), some (.int x4), some (.int (x5 + (1 : Int32))), some (.int r13)]) dX12_fewest_108 rfl rfl (by decide) rfl ?_
          refine M_goto (pc := 111) (tgt := 43) dX12_fewest_111 (by decide) ?_
          refine M_mask (pc := 43) [true, true, true, true, true, true, false] rfl ?_
          exact ih x3 x4 (x5 + (1 : Int32)) _ h
        · have h := (if_pos hc16).symm.trans h
          refine M_iload (pc := 88) dX12_fewest_88 rfl ?_
          refine M_iload_n (pc := 90) dX12_fewest_90 rfl ?_
          refine M_iand (pc := 91) dX12_fewest_91 ?_
          refine M_if_eq (pc := 92) (tgt := 98) dX12_fewest_92 (by decide) (fun hc17 => ?_) (fun hc17 => ?_)
          · have h := (if_pos hc17).symm.trans h
            refine M_iload (pc := 98) dX12_fewest_98 rfl ?_
            refine M_istore_n (pc := 100) (ls' := [some (.ref 205), some (.int x1), some (.int x2), some (.int x5), some (.int x4), some (.int x5), some (.int r13)]) dX12_fewest_100 (by decide) rfl ?_
            refine M_iload (pc := 101) dX12_fewest_101 rfl ?_
            obtain ⟨r18, hr19, h⟩ := bnd h
            refine M_callSi (pc := 103) dX12_fewest_103 s_X12_329 rfl rfl (Nat.le_of_ble_eq_true rfl) (C_J6_bitCount_0f7a4 (d := d + 3) hp hr19) (Nat.le_refl _) ?_
            refine M_istore (pc := 106) (ls' := [some (.ref 205), some (.int x1), some (.int x2), some (.int x5), some (.int r18), some (.int x5), some (.int r13)]) dX12_fewest_106 (by decide) rfl ?_
            refine M_iinc (pc := 108) (v := (x5 + (1 : Int32))) (ls' := [some (.ref 205), some (.int x1), some (.int x2), some (.int x5), some (.int r18), some (.int (x5 + (1 : Int32))), some (.int r13)]) dX12_fewest_108 rfl rfl (by decide) rfl ?_
            refine M_goto (pc := 111) (tgt := 43) dX12_fewest_111 (by decide) ?_
            refine M_mask (pc := 43) [true, true, true, true, true, true, false] rfl ?_
            exact ih x5 r18 (x5 + (1 : Int32)) _ h
          · have h := (if_neg hc17).symm.trans h
            refine M_goto (pc := 95) (tgt := 108) dX12_fewest_95 (by decide) ?_
            refine M_iinc (pc := 108) (v := (x5 + (1 : Int32))) (ls' := [some (.ref 205), some (.int x1), some (.int x2), some (.int x3), some (.int x4), some (.int (x5 + (1 : Int32))), some (.int r13)]) dX12_fewest_108 rfl rfl (by decide) rfl ?_
            refine M_goto (pc := 111) (tgt := 43) dX12_fewest_111 (by decide) ?_
            refine M_mask (pc := 43) [true, true, true, true, true, true, false] rfl ?_
            exact ih x3 x4 (x5 + (1 : Int32)) _ h
    · have h := (if_neg hc12).symm.trans h
      refine M_goto (pc := 62) (tgt := 108) dX12_fewest_62 (by decide) ?_
      refine M_iinc (pc := 108) (v := (x5 + (1 : Int32))) (ls' := [some (.ref 205), some (.int x1), some (.int x2), some (.int x3), some (.int x4), some (.int (x5 + (1 : Int32))), none]) dX12_fewest_108 rfl rfl (by decide) rfl ?_
      refine M_goto (pc := 111) (tgt := 43) dX12_fewest_111 (by decide) ?_
      exact ih x3 x4 (x5 + (1 : Int32)) _ h
set_option maxRecDepth 4000 in
set_option maxHeartbeats 4000000 in
theorem C_X12_fewest {g : gX} {d : Nat} {P : Nat → Nat → Option Nat} {I : HI} {x1 : Int32} {x2 : Int32} {J : HJ} (hp : Wp P) {r : Int32 × HI} (h : F_X12_fewest I x1 x2 = some r) : Cm g mX12_fewest (d + 4) [.ref 205, .int x1, .int x2] (NT, I, J, P) (some (.int r.1)) (NT, r.2, J, P) := by
  unfold F_X12_fewest at h
  refine Cm.of (by decide) (by simp [Value.category]) (Nat.le_of_ble_eq_true rfl) (Nat.le_refl _) (ls := [some (.ref 205), some (.int x1), some (.int x2), none, none, none, none]) rfl ?_
  refine M_aload_n (pc := 0) dX12_fewest_0 rfl ?_
  refine M_iconst (pc := 1) (v := 0) dX12_fewest_1 (by decide) ?_
  refine M_putI (pc := 2) dX12_fewest_2 f_X12_3 at_11 rfl ⟨rfl, rfl⟩ ?_
  refine M_aload_n (pc := 5) dX12_fewest_5 rfl ?_
  refine M_iload_n (pc := 6) dX12_fewest_6 rfl ?_
  obtain ⟨r1, hr2, h⟩ := bnd h
  refine M_callSi (pc := 7) dX12_fewest_7 s_X12_352 rfl rfl (Nat.le_of_ble_eq_true rfl) (C_X12_noAges (d := d + 2) hp hr2) (Nat.le_refl _) ?_
  refine M_if_ne (pc := 10) (tgt := 20) dX12_fewest_10 (by decide) (fun hc3 => ?_) (fun hc3 => ?_)
  · have h := (if_neg hc3).symm.trans h
    refine M_iconst (pc := 20) (v := 1) dX12_fewest_20 (by decide) ?_
    refine M_goto (pc := 21) (tgt := 25) dX12_fewest_21 (by decide) ?_
    refine M_iconst (pc := 25) (v := 1) dX12_fewest_25 (by decide) ?_
    obtain ⟨r4, hr5, h⟩ := bnd h
    refine M_callVi (pc := 26) dX12_fewest_26 v_X12_243 rfl rfl at_11 (Nat.le_of_ble_eq_true rfl) (C_X12_throwsIf (d := d + 3) hp hr5) (Nat.le_refl _) ?_
    refine M_if_eq (pc := 29) (tgt := 34) dX12_fewest_29 (by decide) (fun hc6 => ?_) (fun hc6 => ?_)
    · have h := (if_pos hc6).symm.trans h
      refine M_iconst (pc := 34) (v := -1) dX12_fewest_34 (by decide) ?_
      refine M_istore_n (pc := 35) (ls' := [some (.ref 205), some (.int x1), some (.int x2), some (.int (-1 : Int32)), none, none, none]) dX12_fewest_35 (by decide) rfl ?_
      refine M_ldc (pc := 36) (v := 1000000) dX12_fewest_36 w_1645 ?_
      refine M_istore (pc := 38) (ls' := [some (.ref 205), some (.int x1), some (.int x2), some (.int (-1 : Int32)), some (.int (1000000 : Int32)), none, none]) dX12_fewest_38 (by decide) rfl ?_
      refine M_iconst (pc := 40) (v := 0) dX12_fewest_40 (by decide) ?_
      refine M_istore (pc := 41) (ls' := [some (.ref 205), some (.int x1), some (.int x2), some (.int (-1 : Int32)), some (.int (1000000 : Int32)), some (.int (0 : Int32)), none]) dX12_fewest_41 (by decide) rfl ?_
      exact LC_X12_fewest_43 (P := P) hp (-1 : Int32) (1000000 : Int32) (0 : Int32) _ h
    · have h := (if_neg hc6).symm.trans h
      refine M_iconst (pc := 32) (v := 0) dX12_fewest_32 (by decide) ?_
      obtain rfl := Option.some.inj h
      exact M_iret (pc := 33) dX12_fewest_33 rfl rfl rfl rfl
  · have h := (if_pos hc3).symm.trans h
    refine M_iload_n (pc := 13) dX12_fewest_13 rfl ?_
    obtain ⟨r20, hr21, h⟩ := bnd h
    refine M_callSi (pc := 14) dX12_fewest_14 s_X12_352 rfl rfl (Nat.le_of_ble_eq_true rfl) (C_X12_noAges (d := d + 2) hp hr21) (Nat.le_refl _) ?_
    refine M_if_eq (pc := 17) (tgt := 24) dX12_fewest_17 (by decide) (fun hc22 => ?_) (fun hc22 => ?_)
    · have h := (if_pos hc22).symm.trans h
      refine M_iconst (pc := 24) (v := 0) dX12_fewest_24 (by decide) ?_
      refine M_iconst (pc := 25) (v := 1) dX12_fewest_25 (by decide) ?_
      obtain ⟨r23, hr24, h⟩ := bnd h
      refine M_callVi (pc := 26) dX12_fewest_26 v_X12_243 rfl rfl at_11 (Nat.le_of_ble_eq_true rfl) (C_X12_throwsIf (d := d + 3) hp hr24) (Nat.le_refl _) ?_
      refine M_if_eq (pc := 29) (tgt := 34) dX12_fewest_29 (by decide) (fun hc25 => ?_) (fun hc25 => ?_)
      · have h := (if_pos hc25).symm.trans h
        refine M_iconst (pc := 34) (v := -1) dX12_fewest_34 (by decide) ?_
        refine M_istore_n (pc := 35) (ls' := [some (.ref 205), some (.int x1), some (.int x2), some (.int (-1 : Int32)), none, none, none]) dX12_fewest_35 (by decide) rfl ?_
        refine M_ldc (pc := 36) (v := 1000000) dX12_fewest_36 w_1645 ?_
        refine M_istore (pc := 38) (ls' := [some (.ref 205), some (.int x1), some (.int x2), some (.int (-1 : Int32)), some (.int (1000000 : Int32)), none, none]) dX12_fewest_38 (by decide) rfl ?_
        refine M_iconst (pc := 40) (v := 0) dX12_fewest_40 (by decide) ?_
        refine M_istore (pc := 41) (ls' := [some (.ref 205), some (.int x1), some (.int x2), some (.int (-1 : Int32)), some (.int (1000000 : Int32)), some (.int (0 : Int32)), none]) dX12_fewest_41 (by decide) rfl ?_
        exact LC_X12_fewest_43 (P := P) hp (-1 : Int32) (1000000 : Int32) (0 : Int32) _ h
      · have h := (if_neg hc25).symm.trans h
        refine M_iconst (pc := 32) (v := 0) dX12_fewest_32 (by decide) ?_
        obtain rfl := Option.some.inj h
        exact M_iret (pc := 33) dX12_fewest_33 rfl rfl rfl rfl
    · have h := (if_neg hc22).symm.trans h
      refine M_iconst (pc := 20) (v := 1) dX12_fewest_20 (by decide) ?_
      refine M_goto (pc := 21) (tgt := 25) dX12_fewest_21 (by decide) ?_
      refine M_iconst (pc := 25) (v := 1) dX12_fewest_25 (by decide) ?_
      obtain ⟨r26, hr27, h⟩ := bnd h
      refine M_callVi (pc := 26) dX12_fewest_26 v_X12_243 rfl rfl at_11 (Nat.le_of_ble_eq_true rfl) (C_X12_throwsIf (d := d + 3) hp hr27) (Nat.le_refl _) ?_
      refine M_if_eq (pc := 29) (tgt := 34) dX12_fewest_29 (by decide) (fun hc28 => ?_) (fun hc28 => ?_)
      · have h := (if_pos hc28).symm.trans h
        refine M_iconst (pc := 34) (v := -1) dX12_fewest_34 (by decide) ?_
        refine M_istore_n (pc := 35) (ls' := [some (.ref 205), some (.int x1), some (.int x2), some (.int (-1 : Int32)), none, none, none]) dX12_fewest_35 (by decide) rfl ?_
        refine M_ldc (pc := 36) (v := 1000000) dX12_fewest_36 w_1645 ?_
        refine M_istore (pc := 38) (ls' := [some (.ref 205), some (.int x1), some (.int x2), some (.int (-1 : Int32)), some (.int (1000000 : Int32)), none, none]) dX12_fewest_38 (by decide) rfl ?_
        refine M_iconst (pc := 40) (v := 0) dX12_fewest_40 (by decide) ?_
        refine M_istore (pc := 41) (ls' := [some (.ref 205), some (.int x1), some (.int x2), some (.int (-1 : Int32)), some (.int (1000000 : Int32)), some (.int (0 : Int32)), none]) dX12_fewest_41 (by decide) rfl ?_
        exact LC_X12_fewest_43 (P := P) hp (-1 : Int32) (1000000 : Int32) (0 : Int32) _ h
      · have h := (if_neg hc28).symm.trans h
        refine M_iconst (pc := 32) (v := 0) dX12_fewest_32 (by decide) ?_
        obtain rfl := Option.some.inj h
        exact M_iret (pc := 33) dX12_fewest_33 rfl rfl rfl rfl
def L_X12_serve_79 (I : HI) (x1 : Int32) (x2 : Int32) (x3 : Int32) (x4 : Int32) (x5 : Int32) (x6 : Int32) (x7 : Int32) : Option (Int32 × Int32) :=
  (F_X12_dishes I) >>= fun r18 => if r18 ≤ x7 then some (x6, x7) else (F_X12_has I x1 x7) >>= fun r21 => if r21 = 0 then L_X12_serve_79 I x1 x2 x3 x4 x5 (x6 + (0 : Int32)) (x7 + (1 : Int32)) else (F_X12_of I x7 (5 : Int32)) >>= fun r24 => (F_X12_of I x5 (5 : Int32)) >>= fun r26 => if r26 < r24 then L_X12_serve_79 I x1 x2 x3 x4 x5 (x6 + (0 : Int32)) (x7 + (1 : Int32)) else L_X12_serve_79 I x1 x2 x3 x4 x5 (x6 + (1 : Int32)) (x7 + (1 : Int32))
partial_fixpoint
def L_X12_serve_47 (I : HI) (x1 : Int32) (x2 : Int32) (x3 : Int32) (x4 : Int32) (x5 : Int32) : Option (Int32 × HI) :=
  (F_X12_dishes I) >>= fun r11 => if r11 ≤ x5 then some (x3, I) else if x2 ≤ (1 : Int32) then some (x3, I) else (F_X12_isNew I x5) >>= fun r15 => if r15 = 0 then (L_X12_serve_79 I x1 x2 x3 x4 x5 (0 : Int32) (0 : Int32)) >>= fun r29 => if x4 ≤ (if r29.1 < (x2 - r29.1) then (x2 - r29.1) else r29.1) then L_X12_serve_47 I x1 x2 x3 (if (if r29.1 < (x2 - r29.1) then (x2 - r29.1) else r29.1) < x4 then (if r29.1 < (x2 - r29.1) then (x2 - r29.1) else r29.1) else x4) (x5 + (1 : Int32)) else L_X12_serve_47 I x1 x2 x5 (if (if r29.1 < (x2 - r29.1) then (x2 - r29.1) else r29.1) < x4 then (if r29.1 < (x2 - r29.1) then (x2 - r29.1) else r29.1) else x4) (x5 + (1 : Int32)) else L_X12_serve_47 I x1 x2 x3 x4 (x5 + (1 : Int32))
partial_fixpoint
def F_X12_serve (I : HI) : Option (Int32 × HI) :=
  (F_X12_uses I) >>= fun r1 => if (r1 205 11) ≤ (20 : Int32) then (F_X12_throwsIf r1 (0 : Int32) (1 : Int32)) >>= fun r4 => if r4.1 = 0 then (F_X12_allThatFit r4.2) >>= fun r7 => (F_J6_bitCount_0f7a4 r4.2 r7) >>= fun r9 => L_X12_serve_47 r4.2 r7 r9 (-1 : Int32) (1000000 : Int32) (0 : Int32) else some ((0 : Int32), r4.2) else (F_X12_throwsIf r1 (1 : Int32) (1 : Int32)) >>= fun r32 => if r32.1 = 0 then (F_X12_allThatFit r32.2) >>= fun r35 => (F_J6_bitCount_0f7a4 r32.2 r35) >>= fun r37 => L_X12_serve_47 r32.2 r35 r37 (-1 : Int32) (1000000 : Int32) (0 : Int32) else some ((0 : Int32), r32.2)
set_option maxRecDepth 4000 in
set_option maxHeartbeats 4000000 in
theorem LC_X12_serve_79 {g : gX} {d : Nat} {R : rX} {P : Nat → Nat → Option Nat} {J : HJ} {I : HI} {x1 : Int32} {x2 : Int32} {x3 : Int32} {x4 : Int32} {x5 : Int32} (hp : Wp P) : ∀ (x6 : Int32) (x7 : Int32) (r : Int32 × Int32), L_X12_serve_79 I x1 x2 x3 x4 x5 x6 x7 = some r → M g mX12_serve (d + 5) (NT, NT, 0) R 130 [some (.ref 205), some (.int x1), some (.int x2), some (.int x3), some (.int x4), some (.int x5), some (.int r.1), some (.int r.2)] [] (NT, I, J, P) → M g mX12_serve (d + 5) (NT, NT, 0) R 79 [some (.ref 205), some (.int x1), some (.int x2), some (.int x3), some (.int x4), some (.int x5), some (.int x6), some (.int x7)] [] (NT, I, J, P) := by
  refine L_X12_serve_79.partial_correctness I x1 x2 x3 x4 x5 (fun x6 x7 r => M g mX12_serve (d + 5) (NT, NT, 0) R 130 [some (.ref 205), some (.int x1), some (.int x2), some (.int x3), some (.int x4), some (.int x5), some (.int r.1), some (.int r.2)] [] (NT, I, J, P) → M g mX12_serve (d + 5) (NT, NT, 0) R 79 [some (.ref 205), some (.int x1), some (.int x2), some (.int x3), some (.int x4), some (.int x5), some (.int x6), some (.int x7)] [] (NT, I, J, P)) ?_
  intro f ih x6 x7 r h hk
  refine M_iload (pc := 79) dX12_serve_79 rfl ?_
  refine M_aload_n (pc := 81) dX12_serve_81 rfl ?_
  obtain ⟨r18, hr19, h⟩ := bnd h
  refine M_callVi (pc := 82) dX12_serve_82 v_X12_62 rfl rfl at_11 (Nat.le_of_ble_eq_true rfl) (C_X12_dishes (d := d + 4) hp hr19) (Nat.le_refl _) ?_
  refine M_icmp_ge (pc := 85) (tgt := 130) dX12_serve_85 (by decide) (fun hc20 => ?_) (fun hc20 => ?_)
  · have h := (if_pos hc20).symm.trans h
    obtain rfl := Option.some.inj h
    exact hk
  · have h := (if_neg hc20).symm.trans h
    refine M_iload (pc := 88) dX12_serve_88 rfl ?_
    refine M_iload_n (pc := 90) dX12_serve_90 rfl ?_
    refine M_iload (pc := 91) dX12_serve_91 rfl ?_
    obtain ⟨r21, hr22, h⟩ := bnd h
    refine M_callSi (pc := 93) dX12_serve_93 s_X12_337 rfl rfl (Nat.le_of_ble_eq_true rfl) (C_X12_has (d := d + 4) hp hr22) (Nat.le_refl _) ?_
    refine M_if_eq (pc := 96) (tgt := 120) dX12_serve_96 (by decide) (fun hc23 => ?_) (fun hc23 => ?_)
    · have h := (if_pos hc23).symm.trans h
      refine M_iconst (pc := 120) (v := 0) dX12_serve_120 (by decide) ?_
      refine M_iadd (pc := 121) dX12_serve_121 ?_
      refine M_istore (pc := 122) (ls' := [some (.ref 205), some (.int x1), some (.int x2), some (.int x3), some (.int x4), some (.int x5), some (.int (x6 + (0 : Int32))), some (.int x7)]) dX12_serve_122 (by decide) rfl ?_
      refine M_iinc (pc := 124) (v := (x7 + (1 : Int32))) (ls' := [some (.ref 205), some (.int x1), some (.int x2), some (.int x3), some (.int x4), some (.int x5), some (.int (x6 + (0 : Int32))), some (.int (x7 + (1 : Int32)))]) dX12_serve_124 rfl rfl (by decide) rfl ?_
      refine M_goto (pc := 127) (tgt := 79) dX12_serve_127 (by decide) ?_
      exact ih (x6 + (0 : Int32)) (x7 + (1 : Int32)) _ h hk
    · have h := (if_neg hc23).symm.trans h
      refine M_aload_n (pc := 99) dX12_serve_99 rfl ?_
      refine M_iload (pc := 100) dX12_serve_100 rfl ?_
      refine M_iconst (pc := 102) (v := 5) dX12_serve_102 (by decide) ?_
      obtain ⟨r24, hr25, h⟩ := bnd h
      refine M_callVi (pc := 103) dX12_serve_103 v_X12_70 rfl rfl at_11 (Nat.le_of_ble_eq_true rfl) (C_X12_of (d := d + 3) hp hr25) (Nat.le_refl _) ?_
      refine M_aload_n (pc := 106) dX12_serve_106 rfl ?_
      refine M_iload (pc := 107) dX12_serve_107 rfl ?_
      refine M_iconst (pc := 109) (v := 5) dX12_serve_109 (by decide) ?_
      obtain ⟨r26, hr27, h⟩ := bnd h
      refine M_callVi (pc := 110) dX12_serve_110 v_X12_70 rfl rfl at_11 (Nat.le_of_ble_eq_true rfl) (C_X12_of (d := d + 3) hp hr27) (Nat.le_refl _) ?_
      refine M_icmp_gt (pc := 113) (tgt := 120) dX12_serve_113 (by decide) (fun hc28 => ?_) (fun hc28 => ?_)
      · have h := (if_pos hc28).symm.trans h
        refine M_iconst (pc := 120) (v := 0) dX12_serve_120 (by decide) ?_
        refine M_iadd (pc := 121) dX12_serve_121 ?_
        refine M_istore (pc := 122) (ls' := [some (.ref 205), some (.int x1), some (.int x2), some (.int x3), some (.int x4), some (.int x5), some (.int (x6 + (0 : Int32))), some (.int x7)]) dX12_serve_122 (by decide) rfl ?_
        refine M_iinc (pc := 124) (v := (x7 + (1 : Int32))) (ls' := [some (.ref 205), some (.int x1), some (.int x2), some (.int x3), some (.int x4), some (.int x5), some (.int (x6 + (0 : Int32))), some (.int (x7 + (1 : Int32)))]) dX12_serve_124 rfl rfl (by decide) rfl ?_
        refine M_goto (pc := 127) (tgt := 79) dX12_serve_127 (by decide) ?_
        exact ih (x6 + (0 : Int32)) (x7 + (1 : Int32)) _ h hk
      · have h := (if_neg hc28).symm.trans h
        refine M_iconst (pc := 116) (v := 1) dX12_serve_116 (by decide) ?_
        refine M_goto (pc := 117) (tgt := 121) dX12_serve_117 (by decide) ?_
        refine M_iadd (pc := 121) dX12_serve_121 ?_
        refine M_istore (pc := 122) (ls' := [some (.ref 205), some (.int x1), some (.int x2), some (.int x3), some (.int x4), some (.int x5), some (.int (x6 + (1 : Int32))), some (.int x7)]) dX12_serve_122 (by decide) rfl ?_
        refine M_iinc (pc := 124) (v := (x7 + (1 : Int32))) (ls' := [some (.ref 205), some (.int x1), some (.int x2), some (.int x3), some (.int x4), some (.int x5), some (.int (x6 + (1 : Int32))), some (.int (x7 + (1 : Int32)))]) dX12_serve_124 rfl rfl (by decide) rfl ?_
        refine M_goto (pc := 127) (tgt := 79) dX12_serve_127 (by decide) ?_
        exact ih (x6 + (1 : Int32)) (x7 + (1 : Int32)) _ h hk
set_option maxRecDepth 4000 in
set_option maxHeartbeats 4000000 in
theorem LC_X12_serve_47 {g : gX} {d : Nat} {P : Nat → Nat → Option Nat} {J : HJ} {I : HI} {x1 : Int32} {x2 : Int32} (hp : Wp P) : ∀ (x3 : Int32) (x4 : Int32) (x5 : Int32) (r : Int32 × HI), L_X12_serve_47 I x1 x2 x3 x4 x5 = some r → M g mX12_serve (d + 5) (NT, NT, 0) ((.inl (some (.int r.1))), (NT, r.2, J, P)) 47 [some (.ref 205), some (.int x1), some (.int x2), some (.int x3), some (.int x4), some (.int x5), none, none] [] (NT, I, J, P) := by
  refine L_X12_serve_47.partial_correctness I x1 x2 (fun x3 x4 x5 r => M g mX12_serve (d + 5) (NT, NT, 0) ((.inl (some (.int r.1))), (NT, r.2, J, P)) 47 [some (.ref 205), some (.int x1), some (.int x2), some (.int x3), some (.int x4), some (.int x5), none, none] [] (NT, I, J, P)) ?_
  intro f ih x3 x4 x5 r h
  refine M_iload (pc := 47) dX12_serve_47 rfl ?_
  refine M_aload_n (pc := 49) dX12_serve_49 rfl ?_
  obtain ⟨r11, hr12, h⟩ := bnd h
  refine M_callVi (pc := 50) dX12_serve_50 v_X12_62 rfl rfl at_11 (Nat.le_of_ble_eq_true rfl) (C_X12_dishes (d := d + 4) hp hr12) (Nat.le_refl _) ?_
  refine M_icmp_ge (pc := 53) (tgt := 170) dX12_serve_53 (by decide) (fun hc13 => ?_) (fun hc13 => ?_)
  · have h := (if_pos hc13).symm.trans h
    refine M_iload_n (pc := 170) dX12_serve_170 rfl ?_
    obtain rfl := Option.some.inj h
    exact M_iret (pc := 171) dX12_serve_171 rfl rfl rfl rfl
  · have h := (if_neg hc13).symm.trans h
    refine M_iload_n (pc := 56) dX12_serve_56 rfl ?_
    refine M_iconst (pc := 57) (v := 1) dX12_serve_57 (by decide) ?_
    refine M_icmp_le (pc := 58) (tgt := 170) dX12_serve_58 (by decide) (fun hc14 => ?_) (fun hc14 => ?_)
    · have h := (if_pos hc14).symm.trans h
      refine M_iload_n (pc := 170) dX12_serve_170 rfl ?_
      obtain rfl := Option.some.inj h
      exact M_iret (pc := 171) dX12_serve_171 rfl rfl rfl rfl
    · have h := (if_neg hc14).symm.trans h
      refine M_aload_n (pc := 61) dX12_serve_61 rfl ?_
      refine M_iload (pc := 62) dX12_serve_62 rfl ?_
      obtain ⟨r15, hr16, h⟩ := bnd h
      refine M_callVi (pc := 64) dX12_serve_64 v_X12_252 rfl rfl at_11 (Nat.le_of_ble_eq_true rfl) (C_X12_isNew (d := d + 2) hp hr16) (Nat.le_refl _) ?_
      refine M_if_eq (pc := 67) (tgt := 73) dX12_serve_67 (by decide) (fun hc17 => ?_) (fun hc17 => ?_)
      · have h := (if_pos hc17).symm.trans h
        refine M_iconst (pc := 73) (v := 0) dX12_serve_73 (by decide) ?_
        refine M_istore (pc := 74) (ls' := [some (.ref 205), some (.int x1), some (.int x2), some (.int x3), some (.int x4), some (.int x5), some (.int (0 : Int32)), none]) dX12_serve_74 (by decide) rfl ?_
        refine M_iconst (pc := 76) (v := 0) dX12_serve_76 (by decide) ?_
        refine M_istore (pc := 77) (ls' := [some (.ref 205), some (.int x1), some (.int x2), some (.int x3), some (.int x4), some (.int x5), some (.int (0 : Int32)), some (.int (0 : Int32))]) dX12_serve_77 (by decide) rfl ?_
        obtain ⟨r29, hr30, h⟩ := bnd h
        refine LC_X12_serve_79 (P := P) hp (0 : Int32) (0 : Int32) _ hr30 ?_
        refine M_iload (pc := 130) dX12_serve_130 rfl ?_
        refine M_iload_n (pc := 132) dX12_serve_132 rfl ?_
        refine M_iload (pc := 133) dX12_serve_133 rfl ?_
        refine M_isub (pc := 135) dX12_serve_135 ?_
        refine M_mmax (pc := 136) dX12_serve_136 mm_X12_293.1 mm_X12_293.2.1 mm_X12_293.2.2.1 mm_X12_293.2.2.2 (Nat.le_of_ble_eq_true rfl) ?_
        refine M_istore (pc := 139) (ls' := [some (.ref 205), some (.int x1), some (.int x2), some (.int x3), some (.int x4), some (.int x5), some (.int r29.1), some (.int (if r29.1 < (x2 - r29.1) then (x2 - r29.1) else r29.1))]) dX12_serve_139 (by decide) rfl ?_
        refine M_iload (pc := 141) dX12_serve_141 rfl ?_
        refine M_iload (pc := 143) dX12_serve_143 rfl ?_
        refine M_icmp_ge (pc := 145) (tgt := 153) dX12_serve_145 (by decide) (fun hc31 => ?_) (fun hc31 => ?_)
        · have h := (if_pos hc31).symm.trans h
          refine M_iload_n (pc := 153) dX12_serve_153 rfl ?_
          refine M_istore_n (pc := 154) (ls' := [some (.ref 205), some (.int x1), some (.int x2), some (.int x3), some (.int x4), some (.int x5), some (.int r29.1), some (.int (if r29.1 < (x2 - r29.1) then (x2 - r29.1) else r29.1))]) dX12_serve_154 (by decide) rfl ?_
          refine M_iload (pc := 155) dX12_serve_155 rfl ?_
          refine M_iload (pc := 157) dX12_serve_157 rfl ?_
          refine M_mmin (pc := 159) dX12_serve_159 mm_X12_259.1 mm_X12_259.2.1 mm_X12_259.2.2.1 mm_X12_259.2.2.2 (Nat.le_of_ble_eq_true rfl) ?_
          refine M_istore (pc := 162) (ls' := [some (.ref 205), some (.int x1), some (.int x2), some (.int x3), some (.int (if (if r29.1 < (x2 - r29.1) then (x2 - r29.1) else r29.1) < x4 then (if r29.1 < (x2 - r29.1) then (x2 - r29.1) else r29.1) else x4)), some (.int x5), some (.int r29.1), some (.int (if r29.1 < (x2 - r29.1) then (x2 - r29.1) else r29.1))]) dX12_serve_162 (by decide) rfl ?_
          refine M_iinc (pc := 164) (v := (x5 + (1 : Int32))) (ls' := [some (.ref 205), some (.int x1), some (.int x2), some (.int x3), some (.int (if (if r29.1 < (x2 - r29.1) then (x2 - r29.1) else r29.1) < x4 then (if r29.1 < (x2 - r29.1) then (x2 - r29.1) else r29.1) else x4)), some (.int (x5 + (1 : Int32))), some (.int r29.1), some (.int (if r29.1 < (x2 - r29.1) then (x2 - r29.1) else r29.1))]) dX12_serve_164 rfl rfl (by decide) rfl ?_
          refine M_goto (pc := 167) (tgt := 47) dX12_serve_167 (by decide) ?_
          refine M_mask (pc := 47) [true, true, true, true, true, true, false, false] rfl ?_
          exact ih x3 (if (if r29.1 < (x2 - r29.1) then (x2 - r29.1) else r29.1) < x4 then (if r29.1 < (x2 - r29.1) then (x2 - r29.1) else r29.1) else x4) (x5 + (1 : Int32)) _ h
        · have h := (if_neg hc31).symm.trans h
          refine M_iload (pc := 148) dX12_serve_148 rfl ?_
          refine M_goto (pc := 150) (tgt := 154) dX12_serve_150 (by decide) ?_
          refine M_istore_n (pc := 154) (ls' := [some (.ref 205), some (.int x1), some (.int x2), some (.int x5), some (.int x4), some (.int x5), some (.int r29.1), some (.int (if r29.1 < (x2 - r29.1) then (x2 - r29.1) else r29.1))]) dX12_serve_154 (by decide) rfl ?_
          refine M_iload (pc := 155) dX12_serve_155 rfl ?_
          refine M_iload (pc := 157) dX12_serve_157 rfl ?_
          refine M_mmin (pc := 159) dX12_serve_159 mm_X12_259.1 mm_X12_259.2.1 mm_X12_259.2.2.1 mm_X12_259.2.2.2 (Nat.le_of_ble_eq_true rfl) ?_
          refine M_istore (pc := 162) (ls' := [some (.ref 205), some (.int x1), some (.int x2), some (.int x5), some (.int (if (if r29.1 < (x2 - r29.1) then (x2 - r29.1) else r29.1) < x4 then (if r29.1 < (x2 - r29.1) then (x2 - r29.1) else r29.1) else x4)), some (.int x5), some (.int r29.1), some (.int (if r29.1 < (x2 - r29.1) then (x2 - r29.1) else r29.1))]) dX12_serve_162 (by decide) rfl ?_
          refine M_iinc (pc := 164) (v := (x5 + (1 : Int32))) (ls' := [some (.ref 205), some (.int x1), some (.int x2), some (.int x5), some (.int (if (if r29.1 < (x2 - r29.1) then (x2 - r29.1) else r29.1) < x4 then (if r29.1 < (x2 - r29.1) then (x2 - r29.1) else r29.1) else x4)), some (.int (x5 + (1 : Int32))), some (.int r29.1), some (.int (if r29.1 < (x2 - r29.1) then (x2 - r29.1) else r29.1))]) dX12_serve_164 rfl rfl (by decide) rfl ?_
          refine M_goto (pc := 167) (tgt := 47) dX12_serve_167 (by decide) ?_
          refine M_mask (pc := 47) [true, true, true, true, true, true, false, false] rfl ?_
          exact ih x5 (if (if r29.1 < (x2 - r29.1) then (x2 - r29.1) else r29.1) < x4 then (if r29.1 < (x2 - r29.1) then (x2 - r29.1) else r29.1) else x4) (x5 + (1 : Int32)) _ h
      · have h := (if_neg hc17).symm.trans h
        refine M_goto (pc := 70) (tgt := 164) dX12_serve_70 (by decide) ?_
        refine M_iinc (pc := 164) (v := (x5 + (1 : Int32))) (ls' := [some (.ref 205), some (.int x1), some (.int x2), some (.int x3), some (.int x4), some (.int (x5 + (1 : Int32))), none, none]) dX12_serve_164 rfl rfl (by decide) rfl ?_
        refine M_goto (pc := 167) (tgt := 47) dX12_serve_167 (by decide) ?_
        exact ih x3 x4 (x5 + (1 : Int32)) _ h
set_option maxRecDepth 4000 in
set_option maxHeartbeats 4000000 in
theorem C_X12_serve {g : gX} {d : Nat} {P : Nat → Nat → Option Nat} {I : HI} {J : HJ} (hp : Wp P) {r : Int32 × HI} (h : F_X12_serve I = some r) : Cm g mX12_serve (d + 5) [.ref 205] (NT, I, J, P) (some (.int r.1)) (NT, r.2, J, P) := by
  unfold F_X12_serve at h
  refine Cm.of (by decide) (by simp [Value.category]) (Nat.le_of_ble_eq_true rfl) (Nat.le_refl _) (ls := [some (.ref 205), none, none, none, none, none, none, none]) rfl ?_
  refine M_aload_n (pc := 0) dX12_serve_0 rfl ?_
  obtain ⟨r1, hr2, h⟩ := bnd h
  refine M_callVv (pc := 1) dX12_serve_1 v_X12_232 rfl rfl at_11 (Nat.le_of_ble_eq_true rfl) (C_X12_uses (d := d + 4) hp hr2) (Nat.le_refl _) ?_
  refine M_aload_n (pc := 4) dX12_serve_4 rfl ?_
  refine M_aload_n (pc := 5) dX12_serve_5 rfl ?_
  refine M_getI (pc := 6) dX12_serve_6 f_X12_84 at_11 ?_
  refine M_bipush (pc := 9) (v := 20) dX12_serve_9 (by decide) ?_
  refine M_icmp_le (pc := 11) (tgt := 18) dX12_serve_11 (by decide) (fun hc3 => ?_) (fun hc3 => ?_)
  · have h := (if_pos hc3).symm.trans h
    refine M_iconst (pc := 18) (v := 0) dX12_serve_18 (by decide) ?_
    refine M_iconst (pc := 19) (v := 1) dX12_serve_19 (by decide) ?_
    obtain ⟨r4, hr5, h⟩ := bnd h
    refine M_callVi (pc := 20) dX12_serve_20 v_X12_243 rfl rfl at_11 (Nat.le_of_ble_eq_true rfl) (C_X12_throwsIf (d := d + 4) hp hr5) (Nat.le_refl _) ?_
    refine M_if_eq (pc := 23) (tgt := 28) dX12_serve_23 (by decide) (fun hc6 => ?_) (fun hc6 => ?_)
    · have h := (if_pos hc6).symm.trans h
      refine M_aload_n (pc := 28) dX12_serve_28 rfl ?_
      obtain ⟨r7, hr8, h⟩ := bnd h
      refine M_callVi (pc := 29) dX12_serve_29 v_X12_365 rfl rfl at_11 (Nat.le_of_ble_eq_true rfl) (C_X12_allThatFit (d := d + 0) hp hr8) (Nat.le_refl _) ?_
      refine M_istore_n (pc := 32) (ls' := [some (.ref 205), some (.int r7), none, none, none, none, none, none]) dX12_serve_32 (by decide) rfl ?_
      refine M_iload_n (pc := 33) dX12_serve_33 rfl ?_
      obtain ⟨r9, hr10, h⟩ := bnd h
      refine M_callSi (pc := 34) dX12_serve_34 s_X12_329 rfl rfl (Nat.le_of_ble_eq_true rfl) (C_J6_bitCount_0f7a4 (d := d + 4) hp hr10) (Nat.le_refl _) ?_
      refine M_istore_n (pc := 37) (ls' := [some (.ref 205), some (.int r7), some (.int r9), none, none, none, none, none]) dX12_serve_37 (by decide) rfl ?_
      refine M_iconst (pc := 38) (v := -1) dX12_serve_38 (by decide) ?_
      refine M_istore_n (pc := 39) (ls' := [some (.ref 205), some (.int r7), some (.int r9), some (.int (-1 : Int32)), none, none, none, none]) dX12_serve_39 (by decide) rfl ?_
      refine M_ldc (pc := 40) (v := 1000000) dX12_serve_40 w_1645 ?_
      refine M_istore (pc := 42) (ls' := [some (.ref 205), some (.int r7), some (.int r9), some (.int (-1 : Int32)), some (.int (1000000 : Int32)), none, none, none]) dX12_serve_42 (by decide) rfl ?_
      refine M_iconst (pc := 44) (v := 0) dX12_serve_44 (by decide) ?_
      refine M_istore (pc := 45) (ls' := [some (.ref 205), some (.int r7), some (.int r9), some (.int (-1 : Int32)), some (.int (1000000 : Int32)), some (.int (0 : Int32)), none, none]) dX12_serve_45 (by decide) rfl ?_
      exact LC_X12_serve_47 (P := P) hp (-1 : Int32) (1000000 : Int32) (0 : Int32) _ h
    · have h := (if_neg hc6).symm.trans h
      refine M_iconst (pc := 26) (v := 0) dX12_serve_26 (by decide) ?_
      obtain rfl := Option.some.inj h
      exact M_iret (pc := 27) dX12_serve_27 rfl rfl rfl rfl
  · have h := (if_neg hc3).symm.trans h
    refine M_iconst (pc := 14) (v := 1) dX12_serve_14 (by decide) ?_
    refine M_goto (pc := 15) (tgt := 19) dX12_serve_15 (by decide) ?_
    refine M_iconst (pc := 19) (v := 1) dX12_serve_19 (by decide) ?_
    obtain ⟨r32, hr33, h⟩ := bnd h
    refine M_callVi (pc := 20) dX12_serve_20 v_X12_243 rfl rfl at_11 (Nat.le_of_ble_eq_true rfl) (C_X12_throwsIf (d := d + 4) hp hr33) (Nat.le_refl _) ?_
    refine M_if_eq (pc := 23) (tgt := 28) dX12_serve_23 (by decide) (fun hc34 => ?_) (fun hc34 => ?_)
    · have h := (if_pos hc34).symm.trans h
      refine M_aload_n (pc := 28) dX12_serve_28 rfl ?_
      obtain ⟨r35, hr36, h⟩ := bnd h
      refine M_callVi (pc := 29) dX12_serve_29 v_X12_365 rfl rfl at_11 (Nat.le_of_ble_eq_true rfl) (C_X12_allThatFit (d := d + 0) hp hr36) (Nat.le_refl _) ?_
      refine M_istore_n (pc := 32) (ls' := [some (.ref 205), some (.int r35), none, none, none, none, none, none]) dX12_serve_32 (by decide) rfl ?_
      refine M_iload_n (pc := 33) dX12_serve_33 rfl ?_
      obtain ⟨r37, hr38, h⟩ := bnd h
      refine M_callSi (pc := 34) dX12_serve_34 s_X12_329 rfl rfl (Nat.le_of_ble_eq_true rfl) (C_J6_bitCount_0f7a4 (d := d + 4) hp hr38) (Nat.le_refl _) ?_
      refine M_istore_n (pc := 37) (ls' := [some (.ref 205), some (.int r35), some (.int r37), none, none, none, none, none]) dX12_serve_37 (by decide) rfl ?_
      refine M_iconst (pc := 38) (v := -1) dX12_serve_38 (by decide) ?_
      refine M_istore_n (pc := 39) (ls' := [some (.ref 205), some (.int r35), some (.int r37), some (.int (-1 : Int32)), none, none, none, none]) dX12_serve_39 (by decide) rfl ?_
      refine M_ldc (pc := 40) (v := 1000000) dX12_serve_40 w_1645 ?_
      refine M_istore (pc := 42) (ls' := [some (.ref 205), some (.int r35), some (.int r37), some (.int (-1 : Int32)), some (.int (1000000 : Int32)), none, none, none]) dX12_serve_42 (by decide) rfl ?_
      refine M_iconst (pc := 44) (v := 0) dX12_serve_44 (by decide) ?_
      refine M_istore (pc := 45) (ls' := [some (.ref 205), some (.int r35), some (.int r37), some (.int (-1 : Int32)), some (.int (1000000 : Int32)), some (.int (0 : Int32)), none, none]) dX12_serve_45 (by decide) rfl ?_
      exact LC_X12_serve_47 (P := P) hp (-1 : Int32) (1000000 : Int32) (0 : Int32) _ h
    · have h := (if_neg hc34).symm.trans h
      refine M_iconst (pc := 26) (v := 0) dX12_serve_26 (by decide) ?_
      obtain rfl := Option.some.inj h
      exact M_iret (pc := 27) dX12_serve_27 rfl rfl rfl rfl
def L_X12_laysLeast_34 (x1 : Int32) (x2 : Int32) (x3 : Int32) (x4 : Int32) (I : HI) : Option (Int32 × HI) :=
  (F_X12_dishes I) >>= fun r8 => if r8 ≤ x4 then some (x4, I) else if x1 ≤ x3 then some (x4, I) else (ald 4096 (I 216) x2) >>= fun v12 => (F_X12_farBy I x3 x2 x4) >>= fun r14 => if inB x2 4096 = true then L_X12_laysLeast_34 x1 x2 x3 (x4 + (1 : Int32)) (up2 I 216 (x2).toNatClampNeg (if r14 < v12 then r14 else v12)) else none
partial_fixpoint
def L_X12_laysLeast_5 (x1 : Int32) (x2 : Int32) (I : HI) : Option (HI) :=
  if x2 < 0 then some I else (F_J6_bitCount_0f7a4 I x2) >>= fun r4 => if r4 < x1 then if inB x2 4096 = true then (L_X12_laysLeast_34 x1 x2 r4 (0 : Int32) (up2 I 216 (x2).toNatClampNeg (1000000 : Int32))) >>= fun r17 => L_X12_laysLeast_5 x1 (x2 + (-1 : Int32)) r17.2 else none else if inB x2 4096 = true then (L_X12_laysLeast_34 x1 x2 r4 (0 : Int32) (up2 I 216 (x2).toNatClampNeg (0 : Int32))) >>= fun r20 => L_X12_laysLeast_5 x1 (x2 + (-1 : Int32)) r20.2 else none
partial_fixpoint
def F_X12_laysLeast (I : HI) (x1 : Int32) : Option (HI) :=
  (F_X12_allDishes I) >>= fun r1 => L_X12_laysLeast_5 x1 r1 I
set_option maxRecDepth 4000 in
set_option maxHeartbeats 4000000 in
theorem LC_X12_laysLeast_34 {g : gX} {d : Nat} {R : rX} {P : Nat → Nat → Option Nat} {J : HJ} {x1 : Int32} {x2 : Int32} {x3 : Int32} (hp : Wp P) : ∀ (x4 : Int32) (I : HI) (r : Int32 × HI), L_X12_laysLeast_34 x1 x2 x3 x4 I = some r → M g mX12_laysLeast (d + 4) (NT, NT, 0) R 77 [some (.ref 205), some (.int x1), some (.int x2), some (.int x3), some (.int r.1)] [] (NT, r.2, J, P) → M g mX12_laysLeast (d + 4) (NT, NT, 0) R 34 [some (.ref 205), some (.int x1), some (.int x2), some (.int x3), some (.int x4)] [] (NT, I, J, P) := by
  refine L_X12_laysLeast_34.partial_correctness x1 x2 x3 (fun x4 I r => M g mX12_laysLeast (d + 4) (NT, NT, 0) R 77 [some (.ref 205), some (.int x1), some (.int x2), some (.int x3), some (.int r.1)] [] (NT, r.2, J, P) → M g mX12_laysLeast (d + 4) (NT, NT, 0) R 34 [some (.ref 205), some (.int x1), some (.int x2), some (.int x3), some (.int x4)] [] (NT, I, J, P)) ?_
  intro f ih x4 I r h hk
  refine M_iload (pc := 34) dX12_laysLeast_34 rfl ?_
  refine M_aload_n (pc := 36) dX12_laysLeast_36 rfl ?_
  obtain ⟨r8, hr9, h⟩ := bnd h
  refine M_callVi (pc := 37) dX12_laysLeast_37 v_X12_62 rfl rfl at_11 (Nat.le_of_ble_eq_true rfl) (C_X12_dishes (d := d + 3) hp hr9) (Nat.le_refl _) ?_
  refine M_icmp_ge (pc := 40) (tgt := 77) dX12_laysLeast_40 (by decide) (fun hc10 => ?_) (fun hc10 => ?_)
  · have h := (if_pos hc10).symm.trans h
    obtain rfl := Option.some.inj h
    exact hk
  · have h := (if_neg hc10).symm.trans h
    refine M_iload_n (pc := 43) dX12_laysLeast_43 rfl ?_
    refine M_iload_n (pc := 44) dX12_laysLeast_44 rfl ?_
    refine M_icmp_ge (pc := 45) (tgt := 77) dX12_laysLeast_45 (by decide) (fun hc11 => ?_) (fun hc11 => ?_)
    · have h := (if_pos hc11).symm.trans h
      obtain rfl := Option.some.inj h
      exact hk
    · have h := (if_neg hc11).symm.trans h
      refine M_aload_n (pc := 48) dX12_laysLeast_48 rfl ?_
      refine M_getR (pc := 49) dX12_laysLeast_49 f_X12_48 at_11 (gr_11_20 hp at_11).1 ?_
      refine M_iload_n (pc := 52) dX12_laysLeast_52 rfl ?_
      refine M_aload_n (pc := 53) dX12_laysLeast_53 rfl ?_
      refine M_getR (pc := 54) dX12_laysLeast_54 f_X12_48 at_11 (gr_11_20 hp at_11).1 ?_
      refine M_iload_n (pc := 57) dX12_laysLeast_57 rfl ?_
      obtain ⟨v12, hv13, h⟩ := bnd h
      refine M_aldI (pc := 58) dX12_laysLeast_58 (gr_11_20 hp at_11).2 hv13 ?_
      refine M_aload_n (pc := 59) dX12_laysLeast_59 rfl ?_
      refine M_iload_n (pc := 60) dX12_laysLeast_60 rfl ?_
      refine M_iload_n (pc := 61) dX12_laysLeast_61 rfl ?_
      refine M_iload (pc := 62) dX12_laysLeast_62 rfl ?_
      obtain ⟨r14, hr15, h⟩ := bnd h
      refine M_callVi (pc := 64) dX12_laysLeast_64 v_X12_371 rfl rfl at_11 (Nat.le_of_ble_eq_true rfl) (C_X12_farBy (d := d + 0) hp hr15) (Nat.le_refl _) ?_
      refine M_mmin (pc := 67) dX12_laysLeast_67 mm_X12_259.1 mm_X12_259.2.1 mm_X12_259.2.2.1 mm_X12_259.2.2.2 (Nat.le_of_ble_eq_true rfl) ?_
      obtain ⟨hb16, h⟩ := chk h
      refine M_iast (pc := 70) dX12_laysLeast_70 (gr_11_20 hp at_11).2 (inB_in hb16) ?_
      refine M_iinc (pc := 71) (v := (x4 + (1 : Int32))) (ls' := [some (.ref 205), some (.int x1), some (.int x2), some (.int x3), some (.int (x4 + (1 : Int32)))]) dX12_laysLeast_71 rfl rfl (by decide) rfl ?_
      refine M_goto (pc := 74) (tgt := 34) dX12_laysLeast_74 (by decide) ?_
      exact ih (x4 + (1 : Int32)) (up2 I 216 (x2).toNatClampNeg (if r14 < v12 then r14 else v12)) _ h hk
set_option maxRecDepth 4000 in
set_option maxHeartbeats 4000000 in
theorem LC_X12_laysLeast_5 {g : gX} {d : Nat} {P : Nat → Nat → Option Nat} {J : HJ} {x1 : Int32} (hp : Wp P) : ∀ (x2 : Int32) (I : HI) (r : HI), L_X12_laysLeast_5 x1 x2 I = some r → M g mX12_laysLeast (d + 4) (NT, NT, 0) ((.inl none), (NT, r, J, P)) 5 [some (.ref 205), some (.int x1), some (.int x2), none, none] [] (NT, I, J, P) := by
  refine L_X12_laysLeast_5.partial_correctness x1 (fun x2 I r => M g mX12_laysLeast (d + 4) (NT, NT, 0) ((.inl none), (NT, r, J, P)) 5 [some (.ref 205), some (.int x1), some (.int x2), none, none] [] (NT, I, J, P)) ?_
  intro f ih x2 I r h
  refine M_iload_n (pc := 5) dX12_laysLeast_5 rfl ?_
  refine M_if_lt (pc := 6) (tgt := 83) dX12_laysLeast_6 (by decide) (fun hc3 => ?_) (fun hc3 => ?_)
  · have h := (if_pos hc3).symm.trans h
    obtain rfl := Option.some.inj h
    exact M_vret (pc := 83) dX12_laysLeast_83 rfl rfl rfl
  · have h := (if_neg hc3).symm.trans h
    refine M_iload_n (pc := 9) dX12_laysLeast_9 rfl ?_
    obtain ⟨r4, hr5, h⟩ := bnd h
    refine M_callSi (pc := 10) dX12_laysLeast_10 s_X12_329 rfl rfl (Nat.le_of_ble_eq_true rfl) (C_J6_bitCount_0f7a4 (d := d + 3) hp hr5) (Nat.le_refl _) ?_
    refine M_istore_n (pc := 13) (ls' := [some (.ref 205), some (.int x1), some (.int x2), some (.int r4), none]) dX12_laysLeast_13 (by decide) rfl ?_
    refine M_aload_n (pc := 14) dX12_laysLeast_14 rfl ?_
    refine M_getR (pc := 15) dX12_laysLeast_15 f_X12_48 at_11 (gr_11_20 hp at_11).1 ?_
    refine M_iload_n (pc := 18) dX12_laysLeast_18 rfl ?_
    refine M_iload_n (pc := 19) dX12_laysLeast_19 rfl ?_
    refine M_iload_n (pc := 20) dX12_laysLeast_20 rfl ?_
    refine M_icmp_lt (pc := 21) (tgt := 28) dX12_laysLeast_21 (by decide) (fun hc6 => ?_) (fun hc6 => ?_)
    · have h := (if_pos hc6).symm.trans h
      refine M_ldc (pc := 28) (v := 1000000) dX12_laysLeast_28 w_1645 ?_
      obtain ⟨hb7, h⟩ := chk h
      refine M_iast (pc := 30) dX12_laysLeast_30 (gr_11_20 hp at_11).2 (inB_in hb7) ?_
      refine M_iconst (pc := 31) (v := 0) dX12_laysLeast_31 (by decide) ?_
      refine M_istore (pc := 32) (ls' := [some (.ref 205), some (.int x1), some (.int x2), some (.int r4), some (.int (0 : Int32))]) dX12_laysLeast_32 (by decide) rfl ?_
      obtain ⟨r17, hr18, h⟩ := bnd h
      refine LC_X12_laysLeast_34 (P := P) hp (0 : Int32) (up2 I 216 (x2).toNatClampNeg (1000000 : Int32)) _ hr18 ?_
      refine M_iinc (pc := 77) (v := (x2 + (-1 : Int32))) (ls' := [some (.ref 205), some (.int x1), some (.int (x2 + (-1 : Int32))), some (.int r4), some (.int r17.1)]) dX12_laysLeast_77 rfl rfl (by decide) rfl ?_
      refine M_goto (pc := 80) (tgt := 5) dX12_laysLeast_80 (by decide) ?_
      refine M_mask (pc := 5) [true, true, true, false, false] rfl ?_
      exact ih (x2 + (-1 : Int32)) r17.2 _ h
    · have h := (if_neg hc6).symm.trans h
      refine M_iconst (pc := 24) (v := 0) dX12_laysLeast_24 (by decide) ?_
      refine M_goto (pc := 25) (tgt := 30) dX12_laysLeast_25 (by decide) ?_
      obtain ⟨hb19, h⟩ := chk h
      refine M_iast (pc := 30) dX12_laysLeast_30 (gr_11_20 hp at_11).2 (inB_in hb19) ?_
      refine M_iconst (pc := 31) (v := 0) dX12_laysLeast_31 (by decide) ?_
      refine M_istore (pc := 32) (ls' := [some (.ref 205), some (.int x1), some (.int x2), some (.int r4), some (.int (0 : Int32))]) dX12_laysLeast_32 (by decide) rfl ?_
      obtain ⟨r20, hr21, h⟩ := bnd h
      refine LC_X12_laysLeast_34 (P := P) hp (0 : Int32) (up2 I 216 (x2).toNatClampNeg (0 : Int32)) _ hr21 ?_
      refine M_iinc (pc := 77) (v := (x2 + (-1 : Int32))) (ls' := [some (.ref 205), some (.int x1), some (.int (x2 + (-1 : Int32))), some (.int r4), some (.int r20.1)]) dX12_laysLeast_77 rfl rfl (by decide) rfl ?_
      refine M_goto (pc := 80) (tgt := 5) dX12_laysLeast_80 (by decide) ?_
      refine M_mask (pc := 5) [true, true, true, false, false] rfl ?_
      exact ih (x2 + (-1 : Int32)) r20.2 _ h
set_option maxRecDepth 4000 in
set_option maxHeartbeats 4000000 in
theorem C_X12_laysLeast {g : gX} {d : Nat} {P : Nat → Nat → Option Nat} {I : HI} {x1 : Int32} {J : HJ} (hp : Wp P) {r : HI} (h : F_X12_laysLeast I x1 = some r) : Cm g mX12_laysLeast (d + 4) [.ref 205, .int x1] (NT, I, J, P) none (NT, r, J, P) := by
  unfold F_X12_laysLeast at h
  refine Cm.of (by decide) (by simp [Value.category]) (Nat.le_of_ble_eq_true rfl) (Nat.le_refl _) (ls := [some (.ref 205), some (.int x1), none, none, none]) rfl ?_
  refine M_aload_n (pc := 0) dX12_laysLeast_0 rfl ?_
  obtain ⟨r1, hr2, h⟩ := bnd h
  refine M_callVi (pc := 1) dX12_laysLeast_1 v_X12_340 rfl rfl at_11 (Nat.le_of_ble_eq_true rfl) (C_X12_allDishes (d := d + 2) hp hr2) (Nat.le_refl _) ?_
  refine M_istore_n (pc := 4) (ls' := [some (.ref 205), some (.int x1), some (.int r1), none, none]) dX12_laysLeast_4 (by decide) rfl ?_
  exact LC_X12_laysLeast_5 (P := P) hp r1 I _ h
def L_X12_jars_90 (I : HI) (x1 : Int32) (x3 : Int32) (x5 : Int32) (x4 : Int32) : Option (Int32) :=
  (F_X12_farBy I x5 x3 x4) >>= fun r19 => (ald 4096 (I 216) x3) >>= fun v21 => if r19 = v21 then some x4 else L_X12_jars_90 I x1 x3 x5 (x4 + (1 : Int32))
partial_fixpoint
def L_X12_jars_81 (I : HI) (x1 : Int32) (x3 : Int32) (x4 : Int32) (x5 : Int32) : Option (Int32 × HI) :=
  if x1 < x5 then some (x4, I) else (L_X12_jars_90 I x1 x3 x5 (0 : Int32)) >>= fun r24 => L_X12_jars_81 I x1 (x3 ||| ((1 : Int32) <<< (r24 &&& 31))) r24 (x5 + (1 : Int32))
partial_fixpoint
def F_X12_jars (I : HI) (x1 : Int32) : Option (Int32 × HI) :=
  (F_X12_uses I) >>= fun r1 => (F_X12_areJars r1) >>= fun r3 => if r3 = 0 then (F_X12_throwsIf r1 (1 : Int32) (1 : Int32)) >>= fun r26 => if r26.1 = 0 then (F_X12_dishes r26.2) >>= fun r29 => if ((r26.2 205 11) / (5 : Int32)) ≤ r29 then (F_X12_laysLeast r26.2 ((r26.2 205 11) / (5 : Int32))) >>= fun r32 => if x1 = (-1 : Int32) then some ((r32 216 0), r32) else (F_X12_in r32 x1 (0 : Int32) (((r26.2 205 11) / (5 : Int32)) - (1 : Int32))) >>= fun r35 => if r35 = 0 then some ((-1 : Int32), r32) else L_X12_jars_81 r32 x1 (0 : Int32) (0 : Int32) (0 : Int32) else some ((-1 : Int32), r26.2) else some ((0 : Int32), r26.2) else (F_X12_throwsIf r1 (0 : Int32) (1 : Int32)) >>= fun r6 => if r6.1 = 0 then (F_X12_dishes r6.2) >>= fun r9 => if ((r6.2 205 11) / (5 : Int32)) ≤ r9 then (F_X12_laysLeast r6.2 ((r6.2 205 11) / (5 : Int32))) >>= fun r12 => if x1 = (-1 : Int32) then some ((r12 216 0), r12) else (F_X12_in r12 x1 (0 : Int32) (((r6.2 205 11) / (5 : Int32)) - (1 : Int32))) >>= fun r15 => if r15 = 0 then some ((-1 : Int32), r12) else L_X12_jars_81 r12 x1 (0 : Int32) (0 : Int32) (0 : Int32) else some ((-1 : Int32), r6.2) else some ((0 : Int32), r6.2)
set_option maxRecDepth 4000 in
set_option maxHeartbeats 4000000 in
theorem LC_X12_jars_90 {g : gX} {d : Nat} {R : rX} {P : Nat → Nat → Option Nat} {J : HJ} {I : HI} {x1 : Int32} {x3 : Int32} {x5 : Int32} (hp : Wp P) : ∀ (x4 : Int32) (r : Int32), L_X12_jars_90 I x1 x3 x5 x4 = some r → M g mX12_jars (d + 5) (NT, NT, 0) R 114 [some (.ref 205), some (.int x1), none, some (.int x3), some (.int r), some (.int x5)] [] (NT, I, J, P) → M g mX12_jars (d + 5) (NT, NT, 0) R 90 [some (.ref 205), some (.int x1), none, some (.int x3), some (.int x4), some (.int x5)] [] (NT, I, J, P) := by
  refine L_X12_jars_90.partial_correctness I x1 x3 x5 (fun x4 r => M g mX12_jars (d + 5) (NT, NT, 0) R 114 [some (.ref 205), some (.int x1), none, some (.int x3), some (.int r), some (.int x5)] [] (NT, I, J, P) → M g mX12_jars (d + 5) (NT, NT, 0) R 90 [some (.ref 205), some (.int x1), none, some (.int x3), some (.int x4), some (.int x5)] [] (NT, I, J, P)) ?_
  intro f ih x4 r h hk
  refine M_aload_n (pc := 90) dX12_jars_90 rfl ?_
  refine M_iload (pc := 91) dX12_jars_91 rfl ?_
  refine M_iload_n (pc := 93) dX12_jars_93 rfl ?_
  refine M_iload (pc := 94) dX12_jars_94 rfl ?_
  obtain ⟨r19, hr20, h⟩ := bnd h
  refine M_callVi (pc := 96) dX12_jars_96 v_X12_371 rfl rfl at_11 (Nat.le_of_ble_eq_true rfl) (C_X12_farBy (d := d + 1) hp hr20) (Nat.le_refl _) ?_
  refine M_aload_n (pc := 99) dX12_jars_99 rfl ?_
  refine M_getR (pc := 100) dX12_jars_100 f_X12_48 at_11 (gr_11_20 hp at_11).1 ?_
  refine M_iload_n (pc := 103) dX12_jars_103 rfl ?_
  obtain ⟨v21, hv22, h⟩ := bnd h
  refine M_aldI (pc := 104) dX12_jars_104 (gr_11_20 hp at_11).2 hv22 ?_
  refine M_icmp_eq (pc := 105) (tgt := 114) dX12_jars_105 (by decide) (fun hc23 => ?_) (fun hc23 => ?_)
  · have h := (if_pos hc23).symm.trans h
    obtain rfl := Option.some.inj h
    exact hk
  · have h := (if_neg hc23).symm.trans h
    refine M_iinc (pc := 108) (v := (x4 + (1 : Int32))) (ls' := [some (.ref 205), some (.int x1), none, some (.int x3), some (.int (x4 + (1 : Int32))), some (.int x5)]) dX12_jars_108 rfl rfl (by decide) rfl ?_
    refine M_goto (pc := 111) (tgt := 90) dX12_jars_111 (by decide) ?_
    exact ih (x4 + (1 : Int32)) _ h hk
set_option maxRecDepth 4000 in
set_option maxHeartbeats 4000000 in
theorem LC_X12_jars_81 {g : gX} {d : Nat} {P : Nat → Nat → Option Nat} {J : HJ} {I : HI} {x1 : Int32} (hp : Wp P) : ∀ (x3 : Int32) (x4 : Int32) (x5 : Int32) (r : Int32 × HI), L_X12_jars_81 I x1 x3 x4 x5 = some r → M g mX12_jars (d + 5) (NT, NT, 0) ((.inl (some (.int r.1))), (NT, r.2, J, P)) 81 [some (.ref 205), some (.int x1), none, some (.int x3), some (.int x4), some (.int x5)] [] (NT, I, J, P) := by
  refine L_X12_jars_81.partial_correctness I x1 (fun x3 x4 x5 r => M g mX12_jars (d + 5) (NT, NT, 0) ((.inl (some (.int r.1))), (NT, r.2, J, P)) 81 [some (.ref 205), some (.int x1), none, some (.int x3), some (.int x4), some (.int x5)] [] (NT, I, J, P)) ?_
  intro f ih x3 x4 x5 r h
  refine M_iload (pc := 81) dX12_jars_81 rfl ?_
  refine M_iload_n (pc := 83) dX12_jars_83 rfl ?_
  refine M_icmp_gt (pc := 84) (tgt := 127) dX12_jars_84 (by decide) (fun hc18 => ?_) (fun hc18 => ?_)
  · have h := (if_pos hc18).symm.trans h
    refine M_iload (pc := 127) dX12_jars_127 rfl ?_
    obtain rfl := Option.some.inj h
    exact M_iret (pc := 129) dX12_jars_129 rfl rfl rfl rfl
  · have h := (if_neg hc18).symm.trans h
    refine M_iconst (pc := 87) (v := 0) dX12_jars_87 (by decide) ?_
    refine M_istore (pc := 88) (ls' := [some (.ref 205), some (.int x1), none, some (.int x3), some (.int (0 : Int32)), some (.int x5)]) dX12_jars_88 (by decide) rfl ?_
    obtain ⟨r24, hr25, h⟩ := bnd h
    refine LC_X12_jars_90 (P := P) hp (0 : Int32) _ hr25 ?_
    refine M_iload_n (pc := 114) dX12_jars_114 rfl ?_
    refine M_iconst (pc := 115) (v := 1) dX12_jars_115 (by decide) ?_
    refine M_iload (pc := 116) dX12_jars_116 rfl ?_
    refine M_ishl (pc := 118) dX12_jars_118 ?_
    refine M_ior (pc := 119) dX12_jars_119 ?_
    refine M_istore_n (pc := 120) (ls' := [some (.ref 205), some (.int x1), none, some (.int (x3 ||| ((1 : Int32) <<< (r24 &&& 31)))), some (.int r24), some (.int x5)]) dX12_jars_120 (by decide) rfl ?_
    refine M_iinc (pc := 121) (v := (x5 + (1 : Int32))) (ls' := [some (.ref 205), some (.int x1), none, some (.int (x3 ||| ((1 : Int32) <<< (r24 &&& 31)))), some (.int r24), some (.int (x5 + (1 : Int32)))]) dX12_jars_121 rfl rfl (by decide) rfl ?_
    refine M_goto (pc := 124) (tgt := 81) dX12_jars_124 (by decide) ?_
    exact ih (x3 ||| ((1 : Int32) <<< (r24 &&& 31))) r24 (x5 + (1 : Int32)) _ h
set_option maxRecDepth 4000 in
set_option maxHeartbeats 4000000 in
theorem C_X12_jars {g : gX} {d : Nat} {P : Nat → Nat → Option Nat} {I : HI} {x1 : Int32} {J : HJ} (hp : Wp P) {r : Int32 × HI} (h : F_X12_jars I x1 = some r) : Cm g mX12_jars (d + 5) [.ref 205, .int x1] (NT, I, J, P) (some (.int r.1)) (NT, r.2, J, P) := by
  unfold F_X12_jars at h
  refine Cm.of (by decide) (by simp [Value.category]) (Nat.le_of_ble_eq_true rfl) (Nat.le_refl _) (ls := [some (.ref 205), some (.int x1), none, none, none, none]) rfl ?_
  refine M_aload_n (pc := 0) dX12_jars_0 rfl ?_
  obtain ⟨r1, hr2, h⟩ := bnd h
  refine M_callVv (pc := 1) dX12_jars_1 v_X12_232 rfl rfl at_11 (Nat.le_of_ble_eq_true rfl) (C_X12_uses (d := d + 4) hp hr2) (Nat.le_refl _) ?_
  refine M_aload_n (pc := 4) dX12_jars_4 rfl ?_
  refine M_aload_n (pc := 5) dX12_jars_5 rfl ?_
  obtain ⟨r3, hr4, h⟩ := bnd h
  refine M_callVi (pc := 6) dX12_jars_6 v_X12_375 rfl rfl at_11 (Nat.le_of_ble_eq_true rfl) (C_X12_areJars (d := d + 3) hp hr4) (Nat.le_refl _) ?_
  refine M_if_ne (pc := 9) (tgt := 16) dX12_jars_9 (by decide) (fun hc5 => ?_) (fun hc5 => ?_)
  · have h := (if_neg hc5).symm.trans h
    refine M_iconst (pc := 16) (v := 0) dX12_jars_16 (by decide) ?_
    refine M_iconst (pc := 17) (v := 1) dX12_jars_17 (by decide) ?_
    obtain ⟨r6, hr7, h⟩ := bnd h
    refine M_callVi (pc := 18) dX12_jars_18 v_X12_243 rfl rfl at_11 (Nat.le_of_ble_eq_true rfl) (C_X12_throwsIf (d := d + 4) hp hr7) (Nat.le_refl _) ?_
    refine M_if_eq (pc := 21) (tgt := 26) dX12_jars_21 (by decide) (fun hc8 => ?_) (fun hc8 => ?_)
    · have h := (if_pos hc8).symm.trans h
      refine M_aload_n (pc := 26) dX12_jars_26 rfl ?_
      refine M_getI (pc := 27) dX12_jars_27 f_X12_84 at_11 ?_
      refine M_iconst (pc := 30) (v := 5) dX12_jars_30 (by decide) ?_
      refine M_idiv (pc := 31) dX12_jars_31 (by decide) ?_
      refine M_istore_n (pc := 32) (ls' := [some (.ref 205), some (.int x1), some (.int ((r6.2 205 11) / (5 : Int32))), none, none, none]) dX12_jars_32 (by decide) rfl ?_
      refine M_iload_n (pc := 33) dX12_jars_33 rfl ?_
      refine M_aload_n (pc := 34) dX12_jars_34 rfl ?_
      obtain ⟨r9, hr10, h⟩ := bnd h
      refine M_callVi (pc := 35) dX12_jars_35 v_X12_62 rfl rfl at_11 (Nat.le_of_ble_eq_true rfl) (C_X12_dishes (d := d + 4) hp hr10) (Nat.le_refl _) ?_
      refine M_icmp_le (pc := 38) (tgt := 43) dX12_jars_38 (by decide) (fun hc11 => ?_) (fun hc11 => ?_)
      · have h := (if_pos hc11).symm.trans h
        refine M_aload_n (pc := 43) dX12_jars_43 rfl ?_
        refine M_iload_n (pc := 44) dX12_jars_44 rfl ?_
        obtain ⟨r12, hr13, h⟩ := bnd h
        refine M_callVv (pc := 45) dX12_jars_45 v_X12_378 rfl rfl at_11 (Nat.le_of_ble_eq_true rfl) (C_X12_laysLeast (d := d + 0) hp hr13) (Nat.le_refl _) ?_
        refine M_iload_n (pc := 48) dX12_jars_48 rfl ?_
        refine M_iconst (pc := 49) (v := -1) dX12_jars_49 (by decide) ?_
        refine M_icmp_ne (pc := 50) (tgt := 60) dX12_jars_50 (by decide) (fun hc14 => ?_) (fun hc14 => ?_)
        · have h := (if_neg hc14).symm.trans h
          refine M_iload_n (pc := 60) dX12_jars_60 rfl ?_
          refine M_iconst (pc := 61) (v := 0) dX12_jars_61 (by decide) ?_
          refine M_iload_n (pc := 62) dX12_jars_62 rfl ?_
          refine M_iconst (pc := 63) (v := 1) dX12_jars_63 (by decide) ?_
          refine M_isub (pc := 64) dX12_jars_64 ?_
          obtain ⟨r15, hr16, h⟩ := bnd h
          refine M_callSi (pc := 65) dX12_jars_65 s_X12_73 rfl rfl (Nat.le_of_ble_eq_true rfl) (C_X12_in (d := d + 4) hp hr16) (Nat.le_refl _) ?_
          refine M_if_ne (pc := 68) (tgt := 73) dX12_jars_68 (by decide) (fun hc17 => ?_) (fun hc17 => ?_)
          · have h := (if_neg hc17).symm.trans h
            refine M_iconst (pc := 73) (v := 0) dX12_jars_73 (by decide) ?_
            refine M_istore_n (pc := 74) (ls' := [some (.ref 205), some (.int x1), some (.int ((r6.2 205 11) / (5 : Int32))), some (.int (0 : Int32)), none, none]) dX12_jars_74 (by decide) rfl ?_
            refine M_iconst (pc := 75) (v := 0) dX12_jars_75 (by decide) ?_
            refine M_istore (pc := 76) (ls' := [some (.ref 205), some (.int x1), some (.int ((r6.2 205 11) / (5 : Int32))), some (.int (0 : Int32)), some (.int (0 : Int32)), none]) dX12_jars_76 (by decide) rfl ?_
            refine M_iconst (pc := 78) (v := 0) dX12_jars_78 (by decide) ?_
            refine M_istore (pc := 79) (ls' := [some (.ref 205), some (.int x1), some (.int ((r6.2 205 11) / (5 : Int32))), some (.int (0 : Int32)), some (.int (0 : Int32)), some (.int (0 : Int32))]) dX12_jars_79 (by decide) rfl ?_
            refine M_mask (pc := 81) [true, true, false, true, true, true] rfl ?_
            exact LC_X12_jars_81 (P := P) hp (0 : Int32) (0 : Int32) (0 : Int32) _ h
          · have h := (if_pos hc17).symm.trans h
            refine M_iconst (pc := 71) (v := -1) dX12_jars_71 (by decide) ?_
            obtain rfl := Option.some.inj h
            exact M_iret (pc := 72) dX12_jars_72 rfl rfl rfl rfl
        · have h := (if_pos hc14).symm.trans h
          refine M_aload_n (pc := 53) dX12_jars_53 rfl ?_
          refine M_getR (pc := 54) dX12_jars_54 f_X12_48 at_11 (gr_11_20 hp at_11).1 ?_
          refine M_iconst (pc := 57) (v := 0) dX12_jars_57 (by decide) ?_
          refine M_ildc (pc := 58) (j := 0) dX12_jars_58 (gr_11_20 hp at_11).2 (by decide) (by decide) ?_
          obtain rfl := Option.some.inj h
          exact M_iret (pc := 59) dX12_jars_59 rfl rfl rfl rfl
      · have h := (if_neg hc11).symm.trans h
        refine M_iconst (pc := 41) (v := -1) dX12_jars_41 (by decide) ?_
        obtain rfl := Option.some.inj h
        exact M_iret (pc := 42) dX12_jars_42 rfl rfl rfl rfl
    · have h := (if_neg hc8).symm.trans h
      refine M_iconst (pc := 24) (v := 0) dX12_jars_24 (by decide) ?_
      obtain rfl := Option.some.inj h
      exact M_iret (pc := 25) dX12_jars_25 rfl rfl rfl rfl
  · have h := (if_pos hc5).symm.trans h
    refine M_iconst (pc := 12) (v := 1) dX12_jars_12 (by decide) ?_
    refine M_goto (pc := 13) (tgt := 17) dX12_jars_13 (by decide) ?_
    refine M_iconst (pc := 17) (v := 1) dX12_jars_17 (by decide) ?_
    obtain ⟨r26, hr27, h⟩ := bnd h
    refine M_callVi (pc := 18) dX12_jars_18 v_X12_243 rfl rfl at_11 (Nat.le_of_ble_eq_true rfl) (C_X12_throwsIf (d := d + 4) hp hr27) (Nat.le_refl _) ?_
    refine M_if_eq (pc := 21) (tgt := 26) dX12_jars_21 (by decide) (fun hc28 => ?_) (fun hc28 => ?_)
    · have h := (if_pos hc28).symm.trans h
      refine M_aload_n (pc := 26) dX12_jars_26 rfl ?_
      refine M_getI (pc := 27) dX12_jars_27 f_X12_84 at_11 ?_
      refine M_iconst (pc := 30) (v := 5) dX12_jars_30 (by decide) ?_
      refine M_idiv (pc := 31) dX12_jars_31 (by decide) ?_
      refine M_istore_n (pc := 32) (ls' := [some (.ref 205), some (.int x1), some (.int ((r26.2 205 11) / (5 : Int32))), none, none, none]) dX12_jars_32 (by decide) rfl ?_
      refine M_iload_n (pc := 33) dX12_jars_33 rfl ?_
      refine M_aload_n (pc := 34) dX12_jars_34 rfl ?_
      obtain ⟨r29, hr30, h⟩ := bnd h
      refine M_callVi (pc := 35) dX12_jars_35 v_X12_62 rfl rfl at_11 (Nat.le_of_ble_eq_true rfl) (C_X12_dishes (d := d + 4) hp hr30) (Nat.le_refl _) ?_
      refine M_icmp_le (pc := 38) (tgt := 43) dX12_jars_38 (by decide) (fun hc31 => ?_) (fun hc31 => ?_)
      · have h := (if_pos hc31).symm.trans h
        refine M_aload_n (pc := 43) dX12_jars_43 rfl ?_
        refine M_iload_n (pc := 44) dX12_jars_44 rfl ?_
        obtain ⟨r32, hr33, h⟩ := bnd h
        refine M_callVv (pc := 45) dX12_jars_45 v_X12_378 rfl rfl at_11 (Nat.le_of_ble_eq_true rfl) (C_X12_laysLeast (d := d + 0) hp hr33) (Nat.le_refl _) ?_
        refine M_iload_n (pc := 48) dX12_jars_48 rfl ?_
        refine M_iconst (pc := 49) (v := -1) dX12_jars_49 (by decide) ?_
        refine M_icmp_ne (pc := 50) (tgt := 60) dX12_jars_50 (by decide) (fun hc34 => ?_) (fun hc34 => ?_)
        · have h := (if_neg hc34).symm.trans h
          refine M_iload_n (pc := 60) dX12_jars_60 rfl ?_
          refine M_iconst (pc := 61) (v := 0) dX12_jars_61 (by decide) ?_
          refine M_iload_n (pc := 62) dX12_jars_62 rfl ?_
          refine M_iconst (pc := 63) (v := 1) dX12_jars_63 (by decide) ?_
          refine M_isub (pc := 64) dX12_jars_64 ?_
          obtain ⟨r35, hr36, h⟩ := bnd h
          refine M_callSi (pc := 65) dX12_jars_65 s_X12_73 rfl rfl (Nat.le_of_ble_eq_true rfl) (C_X12_in (d := d + 4) hp hr36) (Nat.le_refl _) ?_
          refine M_if_ne (pc := 68) (tgt := 73) dX12_jars_68 (by decide) (fun hc37 => ?_) (fun hc37 => ?_)
          · have h := (if_neg hc37).symm.trans h
            refine M_iconst (pc := 73) (v := 0) dX12_jars_73 (by decide) ?_
            refine M_istore_n (pc := 74) (ls' := [some (.ref 205), some (.int x1), some (.int ((r26.2 205 11) / (5 : Int32))), some (.int (0 : Int32)), none, none]) dX12_jars_74 (by decide) rfl ?_
            refine M_iconst (pc := 75) (v := 0) dX12_jars_75 (by decide) ?_
            refine M_istore (pc := 76) (ls' := [some (.ref 205), some (.int x1), some (.int ((r26.2 205 11) / (5 : Int32))), some (.int (0 : Int32)), some (.int (0 : Int32)), none]) dX12_jars_76 (by decide) rfl ?_
            refine M_iconst (pc := 78) (v := 0) dX12_jars_78 (by decide) ?_
            refine M_istore (pc := 79) (ls' := [some (.ref 205), some (.int x1), some (.int ((r26.2 205 11) / (5 : Int32))), some (.int (0 : Int32)), some (.int (0 : Int32)), some (.int (0 : Int32))]) dX12_jars_79 (by decide) rfl ?_
            refine M_mask (pc := 81) [true, true, false, true, true, true] rfl ?_
            exact LC_X12_jars_81 (P := P) hp (0 : Int32) (0 : Int32) (0 : Int32) _ h
          · have h := (if_pos hc37).symm.trans h
            refine M_iconst (pc := 71) (v := -1) dX12_jars_71 (by decide) ?_
            obtain rfl := Option.some.inj h
            exact M_iret (pc := 72) dX12_jars_72 rfl rfl rfl rfl
        · have h := (if_pos hc34).symm.trans h
          refine M_aload_n (pc := 53) dX12_jars_53 rfl ?_
          refine M_getR (pc := 54) dX12_jars_54 f_X12_48 at_11 (gr_11_20 hp at_11).1 ?_
          refine M_iconst (pc := 57) (v := 0) dX12_jars_57 (by decide) ?_
          refine M_ildc (pc := 58) (j := 0) dX12_jars_58 (gr_11_20 hp at_11).2 (by decide) (by decide) ?_
          obtain rfl := Option.some.inj h
          exact M_iret (pc := 59) dX12_jars_59 rfl rfl rfl rfl
      · have h := (if_neg hc31).symm.trans h
        refine M_iconst (pc := 41) (v := -1) dX12_jars_41 (by decide) ?_
        obtain rfl := Option.some.inj h
        exact M_iret (pc := 42) dX12_jars_42 rfl rfl rfl rfl
    · have h := (if_neg hc28).symm.trans h
      refine M_iconst (pc := 24) (v := 0) dX12_jars_24 (by decide) ?_
      obtain rfl := Option.some.inj h
      exact M_iret (pc := 25) dX12_jars_25 rfl rfl rfl rfl
def F_X12_kitchen (I : HI) (x1 : Int32) : Option (Int32 × HI) :=
  (F_X12_noPlace (up2 I 205 0 (0 : Int32)) x1) >>= fun r1 => (F_X12_throwsIf (up2 I 205 0 (0 : Int32)) r1 (1 : Int32)) >>= fun r3 => if r3.1 = 0 then (F_X12_hadAt r3.2 (6 : Int32) x1) >>= fun r6 => some (r6, r3.2) else some ((0 : Int32), r3.2)
set_option maxRecDepth 4000 in
set_option maxHeartbeats 4000000 in
theorem C_X12_kitchen {g : gX} {d : Nat} {P : Nat → Nat → Option Nat} {I : HI} {x1 : Int32} {J : HJ} (hp : Wp P) {r : Int32 × HI} (h : F_X12_kitchen I x1 = some r) : Cm g mX12_kitchen (d + 4) [.ref 205, .int x1] (NT, I, J, P) (some (.int r.1)) (NT, r.2, J, P) := by
  unfold F_X12_kitchen at h
  refine Cm.of (by decide) (by simp [Value.category]) (Nat.le_of_ble_eq_true rfl) (Nat.le_refl _) (ls := [some (.ref 205), some (.int x1)]) rfl ?_
  refine M_aload_n (pc := 0) dX12_kitchen_0 rfl ?_
  refine M_iconst (pc := 1) (v := 0) dX12_kitchen_1 (by decide) ?_
  refine M_putI (pc := 2) dX12_kitchen_2 f_X12_3 at_11 rfl ⟨rfl, rfl⟩ ?_
  refine M_aload_n (pc := 5) dX12_kitchen_5 rfl ?_
  refine M_iload_n (pc := 6) dX12_kitchen_6 rfl ?_
  obtain ⟨r1, hr2, h⟩ := bnd h
  refine M_callSi (pc := 7) dX12_kitchen_7 s_X12_314 rfl rfl (Nat.le_of_ble_eq_true rfl) (C_X12_noPlace (d := d + 2) hp hr2) (Nat.le_refl _) ?_
  refine M_iconst (pc := 10) (v := 1) dX12_kitchen_10 (by decide) ?_
  obtain ⟨r3, hr4, h⟩ := bnd h
  refine M_callVi (pc := 11) dX12_kitchen_11 v_X12_243 rfl rfl at_11 (Nat.le_of_ble_eq_true rfl) (C_X12_throwsIf (d := d + 3) hp hr4) (Nat.le_refl _) ?_
  refine M_if_eq (pc := 14) (tgt := 19) dX12_kitchen_14 (by decide) (fun hc5 => ?_) (fun hc5 => ?_)
  · have h := (if_pos hc5).symm.trans h
    refine M_aload_n (pc := 19) dX12_kitchen_19 rfl ?_
    refine M_bipush (pc := 20) (v := 6) dX12_kitchen_20 (by decide) ?_
    refine M_iload_n (pc := 22) dX12_kitchen_22 rfl ?_
    obtain ⟨r6, hr7, h⟩ := bnd h
    refine M_callVi (pc := 23) dX12_kitchen_23 v_X12_382 rfl rfl at_11 (Nat.le_of_ble_eq_true rfl) (C_X12_hadAt (d := d + 0) hp hr7) (Nat.le_refl _) ?_
    obtain rfl := Option.some.inj h
    exact M_iret (pc := 26) dX12_kitchen_26 rfl rfl rfl rfl
  · have h := (if_neg hc5).symm.trans h
    refine M_iconst (pc := 17) (v := 0) dX12_kitchen_17 (by decide) ?_
    obtain rfl := Option.some.inj h
    exact M_iret (pc := 18) dX12_kitchen_18 rfl rfl rfl rfl
def L_X12_lover_11 (I : HI) (x1 : Int32) (x2 : Int32) (x3 : Int32) : Option (Int32 × HI) :=
  if (8 : Int32) ≤ x3 then some (x1, I) else (F_X12_hadAt I (7 : Int32) x3) >>= fun r2 => (F_J6_bitCount_0f7a4 I r2) >>= fun r4 => if r4 ≤ x2 then L_X12_lover_11 I x1 (if x2 < r4 then r4 else x2) (x3 + (1 : Int32)) else L_X12_lover_11 I x3 (if x2 < r4 then r4 else x2) (x3 + (1 : Int32))
partial_fixpoint
def F_X12_lover (I : HI) : Option (Int32 × HI) :=
  L_X12_lover_11 (up2 I 205 0 (0 : Int32)) (-1 : Int32) (0 : Int32) (0 : Int32)
set_option maxRecDepth 4000 in
set_option maxHeartbeats 4000000 in
theorem LC_X12_lover_11 {g : gX} {d : Nat} {P : Nat → Nat → Option Nat} {J : HJ} {I : HI} (hp : Wp P) : ∀ (x1 : Int32) (x2 : Int32) (x3 : Int32) (r : Int32 × HI), L_X12_lover_11 I x1 x2 x3 = some r → M g mX12_lover (d + 4) (NT, NT, 0) ((.inl (some (.int r.1))), (NT, r.2, J, P)) 11 [some (.ref 205), some (.int x1), some (.int x2), some (.int x3), none] [] (NT, I, J, P) := by
  refine L_X12_lover_11.partial_correctness I (fun x1 x2 x3 r => M g mX12_lover (d + 4) (NT, NT, 0) ((.inl (some (.int r.1))), (NT, r.2, J, P)) 11 [some (.ref 205), some (.int x1), some (.int x2), some (.int x3), none] [] (NT, I, J, P)) ?_
  intro f ih x1 x2 x3 r h
  refine M_iload_n (pc := 11) dX12_lover_11 rfl ?_
  refine M_bipush (pc := 12) (v := 8) dX12_lover_12 (by decide) ?_
  refine M_icmp_ge (pc := 14) (tgt := 54) dX12_lover_14 (by decide) (fun hc1 => ?_) (fun hc1 => ?_)
  · have h := (if_pos hc1).symm.trans h
    refine M_iload_n (pc := 54) dX12_lover_54 rfl ?_
    obtain rfl := Option.some.inj h
    exact M_iret (pc := 55) dX12_lover_55 rfl rfl rfl rfl
  · have h := (if_neg hc1).symm.trans h
    refine M_aload_n (pc := 17) dX12_lover_17 rfl ?_
    refine M_bipush (pc := 18) (v := 7) dX12_lover_18 (by decide) ?_
    refine M_iload_n (pc := 20) dX12_lover_20 rfl ?_
    obtain ⟨r2, hr3, h⟩ := bnd h
    refine M_callVi (pc := 21) dX12_lover_21 v_X12_382 rfl rfl at_11 (Nat.le_of_ble_eq_true rfl) (C_X12_hadAt (d := d + 0) hp hr3) (Nat.le_refl _) ?_
    obtain ⟨r4, hr5, h⟩ := bnd h
    refine M_callSi (pc := 24) dX12_lover_24 s_X12_329 rfl rfl (Nat.le_of_ble_eq_true rfl) (C_J6_bitCount_0f7a4 (d := d + 3) hp hr5) (Nat.le_refl _) ?_
    refine M_istore (pc := 27) (ls' := [some (.ref 205), some (.int x1), some (.int x2), some (.int x3), some (.int r4)]) dX12_lover_27 (by decide) rfl ?_
    refine M_iload (pc := 29) dX12_lover_29 rfl ?_
    refine M_iload_n (pc := 31) dX12_lover_31 rfl ?_
    refine M_icmp_le (pc := 32) (tgt := 39) dX12_lover_32 (by decide) (fun hc6 => ?_) (fun hc6 => ?_)
    · have h := (if_pos hc6).symm.trans h
      refine M_iload_n (pc := 39) dX12_lover_39 rfl ?_
      refine M_istore_n (pc := 40) (ls' := [some (.ref 205), some (.int x1), some (.int x2), some (.int x3), some (.int r4)]) dX12_lover_40 (by decide) rfl ?_
      refine M_iload_n (pc := 41) dX12_lover_41 rfl ?_
      refine M_iload (pc := 42) dX12_lover_42 rfl ?_
      refine M_mmax (pc := 44) dX12_lover_44 mm_X12_293.1 mm_X12_293.2.1 mm_X12_293.2.2.1 mm_X12_293.2.2.2 (Nat.le_of_ble_eq_true rfl) ?_
      refine M_istore_n (pc := 47) (ls' := [some (.ref 205), some (.int x1), some (.int (if x2 < r4 then r4 else x2)), some (.int x3), some (.int r4)]) dX12_lover_47 (by decide) rfl ?_
      refine M_iinc (pc := 48) (v := (x3 + (1 : Int32))) (ls' := [some (.ref 205), some (.int x1), some (.int (if x2 < r4 then r4 else x2)), some (.int (x3 + (1 : Int32))), some (.int r4)]) dX12_lover_48 rfl rfl (by decide) rfl ?_
      refine M_goto (pc := 51) (tgt := 11) dX12_lover_51 (by decide) ?_
      refine M_mask (pc := 11) [true, true, true, true, false] rfl ?_
      exact ih x1 (if x2 < r4 then r4 else x2) (x3 + (1 : Int32)) _ h
    · have h := (if_neg hc6).symm.trans h
      refine M_iload_n (pc := 35) dX12_lover_35 rfl ?_
      refine M_goto (pc := 36) (tgt := 40) dX12_lover_36 (by decide) ?_
      refine M_istore_n (pc := 40) (ls' := [some (.ref 205), some (.int x3), some (.int x2), some (.int x3), some (.int r4)]) dX12_lover_40 (by decide) rfl ?_
      refine M_iload_n (pc := 41) dX12_lover_41 rfl ?_
      refine M_iload (pc := 42) dX12_lover_42 rfl ?_
      refine M_mmax (pc := 44) dX12_lover_44 mm_X12_293.1 mm_X12_293.2.1 mm_X12_293.2.2.1 mm_X12_293.2.2.2 (Nat.le_of_ble_eq_true rfl) ?_
      refine M_istore_n (pc := 47) (ls' := [some (.ref 205), some (.int x3), some (.int (if x2 < r4 then r4 else x2)), some (.int x3), some (.int r4)]) dX12_lover_47 (by decide) rfl ?_
      refine M_iinc (pc := 48) (v := (x3 + (1 : Int32))) (ls' := [some (.ref 205), some (.int x3), some (.int (if x2 < r4 then r4 else x2)), some (.int (x3 + (1 : Int32))), some (.int r4)]) dX12_lover_48 rfl rfl (by decide) rfl ?_
      refine M_goto (pc := 51) (tgt := 11) dX12_lover_51 (by decide) ?_
      refine M_mask (pc := 11) [true, true, true, true, false] rfl ?_
      exact ih x3 (if x2 < r4 then r4 else x2) (x3 + (1 : Int32)) _ h
set_option maxRecDepth 4000 in
set_option maxHeartbeats 4000000 in
theorem C_X12_lover {g : gX} {d : Nat} {P : Nat → Nat → Option Nat} {I : HI} {J : HJ} (hp : Wp P) {r : Int32 × HI} (h : F_X12_lover I = some r) : Cm g mX12_lover (d + 4) [.ref 205] (NT, I, J, P) (some (.int r.1)) (NT, r.2, J, P) := by
  unfold F_X12_lover at h
  refine Cm.of (by decide) (by simp [Value.category]) (Nat.le_of_ble_eq_true rfl) (Nat.le_refl _) (ls := [some (.ref 205), none, none, none, none]) rfl ?_
  refine M_aload_n (pc := 0) dX12_lover_0 rfl ?_
  refine M_iconst (pc := 1) (v := 0) dX12_lover_1 (by decide) ?_
  refine M_putI (pc := 2) dX12_lover_2 f_X12_3 at_11 rfl ⟨rfl, rfl⟩ ?_
  refine M_iconst (pc := 5) (v := -1) dX12_lover_5 (by decide) ?_
  refine M_istore_n (pc := 6) (ls' := [some (.ref 205), some (.int (-1 : Int32)), none, none, none]) dX12_lover_6 (by decide) rfl ?_
  refine M_iconst (pc := 7) (v := 0) dX12_lover_7 (by decide) ?_
  refine M_istore_n (pc := 8) (ls' := [some (.ref 205), some (.int (-1 : Int32)), some (.int (0 : Int32)), none, none]) dX12_lover_8 (by decide) rfl ?_
  refine M_iconst (pc := 9) (v := 0) dX12_lover_9 (by decide) ?_
  refine M_istore_n (pc := 10) (ls' := [some (.ref 205), some (.int (-1 : Int32)), some (.int (0 : Int32)), some (.int (0 : Int32)), none]) dX12_lover_10 (by decide) rfl ?_
  exact LC_X12_lover_11 (P := P) hp (-1 : Int32) (0 : Int32) (0 : Int32) _ h
def F_X12_share (I : HI) (x1 : Int32) : Option (Int32 × HI) :=
  (F_X12_noPlace (up2 I 205 0 (0 : Int32)) x1) >>= fun r1 => (F_X12_throwsIf (up2 I 205 0 (0 : Int32)) r1 (1 : Int32)) >>= fun r3 => if r3.1 = 0 then (F_X12_dishes r3.2) >>= fun r6 => (F_X12_newOnes r3.2) >>= fun r8 => (F_J6_bitCount_0f7a4 r3.2 r8) >>= fun r10 => if (r6 - r10) = 0 then some ((0 : Int32), r3.2) else (F_X12_hadAt r3.2 (6 : Int32) x1) >>= fun r13 => (F_J6_bitCount_0f7a4 r3.2 r13) >>= fun r15 => if ¬ (r6 - r10) = 0 then some ((((100 : Int32) * r15) / (r6 - r10)), r3.2) else none else some ((0 : Int32), r3.2)
set_option maxRecDepth 4000 in
set_option maxHeartbeats 4000000 in
theorem C_X12_share {g : gX} {d : Nat} {P : Nat → Nat → Option Nat} {I : HI} {x1 : Int32} {J : HJ} (hp : Wp P) {r : Int32 × HI} (h : F_X12_share I x1 = some r) : Cm g mX12_share (d + 4) [.ref 205, .int x1] (NT, I, J, P) (some (.int r.1)) (NT, r.2, J, P) := by
  unfold F_X12_share at h
  refine Cm.of (by decide) (by simp [Value.category]) (Nat.le_of_ble_eq_true rfl) (Nat.le_refl _) (ls := [some (.ref 205), some (.int x1), none]) rfl ?_
  refine M_aload_n (pc := 0) dX12_share_0 rfl ?_
  refine M_iconst (pc := 1) (v := 0) dX12_share_1 (by decide) ?_
  refine M_putI (pc := 2) dX12_share_2 f_X12_3 at_11 rfl ⟨rfl, rfl⟩ ?_
  refine M_aload_n (pc := 5) dX12_share_5 rfl ?_
  refine M_iload_n (pc := 6) dX12_share_6 rfl ?_
  obtain ⟨r1, hr2, h⟩ := bnd h
  refine M_callSi (pc := 7) dX12_share_7 s_X12_314 rfl rfl (Nat.le_of_ble_eq_true rfl) (C_X12_noPlace (d := d + 2) hp hr2) (Nat.le_refl _) ?_
  refine M_iconst (pc := 10) (v := 1) dX12_share_10 (by decide) ?_
  obtain ⟨r3, hr4, h⟩ := bnd h
  refine M_callVi (pc := 11) dX12_share_11 v_X12_243 rfl rfl at_11 (Nat.le_of_ble_eq_true rfl) (C_X12_throwsIf (d := d + 3) hp hr4) (Nat.le_refl _) ?_
  refine M_if_eq (pc := 14) (tgt := 19) dX12_share_14 (by decide) (fun hc5 => ?_) (fun hc5 => ?_)
  · have h := (if_pos hc5).symm.trans h
    refine M_aload_n (pc := 19) dX12_share_19 rfl ?_
    obtain ⟨r6, hr7, h⟩ := bnd h
    refine M_callVi (pc := 20) dX12_share_20 v_X12_62 rfl rfl at_11 (Nat.le_of_ble_eq_true rfl) (C_X12_dishes (d := d + 3) hp hr7) (Nat.le_refl _) ?_
    refine M_aload_n (pc := 23) dX12_share_23 rfl ?_
    obtain ⟨r8, hr9, h⟩ := bnd h
    refine M_callVi (pc := 24) dX12_share_24 v_X12_287 rfl rfl at_11 (Nat.le_of_ble_eq_true rfl) (C_X12_newOnes (d := d + 0) hp hr9) (Nat.le_refl _) ?_
    obtain ⟨r10, hr11, h⟩ := bnd h
    refine M_callSi (pc := 27) dX12_share_27 s_X12_329 rfl rfl (Nat.le_of_ble_eq_true rfl) (C_J6_bitCount_0f7a4 (d := d + 3) hp hr11) (Nat.le_refl _) ?_
    refine M_isub (pc := 30) dX12_share_30 ?_
    refine M_istore_n (pc := 31) (ls' := [some (.ref 205), some (.int x1), some (.int (r6 - r10))]) dX12_share_31 (by decide) rfl ?_
    refine M_iload_n (pc := 32) dX12_share_32 rfl ?_
    refine M_if_ne (pc := 33) (tgt := 40) dX12_share_33 (by decide) (fun hc12 => ?_) (fun hc12 => ?_)
    · have h := (if_neg hc12).symm.trans h
      refine M_bipush (pc := 40) (v := 100) dX12_share_40 (by decide) ?_
      refine M_aload_n (pc := 42) dX12_share_42 rfl ?_
      refine M_bipush (pc := 43) (v := 6) dX12_share_43 (by decide) ?_
      refine M_iload_n (pc := 45) dX12_share_45 rfl ?_
      obtain ⟨r13, hr14, h⟩ := bnd h
      refine M_callVi (pc := 46) dX12_share_46 v_X12_382 rfl rfl at_11 (Nat.le_of_ble_eq_true rfl) (C_X12_hadAt (d := d + 0) hp hr14) (Nat.le_refl _) ?_
      obtain ⟨r15, hr16, h⟩ := bnd h
      refine M_callSi (pc := 49) dX12_share_49 s_X12_329 rfl rfl (Nat.le_of_ble_eq_true rfl) (C_J6_bitCount_0f7a4 (d := d + 3) hp hr16) (Nat.le_refl _) ?_
      refine M_imul (pc := 52) dX12_share_52 ?_
      refine M_iload_n (pc := 53) dX12_share_53 rfl ?_
      obtain ⟨hz17, h⟩ := chk h
      refine M_idiv (pc := 54) dX12_share_54 hz17 ?_
      obtain rfl := Option.some.inj h
      exact M_iret (pc := 55) dX12_share_55 rfl rfl rfl rfl
    · have h := (if_pos hc12).symm.trans h
      refine M_iconst (pc := 36) (v := 0) dX12_share_36 (by decide) ?_
      refine M_goto (pc := 37) (tgt := 55) dX12_share_37 (by decide) ?_
      obtain rfl := Option.some.inj h
      exact M_iret (pc := 55) dX12_share_55 rfl rfl rfl rfl
  · have h := (if_neg hc5).symm.trans h
    refine M_iconst (pc := 17) (v := 0) dX12_share_17 (by decide) ?_
    obtain rfl := Option.some.inj h
    exact M_iret (pc := 18) dX12_share_18 rfl rfl rfl rfl
