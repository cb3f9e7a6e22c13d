def L_X11_putBytes_3 (x1 : Int32) (x2 : Int32) (I : HI) : Option (HI) :=
  if x2 < 0 then some I else if (400 : Int32) ≤ (I 1 1) then L_X11_putBytes_3 x1 (x2 + (-8 : Int32)) I else if inB (I 1 1) 400 = true then L_X11_putBytes_3 x1 (x2 + (-8 : Int32)) (up2 (up2 I 2 ((I 1 1)).toNatClampNeg (((x1).toUInt32 >>> ((x2).toUInt32 &&& Int32.toUInt32 31)).toInt32 &&& (255 : Int32))) 1 1 (((up2 I 2 ((I 1 1)).toNatClampNeg (((x1).toUInt32 >>> ((x2).toUInt32 &&& Int32.toUInt32 31)).toInt32 &&& (255 : Int32))) 1 1) + (1 : Int32))) else none
partial_fixpoint
def F_X11_putBytes (I : HI) (x1 : Int32) : Option (HI) :=
  L_X11_putBytes_3 x1 (24 : Int32) I
set_option maxRecDepth 4000 in
set_option maxHeartbeats 4000000 in
theorem LC_X11_putBytes_3 {g : gX} {d : Nat} {P : Nat → Nat → Option Nat} {J : HJ} {x1 : Int32} (hp : Wp P) : ∀ (x2 : Int32) (I : HI) (r : HI), L_X11_putBytes_3 x1 x2 I = some r → M g mX11_putBytes (d + 0) (NT, NT, 0) ((.inl none), (NT, r, J, P)) 3 [some (.ref 1), some (.int x1), some (.int x2)] [] (NT, I, J, P) := by
  refine L_X11_putBytes_3.partial_correctness x1 (fun x2 I r => M g mX11_putBytes (d + 0) (NT, NT, 0) ((.inl none), (NT, r, J, P)) 3 [some (.ref 1), some (.int x1), some (.int x2)] [] (NT, I, J, P)) ?_
  intro f ih x2 I r h
  refine M_iload_n (pc := 3) dX11_putBytes_3 rfl ?_
  refine M_if_lt (pc := 4) (tgt := 49) dX11_putBytes_4 (by decide) (fun hc1 => ?_) (fun hc1 => ?_)
  · have h := (if_pos hc1).symm.trans h
    obtain rfl := Option.some.inj h
    exact M_vret (pc := 49) dX11_putBytes_49 rfl rfl rfl
  · have h := (if_neg hc1).symm.trans h
    refine M_aload_n (pc := 7) dX11_putBytes_7 rfl ?_
    refine M_getI (pc := 8) dX11_putBytes_8 f_X11_13 at_10 ?_
    refine M_sipush (pc := 11) (v := 400) dX11_putBytes_11 (by decide) ?_
    refine M_icmp_ge (pc := 14) (tgt := 43) dX11_putBytes_14 (by decide) (fun hc2 => ?_) (fun hc2 => ?_)
    · have h := (if_pos hc2).symm.trans h
      refine M_iinc (pc := 43) (v := (x2 + (-8 : Int32))) (ls' := [some (.ref 1), some (.int x1), some (.int (x2 + (-8 : Int32)))]) dX11_putBytes_43 rfl rfl (by decide) rfl ?_
      refine M_goto (pc := 46) (tgt := 3) dX11_putBytes_46 (by decide) ?_
      exact ih (x2 + (-8 : Int32)) I _ h
    · have h := (if_neg hc2).symm.trans h
      refine M_aload_n (pc := 17) dX11_putBytes_17 rfl ?_
      refine M_getR (pc := 18) dX11_putBytes_18 f_X11_9 at_10 (gr_10_0 hp at_10).1 ?_
      refine M_aload_n (pc := 21) dX11_putBytes_21 rfl ?_
      refine M_getI (pc := 22) dX11_putBytes_22 f_X11_13 at_10 ?_
      refine M_iload_n (pc := 25) dX11_putBytes_25 rfl ?_
      refine M_iload_n (pc := 26) dX11_putBytes_26 rfl ?_
      refine M_iushr (pc := 27) dX11_putBytes_27 ?_
      refine M_sipush (pc := 28) (v := 255) dX11_putBytes_28 (by decide) ?_
      refine M_iand (pc := 31) dX11_putBytes_31 ?_
      obtain ⟨hq3, h⟩ := chk h
      refine M_iast (pc := 32) dX11_putBytes_32 (gr_10_0 hp at_10).2 (inB_in hq3) ?_
      refine M_aload_n (pc := 33) dX11_putBytes_33 rfl ?_
      refine M_dup (pc := 34) dX11_putBytes_34 rfl ?_
      refine M_getI (pc := 35) dX11_putBytes_35 f_X11_13 at_10 ?_
      refine M_iconst (pc := 38) (v := 1) dX11_putBytes_38 (by decide) ?_
      refine M_iadd (pc := 39) dX11_putBytes_39 ?_
      refine M_putI (pc := 40) dX11_putBytes_40 f_X11_13 at_10 rfl ⟨rfl, rfl⟩ ?_
      refine M_iinc (pc := 43) (v := (x2 + (-8 : Int32))) (ls' := [some (.ref 1), some (.int x1), some (.int (x2 + (-8 : Int32)))]) dX11_putBytes_43 rfl rfl (by decide) rfl ?_
      refine M_goto (pc := 46) (tgt := 3) dX11_putBytes_46 (by decide) ?_
      exact ih (x2 + (-8 : Int32)) (up2 (up2 I 2 ((I 1 1)).toNatClampNeg (((x1).toUInt32 >>> ((x2).toUInt32 &&& Int32.toUInt32 31)).toInt32 &&& (255 : Int32))) 1 1 (((up2 I 2 ((I 1 1)).toNatClampNeg (((x1).toUInt32 >>> ((x2).toUInt32 &&& Int32.toUInt32 31)).toInt32 &&& (255 : Int32))) 1 1) + (1 : Int32))) _ h
set_option maxRecDepth 4000 in
set_option maxHeartbeats 4000000 in
theorem C_X11_putBytes {g : gX} {d : Nat} {P : Nat → Nat → Option Nat} {I : HI} {x1 : Int32} {J : HJ} (hp : Wp P) {r : HI} (h : F_X11_putBytes I x1 = some r) : Cm g mX11_putBytes (d + 0) [.ref 1, .int x1] (NT, I, J, P) none (NT, r, J, P) := by
  unfold F_X11_putBytes at h
  refine Cm.of (by decide) (by simp [Value.category]) (Nat.le_of_ble_eq_true rfl) (Nat.le_refl _) (ls := [some (.ref 1), some (.int x1), none]) rfl ?_
  refine M_bipush (pc := 0) (v := 24) dX11_putBytes_0 (by decide) ?_
  refine M_istore_n (pc := 2) (ls' := [some (.ref 1), some (.int x1), some (.int (24 : Int32))]) dX11_putBytes_2 (by decide) rfl ?_
  exact LC_X11_putBytes_3 (P := P) hp (24 : Int32) I _ h
def F_X11_end (I : HI) (x1 : Int32) : Option (Int32 × HI) :=
  if x1 < 0 then some ((0 : Int32), I) else if x1 ≤ (I 1 1) then some ((1 : Int32), (up2 I 1 1 x1)) else some ((0 : Int32), I)
set_option maxRecDepth 4000 in
set_option maxHeartbeats 4000000 in
theorem C_X11_end {g : gX} {d : Nat} {P : Nat → Nat → Option Nat} {I : HI} {x1 : Int32} {J : HJ} (hp : Wp P) {r : Int32 × HI} (h : F_X11_end I x1 = some r) : Cm g mX11_end (d + 0) [.ref 1, .int x1] (NT, I, J, P) (some (.int r.1)) (NT, r.2, J, P) := by
  unfold F_X11_end at h
  refine Cm.of (by decide) (by simp [Value.category]) (Nat.le_of_ble_eq_true rfl) (Nat.le_refl _) (ls := [some (.ref 1), some (.int x1)]) rfl ?_
  refine M_iload_n (pc := 0) dX11_end_0 rfl ?_
  refine M_if_lt (pc := 1) (tgt := 12) dX11_end_1 (by decide) (fun hc1 => ?_) (fun hc1 => ?_)
  · have h := (if_pos hc1).symm.trans h
    refine M_iconst (pc := 12) (v := 0) dX11_end_12 (by decide) ?_
    obtain rfl := Option.some.inj h
    exact M_iret (pc := 13) dX11_end_13 rfl rfl rfl rfl
  · have h := (if_neg hc1).symm.trans h
    refine M_iload_n (pc := 4) dX11_end_4 rfl ?_
    refine M_aload_n (pc := 5) dX11_end_5 rfl ?_
    refine M_getI (pc := 6) dX11_end_6 f_X11_13 at_10 ?_
    refine M_icmp_le (pc := 9) (tgt := 14) dX11_end_9 (by decide) (fun hc2 => ?_) (fun hc2 => ?_)
    · have h := (if_pos hc2).symm.trans h
      refine M_aload_n (pc := 14) dX11_end_14 rfl ?_
      refine M_iload_n (pc := 15) dX11_end_15 rfl ?_
      refine M_putI (pc := 16) dX11_end_16 f_X11_13 at_10 rfl ⟨rfl, rfl⟩ ?_
      refine M_iconst (pc := 19) (v := 1) dX11_end_19 (by decide) ?_
      obtain rfl := Option.some.inj h
      exact M_iret (pc := 20) dX11_end_20 rfl rfl rfl rfl
    · have h := (if_neg hc2).symm.trans h
      refine M_iconst (pc := 12) (v := 0) dX11_end_12 (by decide) ?_
      obtain rfl := Option.some.inj h
      exact M_iret (pc := 13) dX11_end_13 rfl rfl rfl rfl
def F_X11_takeTape (I : HI) : Option (Int32 × HI) :=
  some ((I 1 1), (up2 I 1 1 (0 : Int32)))
set_option maxRecDepth 4000 in
set_option maxHeartbeats 4000000 in
theorem C_X11_takeTape {g : gX} {d : Nat} {P : Nat → Nat → Option Nat} {I : HI} {J : HJ} (hp : Wp P) {r : Int32 × HI} (h : F_X11_takeTape I = some r) : Cm g mX11_takeTape (d + 0) [.ref 1] (NT, I, J, P) (some (.int r.1)) (NT, r.2, J, P) := by
  unfold F_X11_takeTape at h
  refine Cm.of (by decide) (by simp [Value.category]) (Nat.le_of_ble_eq_true rfl) (Nat.le_refl _) (ls := [some (.ref 1), none]) rfl ?_
  refine M_aload_n (pc := 0) dX11_takeTape_0 rfl ?_
  refine M_getI (pc := 1) dX11_takeTape_1 f_X11_13 at_10 ?_
  refine M_istore_n (pc := 4) (ls' := [some (.ref 1), some (.int (I 1 1))]) dX11_takeTape_4 (by decide) rfl ?_
  refine M_aload_n (pc := 5) dX11_takeTape_5 rfl ?_
  refine M_iconst (pc := 6) (v := 0) dX11_takeTape_6 (by decide) ?_
  refine M_putI (pc := 7) dX11_takeTape_7 f_X11_13 at_10 rfl ⟨rfl, rfl⟩ ?_
  refine M_iload_n (pc := 10) dX11_takeTape_10 rfl ?_
  obtain rfl := Option.some.inj h
  exact M_iret (pc := 11) dX11_takeTape_11 rfl rfl rfl rfl
def L_X11_toldAtMost_2 (I : HI) (x1 : Int32) (x2 : Int32) (x3 : Int32) : Option (Int32) :=
  if x1 ≤ x3 then some (1 : Int32) else if (400 : Int32) ≤ x3 then some (1 : Int32) else (ald 400 (I 2) x3) >>= fun v3 => if v3 ≤ x2 then L_X11_toldAtMost_2 I x1 x2 (x3 + (1 : Int32)) else some (0 : Int32)
partial_fixpoint
def F_X11_toldAtMost (I : HI) (x1 : Int32) (x2 : Int32) : Option (Int32) :=
  L_X11_toldAtMost_2 I x1 x2 (0 : Int32)
set_option maxRecDepth 4000 in
set_option maxHeartbeats 4000000 in
theorem LC_X11_toldAtMost_2 {g : gX} {d : Nat} {P : Nat → Nat → Option Nat} {J : HJ} {I : HI} {x1 : Int32} {x2 : Int32} (hp : Wp P) : ∀ (x3 : Int32) (r : Int32), L_X11_toldAtMost_2 I x1 x2 x3 = some r → M g mX11_toldAtMost (d + 0) (NT, NT, 0) ((.inl (some (.int r))), (NT, I, J, P)) 2 [some (.ref 1), some (.int x1), some (.int x2), some (.int x3)] [] (NT, I, J, P) := by
  refine L_X11_toldAtMost_2.partial_correctness I x1 x2 (fun x3 r => M g mX11_toldAtMost (d + 0) (NT, NT, 0) ((.inl (some (.int r))), (NT, I, J, P)) 2 [some (.ref 1), some (.int x1), some (.int x2), some (.int x3)] [] (NT, I, J, P)) ?_
  intro f ih x3 r h
  refine M_iload_n (pc := 2) dX11_toldAtMost_2 rfl ?_
  refine M_iload_n (pc := 3) dX11_toldAtMost_3 rfl ?_
  refine M_icmp_ge (pc := 4) (tgt := 32) dX11_toldAtMost_4 (by decide) (fun hc1 => ?_) (fun hc1 => ?_)
  · have h := (if_pos hc1).symm.trans h
    refine M_iconst (pc := 32) (v := 1) dX11_toldAtMost_32 (by decide) ?_
    obtain rfl := Option.some.inj h
    exact M_iret (pc := 33) dX11_toldAtMost_33 rfl rfl rfl rfl
  · have h := (if_neg hc1).symm.trans h
    refine M_iload_n (pc := 7) dX11_toldAtMost_7 rfl ?_
    refine M_sipush (pc := 8) (v := 400) dX11_toldAtMost_8 (by decide) ?_
    refine M_icmp_ge (pc := 11) (tgt := 32) dX11_toldAtMost_11 (by decide) (fun hc2 => ?_) (fun hc2 => ?_)
    · have h := (if_pos hc2).symm.trans h
      refine M_iconst (pc := 32) (v := 1) dX11_toldAtMost_32 (by decide) ?_
      obtain rfl := Option.some.inj h
      exact M_iret (pc := 33) dX11_toldAtMost_33 rfl rfl rfl rfl
    · have h := (if_neg hc2).symm.trans h
      refine M_aload_n (pc := 14) dX11_toldAtMost_14 rfl ?_
      refine M_getR (pc := 15) dX11_toldAtMost_15 f_X11_9 at_10 (gr_10_0 hp at_10).1 ?_
      refine M_iload_n (pc := 18) dX11_toldAtMost_18 rfl ?_
      obtain ⟨v3, hv4, h⟩ := bnd h
      refine M_aldI (pc := 19) dX11_toldAtMost_19 (gr_10_0 hp at_10).2 hv4 ?_
      refine M_iload_n (pc := 20) dX11_toldAtMost_20 rfl ?_
      refine M_icmp_le (pc := 21) (tgt := 26) dX11_toldAtMost_21 (by decide) (fun hc5 => ?_) (fun hc5 => ?_)
      · have h := (if_pos hc5).symm.trans h
        refine M_iinc (pc := 26) (v := (x3 + (1 : Int32))) (ls' := [some (.ref 1), some (.int x1), some (.int x2), some (.int (x3 + (1 : Int32)))]) dX11_toldAtMost_26 rfl rfl (by decide) rfl ?_
        refine M_goto (pc := 29) (tgt := 2) dX11_toldAtMost_29 (by decide) ?_
        exact ih (x3 + (1 : Int32)) _ h
      · have h := (if_neg hc5).symm.trans h
        refine M_iconst (pc := 24) (v := 0) dX11_toldAtMost_24 (by decide) ?_
        obtain rfl := Option.some.inj h
        exact M_iret (pc := 25) dX11_toldAtMost_25 rfl rfl rfl rfl
set_option maxRecDepth 4000 in
set_option maxHeartbeats 4000000 in
theorem C_X11_toldAtMost {g : gX} {d : Nat} {P : Nat → Nat → Option Nat} {I : HI} {x1 : Int32} {x2 : Int32} {J : HJ} (hp : Wp P) {r : Int32} (h : F_X11_toldAtMost I x1 x2 = some r) : Cm g mX11_toldAtMost (d + 0) [.ref 1, .int x1, .int x2] (NT, I, J, P) (some (.int r)) (NT, I, J, P) := by
  unfold F_X11_toldAtMost at h
  refine Cm.of (by decide) (by simp [Value.category]) (Nat.le_of_ble_eq_true rfl) (Nat.le_refl _) (ls := [some (.ref 1), some (.int x1), some (.int x2), none]) rfl ?_
  refine M_iconst (pc := 0) (v := 0) dX11_toldAtMost_0 (by decide) ?_
  refine M_istore_n (pc := 1) (ls' := [some (.ref 1), some (.int x1), some (.int x2), some (.int (0 : Int32))]) dX11_toldAtMost_1 (by decide) rfl ?_
  exact LC_X11_toldAtMost_2 (P := P) hp (0 : Int32) _ h
def F_X11_fault (I : HI) : Option (Int32) :=
  some (I 1 2)
set_option maxRecDepth 4000 in
set_option maxHeartbeats 4000000 in
theorem C_X11_fault {g : gX} {d : Nat} {P : Nat → Nat → Option Nat} {I : HI} {J : HJ} (hp : Wp P) {r : Int32} (h : F_X11_fault I = some r) : Cm g mX11_fault (d + 0) [.ref 1] (NT, I, J, P) (some (.int r)) (NT, I, J, P) := by
  unfold F_X11_fault at h
  refine Cm.of (by decide) (by simp [Value.category]) (Nat.le_of_ble_eq_true rfl) (Nat.le_refl _) (ls := [some (.ref 1)]) rfl ?_
  refine M_aload_n (pc := 0) dX11_fault_0 rfl ?_
  refine M_getI (pc := 1) dX11_fault_1 f_X11_17 at_10 ?_
  obtain rfl := Option.some.inj h
  exact M_iret (pc := 4) dX11_fault_4 rfl rfl rfl rfl
def F_X11_far (I : HI) (x1 : Int32) (x2 : Int32) : Option ((Int32 ⊕ String)) :=
  (F_X1_has I 4 x1) >>= fun r1 => if r1 = 0 then some (Sum.inr "java/lang/IndexOutOfBoundsException") else (F_X1_has I 4 x2) >>= fun r4 => if r4 = 0 then some (Sum.inr "java/lang/IndexOutOfBoundsException") else (F_X1_distance I 4 x1 x2) >>= fun r7 => some (Sum.inl r7)
set_option maxRecDepth 4000 in
set_option maxHeartbeats 4000000 in
theorem C_X11_far {g : gX} {d : Nat} {P : Nat → Nat → Option Nat} {I : HI} {x1 : Int32} {x2 : Int32} {J : HJ} (hp : Wp P) {r : (Int32 ⊕ String)} (h : F_X11_far I x1 x2 = some r) : Cx g mX11_far (d + 6) [.ref 1, .int x1, .int x2] (NT, I, J, P) ((thr_i r), (NT, I, J, P)) := by
  unfold F_X11_far at h
  refine Cx.of (by decide) (by simp [Value.category]) (Nat.le_of_ble_eq_true rfl) (Nat.le_refl _) (ls := [some (.ref 1), some (.int x1), some (.int x2)]) rfl ?_
  refine M_aload_n (pc := 0) dX11_far_0 rfl ?_
  refine M_getR (pc := 1) dX11_far_1 f_X11_23 at_10 (gr_10_3 hp at_10).1 ?_
  refine M_getR (pc := 4) dX11_far_4 f_X11_148 (gr_10_3 hp at_10).2 (gr_3_0 hp (gr_10_3 hp at_10).2).1 ?_
  refine M_iload_n (pc := 7) dX11_far_7 rfl ?_
  obtain ⟨r1, hr2, h⟩ := bnd h
  refine M_callVi (pc := 8) dX11_far_8 v_X11_152 rfl rfl (gr_3_0 hp (gr_10_3 hp at_10).2).2 (Nat.le_of_ble_eq_true rfl) (C_X1_has (d := d + 5) hp (gr_3_0 hp (gr_10_3 hp at_10).2).2 hr2) (Nat.le_refl _) ?_
  refine M_if_eq (pc := 11) (tgt := 28) dX11_far_11 (by decide) (fun hc3 => ?_) (fun hc3 => ?_)
  · have h := (if_pos hc3).symm.trans h
    obtain rfl := Option.some.inj h
    exact M_throw (pc := 28) dX11_far_28 dX11_far_31 dX11_far_32 dX11_far_34 dX11_far_37 x_X11_158 (j := 3) (by decide) str_X11_160 rfl rfl
  · have h := (if_neg hc3).symm.trans h
    refine M_aload_n (pc := 14) dX11_far_14 rfl ?_
    refine M_getR (pc := 15) dX11_far_15 f_X11_23 at_10 (gr_10_3 hp at_10).1 ?_
    refine M_getR (pc := 18) dX11_far_18 f_X11_148 (gr_10_3 hp at_10).2 (gr_3_0 hp (gr_10_3 hp at_10).2).1 ?_
    refine M_iload_n (pc := 21) dX11_far_21 rfl ?_
    obtain ⟨r4, hr5, h⟩ := bnd h
    refine M_callVi (pc := 22) dX11_far_22 v_X11_152 rfl rfl (gr_3_0 hp (gr_10_3 hp at_10).2).2 (Nat.le_of_ble_eq_true rfl) (C_X1_has (d := d + 5) hp (gr_3_0 hp (gr_10_3 hp at_10).2).2 hr5) (Nat.le_refl _) ?_
    refine M_if_ne (pc := 25) (tgt := 38) dX11_far_25 (by decide) (fun hc6 => ?_) (fun hc6 => ?_)
    · have h := (if_neg hc6).symm.trans h
      refine M_aload_n (pc := 38) dX11_far_38 rfl ?_
      refine M_getR (pc := 39) dX11_far_39 f_X11_23 at_10 (gr_10_3 hp at_10).1 ?_
      refine M_getR (pc := 42) dX11_far_42 f_X11_148 (gr_10_3 hp at_10).2 (gr_3_0 hp (gr_10_3 hp at_10).2).1 ?_
      refine M_iload_n (pc := 45) dX11_far_45 rfl ?_
      refine M_iload_n (pc := 46) dX11_far_46 rfl ?_
      obtain ⟨r7, hr8, h⟩ := bnd h
      refine M_callVi (pc := 47) dX11_far_47 v_X11_208 rfl rfl (gr_3_0 hp (gr_10_3 hp at_10).2).2 (Nat.le_of_ble_eq_true rfl) (C_X1_distance (d := d + 5) hp (gr_3_0 hp (gr_10_3 hp at_10).2).2 hr8) (Nat.le_refl _) ?_
      obtain rfl := Option.some.inj h
      exact M_iret (pc := 50) dX11_far_50 rfl rfl rfl rfl
    · have h := (if_pos hc6).symm.trans h
      obtain rfl := Option.some.inj h
      exact M_throw (pc := 28) dX11_far_28 dX11_far_31 dX11_far_32 dX11_far_34 dX11_far_37 x_X11_158 (j := 3) (by decide) str_X11_160 rfl rfl
def L_X11_near_28 (I : HI) (x1 : Int32) (x2 : Int32) (x3 : Int32) : Option ((Int32 ⊕ String)) :=
  if (I 4 0) ≤ x3 then some (Sum.inl x2) else if x3 = x1 then L_X11_near_28 I x1 x2 (x3 + (1 : Int32)) else (F_X1_distance I 4 x1 x3) >>= fun r6 => if (I 3 7) < r6 then L_X11_near_28 I x1 x2 (x3 + (1 : Int32)) else L_X11_near_28 I x1 (x2 ||| ((1 : Int32) <<< (x3 &&& 31))) (x3 + (1 : Int32))
partial_fixpoint
def F_X11_near (I : HI) (x1 : Int32) : Option ((Int32 ⊕ String)) :=
  (F_X1_has I 4 x1) >>= fun r1 => if r1 = 0 then some (Sum.inr "java/lang/IndexOutOfBoundsException") else L_X11_near_28 I x1 (0 : Int32) (0 : Int32)
set_option maxRecDepth 4000 in
set_option maxHeartbeats 4000000 in
theorem LC_X11_near_28 {g : gX} {d : Nat} {P : Nat → Nat → Option Nat} {J : HJ} {I : HI} {x1 : Int32} (hp : Wp P) : ∀ (x2 : Int32) (x3 : Int32) (r : (Int32 ⊕ String)), L_X11_near_28 I x1 x2 x3 = some r → M g mX11_near (d + 6) (NT, NT, 1) ((thr_i r), (NT, I, J, P)) 28 [some (.ref 1), some (.int x1), some (.int x2), some (.int x3)] [] (NT, I, J, P) := by
  refine L_X11_near_28.partial_correctness I x1 (fun x2 x3 r => M g mX11_near (d + 6) (NT, NT, 1) ((thr_i r), (NT, I, J, P)) 28 [some (.ref 1), some (.int x1), some (.int x2), some (.int x3)] [] (NT, I, J, P)) ?_
  intro f ih x2 x3 r h
  refine M_iload_n (pc := 28) dX11_near_28 rfl ?_
  refine M_aload_n (pc := 29) dX11_near_29 rfl ?_
  refine M_getR (pc := 30) dX11_near_30 f_X11_23 at_10 (gr_10_3 hp at_10).1 ?_
  refine M_getR (pc := 33) dX11_near_33 f_X11_148 (gr_10_3 hp at_10).2 (gr_3_0 hp (gr_10_3 hp at_10).2).1 ?_
  refine M_getI (pc := 36) dX11_near_36 f_X11_211 (gr_3_0 hp (gr_10_3 hp at_10).2).2 ?_
  refine M_icmp_ge (pc := 39) (tgt := 81) dX11_near_39 (by decide) (fun hc4 => ?_) (fun hc4 => ?_)
  · have h := (if_pos hc4).symm.trans h
    refine M_iload_n (pc := 81) dX11_near_81 rfl ?_
    obtain rfl := Option.some.inj h
    exact M_iret (pc := 82) dX11_near_82 rfl rfl rfl rfl
  · have h := (if_neg hc4).symm.trans h
    refine M_iload_n (pc := 42) dX11_near_42 rfl ?_
    refine M_iload_n (pc := 43) dX11_near_43 rfl ?_
    refine M_icmp_eq (pc := 44) (tgt := 75) dX11_near_44 (by decide) (fun hc5 => ?_) (fun hc5 => ?_)
    · have h := (if_pos hc5).symm.trans h
      refine M_iinc (pc := 75) (v := (x3 + (1 : Int32))) (ls' := [some (.ref 1), some (.int x1), some (.int x2), some (.int (x3 + (1 : Int32)))]) dX11_near_75 rfl rfl (by decide) rfl ?_
      refine M_goto (pc := 78) (tgt := 28) dX11_near_78 (by decide) ?_
      exact ih x2 (x3 + (1 : Int32)) _ h
    · have h := (if_neg hc5).symm.trans h
      refine M_aload_n (pc := 47) dX11_near_47 rfl ?_
      refine M_getR (pc := 48) dX11_near_48 f_X11_23 at_10 (gr_10_3 hp at_10).1 ?_
      refine M_getR (pc := 51) dX11_near_51 f_X11_148 (gr_10_3 hp at_10).2 (gr_3_0 hp (gr_10_3 hp at_10).2).1 ?_
      refine M_iload_n (pc := 54) dX11_near_54 rfl ?_
      refine M_iload_n (pc := 55) dX11_near_55 rfl ?_
      obtain ⟨r6, hr7, h⟩ := bnd h
      refine M_callVi (pc := 56) dX11_near_56 v_X11_208 rfl rfl (gr_3_0 hp (gr_10_3 hp at_10).2).2 (Nat.le_of_ble_eq_true rfl) (C_X1_distance (d := d + 5) hp (gr_3_0 hp (gr_10_3 hp at_10).2).2 hr7) (Nat.le_refl _) ?_
      refine M_aload_n (pc := 59) dX11_near_59 rfl ?_
      refine M_getR (pc := 60) dX11_near_60 f_X11_23 at_10 (gr_10_3 hp at_10).1 ?_
      refine M_getI (pc := 63) dX11_near_63 f_X11_180 (gr_10_3 hp at_10).2 ?_
      refine M_icmp_gt (pc := 66) (tgt := 75) dX11_near_66 (by decide) (fun hc8 => ?_) (fun hc8 => ?_)
      · have h := (if_pos hc8).symm.trans h
        refine M_iinc (pc := 75) (v := (x3 + (1 : Int32))) (ls' := [some (.ref 1), some (.int x1), some (.int x2), some (.int (x3 + (1 : Int32)))]) dX11_near_75 rfl rfl (by decide) rfl ?_
        refine M_goto (pc := 78) (tgt := 28) dX11_near_78 (by decide) ?_
        exact ih x2 (x3 + (1 : Int32)) _ h
      · have h := (if_neg hc8).symm.trans h
        refine M_iload_n (pc := 69) dX11_near_69 rfl ?_
        refine M_iconst (pc := 70) (v := 1) dX11_near_70 (by decide) ?_
        refine M_iload_n (pc := 71) dX11_near_71 rfl ?_
        refine M_ishl (pc := 72) dX11_near_72 ?_
        refine M_ior (pc := 73) dX11_near_73 ?_
        refine M_istore_n (pc := 74) (ls' := [some (.ref 1), some (.int x1), some (.int (x2 ||| ((1 : Int32) <<< (x3 &&& 31)))), some (.int x3)]) dX11_near_74 (by decide) rfl ?_
        refine M_iinc (pc := 75) (v := (x3 + (1 : Int32))) (ls' := [some (.ref 1), some (.int x1), some (.int (x2 ||| ((1 : Int32) <<< (x3 &&& 31)))), some (.int (x3 + (1 : Int32)))]) dX11_near_75 rfl rfl (by decide) rfl ?_
        refine M_goto (pc := 78) (tgt := 28) dX11_near_78 (by decide) ?_
        exact ih (x2 ||| ((1 : Int32) <<< (x3 &&& 31))) (x3 + (1 : Int32)) _ h
set_option maxRecDepth 4000 in
set_option maxHeartbeats 4000000 in
theorem C_X11_near {g : gX} {d : Nat} {P : Nat → Nat → Option Nat} {I : HI} {x1 : Int32} {J : HJ} (hp : Wp P) {r : (Int32 ⊕ String)} (h : F_X11_near I x1 = some r) : Cx g mX11_near (d + 6) [.ref 1, .int x1] (NT, I, J, P) ((thr_i r), (NT, I, J, P)) := by
  unfold F_X11_near at h
  refine Cx.of (by decide) (by simp [Value.category]) (Nat.le_of_ble_eq_true rfl) (Nat.le_refl _) (ls := [some (.ref 1), some (.int x1), none, none]) rfl ?_
  refine M_aload_n (pc := 0) dX11_near_0 rfl ?_
  refine M_getR (pc := 1) dX11_near_1 f_X11_23 at_10 (gr_10_3 hp at_10).1 ?_
  refine M_getR (pc := 4) dX11_near_4 f_X11_148 (gr_10_3 hp at_10).2 (gr_3_0 hp (gr_10_3 hp at_10).2).1 ?_
  refine M_iload_n (pc := 7) dX11_near_7 rfl ?_
  obtain ⟨r1, hr2, h⟩ := bnd h
  refine M_callVi (pc := 8) dX11_near_8 v_X11_152 rfl rfl (gr_3_0 hp (gr_10_3 hp at_10).2).2 (Nat.le_of_ble_eq_true rfl) (C_X1_has (d := d + 5) hp (gr_3_0 hp (gr_10_3 hp at_10).2).2 hr2) (Nat.le_refl _) ?_
  refine M_if_ne (pc := 11) (tgt := 24) dX11_near_11 (by decide) (fun hc3 => ?_) (fun hc3 => ?_)
  · have h := (if_neg hc3).symm.trans h
    refine M_iconst (pc := 24) (v := 0) dX11_near_24 (by decide) ?_
    refine M_istore_n (pc := 25) (ls' := [some (.ref 1), some (.int x1), some (.int (0 : Int32)), none]) dX11_near_25 (by decide) rfl ?_
    refine M_iconst (pc := 26) (v := 0) dX11_near_26 (by decide) ?_
    refine M_istore_n (pc := 27) (ls' := [some (.ref 1), some (.int x1), some (.int (0 : Int32)), some (.int (0 : Int32))]) dX11_near_27 (by decide) rfl ?_
    exact LC_X11_near_28 (P := P) hp (0 : Int32) (0 : Int32) _ h
  · have h := (if_pos hc3).symm.trans h
    obtain rfl := Option.some.inj h
    exact M_throw (pc := 14) dX11_near_14 dX11_near_17 dX11_near_18 dX11_near_20 dX11_near_23 x_X11_158 (j := 3) (by decide) str_X11_160 rfl rfl
def F_X11_isPlace (I : HI) (x0 : Int32) : Option (Int32) :=
  if x0 < 0 then some (0 : Int32) else if (7 : Int32) < x0 then some (0 : Int32) else some (1 : Int32)
set_option maxRecDepth 4000 in
set_option maxHeartbeats 4000000 in
theorem C_X11_isPlace {g : gX} {d : Nat} {P : Nat → Nat → Option Nat} {I : HI} {x0 : Int32} {J : HJ} (hp : Wp P) {r : Int32} (h : F_X11_isPlace I x0 = some r) : Cm g mX11_isPlace (d + 0) [.int x0] (NT, I, J, P) (some (.int r)) (NT, I, J, P) := by
  unfold F_X11_isPlace at h
  refine Cm.of (by decide) (by simp [Value.category]) (Nat.le_of_ble_eq_true rfl) (Nat.le_refl _) (ls := [some (.int x0)]) rfl ?_
  refine M_iload_n (pc := 0) dX11_isPlace_0 rfl ?_
  refine M_if_lt (pc := 1) (tgt := 14) dX11_isPlace_1 (by decide) (fun hc1 => ?_) (fun hc1 => ?_)
  · have h := (if_pos hc1).symm.trans h
    refine M_iconst (pc := 14) (v := 0) dX11_isPlace_14 (by decide) ?_
    obtain rfl := Option.some.inj h
    exact M_iret (pc := 15) dX11_isPlace_15 rfl rfl rfl rfl
  · have h := (if_neg hc1).symm.trans h
    refine M_iload_n (pc := 4) dX11_isPlace_4 rfl ?_
    refine M_bipush (pc := 5) (v := 7) dX11_isPlace_5 (by decide) ?_
    refine M_icmp_gt (pc := 7) (tgt := 14) dX11_isPlace_7 (by decide) (fun hc2 => ?_) (fun hc2 => ?_)
    · have h := (if_pos hc2).symm.trans h
      refine M_iconst (pc := 14) (v := 0) dX11_isPlace_14 (by decide) ?_
      obtain rfl := Option.some.inj h
      exact M_iret (pc := 15) dX11_isPlace_15 rfl rfl rfl rfl
    · have h := (if_neg hc2).symm.trans h
      refine M_iconst (pc := 10) (v := 1) dX11_isPlace_10 (by decide) ?_
      refine M_goto (pc := 11) (tgt := 15) dX11_isPlace_11 (by decide) ?_
      obtain rfl := Option.some.inj h
      exact M_iret (pc := 15) dX11_isPlace_15 rfl rfl rfl rfl
