def L_X11_putBytes_3 (x1 : Int32) (x2 : Int32) (I : HI) : Option (HI) :=
  if x2 < 0 then some I else if (400 : Int32) ≤ (I 1 1) then L_X11_putBytes_3 x1 (x2 + (-8 : Int32)) I else if inB (I 1 1) 400 = true then L_X11_putBytes_3 x1 (x2 + (-8 : Int32)) (up2 (up2 I 2 ((I 1 1)).toNatClampNeg (((x1).toUInt32 >>> ((x2).toUInt32 &&& Int32.toUInt32 31)).toInt32 &&& (255 : Int32))) 1 1 (((up2 I 2 ((I 1 1)).toNatClampNeg (((x1).toUInt32 >>> ((x2).toUInt32 &&& Int32.toUInt32 31)).toInt32 &&& (255 : Int32))) 1 1) + (1 : Int32))) else none
partial_fixpoint
def F_X11_putBytes (I : HI) (x1 : Int32) : Option (HI) :=
  L_X11_putBytes_3 x1 (24 : Int32) I
set_option maxRecDepth 4000 in
set_option maxHeartbeats 4000000 in
theorem LC_X11_putBytes_3 {g : gX} {d : Nat} {P : Nat → Nat → Option Nat} {J : HJ} {x1 : Int32} (hp : Wp P) : ∀ (x2 : Int32) (I : HI) (r : HI), L_X11_putBytes_3 x1 x2 I = some r → M g mX11_putBytes (d + 0) (NT, NT, 0) ((.inl none), (NT, r, J, P)) 3 [some (.ref 1), some (.int x1), some (.int x2)] [] (NT, I, J, P) := by
  refine L_X11_putBytes_3.partial_correctness x1 (fun x2 I r => M g mX11_putBytes (d + 0) (NT, NT, 0) ((.inl none), (NT, r, J, P)) 3 [some (.ref 1), some (.int x1), some (.int x2)] [] (NT, I, J, P)) ?_
  intro f ih x2 I r h
  refine M_iload_n (pc := 3) dX11_putBytes_3 rfl ?_
  refine M_if_lt (pc := 4) (tgt := 49) dX11_putBytes_4 (by decide) (fun hc1 => ?_) (fun hc1 => ?_)
  · have h := (if_pos hc1).symm.trans h
    obtain rfl := Option.some.inj h
    exact M_vret (pc := 49) dX11_putBytes_49 rfl rfl rfl
  · have h := (if_neg hc1).symm.trans h
    refine M_aload_n (pc := 7) dX11_putBytes_7 rfl ?_
    refine M_getI (pc := 8) dX11_putBytes_8 f_X11_13 at_10 ?_
    refine M_sipush (pc := 11) (v := 400) dX11_putBytes_11 (by decide) ?_
    refine M_icmp_ge (pc := 14) (tgt := 43) dX11_putBytes_14 (by decide) (fun hc2 => ?_) (fun hc2 => ?_)
    · have h := (if_pos hc2).symm.trans h
      refine M_iinc (pc := 43) (v := (x2 + (-8 : Int32))) (ls' := [some (.ref 1), some (.int x1), some (.int (x2 + (-8 : Int32)))]) dX11_putBytes_43 rfl rfl (by decide) rfl ?_
      refine M_goto (pc := 46) (tgt := 3) dX11_putBytes_46 (by decide) ?_
      exact ih (x2 + (-8 : Int32)) I _ h
    · have h := (if_neg hc2).symm.trans h
      refine M_aload_n (pc := 17) dX11_putBytes_17 rfl ?_
      refine M_getR (pc := 18) dX11_putBytes_18 f_X11_9 at_10 (gr_10_0 hp at_10).1 ?_
      refine M_aload_n (pc := 21) dX11_putBytes_21 rfl ?_
      refine M_getI (pc := 22) dX11_putBytes_22 f_X11_13 at_10 ?_
      refine M_iload_n (pc := 25) dX11_putBytes_25 rfl ?_
      refine M_iload_n (pc := 26) dX11_putBytes_26 rfl ?_
      refine M_iushr (pc := 27) dX11_putBytes_27 ?_
      refine M_sipush (pc := 28) (v := 255) dX11_putBytes_28 (by decide) ?_
      refine M_iand (pc := 31) dX11_putBytes_31 ?_
      obtain ⟨hb3, h⟩ := chk h
      refine M_iast (pc := 32) dX11_putBytes_32 (gr_10_0 hp at_10).2 (inB_in hb3) ?_
      refine M_aload_n (pc := 33) dX11_putBytes_33 rfl ?_
      refine M_dup (pc := 34) dX11_putBytes_34 rfl ?_
      refine M_getI (pc := 35) dX11_putBytes_35 f_X11_13 at_10 ?_
      refine M_iconst (pc := 38) (v := 1) dX11_putBytes_38 (by decide) ?_
      refine M_iadd (pc := 39) dX11_putBytes_39 ?_
      refine M_putI (pc := 40) dX11_putBytes_40 f_X11_13 at_10 rfl ⟨rfl, rfl⟩ ?_
      refine M_iinc (pc := 43) (v := (x2 + (-8 : Int32))) (ls' := [some (.ref 1), some (.int x1), some (.int (x2 + (-8 : Int32)))]) dX11_putBytes_43 rfl rfl (by decide) rfl ?_
      refine M_goto (pc := 46) (tgt := 3) dX11_putBytes_46 (by decide) ?_
      exact ih (x2 + (-8 : Int32)) (up2 (up2 I 2 ((I 1 1)).toNatClampNeg (((x1).toUInt32 >>> ((x2).toUInt32 &&& Int32.toUInt32 31)).toInt32 &&& (255 : Int32))) 1 1 (((up2 I 2 ((I 1 1)).toNatClampNeg (((x1).toUInt32 >>> ((x2).toUInt32 &&& Int32.toUInt32 31)).toInt32 &&& (255 : Int32))) 1 1) + (1 : Int32))) _ h
set_option maxRecDepth 4000 in
set_option maxHeartbeats 4000000 in
theorem C_X11_putBytes {g : gX} {d : Nat} {P : Nat → Nat → Option Nat} {I : HI} {x1 : Int32} {J : HJ} (hp : Wp P) {r : HI} (h : F_X11_putBytes I x1 = some r) : Cm g mX11_putBytes (d + 0) [.ref 1, .int x1] (NT, I, J, P) none (NT, r, J, P) := by
  unfold F_X11_putBytes at h
  refine Cm.of (by decide) (by simp [Value.category]) (Nat.le_of_ble_eq_true rfl) (Nat.le_refl _) (ls := [some (.ref 1), some (.int x1), none]) rfl ?_
  refine M_bipush (pc := 0) (v := 24) dX11_putBytes_0 (by decide) ?_
  refine M_istore_n (pc := 2) (ls' := [some (.ref 1), some (.int x1), some (.int (24 : Int32))]) dX11_putBytes_2 (by decide) rfl ?_
  exact LC_X11_putBytes_3 (P := P) hp (24 : Int32) I _ h
def F_X11_end (I : HI) (x1 : Int32) : Option (Int32 × HI) :=
  if x1 < 0 then some ((0 : Int32), I) else if x1 ≤ (I 1 1) then some ((1 : Int32), (up2 I 1 1 x1)) else some ((0 : Int32), I)
set_option maxRecDepth 4000 in
set_option maxHeartbeats 4000000 in
theorem C_X11_end {g : gX} {d : Nat} {P : Nat → Nat → Option Nat} {I : HI} {x1 : Int32} {J : HJ} (hp : Wp P) {r : Int32 × HI} (h : F_X11_end I x1 = some r) : Cm g mX11_end (d + 0) [.ref 1, .int x1] (NT, I, J, P) (some (.int r.1)) (NT, r.2, J, P) := by
  unfold F_X11_end at h
  refine Cm.of (by decide) (by simp [Value.category]) (Nat.le_of_ble_eq_true rfl) (Nat.le_refl _) (ls := [some (.ref 1), some (.int x1)]) rfl ?_
  refine M_iload_n (pc := 0) dX11_end_0 rfl ?_
  refine M_if_lt (pc := 1) (tgt := 12) dX11_end_1 (by decide) (fun hc1 => ?_) (fun hc1 => ?_)
  · have h := (if_pos hc1).symm.trans h
    refine M_iconst (pc := 12) (v := 0) dX11_end_12 (by decide) ?_
    obtain rfl := Option.some.inj h
    exact M_iret (pc := 13) dX11_end_13 rfl rfl rfl rfl
  · have h := (if_neg hc1).symm.trans h
    refine M_iload_n (pc := 4) dX11_end_4 rfl ?_
    refine M_aload_n (pc := 5) dX11_end_5 rfl ?_
    refine M_getI (pc := 6) dX11_end_6 f_X11_13 at_10 ?_
    refine M_icmp_le (pc := 9) (tgt := 14) dX11_end_9 (by decide) (fun hc2 => ?_) (fun hc2 => ?_)
    · have h := (if_pos hc2).symm.trans h
      refine M_aload_n (pc := 14) dX11_end_14 rfl ?_
      refine M_iload_n (pc := 15) dX11_end_15 rfl ?_
      refine M_putI (pc := 16) dX11_end_16 f_X11_13 at_10 rfl ⟨rfl, rfl⟩ ?_
      refine M_iconst (pc := 19) (v := 1) dX11_end_19 (by decide) ?_
      obtain rfl := Option.some.inj h
      exact M_iret (pc := 20) dX11_end_20 rfl rfl rfl rfl
    · have h := (if_neg hc2).symm.trans h
      refine M_iconst (pc := 12) (v := 0) dX11_end_12 (by decide) ?_
      obtain rfl := Option.some.inj h
      exact M_iret (pc := 13) dX11_end_13 rfl rfl rfl rfl
def F_X11_takeTape (I : HI) : Option (Int32 × HI) :=
  some ((I 1 1), (up2 I 1 1 (0 : Int32)))
set_option maxRecDepth 4000 in
set_option maxHeartbeats 4000000 in
theorem C_X11_takeTape {g : gX} {d : Nat} {P : Nat → Nat → Option Nat} {I : HI} {J : HJ} (hp : Wp P) {r : Int32 × HI} (h : F_X11_takeTape I = some r) : Cm g mX11_takeTape (d + 0) [.ref 1] (NT, I, J, P) (some (.int r.1)) (NT, r.2, J, P) := by
  unfold F_X11_takeTape at h
  refine Cm.of (by decide) (by simp [Value.category]) (Nat.le_of_ble_eq_true rfl) (Nat.le_refl _) (ls := [some (.ref 1), none]) rfl ?_
  refine M_aload_n (pc := 0) dX11_takeTape_0 rfl ?_
  refine M_getI (pc := 1) dX11_takeTape_1 f_X11_13 at_10 ?_
  refine M_istore_n (pc := 4) (ls' := [some (.ref 1), some (.int (I 1 1))]) dX11_takeTape_4 (by decide) rfl ?_
  refine M_aload_n (pc := 5) dX11_takeTape_5 rfl ?_
  refine M_iconst (pc := 6) (v := 0) dX11_takeTape_6 (by decide) ?_
  refine M_putI (pc := 7) dX11_takeTape_7 f_X11_13 at_10 rfl ⟨rfl, rfl⟩ ?_
  refine M_iload_n (pc := 10) dX11_takeTape_10 rfl ?_
  obtain rfl := Option.some.inj h
  exact M_iret (pc := 11) dX11_takeTape_11 rfl rfl rfl rfl
def L_X11_toldAtMost_2 (I : HI) (x1 : Int32) (x2 : Int32) (x3 : Int32) : Option (Int32) :=
  if x1 ≤ x3 then some (1 : Int32) else if (400 : Int32) ≤ x3 then some (1 : Int32) else (ald 400 (I 2) x3) >>= fun v3 => if v3 ≤ x2 then L_X11_toldAtMost_2 I x1 x2 (x3 + (1 : Int32)) else some (0 : Int32)
partial_fixpoint
def F_X11_toldAtMost (I : HI) (x1 : Int32) (x2 : Int32) : Option (Int32) :=
  L_X11_toldAtMost_2 I x1 x2 (0 : Int32)
set_option maxRecDepth 4000 in
set_option maxHeartbeats 4000000 in
theorem LC_X11_toldAtMost_2 {g : gX} {d : Nat} {P : Nat → Nat → Option Nat} {J : HJ} {I : HI} {x1 : Int32} {x2 : Int32} (hp : Wp P) : ∀ (x3 : Int32) (r : Int32), L_X11_toldAtMost_2 I x1 x2 x3 = some r → M g mX11_toldAtMost (d + 0) (NT, NT, 0) ((.inl (some (.int r))), (NT, I, J, P)) 2 [some (.ref 1), some (.int x1), some (.int x2), some (.int x3)] [] (NT, I, J, P) := by
  refine L_X11_toldAtMost_2.partial_correctness I x1 x2 (fun x3 r => M g mX11_toldAtMost (d + 0) (NT, NT, 0) ((.inl (some (.int r))), (NT, I, J, P)) 2 [some (.ref 1), some (.int x1), some (.int x2), some (.int x3)] [] (NT, I, J, P)) ?_
  intro f ih x3 r h
  refine M_iload_n (pc := 2) dX11_toldAtMost_2 rfl ?_
  refine M_iload_n (pc := 3) dX11_toldAtMost_3 rfl ?_
  refine M_icmp_ge (pc := 4) (tgt := 32) dX11_toldAtMost_4 (by decide) (fun hc1 => ?_) (fun hc1 => ?_)
  · have h := (if_pos hc1).symm.trans h
    refine M_iconst (pc := 32) (v := 1) dX11_toldAtMost_32 (by decide) ?_
    obtain rfl := Option.some.inj h
    exact M_iret (pc := 33) dX11_toldAtMost_33 rfl rfl rfl rfl
  · have h := (if_neg hc1).symm.trans h
    refine M_iload_n (pc := 7) dX11_toldAtMost_7 rfl ?_
    refine M_sipush (pc := 8) (v := 400) dX11_toldAtMost_8 (by decide) ?_
    refine M_icmp_ge (pc := 11) (tgt := 32) dX11_toldAtMost_11 (by decide) (fun hc2 => ?_) (fun hc2 => ?_)
    · have h := (if_pos hc2).symm.trans h
      refine M_iconst (pc := 32) (v := 1) dX11_toldAtMost_32 (by decide) ?_
      obtain rfl := Option.some.inj h
      exact M_iret (pc := 33) dX11_toldAtMost_33 rfl rfl rfl rfl
    · have h := (if_neg hc2).symm.trans h
      refine M_aload_n (pc := 14) dX11_toldAtMost_14 rfl ?_
      refine M_getR (pc := 15) dX11_toldAtMost_15 f_X11_9 at_10 (gr_10_0 hp at_10).1 ?_
      refine M_iload_n (pc := 18) dX11_toldAtMost_18 rfl ?_
      obtain ⟨v3, hv4, h⟩ := bnd h
      refine M_aldI (pc := 19) dX11_toldAtMost_19 (gr_10_0 hp at_10).2 hv4 ?_
      refine M_iload_n (pc := 20) dX11_toldAtMost_20 rfl ?_
      refine M_icmp_le (pc := 21) (tgt := 26) dX11_toldAtMost_21 (by decide) (fun hc5 => ?_) (fun hc5 => ?_)
      · have h := (if_pos hc5).symm.trans h
        refine M_iinc (pc := 26) (v := (x3 + (1 : Int32))) (ls' := [some (.ref 1), some (.int x1), some (.int x2), some (.int (x3 + (1 : Int32)))]) dX11_toldAtMost_26 rfl rfl (by decide) rfl ?_
        refine M_goto (pc := 29) (tgt := 2) dX11_toldAtMost_29 (by decide) ?_
        exact ih (x3 + (1 : Int32)) _ h
      · have h := (if_neg hc5).symm.trans h
        refine M_iconst (pc := 24) (v := 0) dX11_toldAtMost_24 (by decide) ?_
        obtain rfl := Option.some.inj h
        exact M_iret (pc := 25) dX11_toldAtMost_25 rfl rfl rfl rfl
set_option maxRecDepth 4000 in
set_option maxHeartbeats 4000000 in
theorem C_X11_toldAtMost {g : gX} {d : Nat} {P : Nat → Nat → Option Nat} {I : HI} {x1 : Int32} {x2 : Int32} {J : HJ} (hp : Wp P) {r : Int32} (h : F_X11_toldAtMost I x1 x2 = some r) : Cm g mX11_toldAtMost (d + 0) [.ref 1, .int x1, .int x2] (NT, I, J, P) (some (.int r)) (NT, I, J, P) := by
  unfold F_X11_toldAtMost at h
  refine Cm.of (by decide) (by simp [Value.category]) (Nat.le_of_ble_eq_true rfl) (Nat.le_refl _) (ls := [some (.ref 1), some (.int x1), some (.int x2), none]) rfl ?_
  refine M_iconst (pc := 0) (v := 0) dX11_toldAtMost_0 (by decide) ?_
  refine M_istore_n (pc := 1) (ls' := [some (.ref 1), some (.int x1), some (.int x2), some (.int (0 : Int32))]) dX11_toldAtMost_1 (by decide) rfl ?_
  exact LC_X11_toldAtMost_2 (P := P) hp (0 : Int32) _ h
def F_X11_fault (I : HI) : Option (Int32) :=
  some (I 1 2)
set_option maxRecDepth 4000 in
set_option maxHeartbeats 4000000 in
theorem C_X11_fault {g : gX} {d : Nat} {P : Nat → Nat → Option Nat} {I : HI} {J : HJ} (hp : Wp P) {r : Int32} (h : F_X11_fault I = some r) : Cm g mX11_fault (d + 0) [.ref 1] (NT, I, J, P) (some (.int r)) (NT, I, J, P) := by
  unfold F_X11_fault at h
  refine Cm.of (by decide) (by simp [Value.category]) (Nat.le_of_ble_eq_true rfl) (Nat.le_refl _) (ls := [some (.ref 1)]) rfl ?_
  refine M_aload_n (pc := 0) dX11_fault_0 rfl ?_
  refine M_getI (pc := 1) dX11_fault_1 f_X11_17 at_10 ?_
  obtain rfl := Option.some.inj h
  exact M_iret (pc := 4) dX11_fault_4 rfl rfl rfl rfl
def F_X11_far (I : HI) (x1 : Int32) (x2 : Int32) : Option ((Int32 ⊕ String)) :=
  (F_X1_has I 4 x1) >>= fun r1 => if r1 = 0 then some (Sum.inr "java/lang/IndexOutOfBoundsException") else (F_X1_has I 4 x2) >>= fun r4 => if r4 = 0 then some (Sum.inr "java/lang/IndexOutOfBoundsException") else (F_X1_distance I 4 x1 x2) >>= fun r7 => some (Sum.inl r7)
set_option maxRecDepth 4000 in
set_option maxHeartbeats 4000000 in
theorem C_X11_far {g : gX} {d : Nat} {P : Nat → Nat → Option Nat} {I : HI} {x1 : Int32} {x2 : Int32} {J : HJ} (hp : Wp P) {r : (Int32 ⊕ String)} (h : F_X11_far I x1 x2 = some r) : Cx g mX11_far (d + 6) [.ref 1, .int x1, .int x2] (NT, I, J, P) ((thr_i r), (NT, I, J, P)) := by
  unfold F_X11_far at h
  refine Cx.of (by decide) (by simp [Value.category]) (Nat.le_of_ble_eq_true rfl) (Nat.le_refl _) (ls := [some (.ref 1), some (.int x1), some (.int x2)]) rfl ?_
  refine M_aload_n (pc := 0) dX11_far_0 rfl ?_
  refine M_getR (pc := 1) dX11_far_1 f_X11_23 at_10 (gr_10_3 hp at_10).1 ?_
  refine M_getR (pc := 4) dX11_far_4 f_X11_148 (gr_10_3 hp at_10).2 (gr_3_0 hp (gr_10_3 hp at_10).2).1 ?_
  refine M_iload_n (pc := 7) dX11_far_7 rfl ?_
  obtain ⟨r1, hr2, h⟩ := bnd h
  refine M_callVi (pc := 8) dX11_far_8 v_X11_152 rfl rfl (gr_3_0 hp (gr_10_3 hp at_10).2).2 (Nat.le_of_ble_eq_true rfl) (C_X1_has (d := d + 5) hp (gr_3_0 hp (gr_10_3 hp at_10).2).2 hr2) (Nat.le_refl _) ?_
  refine M_if_eq (pc := 11) (tgt := 28) dX11_far_11 (by decide) (fun hc3 => ?_) (fun hc3 => ?_)
  · have h := (if_pos hc3).symm.trans h
    obtain rfl := Option.some.inj h
    exact M_throw (pc := 28) dX11_far_28 dX11_far_31 dX11_far_32 dX11_far_34 dX11_far_37 x_X11_158 (j := 3) (by decide) str_X11_160 rfl rfl
  · have h := (if_neg hc3).symm.trans h
    refine M_aload_n (pc := 14) dX11_far_14 rfl ?_
    refine M_getR (pc := 15) dX11_far_15 f_X11_23 at_10 (gr_10_3 hp at_10).1 ?_
    refine M_getR (pc := 18) dX11_far_18 f_X11_148 (gr_10_3 hp at_10).2 (gr_3_0 hp (gr_10_3 hp at_10).2).1 ?_
    refine M_iload_n (pc := 21) dX11_far_21 rfl ?_
    obtain ⟨r4, hr5, h⟩ := bnd h
    refine M_callVi (pc := 22) dX11_far_22 v_X11_152 rfl rfl (gr_3_0 hp (gr_10_3 hp at_10).2).2 (Nat.le_of_ble_eq_true rfl) (C_X1_has (d := d + 5) hp (gr_3_0 hp (gr_10_3 hp at_10).2).2 hr5) (Nat.le_refl _) ?_
    refine M_if_ne (pc := 25) (tgt := 38) dX11_far_25 (by decide) (fun hc6 => ?_) (fun hc6 => ?_)
    · have h := (if_neg hc6).symm.trans h
      refine M_aload_n (pc := 38) dX11_far_38 rfl ?_
      refine M_getR (pc := 39) dX11_far_39 f_X11_23 at_10 (gr_10_3 hp at_10).1 ?_
      refine M_getR (pc := 42) dX11_far_42 f_X11_148 (gr_10_3 hp at_10).2 (gr_3_0 hp (gr_10_3 hp at_10).2).1 ?_
      refine M_iload_n (pc := 45) dX11_far_45 rfl ?_
      refine M_iload_n (pc := 46) dX11_far_46 rfl ?_
      obtain ⟨r7, hr8, h⟩ := bnd h
      refine M_callVi (pc := 47) dX11_far_47 v_X11_208 rfl rfl (gr_3_0 hp (gr_10_3 hp at_10).2).2 (Nat.le_of_ble_eq_true rfl) (C_X1_distance (d := d + 5) hp (gr_3_0 hp (gr_10_3 hp at_10).2).2 hr8) (Nat.le_refl _) ?_
      obtain rfl := Option.some.inj h
      exact M_iret (pc := 50) dX11_far_50 rfl rfl rfl rfl
    · have h := (if_pos hc6).symm.trans h
      obtain rfl := Option.some.inj h
      exact M_throw (pc := 28) dX11_far_28 dX11_far_31 dX11_far_32 dX11_far_34 dX11_far_37 x_X11_158 (j := 3) (by decide) str_X11_160 rfl rfl
def L_X11_near_28 (I : HI) (x1 : Int32) (x2 : Int32) (x3 : Int32) : Option ((Int32 ⊕ String)) :=
  if (I 4 0) ≤ x3 then some (Sum.inl x2) else if x3 = x1 then L_X11_near_28 I x1 x2 (x3 + (1 : Int32)) else (F_X1_distance I 4 x1 x3) >>= fun r6 => if (I 3 7) < r6 then L_X11_near_28 I x1 x2 (x3 + (1 : Int32)) else L_X11_near_28 I x1 (x2 ||| ((1 : Int32) <<< (x3 &&& 31))) (x3 + (1 : Int32))
partial_fixpoint
def F_X11_near (I : HI) (x1 : Int32) : Option ((Int32 ⊕ String)) :=
  (F_X1_has I 4 x1) >>= fun r1 => if r1 = 0 then some (Sum.inr "java/lang/IndexOutOfBoundsException") else L_X11_near_28 I x1 (0 : Int32) (0 : Int32)
set_option maxRecDepth 4000 in
set_option maxHeartbeats 4000000 in
theorem LC_X11_near_28 {g : gX} {d : Nat} {P : Nat → Nat → Option Nat} {J : HJ} {I : HI} {x1 : Int32} (hp : Wp P) : ∀ (x2 : Int32) (x3 : Int32) (r : (Int32 ⊕ String)), L_X11_near_28 I x1 x2 x3 = some r → M g mX11_near (d + 6) (NT, NT, 1) ((thr_i r), (NT, I, J, P)) 28 [some (.ref 1), some (.int x1), some (.int x2), some (.int x3)] [] (NT, I, J, P) := by
  refine L_X11_near_28.partial_correctness I x1 (fun x2 x3 r => M g mX11_near (d + 6) (NT, NT, 1) ((thr_i r), (NT, I, J, P)) 28 [some (.ref 1), some (.int x1), some (.int x2), some (.int x3)] [] (NT, I, J, P)) ?_
  intro f ih x2 x3 r h
  refine M_iload_n (pc := 28) dX11_near_28 rfl ?_
  refine M_aload_n (pc := 29) dX11_near_29 rfl ?_
  refine M_getR (pc := 30) dX11_near_30 f_X11_23 at_10 (gr_10_3 hp at_10).1 ?_
  refine M_getR (pc := 33) dX11_near_33 f_X11_148 (gr_10_3 hp at_10).2 (gr_3_0 hp (gr_10_3 hp at_10).2).1 ?_
  refine M_getI (pc := 36) dX11_near_36 f_X11_211 (gr_3_0 hp (gr_10_3 hp at_10).2).2 ?_
  refine M_icmp_ge (pc := 39) (tgt := 81) dX11_near_39 (by decide) (fun hc4 => ?_) (fun hc4 => ?_)
  · have h := (if_pos hc4).symm.trans h
    refine M_iload_n (pc := 81) dX11_near_81 rfl ?_
    obtain rfl := Option.some.inj h
    exact M_iret (pc := 82) dX11_near_82 rfl rfl rfl rfl
  · have h := (if_neg hc4).symm.trans h
    refine M_iload_n (pc := 42) dX11_near_42 rfl ?_
    refine M_iload_n (pc := 43) dX11_near_43 rfl ?_
    refine M_icmp_eq (pc := 44) (tgt := 75) dX11_near_44 (by decide) (fun hc5 => ?_) (fun hc5 => ?_)
    · have h := (if_pos hc5).symm.trans h
      refine M_iinc (pc := 75) (v := (x3 + (1 : Int32))) (ls' := [some (.ref 1), some (.int x1), some (.int x2), some (.int (x3 + (1 : Int32)))]) dX11_near_75 rfl rfl (by decide) rfl ?_
      refine M_goto (pc := 78) (tgt := 28) dX11_near_78 (by decide) ?_
      exact ih x2 (x3 + (1 : Int32)) _ h
    · have h := (if_neg hc5).symm.trans h
      refine M_aload_n (pc := 47) dX11_near_47 rfl ?_
      refine M_getR (pc := 48) dX11_near_48 f_X11_23 at_10 (gr_10_3 hp at_10).1 ?_
      refine M_getR (pc := 51) dX11_near_51 f_X11_148 (gr_10_3 hp at_10).2 (gr_3_0 hp (gr_10_3 hp at_10).2).1 ?_
      refine M_iload_n (pc := 54) dX11_near_54 rfl ?_
      refine M_iload_n (pc := 55) dX11_near_55 rfl ?_
      obtain ⟨r6, hr7, h⟩ := bnd h
      refine M_callVi (pc := 56) dX11_near_56 v_X11_208 rfl rfl (gr_3_0 hp (gr_10_3 hp at_10).2).2 (Nat.le_of_ble_eq_true rfl) (C_X1_distance (d := d + 5) hp (gr_3_0 hp (gr_10_3 hp at_10).2).2 hr7) (Nat.le_refl _) ?_
      refine M_aload_n (pc := 59) dX11_near_59 rfl ?_
      refine M_getR (pc := 60) dX11_near_60 f_X11_23 at_10 (gr_10_3 hp at_10).1 ?_
      refine M_getI (pc := 63) dX11_near_63 f_X11_180 (gr_10_3 hp at_10).2 ?_
      refine M_icmp_gt (pc := 66) (tgt := 75) dX11_near_66 (by decide) (fun hc8 => ?_) (fun hc8 => ?_)
      · have h := (if_pos hc8).symm.trans h
        refine M_iinc (pc := 75) (v := (x3 + (1 : Int32))) (ls' := [some (.ref 1), some (.int x1), some (.int x2), some (.int (x3 + (1 : Int32)))]) dX11_near_75 rfl rfl (by decide) rfl ?_
        refine M_goto (pc := 78) (tgt := 28) dX11_near_78 (by decide) ?_
        exact ih x2 (x3 + (1 : Int32)) _ h
      · have h := (if_neg hc8).symm.trans h
        refine M_iload_n (pc := 69) dX11_near_69 rfl ?_
        refine M_iconst (pc := 70) (v := 1) dX11_near_70 (by decide) ?_
        refine M_iload_n (pc := 71) dX11_near_71 rfl ?_
        refine M_ishl (pc := 72) dX11_near_72 ?_
        refine M_ior (pc := 73) dX11_near_73 ?_
        refine M_istore_n (pc := 74) (ls' := [some (.ref 1), some (.int x1), some (.int (x2 ||| ((1 : Int32) <<< (x3 &&& 31)))), some (.int x3)]) dX11_near_74 (by decide) rfl ?_
        refine M_iinc (pc := 75) (v := (x3 + (1 : Int32))) (ls' := [some (.ref 1), some (.int x1), some (.int (x2 ||| ((1 : Int32) <<< (x3 &&& 31)))), some (.int (x3 + (1 : Int32)))]) dX11_near_75 rfl rfl (by decide) rfl ?_
        refine M_goto (pc := 78) (tgt := 28) dX11_near_78 (by decide) ?_
        exact ih (x2 ||| ((1 : Int32) <<< (x3 &&& 31))) (x3 + (1 : Int32)) _ h
set_option maxRecDepth 4000 in
set_option maxHeartbeats 4000000 in
theorem C_X11_near {g : gX} {d : Nat} {P : Nat → Nat → Option Nat} {I : HI} {x1 : Int32} {J : HJ} (hp : Wp P) {r : (Int32 ⊕ String)} (h : F_X11_near I x1 = some r) : Cx g mX11_near (d + 6) [.ref 1, .int x1] (NT, I, J, P) ((thr_i r), (NT, I, J, P)) := by
  unfold F_X11_near at h
  refine Cx.of (by decide) (by simp [Value.category]) (Nat.le_of_ble_eq_true rfl) (Nat.le_refl _) (ls := [some (.ref 1), some (.int x1), none, none]) rfl ?_
  refine M_aload_n (pc := 0) dX11_near_0 rfl ?_
  refine M_getR (pc := 1) dX11_near_1 f_X11_23 at_10 (gr_10_3 hp at_10).1 ?_
  refine M_getR (pc := 4) dX11_near_4 f_X11_148 (gr_10_3 hp at_10).2 (gr_3_0 hp (gr_10_3 hp at_10).2).1 ?_
  refine M_iload_n (pc := 7) dX11_near_7 rfl ?_
  obtain ⟨r1, hr2, h⟩ := bnd h
  refine M_callVi (pc := 8) dX11_near_8 v_X11_152 rfl rfl (gr_3_0 hp (gr_10_3 hp at_10).2).2 (Nat.le_of_ble_eq_true rfl) (C_X1_has (d := d + 5) hp (gr_3_0 hp (gr_10_3 hp at_10).2).2 hr2) (Nat.le_refl _) ?_
  refine M_if_ne (pc := 11) (tgt := 24) dX11_near_11 (by decide) (fun hc3 => ?_) (fun hc3 => ?_)
  · have h := (if_neg hc3).symm.trans h
    refine M_iconst (pc := 24) (v := 0) dX11_near_24 (by decide) ?_
    refine M_istore_n (pc := 25) (ls' := [some (.ref 1), some (.int x1), some (.int (0 : Int32)), none]) dX11_near_25 (by decide) rfl ?_
    refine M_iconst (pc := 26) (v := 0) dX11_near_26 (by decide) ?_
    refine M_istore_n (pc := 27) (ls' := [some (.ref 1), some (.int x1), some (.int (0 : Int32)), some (.int (0 : Int32))]) dX11_near_27 (by decide) rfl ?_
    exact LC_X11_near_28 (P := P) hp (0 : Int32) (0 : Int32) _ h
  · have h := (if_pos hc3).symm.trans h
    obtain rfl := Option.some.inj h
    exact M_throw (pc := 14) dX11_near_14 dX11_near_17 dX11_near_18 dX11_near_20 dX11_near_23 x_X11_158 (j := 3) (by decide) str_X11_160 rfl rfl
def F_X11_isPlace (I : HI) (x0 : Int32) : Option (Int32) :=
  if x0 < 0 then some (0 : Int32) else if (7 : Int32) < x0 then some (0 : Int32) else some (1 : Int32)
set_option maxRecDepth 4000 in
set_option maxHeartbeats 4000000 in
theorem C_X11_isPlace {g : gX} {d : Nat} {P : Nat → Nat → Option Nat} {I : HI} {x0 : Int32} {J : HJ} (hp : Wp P) {r : Int32} (h : F_X11_isPlace I x0 = some r) : Cm g mX11_isPlace (d + 0) [.int x0] (NT, I, J, P) (some (.int r)) (NT, I, J, P) := by
  unfold F_X11_isPlace at h
  refine Cm.of (by decide) (by simp [Value.category]) (Nat.le_of_ble_eq_true rfl) (Nat.le_refl _) (ls := [some (.int x0)]) rfl ?_
  refine M_iload_n (pc := 0) dX11_isPlace_0 rfl ?_
  refine M_if_lt (pc := 1) (tgt := 14) dX11_isPlace_1 (by decide) (fun hc1 => ?_) (fun hc1 => ?_)
  · have h := (if_pos hc1).symm.trans h
    refine M_iconst (pc := 14) (v := 0) dX11_isPlace_14 (by decide) ?_
    obtain rfl := Option.some.inj h
    exact M_iret (pc := 15) dX11_isPlace_15 rfl rfl rfl rfl
  · have h := (if_neg hc1).symm.trans h
    refine M_iload_n (pc := 4) dX11_isPlace_4 rfl ?_
    refine M_bipush (pc := 5) (v := 7) dX11_isPlace_5 (by decide) ?_
    refine M_icmp_gt (pc := 7) (tgt := 14) dX11_isPlace_7 (by decide) (fun hc2 => ?_) (fun hc2 => ?_)
    · have h := (if_pos hc2).symm.trans h
      refine M_iconst (pc := 14) (v := 0) dX11_isPlace_14 (by decide) ?_
      obtain rfl := Option.some.inj h
      exact M_iret (pc := 15) dX11_isPlace_15 rfl rfl rfl rfl
    · have h := (if_neg hc2).symm.trans h
      refine M_iconst (pc := 10) (v := 1) dX11_isPlace_10 (by decide) ?_
      refine M_goto (pc := 11) (tgt := 15) dX11_isPlace_11 (by decide) ?_
      obtain rfl := Option.some.inj h
      exact M_iret (pc := 15) dX11_isPlace_15 rfl rfl rfl rfl
def L_X11_fewest_46 (I : HI) (x1 : Int32) (x3 : Int32) (x4 : Int32) : Option ((Int32 ⊕ String)) :=
  if (10 : Int32) ≤ x4 then some (Sum.inl x3) else if ((x1 >>> (x4 &&& 31)) &&& (1 : Int32)) = 0 then L_X11_fewest_46 I x1 x3 (x4 + (1 : Int32)) else (F_X1_leastOfAge I 4 x4) >>= fun r8 => if r8 = (-1 : Int32) then some (Sum.inl (-1 : Int32)) else L_X11_fewest_46 I x1 (x3 ||| ((1 : Int32) <<< (r8 &&& 31))) (x4 + (1 : Int32))
partial_fixpoint
def F_X11_fewest (I : HI) (x1 : Int32) (x2 : Int32) : Option ((Int32 ⊕ String)) :=
  if x1 < 0 then some (Sum.inr "java/lang/IllegalArgumentException") else if (1023 : Int32) < x1 then some (Sum.inr "java/lang/IllegalArgumentException") else if x2 < 0 then some (Sum.inr "java/lang/IllegalArgumentException") else if x2 ≤ (1023 : Int32) then if (x1 &&& x2) = 0 then L_X11_fewest_46 I x1 (0 : Int32) (0 : Int32) else some (Sum.inl (-1 : Int32)) else some (Sum.inr "java/lang/IllegalArgumentException")
set_option maxRecDepth 4000 in
set_option maxHeartbeats 4000000 in
theorem LC_X11_fewest_46 {g : gX} {d : Nat} {P : Nat → Nat → Option Nat} {J : HJ} {I : HI} {x1 : Int32} (hp : Wp P) : ∀ (x3 : Int32) (x4 : Int32) (r : (Int32 ⊕ String)), L_X11_fewest_46 I x1 x3 x4 = some r → M g mX11_fewest (d + 6) (NT, NT, 1) ((thr_i r), (NT, I, J, P)) 46 [some (.ref 1), some (.int x1), none, some (.int x3), some (.int x4), none] [] (NT, I, J, P) := by
  refine L_X11_fewest_46.partial_correctness I x1 (fun x3 x4 r => M g mX11_fewest (d + 6) (NT, NT, 1) ((thr_i r), (NT, I, J, P)) 46 [some (.ref 1), some (.int x1), none, some (.int x3), some (.int x4), none] [] (NT, I, J, P)) ?_
  intro f ih x3 x4 r h
  refine M_iload (pc := 46) dX11_fewest_46 rfl ?_
  refine M_bipush (pc := 48) (v := 10) dX11_fewest_48 (by decide) ?_
  refine M_icmp_ge (pc := 50) (tgt := 97) dX11_fewest_50 (by decide) (fun hc6 => ?_) (fun hc6 => ?_)
  · have h := (if_pos hc6).symm.trans h
    refine M_iload_n (pc := 97) dX11_fewest_97 rfl ?_
    obtain rfl := Option.some.inj h
    exact M_iret (pc := 98) dX11_fewest_98 rfl rfl rfl rfl
  · have h := (if_neg hc6).symm.trans h
    refine M_iload_n (pc := 53) dX11_fewest_53 rfl ?_
    refine M_iload (pc := 54) dX11_fewest_54 rfl ?_
    refine M_ishr (pc := 56) dX11_fewest_56 ?_
    refine M_iconst (pc := 57) (v := 1) dX11_fewest_57 (by decide) ?_
    refine M_iand (pc := 58) dX11_fewest_58 ?_
    refine M_if_eq (pc := 59) (tgt := 91) dX11_fewest_59 (by decide) (fun hc7 => ?_) (fun hc7 => ?_)
    · have h := (if_pos hc7).symm.trans h
      refine M_iinc (pc := 91) (v := (x4 + (1 : Int32))) (ls' := [some (.ref 1), some (.int x1), none, some (.int x3), some (.int (x4 + (1 : Int32))), none]) dX11_fewest_91 rfl rfl (by decide) rfl ?_
      refine M_goto (pc := 94) (tgt := 46) dX11_fewest_94 (by decide) ?_
      exact ih x3 (x4 + (1 : Int32)) _ h
    · have h := (if_neg hc7).symm.trans h
      refine M_aload_n (pc := 62) dX11_fewest_62 rfl ?_
      refine M_getR (pc := 63) dX11_fewest_63 f_X11_23 at_10 (gr_10_3 hp at_10).1 ?_
      refine M_getR (pc := 66) dX11_fewest_66 f_X11_148 (gr_10_3 hp at_10).2 (gr_3_0 hp (gr_10_3 hp at_10).2).1 ?_
      refine M_iload (pc := 69) dX11_fewest_69 rfl ?_
      obtain ⟨r8, hr9, h⟩ := bnd h
      refine M_callVi (pc := 71) dX11_fewest_71 v_X11_308 rfl rfl (gr_3_0 hp (gr_10_3 hp at_10).2).2 (Nat.le_of_ble_eq_true rfl) (C_X1_leastOfAge (d := d + 3) hp (gr_3_0 hp (gr_10_3 hp at_10).2).2 hr9) (Nat.le_refl _) ?_
      refine M_istore (pc := 74) (ls' := [some (.ref 1), some (.int x1), none, some (.int x3), some (.int x4), some (.int r8)]) dX11_fewest_74 (by decide) rfl ?_
      refine M_iload (pc := 76) dX11_fewest_76 rfl ?_
      refine M_iconst (pc := 78) (v := -1) dX11_fewest_78 (by decide) ?_
      refine M_icmp_ne (pc := 79) (tgt := 84) dX11_fewest_79 (by decide) (fun hc10 => ?_) (fun hc10 => ?_)
      · have h := (if_neg hc10).symm.trans h
        refine M_iload_n (pc := 84) dX11_fewest_84 rfl ?_
        refine M_iconst (pc := 85) (v := 1) dX11_fewest_85 (by decide) ?_
        refine M_iload (pc := 86) dX11_fewest_86 rfl ?_
        refine M_ishl (pc := 88) dX11_fewest_88 ?_
        refine M_ior (pc := 89) dX11_fewest_89 ?_
        refine M_istore_n (pc := 90) (ls' := [some (.ref 1), some (.int x1), none, some (.int (x3 ||| ((1 : Int32) <<< (r8 &&& 31)))), some (.int x4), some (.int r8)]) dX11_fewest_90 (by decide) rfl ?_
        refine M_iinc (pc := 91) (v := (x4 + (1 : Int32))) (ls' := [some (.ref 1), some (.int x1), none, some (.int (x3 ||| ((1 : Int32) <<< (r8 &&& 31)))), some (.int (x4 + (1 : Int32))), some (.int r8)]) dX11_fewest_91 rfl rfl (by decide) rfl ?_
        refine M_goto (pc := 94) (tgt := 46) dX11_fewest_94 (by decide) ?_
        refine M_mask (pc := 46) [true, true, false, true, true, false] rfl ?_
        exact ih (x3 ||| ((1 : Int32) <<< (r8 &&& 31))) (x4 + (1 : Int32)) _ h
      · have h := (if_pos hc10).symm.trans h
        refine M_iconst (pc := 82) (v := -1) dX11_fewest_82 (by decide) ?_
        obtain rfl := Option.some.inj h
        exact M_iret (pc := 83) dX11_fewest_83 rfl rfl rfl rfl
set_option maxRecDepth 4000 in
set_option maxHeartbeats 4000000 in
theorem C_X11_fewest {g : gX} {d : Nat} {P : Nat → Nat → Option Nat} {I : HI} {x1 : Int32} {x2 : Int32} {J : HJ} (hp : Wp P) {r : (Int32 ⊕ String)} (h : F_X11_fewest I x1 x2 = some r) : Cx g mX11_fewest (d + 6) [.ref 1, .int x1, .int x2] (NT, I, J, P) ((thr_i r), (NT, I, J, P)) := by
  unfold F_X11_fewest at h
  refine Cx.of (by decide) (by simp [Value.category]) (Nat.le_of_ble_eq_true rfl) (Nat.le_refl _) (ls := [some (.ref 1), some (.int x1), some (.int x2), none, none, none]) rfl ?_
  refine M_iload_n (pc := 0) dX11_fewest_0 rfl ?_
  refine M_if_lt (pc := 1) (tgt := 22) dX11_fewest_1 (by decide) (fun hc1 => ?_) (fun hc1 => ?_)
  · have h := (if_pos hc1).symm.trans h
    obtain rfl := Option.some.inj h
    exact M_throwW (pc := 22) dX11_fewest_22 dX11_fewest_25 dX11_fewest_26 dX11_fewest_29 dX11_fewest_32 x_X11_118 (j := 14) (by decide) str_X11_306 rfl rfl
  · have h := (if_neg hc1).symm.trans h
    refine M_iload_n (pc := 4) dX11_fewest_4 rfl ?_
    refine M_sipush (pc := 5) (v := 1023) dX11_fewest_5 (by decide) ?_
    refine M_icmp_gt (pc := 8) (tgt := 22) dX11_fewest_8 (by decide) (fun hc2 => ?_) (fun hc2 => ?_)
    · have h := (if_pos hc2).symm.trans h
      obtain rfl := Option.some.inj h
      exact M_throwW (pc := 22) dX11_fewest_22 dX11_fewest_25 dX11_fewest_26 dX11_fewest_29 dX11_fewest_32 x_X11_118 (j := 14) (by decide) str_X11_306 rfl rfl
    · have h := (if_neg hc2).symm.trans h
      refine M_iload_n (pc := 11) dX11_fewest_11 rfl ?_
      refine M_if_lt (pc := 12) (tgt := 22) dX11_fewest_12 (by decide) (fun hc3 => ?_) (fun hc3 => ?_)
      · have h := (if_pos hc3).symm.trans h
        obtain rfl := Option.some.inj h
        exact M_throwW (pc := 22) dX11_fewest_22 dX11_fewest_25 dX11_fewest_26 dX11_fewest_29 dX11_fewest_32 x_X11_118 (j := 14) (by decide) str_X11_306 rfl rfl
      · have h := (if_neg hc3).symm.trans h
        refine M_iload_n (pc := 15) dX11_fewest_15 rfl ?_
        refine M_sipush (pc := 16) (v := 1023) dX11_fewest_16 (by decide) ?_
        refine M_icmp_le (pc := 19) (tgt := 33) dX11_fewest_19 (by decide) (fun hc4 => ?_) (fun hc4 => ?_)
        · have h := (if_pos hc4).symm.trans h
          refine M_iload_n (pc := 33) dX11_fewest_33 rfl ?_
          refine M_iload_n (pc := 34) dX11_fewest_34 rfl ?_
          refine M_iand (pc := 35) dX11_fewest_35 ?_
          refine M_if_eq (pc := 36) (tgt := 41) dX11_fewest_36 (by decide) (fun hc5 => ?_) (fun hc5 => ?_)
          · have h := (if_pos hc5).symm.trans h
            refine M_iconst (pc := 41) (v := 0) dX11_fewest_41 (by decide) ?_
            refine M_istore_n (pc := 42) (ls' := [some (.ref 1), some (.int x1), some (.int x2), some (.int (0 : Int32)), none, none]) dX11_fewest_42 (by decide) rfl ?_
            refine M_iconst (pc := 43) (v := 0) dX11_fewest_43 (by decide) ?_
            refine M_istore (pc := 44) (ls' := [some (.ref 1), some (.int x1), some (.int x2), some (.int (0 : Int32)), some (.int (0 : Int32)), none]) dX11_fewest_44 (by decide) rfl ?_
            refine M_mask (pc := 46) [true, true, false, true, true, false] rfl ?_
            exact LC_X11_fewest_46 (P := P) hp (0 : Int32) (0 : Int32) _ h
          · have h := (if_neg hc5).symm.trans h
            refine M_iconst (pc := 39) (v := -1) dX11_fewest_39 (by decide) ?_
            obtain rfl := Option.some.inj h
            exact M_iret (pc := 40) dX11_fewest_40 rfl rfl rfl rfl
        · have h := (if_neg hc4).symm.trans h
          obtain rfl := Option.some.inj h
          exact M_throwW (pc := 22) dX11_fewest_22 dX11_fewest_25 dX11_fewest_26 dX11_fewest_29 dX11_fewest_32 x_X11_118 (j := 14) (by decide) str_X11_306 rfl rfl
def L_X11_arePairs_2 (I : HI) (x1 : Int32) (x2 : Int32) : Option (Int32) :=
  if x1 ≤ x2 then some (1 : Int32) else if (400 : Int32) ≤ (x2 + (1 : Int32)) then some (1 : Int32) else (ald 400 (I 2) x2) >>= fun v3 => if (99 : Int32) < v3 then some (0 : Int32) else (ald 400 (I 2) (x2 + (1 : Int32))) >>= fun v6 => (F_X11_isPlace I v6) >>= fun r8 => if r8 = 0 then some (0 : Int32) else L_X11_arePairs_2 I x1 (x2 + (2 : Int32))
partial_fixpoint
def F_X11_arePairs (I : HI) (x1 : Int32) : Option (Int32) :=
  L_X11_arePairs_2 I x1 (0 : Int32)
set_option maxRecDepth 4000 in
set_option maxHeartbeats 4000000 in
theorem LC_X11_arePairs_2 {g : gX} {d : Nat} {P : Nat → Nat → Option Nat} {J : HJ} {I : HI} {x1 : Int32} (hp : Wp P) : ∀ (x2 : Int32) (r : Int32), L_X11_arePairs_2 I x1 x2 = some r → M g mX11_arePairs (d + 1) (NT, NT, 0) ((.inl (some (.int r))), (NT, I, J, P)) 2 [some (.ref 1), some (.int x1), some (.int x2)] [] (NT, I, J, P) := by
  refine L_X11_arePairs_2.partial_correctness I x1 (fun x2 r => M g mX11_arePairs (d + 1) (NT, NT, 0) ((.inl (some (.int r))), (NT, I, J, P)) 2 [some (.ref 1), some (.int x1), some (.int x2)] [] (NT, I, J, P)) ?_
  intro f ih x2 r h
  refine M_iload_n (pc := 2) dX11_arePairs_2 rfl ?_
  refine M_iload_n (pc := 3) dX11_arePairs_3 rfl ?_
  refine M_icmp_ge (pc := 4) (tgt := 49) dX11_arePairs_4 (by decide) (fun hc1 => ?_) (fun hc1 => ?_)
  · have h := (if_pos hc1).symm.trans h
    refine M_iconst (pc := 49) (v := 1) dX11_arePairs_49 (by decide) ?_
    obtain rfl := Option.some.inj h
    exact M_iret (pc := 50) dX11_arePairs_50 rfl rfl rfl rfl
  · have h := (if_neg hc1).symm.trans h
    refine M_iload_n (pc := 7) dX11_arePairs_7 rfl ?_
    refine M_iconst (pc := 8) (v := 1) dX11_arePairs_8 (by decide) ?_
    refine M_iadd (pc := 9) dX11_arePairs_9 ?_
    refine M_sipush (pc := 10) (v := 400) dX11_arePairs_10 (by decide) ?_
    refine M_icmp_ge (pc := 13) (tgt := 49) dX11_arePairs_13 (by decide) (fun hc2 => ?_) (fun hc2 => ?_)
    · have h := (if_pos hc2).symm.trans h
      refine M_iconst (pc := 49) (v := 1) dX11_arePairs_49 (by decide) ?_
      obtain rfl := Option.some.inj h
      exact M_iret (pc := 50) dX11_arePairs_50 rfl rfl rfl rfl
    · have h := (if_neg hc2).symm.trans h
      refine M_aload_n (pc := 16) dX11_arePairs_16 rfl ?_
      refine M_getR (pc := 17) dX11_arePairs_17 f_X11_9 at_10 (gr_10_0 hp at_10).1 ?_
      refine M_iload_n (pc := 20) dX11_arePairs_20 rfl ?_
      obtain ⟨v3, hv4, h⟩ := bnd h
      refine M_aldI (pc := 21) dX11_arePairs_21 (gr_10_0 hp at_10).2 hv4 ?_
      refine M_bipush (pc := 22) (v := 99) dX11_arePairs_22 (by decide) ?_
      refine M_icmp_gt (pc := 24) (tgt := 41) dX11_arePairs_24 (by decide) (fun hc5 => ?_) (fun hc5 => ?_)
      · have h := (if_pos hc5).symm.trans h
        refine M_iconst (pc := 41) (v := 0) dX11_arePairs_41 (by decide) ?_
        obtain rfl := Option.some.inj h
        exact M_iret (pc := 42) dX11_arePairs_42 rfl rfl rfl rfl
      · have h := (if_neg hc5).symm.trans h
        refine M_aload_n (pc := 27) dX11_arePairs_27 rfl ?_
        refine M_getR (pc := 28) dX11_arePairs_28 f_X11_9 at_10 (gr_10_0 hp at_10).1 ?_
        refine M_iload_n (pc := 31) dX11_arePairs_31 rfl ?_
        refine M_iconst (pc := 32) (v := 1) dX11_arePairs_32 (by decide) ?_
        refine M_iadd (pc := 33) dX11_arePairs_33 ?_
        obtain ⟨v6, hv7, h⟩ := bnd h
        refine M_aldI (pc := 34) dX11_arePairs_34 (gr_10_0 hp at_10).2 hv7 ?_
        obtain ⟨r8, hr9, h⟩ := bnd h
        refine M_callSi (pc := 35) dX11_arePairs_35 s_X11_255 rfl rfl (Nat.le_of_ble_eq_true rfl) (C_X11_isPlace (d := d + 0) hp hr9) (Nat.le_refl _) ?_
        refine M_if_ne (pc := 38) (tgt := 43) dX11_arePairs_38 (by decide) (fun hc10 => ?_) (fun hc10 => ?_)
        · have h := (if_neg hc10).symm.trans h
          refine M_iinc (pc := 43) (v := (x2 + (2 : Int32))) (ls' := [some (.ref 1), some (.int x1), some (.int (x2 + (2 : Int32)))]) dX11_arePairs_43 rfl rfl (by decide) rfl ?_
          refine M_goto (pc := 46) (tgt := 2) dX11_arePairs_46 (by decide) ?_
          exact ih (x2 + (2 : Int32)) _ h
        · have h := (if_pos hc10).symm.trans h
          refine M_iconst (pc := 41) (v := 0) dX11_arePairs_41 (by decide) ?_
          obtain rfl := Option.some.inj h
          exact M_iret (pc := 42) dX11_arePairs_42 rfl rfl rfl rfl
set_option maxRecDepth 4000 in
set_option maxHeartbeats 4000000 in
theorem C_X11_arePairs {g : gX} {d : Nat} {P : Nat → Nat → Option Nat} {I : HI} {x1 : Int32} {J : HJ} (hp : Wp P) {r : Int32} (h : F_X11_arePairs I x1 = some r) : Cm g mX11_arePairs (d + 1) [.ref 1, .int x1] (NT, I, J, P) (some (.int r)) (NT, I, J, P) := by
  unfold F_X11_arePairs at h
  refine Cm.of (by decide) (by simp [Value.category]) (Nat.le_of_ble_eq_true rfl) (Nat.le_refl _) (ls := [some (.ref 1), some (.int x1), none]) rfl ?_
  refine M_iconst (pc := 0) (v := 0) dX11_arePairs_0 (by decide) ?_
  refine M_istore_n (pc := 1) (ls' := [some (.ref 1), some (.int x1), some (.int (0 : Int32))]) dX11_arePairs_1 (by decide) rfl ?_
  exact LC_X11_arePairs_2 (P := P) hp (0 : Int32) _ h
def F_X11_kitchen (I : HI) (x1 : Int32) : Option ((Int32 ⊕ String)) :=
  (F_X11_isPlace I x1) >>= fun r1 => if r1 = 0 then some (Sum.inr "java/lang/IndexOutOfBoundsException") else (F_X1_hadAt I 4 x1) >>= fun r4 => some (Sum.inl r4)
set_option maxRecDepth 4000 in
set_option maxHeartbeats 4000000 in
theorem C_X11_kitchen {g : gX} {d : Nat} {P : Nat → Nat → Option Nat} {I : HI} {x1 : Int32} {J : HJ} (hp : Wp P) {r : (Int32 ⊕ String)} (h : F_X11_kitchen I x1 = some r) : Cx g mX11_kitchen (d + 6) [.ref 1, .int x1] (NT, I, J, P) ((thr_i r), (NT, I, J, P)) := by
  unfold F_X11_kitchen at h
  refine Cx.of (by decide) (by simp [Value.category]) (Nat.le_of_ble_eq_true rfl) (Nat.le_refl _) (ls := [some (.ref 1), some (.int x1)]) rfl ?_
  refine M_iload_n (pc := 0) dX11_kitchen_0 rfl ?_
  obtain ⟨r1, hr2, h⟩ := bnd h
  refine M_callSi (pc := 1) dX11_kitchen_1 s_X11_255 rfl rfl (Nat.le_of_ble_eq_true rfl) (C_X11_isPlace (d := d + 5) hp hr2) (Nat.le_refl _) ?_
  refine M_if_ne (pc := 4) (tgt := 18) dX11_kitchen_4 (by decide) (fun hc3 => ?_) (fun hc3 => ?_)
  · have h := (if_neg hc3).symm.trans h
    refine M_aload_n (pc := 18) dX11_kitchen_18 rfl ?_
    refine M_getR (pc := 19) dX11_kitchen_19 f_X11_23 at_10 (gr_10_3 hp at_10).1 ?_
    refine M_getR (pc := 22) dX11_kitchen_22 f_X11_148 (gr_10_3 hp at_10).2 (gr_3_0 hp (gr_10_3 hp at_10).2).1 ?_
    refine M_iload_n (pc := 25) dX11_kitchen_25 rfl ?_
    obtain ⟨r4, hr5, h⟩ := bnd h
    refine M_callVi (pc := 26) dX11_kitchen_26 v_X11_362 rfl rfl (gr_3_0 hp (gr_10_3 hp at_10).2).2 (Nat.le_of_ble_eq_true rfl) (C_X1_hadAt (d := d + 5) hp (gr_3_0 hp (gr_10_3 hp at_10).2).2 hr5) (Nat.le_refl _) ?_
    obtain rfl := Option.some.inj h
    exact M_iret (pc := 29) dX11_kitchen_29 rfl rfl rfl rfl
  · have h := (if_pos hc3).symm.trans h
    obtain rfl := Option.some.inj h
    exact M_throwW (pc := 7) dX11_kitchen_7 dX11_kitchen_10 dX11_kitchen_11 dX11_kitchen_14 dX11_kitchen_17 x_X11_158 (j := 10) (by decide) str_X11_272 rfl rfl
def L_X11_dated_18 (I : HI) (x2 : Int32) (x3 : Int32) (x4 : Int32) : Option (Int32) :=
  if (I 4 0) ≤ x4 then some x3 else if ((x2 >>> (x4 &&& 31)) &&& (1 : Int32)) = 0 then L_X11_dated_18 I x2 x3 (x4 + (1 : Int32)) else (F_X1_isHad I 4 x4) >>= fun r5 => if r5 = 0 then some (-1 : Int32) else (ald 12 (I 6) x4) >>= fun v8 => L_X11_dated_18 I x2 (if x3 < v8 then v8 else x3) (x4 + (1 : Int32))
partial_fixpoint
def F_X11_dated (I : HI) (x1 : Int32) : Option (Int32) :=
  (F_X1_all I 4) >>= fun r1 => L_X11_dated_18 I (x1 &&& r1) (-1 : Int32) (0 : Int32)
set_option maxRecDepth 4000 in
set_option maxHeartbeats 4000000 in
theorem LC_X11_dated_18 {g : gX} {d : Nat} {P : Nat → Nat → Option Nat} {J : HJ} {I : HI} {x2 : Int32} (hp : Wp P) : ∀ (x3 : Int32) (x4 : Int32) (r : Int32), L_X11_dated_18 I x2 x3 x4 = some r → M g mX11_dated (d + 2) (NT, NT, 0) ((.inl (some (.int r))), (NT, I, J, P)) 18 [some (.ref 1), none, some (.int x2), some (.int x3), some (.int x4)] [] (NT, I, J, P) := by
  refine L_X11_dated_18.partial_correctness I x2 (fun x3 x4 r => M g mX11_dated (d + 2) (NT, NT, 0) ((.inl (some (.int r))), (NT, I, J, P)) 18 [some (.ref 1), none, some (.int x2), some (.int x3), some (.int x4)] [] (NT, I, J, P)) ?_
  intro f ih x3 x4 r h
  refine M_iload (pc := 18) dX11_dated_18 rfl ?_
  refine M_aload_n (pc := 20) dX11_dated_20 rfl ?_
  refine M_getR (pc := 21) dX11_dated_21 f_X11_23 at_10 (gr_10_3 hp at_10).1 ?_
  refine M_getR (pc := 24) dX11_dated_24 f_X11_148 (gr_10_3 hp at_10).2 (gr_3_0 hp (gr_10_3 hp at_10).2).1 ?_
  refine M_getI (pc := 27) dX11_dated_27 f_X11_211 (gr_3_0 hp (gr_10_3 hp at_10).2).2 ?_
  refine M_icmp_ge (pc := 30) (tgt := 83) dX11_dated_30 (by decide) (fun hc3 => ?_) (fun hc3 => ?_)
  · have h := (if_pos hc3).symm.trans h
    refine M_iload_n (pc := 83) dX11_dated_83 rfl ?_
    obtain rfl := Option.some.inj h
    exact M_iret (pc := 84) dX11_dated_84 rfl rfl rfl rfl
  · have h := (if_neg hc3).symm.trans h
    refine M_iload_n (pc := 33) dX11_dated_33 rfl ?_
    refine M_iload (pc := 34) dX11_dated_34 rfl ?_
    refine M_ishr (pc := 36) dX11_dated_36 ?_
    refine M_iconst (pc := 37) (v := 1) dX11_dated_37 (by decide) ?_
    refine M_iand (pc := 38) dX11_dated_38 ?_
    refine M_if_eq (pc := 39) (tgt := 77) dX11_dated_39 (by decide) (fun hc4 => ?_) (fun hc4 => ?_)
    · have h := (if_pos hc4).symm.trans h
      refine M_iinc (pc := 77) (v := (x4 + (1 : Int32))) (ls' := [some (.ref 1), none, some (.int x2), some (.int x3), some (.int (x4 + (1 : Int32)))]) dX11_dated_77 rfl rfl (by decide) rfl ?_
      refine M_goto (pc := 80) (tgt := 18) dX11_dated_80 (by decide) ?_
      exact ih x3 (x4 + (1 : Int32)) _ h
    · have h := (if_neg hc4).symm.trans h
      refine M_aload_n (pc := 42) dX11_dated_42 rfl ?_
      refine M_getR (pc := 43) dX11_dated_43 f_X11_23 at_10 (gr_10_3 hp at_10).1 ?_
      refine M_getR (pc := 46) dX11_dated_46 f_X11_148 (gr_10_3 hp at_10).2 (gr_3_0 hp (gr_10_3 hp at_10).2).1 ?_
      refine M_iload (pc := 49) dX11_dated_49 rfl ?_
      obtain ⟨r5, hr6, h⟩ := bnd h
      refine M_callVi (pc := 51) dX11_dated_51 v_X11_265 rfl rfl (gr_3_0 hp (gr_10_3 hp at_10).2).2 (Nat.le_of_ble_eq_true rfl) (C_X1_isHad (d := d + 0) hp (gr_3_0 hp (gr_10_3 hp at_10).2).2 hr6) (Nat.le_refl _) ?_
      refine M_if_ne (pc := 54) (tgt := 59) dX11_dated_54 (by decide) (fun hc7 => ?_) (fun hc7 => ?_)
      · have h := (if_neg hc7).symm.trans h
        refine M_iload_n (pc := 59) dX11_dated_59 rfl ?_
        refine M_aload_n (pc := 60) dX11_dated_60 rfl ?_
        refine M_getR (pc := 61) dX11_dated_61 f_X11_23 at_10 (gr_10_3 hp at_10).1 ?_
        refine M_getR (pc := 64) dX11_dated_64 f_X11_148 (gr_10_3 hp at_10).2 (gr_3_0 hp (gr_10_3 hp at_10).2).1 ?_
        refine M_getR (pc := 67) dX11_dated_67 f_X11_171 (gr_3_0 hp (gr_10_3 hp at_10).2).2 (gr_1_2 hp (gr_3_0 hp (gr_10_3 hp at_10).2).2).1 ?_
        refine M_iload (pc := 70) dX11_dated_70 rfl ?_
        obtain ⟨v8, hv9, h⟩ := bnd h
        refine M_aldI (pc := 72) dX11_dated_72 (gr_1_2 hp (gr_3_0 hp (gr_10_3 hp at_10).2).2).2 hv9 ?_
        refine M_mmax (pc := 73) dX11_dated_73 mm_X11_350.1 mm_X11_350.2.1 mm_X11_350.2.2.1 mm_X11_350.2.2.2 (Nat.le_of_ble_eq_true rfl) ?_
        refine M_istore_n (pc := 76) (ls' := [some (.ref 1), none, some (.int x2), some (.int (if x3 < v8 then v8 else x3)), some (.int x4)]) dX11_dated_76 (by decide) rfl ?_
        refine M_iinc (pc := 77) (v := (x4 + (1 : Int32))) (ls' := [some (.ref 1), none, some (.int x2), some (.int (if x3 < v8 then v8 else x3)), some (.int (x4 + (1 : Int32)))]) dX11_dated_77 rfl rfl (by decide) rfl ?_
        refine M_goto (pc := 80) (tgt := 18) dX11_dated_80 (by decide) ?_
        exact ih (if x3 < v8 then v8 else x3) (x4 + (1 : Int32)) _ h
      · have h := (if_pos hc7).symm.trans h
        refine M_iconst (pc := 57) (v := -1) dX11_dated_57 (by decide) ?_
        obtain rfl := Option.some.inj h
        exact M_iret (pc := 58) dX11_dated_58 rfl rfl rfl rfl
set_option maxRecDepth 4000 in
set_option maxHeartbeats 4000000 in
theorem C_X11_dated {g : gX} {d : Nat} {P : Nat → Nat → Option Nat} {I : HI} {x1 : Int32} {J : HJ} (hp : Wp P) {r : Int32} (h : F_X11_dated I x1 = some r) : Cm g mX11_dated (d + 2) [.ref 1, .int x1] (NT, I, J, P) (some (.int r)) (NT, I, J, P) := by
  unfold F_X11_dated at h
  refine Cm.of (by decide) (by simp [Value.category]) (Nat.le_of_ble_eq_true rfl) (Nat.le_refl _) (ls := [some (.ref 1), some (.int x1), none, none, none]) rfl ?_
  refine M_iload_n (pc := 0) dX11_dated_0 rfl ?_
  refine M_aload_n (pc := 1) dX11_dated_1 rfl ?_
  refine M_getR (pc := 2) dX11_dated_2 f_X11_23 at_10 (gr_10_3 hp at_10).1 ?_
  refine M_getR (pc := 5) dX11_dated_5 f_X11_148 (gr_10_3 hp at_10).2 (gr_3_0 hp (gr_10_3 hp at_10).2).1 ?_
  obtain ⟨r1, hr2, h⟩ := bnd h
  refine M_callVi (pc := 8) dX11_dated_8 v_X11_214 rfl rfl (gr_3_0 hp (gr_10_3 hp at_10).2).2 (Nat.le_of_ble_eq_true rfl) (C_X1_all (d := d + 1) hp (gr_3_0 hp (gr_10_3 hp at_10).2).2 hr2) (Nat.le_refl _) ?_
  refine M_iand (pc := 11) dX11_dated_11 ?_
  refine M_istore_n (pc := 12) (ls' := [some (.ref 1), some (.int x1), some (.int (x1 &&& r1)), none, none]) dX11_dated_12 (by decide) rfl ?_
  refine M_iconst (pc := 13) (v := -1) dX11_dated_13 (by decide) ?_
  refine M_istore_n (pc := 14) (ls' := [some (.ref 1), some (.int x1), some (.int (x1 &&& r1)), some (.int (-1 : Int32)), none]) dX11_dated_14 (by decide) rfl ?_
  refine M_iconst (pc := 15) (v := 0) dX11_dated_15 (by decide) ?_
  refine M_istore (pc := 16) (ls' := [some (.ref 1), some (.int x1), some (.int (x1 &&& r1)), some (.int (-1 : Int32)), some (.int (0 : Int32))]) dX11_dated_16 (by decide) rfl ?_
  refine M_mask (pc := 18) [true, false, true, true, true] rfl ?_
  exact LC_X11_dated_18 (P := P) hp (-1 : Int32) (0 : Int32) _ h
def L_X11_gap_4 (I : HI) (x1 : Int32) (x2 : Int32) : Option (Int32) :=
  if (I 4 0) ≤ x2 then some x1 else (F_X1_isHad I 4 x2) >>= fun r2 => if r2 = 0 then L_X11_gap_4 I x1 (x2 + (1 : Int32)) else (ald 12 (I 6) x2) >>= fun v5 => (F_X1_earliestBehind I 4 v5) >>= fun r7 => if r7 = (-1 : Int32) then L_X11_gap_4 I x1 (x2 + (1 : Int32)) else (ald 12 (I 6) r7) >>= fun v10 => (ald 12 (I 6) x2) >>= fun v12 => L_X11_gap_4 I (if x1 < (v10 - v12) then (v10 - v12) else x1) (x2 + (1 : Int32))
partial_fixpoint
def F_X11_gap (I : HI) : Option (Int32) :=
  L_X11_gap_4 I (0 : Int32) (0 : Int32)
set_option maxRecDepth 4000 in
set_option maxHeartbeats 4000000 in
theorem LC_X11_gap_4 {g : gX} {d : Nat} {P : Nat → Nat → Option Nat} {J : HJ} {I : HI} (hp : Wp P) : ∀ (x1 : Int32) (x2 : Int32) (r : Int32), L_X11_gap_4 I x1 x2 = some r → M g mX11_gap (d + 2) (NT, NT, 0) ((.inl (some (.int r))), (NT, I, J, P)) 4 [some (.ref 1), some (.int x1), some (.int x2), none] [] (NT, I, J, P) := by
  refine L_X11_gap_4.partial_correctness I (fun x1 x2 r => M g mX11_gap (d + 2) (NT, NT, 0) ((.inl (some (.int r))), (NT, I, J, P)) 4 [some (.ref 1), some (.int x1), some (.int x2), none] [] (NT, I, J, P)) ?_
  intro f ih x1 x2 r h
  refine M_iload_n (pc := 4) dX11_gap_4 rfl ?_
  refine M_aload_n (pc := 5) dX11_gap_5 rfl ?_
  refine M_getR (pc := 6) dX11_gap_6 f_X11_23 at_10 (gr_10_3 hp at_10).1 ?_
  refine M_getR (pc := 9) dX11_gap_9 f_X11_148 (gr_10_3 hp at_10).2 (gr_3_0 hp (gr_10_3 hp at_10).2).1 ?_
  refine M_getI (pc := 12) dX11_gap_12 f_X11_211 (gr_3_0 hp (gr_10_3 hp at_10).2).2 ?_
  refine M_icmp_ge (pc := 15) (tgt := 96) dX11_gap_15 (by decide) (fun hc1 => ?_) (fun hc1 => ?_)
  · have h := (if_pos hc1).symm.trans h
    refine M_iload_n (pc := 96) dX11_gap_96 rfl ?_
    obtain rfl := Option.some.inj h
    exact M_iret (pc := 97) dX11_gap_97 rfl rfl rfl rfl
  · have h := (if_neg hc1).symm.trans h
    refine M_aload_n (pc := 18) dX11_gap_18 rfl ?_
    refine M_getR (pc := 19) dX11_gap_19 f_X11_23 at_10 (gr_10_3 hp at_10).1 ?_
    refine M_getR (pc := 22) dX11_gap_22 f_X11_148 (gr_10_3 hp at_10).2 (gr_3_0 hp (gr_10_3 hp at_10).2).1 ?_
    refine M_iload_n (pc := 25) dX11_gap_25 rfl ?_
    obtain ⟨r2, hr3, h⟩ := bnd h
    refine M_callVi (pc := 26) dX11_gap_26 v_X11_265 rfl rfl (gr_3_0 hp (gr_10_3 hp at_10).2).2 (Nat.le_of_ble_eq_true rfl) (C_X1_isHad (d := d + 0) hp (gr_3_0 hp (gr_10_3 hp at_10).2).2 hr3) (Nat.le_refl _) ?_
    refine M_if_eq (pc := 29) (tgt := 90) dX11_gap_29 (by decide) (fun hc4 => ?_) (fun hc4 => ?_)
    · have h := (if_pos hc4).symm.trans h
      refine M_iinc (pc := 90) (v := (x2 + (1 : Int32))) (ls' := [some (.ref 1), some (.int x1), some (.int (x2 + (1 : Int32))), none]) dX11_gap_90 rfl rfl (by decide) rfl ?_
      refine M_goto (pc := 93) (tgt := 4) dX11_gap_93 (by decide) ?_
      exact ih x1 (x2 + (1 : Int32)) _ h
    · have h := (if_neg hc4).symm.trans h
      refine M_aload_n (pc := 32) dX11_gap_32 rfl ?_
      refine M_getR (pc := 33) dX11_gap_33 f_X11_23 at_10 (gr_10_3 hp at_10).1 ?_
      refine M_getR (pc := 36) dX11_gap_36 f_X11_148 (gr_10_3 hp at_10).2 (gr_3_0 hp (gr_10_3 hp at_10).2).1 ?_
      refine M_aload_n (pc := 39) dX11_gap_39 rfl ?_
      refine M_getR (pc := 40) dX11_gap_40 f_X11_23 at_10 (gr_10_3 hp at_10).1 ?_
      refine M_getR (pc := 43) dX11_gap_43 f_X11_148 (gr_10_3 hp at_10).2 (gr_3_0 hp (gr_10_3 hp at_10).2).1 ?_
      refine M_getR (pc := 46) dX11_gap_46 f_X11_171 (gr_3_0 hp (gr_10_3 hp at_10).2).2 (gr_1_2 hp (gr_3_0 hp (gr_10_3 hp at_10).2).2).1 ?_
      refine M_iload_n (pc := 49) dX11_gap_49 rfl ?_
      obtain ⟨v5, hv6, h⟩ := bnd h
      refine M_aldI (pc := 50) dX11_gap_50 (gr_1_2 hp (gr_3_0 hp (gr_10_3 hp at_10).2).2).2 hv6 ?_
      obtain ⟨r7, hr8, h⟩ := bnd h
      refine M_callVi (pc := 51) dX11_gap_51 v_X11_365 rfl rfl (gr_3_0 hp (gr_10_3 hp at_10).2).2 (Nat.le_of_ble_eq_true rfl) (C_X1_earliestBehind (d := d + 1) hp (gr_3_0 hp (gr_10_3 hp at_10).2).2 hr8) (Nat.le_refl _) ?_
      refine M_istore_n (pc := 54) (ls' := [some (.ref 1), some (.int x1), some (.int x2), some (.int r7)]) dX11_gap_54 (by decide) rfl ?_
      refine M_iload_n (pc := 55) dX11_gap_55 rfl ?_
      refine M_iconst (pc := 56) (v := -1) dX11_gap_56 (by decide) ?_
      refine M_icmp_eq (pc := 57) (tgt := 90) dX11_gap_57 (by decide) (fun hc9 => ?_) (fun hc9 => ?_)
      · have h := (if_pos hc9).symm.trans h
        refine M_iinc (pc := 90) (v := (x2 + (1 : Int32))) (ls' := [some (.ref 1), some (.int x1), some (.int (x2 + (1 : Int32))), some (.int r7)]) dX11_gap_90 rfl rfl (by decide) rfl ?_
        refine M_goto (pc := 93) (tgt := 4) dX11_gap_93 (by decide) ?_
        refine M_mask (pc := 4) [true, true, true, false] rfl ?_
        exact ih x1 (x2 + (1 : Int32)) _ h
      · have h := (if_neg hc9).symm.trans h
        refine M_iload_n (pc := 60) dX11_gap_60 rfl ?_
        refine M_aload_n (pc := 61) dX11_gap_61 rfl ?_
        refine M_getR (pc := 62) dX11_gap_62 f_X11_23 at_10 (gr_10_3 hp at_10).1 ?_
        refine M_getR (pc := 65) dX11_gap_65 f_X11_148 (gr_10_3 hp at_10).2 (gr_3_0 hp (gr_10_3 hp at_10).2).1 ?_
        refine M_getR (pc := 68) dX11_gap_68 f_X11_171 (gr_3_0 hp (gr_10_3 hp at_10).2).2 (gr_1_2 hp (gr_3_0 hp (gr_10_3 hp at_10).2).2).1 ?_
        refine M_iload_n (pc := 71) dX11_gap_71 rfl ?_
        obtain ⟨v10, hv11, h⟩ := bnd h
        refine M_aldI (pc := 72) dX11_gap_72 (gr_1_2 hp (gr_3_0 hp (gr_10_3 hp at_10).2).2).2 hv11 ?_
        refine M_aload_n (pc := 73) dX11_gap_73 rfl ?_
        refine M_getR (pc := 74) dX11_gap_74 f_X11_23 at_10 (gr_10_3 hp at_10).1 ?_
        refine M_getR (pc := 77) dX11_gap_77 f_X11_148 (gr_10_3 hp at_10).2 (gr_3_0 hp (gr_10_3 hp at_10).2).1 ?_
        refine M_getR (pc := 80) dX11_gap_80 f_X11_171 (gr_3_0 hp (gr_10_3 hp at_10).2).2 (gr_1_2 hp (gr_3_0 hp (gr_10_3 hp at_10).2).2).1 ?_
        refine M_iload_n (pc := 83) dX11_gap_83 rfl ?_
        obtain ⟨v12, hv13, h⟩ := bnd h
        refine M_aldI (pc := 84) dX11_gap_84 (gr_1_2 hp (gr_3_0 hp (gr_10_3 hp at_10).2).2).2 hv13 ?_
        refine M_isub (pc := 85) dX11_gap_85 ?_
        refine M_mmax (pc := 86) dX11_gap_86 mm_X11_350.1 mm_X11_350.2.1 mm_X11_350.2.2.1 mm_X11_350.2.2.2 (Nat.le_of_ble_eq_true rfl) ?_
        refine M_istore_n (pc := 89) (ls' := [some (.ref 1), some (.int (if x1 < (v10 - v12) then (v10 - v12) else x1)), some (.int x2), some (.int r7)]) dX11_gap_89 (by decide) rfl ?_
        refine M_iinc (pc := 90) (v := (x2 + (1 : Int32))) (ls' := [some (.ref 1), some (.int (if x1 < (v10 - v12) then (v10 - v12) else x1)), some (.int (x2 + (1 : Int32))), some (.int r7)]) dX11_gap_90 rfl rfl (by decide) rfl ?_
        refine M_goto (pc := 93) (tgt := 4) dX11_gap_93 (by decide) ?_
        refine M_mask (pc := 4) [true, true, true, false] rfl ?_
        exact ih (if x1 < (v10 - v12) then (v10 - v12) else x1) (x2 + (1 : Int32)) _ h
set_option maxRecDepth 4000 in
set_option maxHeartbeats 4000000 in
theorem C_X11_gap {g : gX} {d : Nat} {P : Nat → Nat → Option Nat} {I : HI} {J : HJ} (hp : Wp P) {r : Int32} (h : F_X11_gap I = some r) : Cm g mX11_gap (d + 2) [.ref 1] (NT, I, J, P) (some (.int r)) (NT, I, J, P) := by
  unfold F_X11_gap at h
  refine Cm.of (by decide) (by simp [Value.category]) (Nat.le_of_ble_eq_true rfl) (Nat.le_refl _) (ls := [some (.ref 1), none, none, none]) rfl ?_
  refine M_iconst (pc := 0) (v := 0) dX11_gap_0 (by decide) ?_
  refine M_istore_n (pc := 1) (ls' := [some (.ref 1), some (.int (0 : Int32)), none, none]) dX11_gap_1 (by decide) rfl ?_
  refine M_iconst (pc := 2) (v := 0) dX11_gap_2 (by decide) ?_
  refine M_istore_n (pc := 3) (ls' := [some (.ref 1), some (.int (0 : Int32)), some (.int (0 : Int32)), none]) dX11_gap_3 (by decide) rfl ?_
  exact LC_X11_gap_4 (P := P) hp (0 : Int32) (0 : Int32) _ h
def F_X11_oldest (I : HI) : Option (Int32) :=
  (F_X1_earliestBehind I 4 (-1 : Int32)) >>= fun r1 => some r1
set_option maxRecDepth 4000 in
set_option maxHeartbeats 4000000 in
theorem C_X11_oldest {g : gX} {d : Nat} {P : Nat → Nat → Option Nat} {I : HI} {J : HJ} (hp : Wp P) {r : Int32} (h : F_X11_oldest I = some r) : Cm g mX11_oldest (d + 1) [.ref 1] (NT, I, J, P) (some (.int r)) (NT, I, J, P) := by
  unfold F_X11_oldest at h
  refine Cm.of (by decide) (by simp [Value.category]) (Nat.le_of_ble_eq_true rfl) (Nat.le_refl _) (ls := [some (.ref 1)]) rfl ?_
  refine M_aload_n (pc := 0) dX11_oldest_0 rfl ?_
  refine M_getR (pc := 1) dX11_oldest_1 f_X11_23 at_10 (gr_10_3 hp at_10).1 ?_
  refine M_getR (pc := 4) dX11_oldest_4 f_X11_148 (gr_10_3 hp at_10).2 (gr_3_0 hp (gr_10_3 hp at_10).2).1 ?_
  refine M_iconst (pc := 7) (v := -1) dX11_oldest_7 (by decide) ?_
  obtain ⟨r1, hr2, h⟩ := bnd h
  refine M_callVi (pc := 8) dX11_oldest_8 v_X11_365 rfl rfl (gr_3_0 hp (gr_10_3 hp at_10).2).2 (Nat.le_of_ble_eq_true rfl) (C_X1_earliestBehind (d := d + 0) hp (gr_3_0 hp (gr_10_3 hp at_10).2).2 hr2) (Nat.le_refl _) ?_
  obtain rfl := Option.some.inj h
  exact M_iret (pc := 11) dX11_oldest_11 rfl rfl rfl rfl
def L_X11_twins_22 (I : HI) (x2 : Int32) (x1 : Int32) (x3 : Int32) : Option (Int32 × Int32) :=
  if (I 4 0) ≤ x3 then some (x1, x3) else (F_X1_distance I 4 x2 x3) >>= fun r3 => if r3 = 0 then L_X11_twins_22 I x2 (x1 + (1 : Int32)) (x3 + (1 : Int32)) else L_X11_twins_22 I x2 x1 (x3 + (1 : Int32))
partial_fixpoint
def L_X11_twins_4 (I : HI) (x1 : Int32) (x2 : Int32) : Option (Int32) :=
  if (I 4 0) ≤ x2 then some x1 else (L_X11_twins_22 I x2 x1 (x2 + (1 : Int32))) >>= fun r6 => L_X11_twins_4 I r6.1 (x2 + (1 : Int32))
partial_fixpoint
def F_X11_twins (I : HI) : Option (Int32) :=
  L_X11_twins_4 I (0 : Int32) (0 : Int32)
set_option maxRecDepth 4000 in
set_option maxHeartbeats 4000000 in
theorem LC_X11_twins_22 {g : gX} {d : Nat} {R : rX} {P : Nat → Nat → Option Nat} {J : HJ} {I : HI} {x2 : Int32} (hp : Wp P) : ∀ (x1 : Int32) (x3 : Int32) (r : Int32 × Int32), L_X11_twins_22 I x2 x1 x3 = some r → M g mX11_twins (d + 1) (NT, NT, 0) R 60 [some (.ref 1), some (.int r.1), some (.int x2), some (.int r.2)] [] (NT, I, J, P) → M g mX11_twins (d + 1) (NT, NT, 0) R 22 [some (.ref 1), some (.int x1), some (.int x2), some (.int x3)] [] (NT, I, J, P) := by
  refine L_X11_twins_22.partial_correctness I x2 (fun x1 x3 r => M g mX11_twins (d + 1) (NT, NT, 0) R 60 [some (.ref 1), some (.int r.1), some (.int x2), some (.int r.2)] [] (NT, I, J, P) → M g mX11_twins (d + 1) (NT, NT, 0) R 22 [some (.ref 1), some (.int x1), some (.int x2), some (.int x3)] [] (NT, I, J, P)) ?_
  intro f ih x1 x3 r h hk
  refine M_iload_n (pc := 22) dX11_twins_22 rfl ?_
  refine M_aload_n (pc := 23) dX11_twins_23 rfl ?_
  refine M_getR (pc := 24) dX11_twins_24 f_X11_23 at_10 (gr_10_3 hp at_10).1 ?_
  refine M_getR (pc := 27) dX11_twins_27 f_X11_148 (gr_10_3 hp at_10).2 (gr_3_0 hp (gr_10_3 hp at_10).2).1 ?_
  refine M_getI (pc := 30) dX11_twins_30 f_X11_211 (gr_3_0 hp (gr_10_3 hp at_10).2).2 ?_
  refine M_icmp_ge (pc := 33) (tgt := 60) dX11_twins_33 (by decide) (fun hc2 => ?_) (fun hc2 => ?_)
  · have h := (if_pos hc2).symm.trans h
    obtain rfl := Option.some.inj h
    exact hk
  · have h := (if_neg hc2).symm.trans h
    refine M_aload_n (pc := 36) dX11_twins_36 rfl ?_
    refine M_getR (pc := 37) dX11_twins_37 f_X11_23 at_10 (gr_10_3 hp at_10).1 ?_
    refine M_getR (pc := 40) dX11_twins_40 f_X11_148 (gr_10_3 hp at_10).2 (gr_3_0 hp (gr_10_3 hp at_10).2).1 ?_
    refine M_iload_n (pc := 43) dX11_twins_43 rfl ?_
    refine M_iload_n (pc := 44) dX11_twins_44 rfl ?_
    obtain ⟨r3, hr4, h⟩ := bnd h
    refine M_callVi (pc := 45) dX11_twins_45 v_X11_208 rfl rfl (gr_3_0 hp (gr_10_3 hp at_10).2).2 (Nat.le_of_ble_eq_true rfl) (C_X1_distance (d := d + 0) hp (gr_3_0 hp (gr_10_3 hp at_10).2).2 hr4) (Nat.le_refl _) ?_
    refine M_if_ne (pc := 48) (tgt := 54) dX11_twins_48 (by decide) (fun hc5 => ?_) (fun hc5 => ?_)
    · have h := (if_neg hc5).symm.trans h
      refine M_iinc (pc := 54) (v := (x3 + (1 : Int32))) (ls' := [some (.ref 1), some (.int x1), some (.int x2), some (.int (x3 + (1 : Int32)))]) dX11_twins_54 rfl rfl (by decide) rfl ?_
      refine M_goto (pc := 57) (tgt := 22) dX11_twins_57 (by decide) ?_
      exact ih x1 (x3 + (1 : Int32)) _ h hk
    · have h := (if_pos hc5).symm.trans h
      refine M_iinc (pc := 51) (v := (x1 + (1 : Int32))) (ls' := [some (.ref 1), some (.int (x1 + (1 : Int32))), some (.int x2), some (.int x3)]) dX11_twins_51 rfl rfl (by decide) rfl ?_
      refine M_iinc (pc := 54) (v := (x3 + (1 : Int32))) (ls' := [some (.ref 1), some (.int (x1 + (1 : Int32))), some (.int x2), some (.int (x3 + (1 : Int32)))]) dX11_twins_54 rfl rfl (by decide) rfl ?_
      refine M_goto (pc := 57) (tgt := 22) dX11_twins_57 (by decide) ?_
      exact ih (x1 + (1 : Int32)) (x3 + (1 : Int32)) _ h hk
set_option maxRecDepth 4000 in
set_option maxHeartbeats 4000000 in
theorem LC_X11_twins_4 {g : gX} {d : Nat} {P : Nat → Nat → Option Nat} {J : HJ} {I : HI} (hp : Wp P) : ∀ (x1 : Int32) (x2 : Int32) (r : Int32), L_X11_twins_4 I x1 x2 = some r → M g mX11_twins (d + 1) (NT, NT, 0) ((.inl (some (.int r))), (NT, I, J, P)) 4 [some (.ref 1), some (.int x1), some (.int x2), none] [] (NT, I, J, P) := by
  refine L_X11_twins_4.partial_correctness I (fun x1 x2 r => M g mX11_twins (d + 1) (NT, NT, 0) ((.inl (some (.int r))), (NT, I, J, P)) 4 [some (.ref 1), some (.int x1), some (.int x2), none] [] (NT, I, J, P)) ?_
  intro f ih x1 x2 r h
  refine M_iload_n (pc := 4) dX11_twins_4 rfl ?_
  refine M_aload_n (pc := 5) dX11_twins_5 rfl ?_
  refine M_getR (pc := 6) dX11_twins_6 f_X11_23 at_10 (gr_10_3 hp at_10).1 ?_
  refine M_getR (pc := 9) dX11_twins_9 f_X11_148 (gr_10_3 hp at_10).2 (gr_3_0 hp (gr_10_3 hp at_10).2).1 ?_
  refine M_getI (pc := 12) dX11_twins_12 f_X11_211 (gr_3_0 hp (gr_10_3 hp at_10).2).2 ?_
  refine M_icmp_ge (pc := 15) (tgt := 66) dX11_twins_15 (by decide) (fun hc1 => ?_) (fun hc1 => ?_)
  · have h := (if_pos hc1).symm.trans h
    refine M_iload_n (pc := 66) dX11_twins_66 rfl ?_
    obtain rfl := Option.some.inj h
    exact M_iret (pc := 67) dX11_twins_67 rfl rfl rfl rfl
  · have h := (if_neg hc1).symm.trans h
    refine M_iload_n (pc := 18) dX11_twins_18 rfl ?_
    refine M_iconst (pc := 19) (v := 1) dX11_twins_19 (by decide) ?_
    refine M_iadd (pc := 20) dX11_twins_20 ?_
    refine M_istore_n (pc := 21) (ls' := [some (.ref 1), some (.int x1), some (.int x2), some (.int (x2 + (1 : Int32)))]) dX11_twins_21 (by decide) rfl ?_
    obtain ⟨r6, hr7, h⟩ := bnd h
    refine LC_X11_twins_22 (P := P) hp x1 (x2 + (1 : Int32)) _ hr7 ?_
    refine M_iinc (pc := 60) (v := (x2 + (1 : Int32))) (ls' := [some (.ref 1), some (.int r6.1), some (.int (x2 + (1 : Int32))), some (.int r6.2)]) dX11_twins_60 rfl rfl (by decide) rfl ?_
    refine M_goto (pc := 63) (tgt := 4) dX11_twins_63 (by decide) ?_
    refine M_mask (pc := 4) [true, true, true, false] rfl ?_
    exact ih r6.1 (x2 + (1 : Int32)) _ h
set_option maxRecDepth 4000 in
set_option maxHeartbeats 4000000 in
theorem C_X11_twins {g : gX} {d : Nat} {P : Nat → Nat → Option Nat} {I : HI} {J : HJ} (hp : Wp P) {r : Int32} (h : F_X11_twins I = some r) : Cm g mX11_twins (d + 1) [.ref 1] (NT, I, J, P) (some (.int r)) (NT, I, J, P) := by
  unfold F_X11_twins at h
  refine Cm.of (by decide) (by simp [Value.category]) (Nat.le_of_ble_eq_true rfl) (Nat.le_refl _) (ls := [some (.ref 1), none, none, none]) rfl ?_
  refine M_iconst (pc := 0) (v := 0) dX11_twins_0 (by decide) ?_
  refine M_istore_n (pc := 1) (ls' := [some (.ref 1), some (.int (0 : Int32)), none, none]) dX11_twins_1 (by decide) rfl ?_
  refine M_iconst (pc := 2) (v := 0) dX11_twins_2 (by decide) ?_
  refine M_istore_n (pc := 3) (ls' := [some (.ref 1), some (.int (0 : Int32)), some (.int (0 : Int32)), none]) dX11_twins_3 (by decide) rfl ?_
  exact LC_X11_twins_4 (P := P) hp (0 : Int32) (0 : Int32) _ h
def F_X11_next (I : HI) : Option (Int32) :=
  (F_X1_earliestBehind I 4 (I 3 3)) >>= fun r1 => some r1
set_option maxRecDepth 4000 in
set_option maxHeartbeats 4000000 in
theorem C_X11_next {g : gX} {d : Nat} {P : Nat → Nat → Option Nat} {I : HI} {J : HJ} (hp : Wp P) {r : Int32} (h : F_X11_next I = some r) : Cm g mX11_next (d + 1) [.ref 1] (NT, I, J, P) (some (.int r)) (NT, I, J, P) := by
  unfold F_X11_next at h
  refine Cm.of (by decide) (by simp [Value.category]) (Nat.le_of_ble_eq_true rfl) (Nat.le_refl _) (ls := [some (.ref 1)]) rfl ?_
  refine M_aload_n (pc := 0) dX11_next_0 rfl ?_
  refine M_getR (pc := 1) dX11_next_1 f_X11_23 at_10 (gr_10_3 hp at_10).1 ?_
  refine M_getR (pc := 4) dX11_next_4 f_X11_148 (gr_10_3 hp at_10).2 (gr_3_0 hp (gr_10_3 hp at_10).2).1 ?_
  refine M_aload_n (pc := 7) dX11_next_7 rfl ?_
  refine M_getR (pc := 8) dX11_next_8 f_X11_23 at_10 (gr_10_3 hp at_10).1 ?_
  refine M_getI (pc := 11) dX11_next_11 f_X11_242 (gr_10_3 hp at_10).2 ?_
  obtain ⟨r1, hr2, h⟩ := bnd h
  refine M_callVi (pc := 14) dX11_next_14 v_X11_365 rfl rfl (gr_3_0 hp (gr_10_3 hp at_10).2).2 (Nat.le_of_ble_eq_true rfl) (C_X1_earliestBehind (d := d + 0) hp (gr_3_0 hp (gr_10_3 hp at_10).2).2 hr2) (Nat.le_refl _) ?_
  obtain rfl := Option.some.inj h
  exact M_iret (pc := 17) dX11_next_17 rfl rfl rfl rfl
def F_X11_warlike (I : HI) : Option (Int32) :=
  (F_X1_firstIn I 4 (I 3 8) (I 3 9)) >>= fun r1 => some r1
set_option maxRecDepth 4000 in
set_option maxHeartbeats 4000000 in
theorem C_X11_warlike {g : gX} {d : Nat} {P : Nat → Nat → Option Nat} {I : HI} {J : HJ} (hp : Wp P) {r : Int32} (h : F_X11_warlike I = some r) : Cm g mX11_warlike (d + 1) [.ref 1] (NT, I, J, P) (some (.int r)) (NT, I, J, P) := by
  unfold F_X11_warlike at h
  refine Cm.of (by decide) (by simp [Value.category]) (Nat.le_of_ble_eq_true rfl) (Nat.le_refl _) (ls := [some (.ref 1)]) rfl ?_
  refine M_aload_n (pc := 0) dX11_warlike_0 rfl ?_
  refine M_getR (pc := 1) dX11_warlike_1 f_X11_23 at_10 (gr_10_3 hp at_10).1 ?_
  refine M_getR (pc := 4) dX11_warlike_4 f_X11_148 (gr_10_3 hp at_10).2 (gr_3_0 hp (gr_10_3 hp at_10).2).1 ?_
  refine M_aload_n (pc := 7) dX11_warlike_7 rfl ?_
  refine M_getR (pc := 8) dX11_warlike_8 f_X11_23 at_10 (gr_10_3 hp at_10).1 ?_
  refine M_getI (pc := 11) dX11_warlike_11 f_X11_373 (gr_10_3 hp at_10).2 ?_
  refine M_aload_n (pc := 14) dX11_warlike_14 rfl ?_
  refine M_getR (pc := 15) dX11_warlike_15 f_X11_23 at_10 (gr_10_3 hp at_10).1 ?_
  refine M_getI (pc := 18) dX11_warlike_18 f_X11_376 (gr_10_3 hp at_10).2 ?_
  obtain ⟨r1, hr2, h⟩ := bnd h
  refine M_callVi (pc := 21) dX11_warlike_21 v_X11_347 rfl rfl (gr_3_0 hp (gr_10_3 hp at_10).2).2 (Nat.le_of_ble_eq_true rfl) (C_X1_firstIn (d := d + 0) hp (gr_3_0 hp (gr_10_3 hp at_10).2).2 hr2) (Nat.le_refl _) ?_
  obtain rfl := Option.some.inj h
  exact M_iret (pc := 24) dX11_warlike_24 rfl rfl rfl rfl
def F_X11_company (I : HI) (x1 : Int32) : Option ((Int32 ⊕ String)) :=
  if x1 < 0 then some (Sum.inr "java/lang/IllegalArgumentException") else if x1 ≤ (7 : Int32) then (F_X1_hadWith I 4 x1) >>= fun r3 => some (Sum.inl r3) else some (Sum.inr "java/lang/IllegalArgumentException")
set_option maxRecDepth 4000 in
set_option maxHeartbeats 4000000 in
theorem C_X11_company {g : gX} {d : Nat} {P : Nat → Nat → Option Nat} {I : HI} {x1 : Int32} {J : HJ} (hp : Wp P) {r : (Int32 ⊕ String)} (h : F_X11_company I x1 = some r) : Cx g mX11_company (d + 6) [.ref 1, .int x1] (NT, I, J, P) ((thr_i r), (NT, I, J, P)) := by
  unfold F_X11_company at h
  refine Cx.of (by decide) (by simp [Value.category]) (Nat.le_of_ble_eq_true rfl) (Nat.le_refl _) (ls := [some (.ref 1), some (.int x1)]) rfl ?_
  refine M_iload_n (pc := 0) dX11_company_0 rfl ?_
  refine M_if_lt (pc := 1) (tgt := 10) dX11_company_1 (by decide) (fun hc1 => ?_) (fun hc1 => ?_)
  · have h := (if_pos hc1).symm.trans h
    obtain rfl := Option.some.inj h
    exact M_throwW (pc := 10) dX11_company_10 dX11_company_13 dX11_company_14 dX11_company_17 dX11_company_20 x_X11_118 (j := 20) (by decide) str_X11_379 rfl rfl
  · have h := (if_neg hc1).symm.trans h
    refine M_iload_n (pc := 4) dX11_company_4 rfl ?_
    refine M_bipush (pc := 5) (v := 7) dX11_company_5 (by decide) ?_
    refine M_icmp_le (pc := 7) (tgt := 21) dX11_company_7 (by decide) (fun hc2 => ?_) (fun hc2 => ?_)
    · have h := (if_pos hc2).symm.trans h
      refine M_aload_n (pc := 21) dX11_company_21 rfl ?_
      refine M_getR (pc := 22) dX11_company_22 f_X11_23 at_10 (gr_10_3 hp at_10).1 ?_
      refine M_getR (pc := 25) dX11_company_25 f_X11_148 (gr_10_3 hp at_10).2 (gr_3_0 hp (gr_10_3 hp at_10).2).1 ?_
      refine M_iload_n (pc := 28) dX11_company_28 rfl ?_
      obtain ⟨r3, hr4, h⟩ := bnd h
      refine M_callVi (pc := 29) dX11_company_29 v_X11_368 rfl rfl (gr_3_0 hp (gr_10_3 hp at_10).2).2 (Nat.le_of_ble_eq_true rfl) (C_X1_hadWith (d := d + 5) hp (gr_3_0 hp (gr_10_3 hp at_10).2).2 hr4) (Nat.le_refl _) ?_
      obtain rfl := Option.some.inj h
      exact M_iret (pc := 32) dX11_company_32 rfl rfl rfl rfl
    · have h := (if_neg hc2).symm.trans h
      obtain rfl := Option.some.inj h
      exact M_throwW (pc := 10) dX11_company_10 dX11_company_13 dX11_company_14 dX11_company_17 dX11_company_20 x_X11_118 (j := 20) (by decide) str_X11_379 rfl rfl
def F_X11_slipParts : Nat → HI → Int32 → Int32 → Int32 → Option (Int64)
  | 0, _, _, _, _ => none
  | q + 1, I, x0, x1, x2 => if 0 < x0 then ((F_X11_slipParts q) I (x0 - (1 : Int32)) (x1 - (1 : Int32)) x2) >>= fun r2 => ((F_X11_slipParts q) I (x0 - (1 : Int32)) x1 x2) >>= fun r4 => some (((x2).toInt64 * r2) + ((((100 : Int32) - x2)).toInt64 * r4)) else if 0 < x1 then some (0 : Int64) else some (1 : Int64)
set_option maxRecDepth 4000 in
set_option maxHeartbeats 4000000 in
theorem C_X11_slipParts {g : gX} {P : Nat → Nat → Option Nat} (hp : Wp P) : ∀ (q : Nat) {d : Nat} {J : HJ} (I : HI) (x0 : Int32) (x1 : Int32) (x2 : Int32)  (r : Int64), F_X11_slipParts q I x0 x1 x2 = some r → Cm g mX11_slipParts (d + 1 * q + 8) [.int x0, .int x1, .int x2] (NT, I, J, P) (some (.long r)) (NT, I, J, P) := by
  intro q
  induction q with
  | zero => intro d J I x0 x1 x2  r h; cases h
  | succ q ih =>
  intro d0 J I x0 x1 x2  r h
  obtain ⟨d, hd⟩ : ∃ d, d = d0 + 1 * q := ⟨_, rfl⟩
  rw [show d0 + 1 * (q + 1) + 8 = d + 9 by omega]
  have hrc : ∀ (e : Nat) {J : HJ} (I : HI) (x0 : Int32) (x1 : Int32) (x2 : Int32)  (r : Int64), F_X11_slipParts q I x0 x1 x2 = some r → _ := fun e {J} I x0 x1 x2  r h9 => ih (d := d0 + e) (J := J) I x0 x1 x2  r h9
  simp only [show ∀ e, d0 + e + 1 * q + 8 = d + e + 8 from fun e => by omega] at hrc
  unfold F_X11_slipParts at h
  refine Cm.of (by decide) (by simp [Value.category]) (Nat.le_of_ble_eq_true rfl) (Nat.le_refl _) (ls := [some (.int x0), some (.int x1), some (.int x2)]) rfl ?_
  refine M_iload_n (pc := 0) dX11_slipParts_0 rfl ?_
  refine M_if_gt (pc := 1) (tgt := 14) dX11_slipParts_1 (by decide) (fun hc1 => ?_) (fun hc1 => ?_)
  · have h := (if_pos hc1).symm.trans h
    refine M_iload_n (pc := 14) dX11_slipParts_14 rfl ?_
    refine M_i2l (pc := 15) dX11_slipParts_15 ?_
    refine M_iload_n (pc := 16) dX11_slipParts_16 rfl ?_
    refine M_iconst (pc := 17) (v := 1) dX11_slipParts_17 (by decide) ?_
    refine M_isub (pc := 18) dX11_slipParts_18 ?_
    refine M_iload_n (pc := 19) dX11_slipParts_19 rfl ?_
    refine M_iconst (pc := 20) (v := 1) dX11_slipParts_20 (by decide) ?_
    refine M_isub (pc := 21) dX11_slipParts_21 ?_
    refine M_iload_n (pc := 22) dX11_slipParts_22 rfl ?_
    obtain ⟨r2, hr3, h⟩ := bnd h
    refine M_callSi (pc := 23) dX11_slipParts_23 s_X11_383 rfl rfl (Nat.le_of_ble_eq_true rfl) (hrc 0 _ _ _ _  _ hr3) (Nat.le_refl _) ?_
    refine M_lmul (pc := 26) dX11_slipParts_26 ?_
    refine M_bipush (pc := 27) (v := 100) dX11_slipParts_27 (by decide) ?_
    refine M_iload_n (pc := 29) dX11_slipParts_29 rfl ?_
    refine M_isub (pc := 30) dX11_slipParts_30 ?_
    refine M_i2l (pc := 31) dX11_slipParts_31 ?_
    refine M_iload_n (pc := 32) dX11_slipParts_32 rfl ?_
    refine M_iconst (pc := 33) (v := 1) dX11_slipParts_33 (by decide) ?_
    refine M_isub (pc := 34) dX11_slipParts_34 ?_
    refine M_iload_n (pc := 35) dX11_slipParts_35 rfl ?_
    refine M_iload_n (pc := 36) dX11_slipParts_36 rfl ?_
    obtain ⟨r4, hr5, h⟩ := bnd h
    refine M_callSi (pc := 37) dX11_slipParts_37 s_X11_383 rfl rfl (Nat.le_of_ble_eq_true rfl) (hrc 0 _ _ _ _  _ hr5) (Nat.le_refl _) ?_
    refine M_lmul (pc := 40) dX11_slipParts_40 ?_
    refine M_ladd (pc := 41) dX11_slipParts_41 ?_
    obtain rfl := Option.some.inj h
    exact M_lret (pc := 42) dX11_slipParts_42 rfl rfl rfl
  · have h := (if_neg hc1).symm.trans h
    refine M_iload_n (pc := 4) dX11_slipParts_4 rfl ?_
    refine M_if_gt (pc := 5) (tgt := 12) dX11_slipParts_5 (by decide) (fun hc6 => ?_) (fun hc6 => ?_)
    · have h := (if_pos hc6).symm.trans h
      refine M_lconst (pc := 12) (v := 0) dX11_slipParts_12 (by decide) ?_
      obtain rfl := Option.some.inj h
      exact M_lret (pc := 13) dX11_slipParts_13 rfl rfl rfl
    · have h := (if_neg hc6).symm.trans h
      refine M_lconst (pc := 8) (v := 1) dX11_slipParts_8 (by decide) ?_
      refine M_goto (pc := 9) (tgt := 13) dX11_slipParts_9 (by decide) ?_
      obtain rfl := Option.some.inj h
      exact M_lret (pc := 13) dX11_slipParts_13 rfl rfl rfl
def F_X11_led (I : HI) (x1 : Int32) (x2 : Int32) : Option ((Int32 ⊕ String)) :=
  (F_X1_has I 4 x1) >>= fun r1 => if r1 = 0 then some (Sum.inr "java/lang/IndexOutOfBoundsException") else if x2 = 0 then (F_X7_rowsOf I 15 x1) >>= fun r5 => some (Sum.inl r5) else (F_X7_latestEvening I 15 x1) >>= fun r7 => some (Sum.inl r7)
set_option maxRecDepth 4000 in
set_option maxHeartbeats 4000000 in
theorem C_X11_led {g : gX} {d : Nat} {P : Nat → Nat → Option Nat} {I : HI} {x1 : Int32} {x2 : Int32} {J : HJ} (hp : Wp P) {r : (Int32 ⊕ String)} (h : F_X11_led I x1 x2 = some r) : Cx g mX11_led (d + 6) [.ref 1, .int x1, .int x2] (NT, I, J, P) ((thr_i r), (NT, I, J, P)) := by
  unfold F_X11_led at h
  refine Cx.of (by decide) (by simp [Value.category]) (Nat.le_of_ble_eq_true rfl) (Nat.le_refl _) (ls := [some (.ref 1), some (.int x1), some (.int x2)]) rfl ?_
  refine M_aload_n (pc := 0) dX11_led_0 rfl ?_
  refine M_getR (pc := 1) dX11_led_1 f_X11_23 at_10 (gr_10_3 hp at_10).1 ?_
  refine M_getR (pc := 4) dX11_led_4 f_X11_148 (gr_10_3 hp at_10).2 (gr_3_0 hp (gr_10_3 hp at_10).2).1 ?_
  refine M_iload_n (pc := 7) dX11_led_7 rfl ?_
  obtain ⟨r1, hr2, h⟩ := bnd h
  refine M_callVi (pc := 8) dX11_led_8 v_X11_152 rfl rfl (gr_3_0 hp (gr_10_3 hp at_10).2).2 (Nat.le_of_ble_eq_true rfl) (C_X1_has (d := d + 5) hp (gr_3_0 hp (gr_10_3 hp at_10).2).2 hr2) (Nat.le_refl _) ?_
  refine M_if_ne (pc := 11) (tgt := 24) dX11_led_11 (by decide) (fun hc3 => ?_) (fun hc3 => ?_)
  · have h := (if_neg hc3).symm.trans h
    refine M_iload_n (pc := 24) dX11_led_24 rfl ?_
    refine M_if_eq (pc := 25) (tgt := 39) dX11_led_25 (by decide) (fun hc4 => ?_) (fun hc4 => ?_)
    · have h := (if_pos hc4).symm.trans h
      refine M_aload_n (pc := 39) dX11_led_39 rfl ?_
      refine M_getR (pc := 40) dX11_led_40 f_X11_37 at_10 (gr_10_5 hp at_10).1 ?_
      refine M_iload_n (pc := 43) dX11_led_43 rfl ?_
      obtain ⟨r5, hr6, h⟩ := bnd h
      refine M_callVi (pc := 44) dX11_led_44 v_X11_405 rfl rfl (gr_10_5 hp at_10).2 (Nat.le_of_ble_eq_true rfl) (C_X7_rowsOf (d := d + 4) hp (gr_10_5 hp at_10).2 hr6) (Nat.le_refl _) ?_
      obtain rfl := Option.some.inj h
      exact M_iret (pc := 47) dX11_led_47 rfl rfl rfl rfl
    · have h := (if_neg hc4).symm.trans h
      refine M_aload_n (pc := 28) dX11_led_28 rfl ?_
      refine M_getR (pc := 29) dX11_led_29 f_X11_37 at_10 (gr_10_5 hp at_10).1 ?_
      refine M_iload_n (pc := 32) dX11_led_32 rfl ?_
      obtain ⟨r7, hr8, h⟩ := bnd h
      refine M_callVi (pc := 33) dX11_led_33 v_X11_402 rfl rfl (gr_10_5 hp at_10).2 (Nat.le_of_ble_eq_true rfl) (C_X7_latestEvening (d := d + 4) hp (gr_10_5 hp at_10).2 hr8) (Nat.le_refl _) ?_
      refine M_goto (pc := 36) (tgt := 47) dX11_led_36 (by decide) ?_
      obtain rfl := Option.some.inj h
      exact M_iret (pc := 47) dX11_led_47 rfl rfl rfl rfl
  · have h := (if_pos hc3).symm.trans h
    obtain rfl := Option.some.inj h
    exact M_throw (pc := 14) dX11_led_14 dX11_led_17 dX11_led_18 dX11_led_20 dX11_led_23 x_X11_158 (j := 3) (by decide) str_X11_160 rfl rfl
def F_X11_log (I : HI) (x1 : Int32) (x2 : Int32) : Option ((Int32 ⊕ String)) :=
  if x2 < 0 then some (Sum.inr "java/util/NoSuchElementException") else if x2 ≤ (3 : Int32) then (F_X7_read I 15 x1 x2) >>= fun r3 => some (Sum.inl r3) else some (Sum.inr "java/util/NoSuchElementException")
set_option maxRecDepth 4000 in
set_option maxHeartbeats 4000000 in
theorem C_X11_log {g : gX} {d : Nat} {P : Nat → Nat → Option Nat} {I : HI} {x1 : Int32} {x2 : Int32} {J : HJ} (hp : Wp P) {r : (Int32 ⊕ String)} (h : F_X11_log I x1 x2 = some r) : Cx g mX11_log (d + 6) [.ref 1, .int x1, .int x2] (NT, I, J, P) ((thr_i r), (NT, I, J, P)) := by
  unfold F_X11_log at h
  refine Cx.of (by decide) (by simp [Value.category]) (Nat.le_of_ble_eq_true rfl) (Nat.le_refl _) (ls := [some (.ref 1), some (.int x1), some (.int x2)]) rfl ?_
  refine M_iload_n (pc := 0) dX11_log_0 rfl ?_
  refine M_if_lt (pc := 1) (tgt := 9) dX11_log_1 (by decide) (fun hc1 => ?_) (fun hc1 => ?_)
  · have h := (if_pos hc1).symm.trans h
    obtain rfl := Option.some.inj h
    exact M_throwW (pc := 9) dX11_log_9 dX11_log_12 dX11_log_13 dX11_log_16 dX11_log_19 x_X11_163 (j := 22) (by decide) str_X11_408 rfl rfl
  · have h := (if_neg hc1).symm.trans h
    refine M_iload_n (pc := 4) dX11_log_4 rfl ?_
    refine M_iconst (pc := 5) (v := 3) dX11_log_5 (by decide) ?_
    refine M_icmp_le (pc := 6) (tgt := 20) dX11_log_6 (by decide) (fun hc2 => ?_) (fun hc2 => ?_)
    · have h := (if_pos hc2).symm.trans h
      refine M_aload_n (pc := 20) dX11_log_20 rfl ?_
      refine M_getR (pc := 21) dX11_log_21 f_X11_37 at_10 (gr_10_5 hp at_10).1 ?_
      refine M_iload_n (pc := 24) dX11_log_24 rfl ?_
      refine M_iload_n (pc := 25) dX11_log_25 rfl ?_
      obtain ⟨r3, hr4, h⟩ := bnd h
      refine M_callVi (pc := 26) dX11_log_26 v_X11_410 rfl rfl (gr_10_5 hp at_10).2 (Nat.le_of_ble_eq_true rfl) (C_X7_read (d := d + 5) hp (gr_10_5 hp at_10).2 hr4) (Nat.le_refl _) ?_
      obtain rfl := Option.some.inj h
      exact M_iret (pc := 29) dX11_log_29 rfl rfl rfl rfl
    · have h := (if_neg hc2).symm.trans h
      obtain rfl := Option.some.inj h
      exact M_throwW (pc := 9) dX11_log_9 dX11_log_12 dX11_log_13 dX11_log_16 dX11_log_19 x_X11_163 (j := 22) (by decide) str_X11_408 rfl rfl
def F_X11_seed (I : HI) (x1 : Int32) : Option (Int32 × HI) :=
  some ((I 3 14), (up2 I 3 14 x1))
set_option maxRecDepth 4000 in
set_option maxHeartbeats 4000000 in
theorem C_X11_seed {g : gX} {d : Nat} {P : Nat → Nat → Option Nat} {I : HI} {x1 : Int32} {J : HJ} (hp : Wp P) {r : Int32 × HI} (h : F_X11_seed I x1 = some r) : Cm g mX11_seed (d + 0) [.ref 1, .int x1] (NT, I, J, P) (some (.int r.1)) (NT, r.2, J, P) := by
  unfold F_X11_seed at h
  refine Cm.of (by decide) (by simp [Value.category]) (Nat.le_of_ble_eq_true rfl) (Nat.le_refl _) (ls := [some (.ref 1), some (.int x1), none]) rfl ?_
  refine M_aload_n (pc := 0) dX11_seed_0 rfl ?_
  refine M_getR (pc := 1) dX11_seed_1 f_X11_23 at_10 (gr_10_3 hp at_10).1 ?_
  refine M_getI (pc := 4) dX11_seed_4 f_X11_389 (gr_10_3 hp at_10).2 ?_
  refine M_istore_n (pc := 7) (ls' := [some (.ref 1), some (.int x1), some (.int (I 3 14))]) dX11_seed_7 (by decide) rfl ?_
  refine M_aload_n (pc := 8) dX11_seed_8 rfl ?_
  refine M_getR (pc := 9) dX11_seed_9 f_X11_23 at_10 (gr_10_3 hp at_10).1 ?_
  refine M_iload_n (pc := 12) dX11_seed_12 rfl ?_
  refine M_putI (pc := 13) dX11_seed_13 f_X11_389 (gr_10_3 hp at_10).2 rfl ⟨rfl, rfl⟩ ?_
  refine M_iload_n (pc := 16) dX11_seed_16 rfl ?_
  obtain rfl := Option.some.inj h
  exact M_iret (pc := 17) dX11_seed_17 rfl rfl rfl rfl
def F_X11_image (I : HI) : Option (HI) :=
  (F_X3_copy I 116 3) >>= fun r1 => (F_X4_copy r1 122 9) >>= fun r3 => (F_X7_copy r3 128 15) >>= fun r5 => some (up2 r5 1 10 (1 : Int32))
set_option maxRecDepth 4000 in
set_option maxHeartbeats 4000000 in
theorem C_X11_image {g : gX} {d : Nat} {P : Nat → Nat → Option Nat} {I : HI} {J : HJ} (hp : Wp P) {r : HI} (h : F_X11_image I = some r) : Cm g mX11_image (d + 3) [.ref 1] (NT, I, J, P) none (NT, r, J, P) := by
  unfold F_X11_image at h
  refine Cm.of (by decide) (by simp [Value.category]) (Nat.le_of_ble_eq_true rfl) (Nat.le_refl _) (ls := [some (.ref 1)]) rfl ?_
  refine M_aload_n (pc := 0) dX11_image_0 rfl ?_
  refine M_getR (pc := 1) dX11_image_1 f_X11_48 at_10 (gr_10_7 hp at_10).1 ?_
  refine M_aload_n (pc := 4) dX11_image_4 rfl ?_
  refine M_getR (pc := 5) dX11_image_5 f_X11_23 at_10 (gr_10_3 hp at_10).1 ?_
  obtain ⟨r1, hr2, h⟩ := bnd h
  refine M_callVv (pc := 8) dX11_image_8 v_X11_106 rfl rfl (gr_10_7 hp at_10).2 (Nat.le_of_ble_eq_true rfl) (C_X3_copy (d := d + 0) hp (gr_10_7 hp at_10).2 (gr_10_3 hp at_10).2 hr2) (Nat.le_refl _) ?_
  refine M_aload_n (pc := 11) dX11_image_11 rfl ?_
  refine M_getR (pc := 12) dX11_image_12 f_X11_51 at_10 (gr_10_8 hp at_10).1 ?_
  refine M_aload_n (pc := 15) dX11_image_15 rfl ?_
  refine M_getR (pc := 16) dX11_image_16 f_X11_30 at_10 (gr_10_4 hp at_10).1 ?_
  obtain ⟨r3, hr4, h⟩ := bnd h
  refine M_callVv (pc := 19) dX11_image_19 v_X11_142 rfl rfl (gr_10_8 hp at_10).2 (Nat.le_of_ble_eq_true rfl) (C_X4_copy (d := d + 1) hp (gr_10_8 hp at_10).2 (gr_10_4 hp at_10).2 hr4) (Nat.le_refl _) ?_
  refine M_aload_n (pc := 22) dX11_image_22 rfl ?_
  refine M_getR (pc := 23) dX11_image_23 f_X11_54 at_10 (gr_10_9 hp at_10).1 ?_
  refine M_aload_n (pc := 26) dX11_image_26 rfl ?_
  refine M_getR (pc := 27) dX11_image_27 f_X11_37 at_10 (gr_10_5 hp at_10).1 ?_
  obtain ⟨r5, hr6, h⟩ := bnd h
  refine M_callVv (pc := 30) dX11_image_30 v_X11_417 rfl rfl (gr_10_9 hp at_10).2 (Nat.le_of_ble_eq_true rfl) (C_X7_copy (d := d + 1) hp (gr_10_9 hp at_10).2 (gr_10_5 hp at_10).2 hr6) (Nat.le_refl _) ?_
  refine M_aload_n (pc := 33) dX11_image_33 rfl ?_
  refine M_iconst (pc := 34) (v := 1) dX11_image_34 (by decide) ?_
  refine M_putI (pc := 35) dX11_image_35 f_X11_57 at_10 rfl ⟨rfl, rfl⟩ ?_
  obtain rfl := Option.some.inj h
  exact M_vret (pc := 38) dX11_image_38 rfl rfl rfl
def F_X11_back (I : HI) : Option (Int32 × HI) :=
  if (I 1 10) = 0 then some ((0 : Int32), I) else (F_X3_copy I 3 116) >>= fun r2 => (F_X4_copy r2 9 122) >>= fun r4 => (F_X7_copy r4 15 128) >>= fun r6 => (F_X0_clear r6) >>= fun r8 => some ((1 : Int32), r8)
set_option maxRecDepth 4000 in
set_option maxHeartbeats 4000000 in
theorem C_X11_back {g : gX} {d : Nat} {P : Nat → Nat → Option Nat} {I : HI} {J : HJ} (hp : Wp P) {r : Int32 × HI} (h : F_X11_back I = some r) : Cm g mX11_back (d + 3) [.ref 1] (NT, I, J, P) (some (.int r.1)) (NT, r.2, J, P) := by
  unfold F_X11_back at h
  refine Cm.of (by decide) (by simp [Value.category]) (Nat.le_of_ble_eq_true rfl) (Nat.le_refl _) (ls := [some (.ref 1)]) rfl ?_
  refine M_aload_n (pc := 0) dX11_back_0 rfl ?_
  refine M_getI (pc := 1) dX11_back_1 f_X11_57 at_10 ?_
  refine M_if_ne (pc := 4) (tgt := 9) dX11_back_4 (by decide) (fun hc1 => ?_) (fun hc1 => ?_)
  · have h := (if_neg hc1).symm.trans h
    refine M_aload_n (pc := 9) dX11_back_9 rfl ?_
    refine M_getR (pc := 10) dX11_back_10 f_X11_23 at_10 (gr_10_3 hp at_10).1 ?_
    refine M_aload_n (pc := 13) dX11_back_13 rfl ?_
    refine M_getR (pc := 14) dX11_back_14 f_X11_48 at_10 (gr_10_7 hp at_10).1 ?_
    obtain ⟨r2, hr3, h⟩ := bnd h
    refine M_callVv (pc := 17) dX11_back_17 v_X11_106 rfl rfl (gr_10_3 hp at_10).2 (Nat.le_of_ble_eq_true rfl) (C_X3_copy (d := d + 0) hp (gr_10_3 hp at_10).2 (gr_10_7 hp at_10).2 hr3) (Nat.le_refl _) ?_
    refine M_aload_n (pc := 20) dX11_back_20 rfl ?_
    refine M_getR (pc := 21) dX11_back_21 f_X11_30 at_10 (gr_10_4 hp at_10).1 ?_
    refine M_aload_n (pc := 24) dX11_back_24 rfl ?_
    refine M_getR (pc := 25) dX11_back_25 f_X11_51 at_10 (gr_10_8 hp at_10).1 ?_
    obtain ⟨r4, hr5, h⟩ := bnd h
    refine M_callVv (pc := 28) dX11_back_28 v_X11_142 rfl rfl (gr_10_4 hp at_10).2 (Nat.le_of_ble_eq_true rfl) (C_X4_copy (d := d + 1) hp (gr_10_4 hp at_10).2 (gr_10_8 hp at_10).2 hr5) (Nat.le_refl _) ?_
    refine M_aload_n (pc := 31) dX11_back_31 rfl ?_
    refine M_getR (pc := 32) dX11_back_32 f_X11_37 at_10 (gr_10_5 hp at_10).1 ?_
    refine M_aload_n (pc := 35) dX11_back_35 rfl ?_
    refine M_getR (pc := 36) dX11_back_36 f_X11_54 at_10 (gr_10_9 hp at_10).1 ?_
    obtain ⟨r6, hr7, h⟩ := bnd h
    refine M_callVv (pc := 39) dX11_back_39 v_X11_417 rfl rfl (gr_10_5 hp at_10).2 (Nat.le_of_ble_eq_true rfl) (C_X7_copy (d := d + 1) hp (gr_10_5 hp at_10).2 (gr_10_9 hp at_10).2 hr7) (Nat.le_refl _) ?_
    refine M_aload_n (pc := 42) dX11_back_42 rfl ?_
    refine M_getR (pc := 43) dX11_back_43 f_X11_44 at_10 (gr_10_6 hp at_10).1 ?_
    obtain ⟨r8, hr9, h⟩ := bnd h
    refine M_callVv (pc := 46) dX11_back_46 v_X11_133 rfl rfl (gr_10_6 hp at_10).2 (Nat.le_of_ble_eq_true rfl) (C_X0_clear (d := d + 2) hp hr9) (Nat.le_refl _) ?_
    refine M_iconst (pc := 49) (v := 1) dX11_back_49 (by decide) ?_
    obtain rfl := Option.some.inj h
    exact M_iret (pc := 50) dX11_back_50 rfl rfl rfl rfl
  · have h := (if_pos hc1).symm.trans h
    refine M_iconst (pc := 7) (v := 0) dX11_back_7 (by decide) ?_
    obtain rfl := Option.some.inj h
    exact M_iret (pc := 8) dX11_back_8 rfl rfl rfl rfl
def F_X11_count (I : HI) (x1 : Int32) : Option (Int32) :=
  if x1 = (0 : Int32) then some (I 4 0) else if x1 = (1 : Int32) then some (I 3 1) else if x1 = (2 : Int32) then some (I 9 0) else if x1 = (3 : Int32) then some (I 3 2) else if x1 = (4 : Int32) then some (I 3 3) else if x1 = (5 : Int32) then some (I 3 4) else if x1 = (6 : Int32) then some (I 3 5) else if x1 = (7 : Int32) then some (I 3 6) else if x1 = (8 : Int32) then some (I 3 7) else if x1 = (9 : Int32) then some (I 3 8) else if x1 = (10 : Int32) then some (I 3 9) else if x1 = (11 : Int32) then some (I 3 10) else if x1 = (12 : Int32) then some (I 3 11) else if x1 = (13 : Int32) then some (I 3 12) else if x1 = (14 : Int32) then some (I 3 13) else if x1 = (15 : Int32) then some (I 15 0) else if x1 = (16 : Int32) then some (I 17 0) else some (-1 : Int32)
set_option maxRecDepth 4000 in
set_option maxHeartbeats 4000000 in
theorem C_X11_count {g : gX} {d : Nat} {P : Nat → Nat → Option Nat} {I : HI} {x1 : Int32} {J : HJ} (hp : Wp P) {r : Int32} (h : F_X11_count I x1 = some r) : Cm g mX11_count (d + 0) [.ref 1, .int x1] (NT, I, J, P) (some (.int r)) (NT, I, J, P) := by
  unfold F_X11_count at h
  refine Cm.of (by decide) (by simp [Value.category]) (Nat.le_of_ble_eq_true rfl) (Nat.le_refl _) (ls := [some (.ref 1), some (.int x1)]) rfl ?_
  refine M_iload_n (pc := 0) dX11_count_0 rfl ?_
  by_cases hc1 : x1 = (0 : Int32)
  · have h := (if_pos hc1).symm.trans h
    refine M_tableIn (pc := 1) (x := x1) (tgt := 84) dX11_count_1 (by rw [hc1]; decide) (by rw [hc1]; decide) (by rw [hc1]; rfl) (by decide) ?_
    refine M_aload_n (pc := 84) dX11_count_84 rfl ?_
    refine M_getR (pc := 85) dX11_count_85 f_X11_23 at_10 (gr_10_3 hp at_10).1 ?_
    refine M_getR (pc := 88) dX11_count_88 f_X11_148 (gr_10_3 hp at_10).2 (gr_3_0 hp (gr_10_3 hp at_10).2).1 ?_
    refine M_getI (pc := 91) dX11_count_91 f_X11_211 (gr_3_0 hp (gr_10_3 hp at_10).2).2 ?_
    obtain rfl := Option.some.inj h
    exact M_iret (pc := 94) dX11_count_94 rfl rfl rfl rfl
  have h := (if_neg hc1).symm.trans h
  by_cases hc2 : x1 = (1 : Int32)
  · have h := (if_pos hc2).symm.trans h
    refine M_tableIn (pc := 1) (x := x1) (tgt := 95) dX11_count_1 (by rw [hc2]; decide) (by rw [hc2]; decide) (by rw [hc2]; rfl) (by decide) ?_
    refine M_aload_n (pc := 95) dX11_count_95 rfl ?_
    refine M_getR (pc := 96) dX11_count_96 f_X11_23 at_10 (gr_10_3 hp at_10).1 ?_
    refine M_getI (pc := 99) dX11_count_99 f_X11_125 (gr_10_3 hp at_10).2 ?_
    obtain rfl := Option.some.inj h
    exact M_iret (pc := 102) dX11_count_102 rfl rfl rfl rfl
  have h := (if_neg hc2).symm.trans h
  by_cases hc3 : x1 = (2 : Int32)
  · have h := (if_pos hc3).symm.trans h
    refine M_tableIn (pc := 1) (x := x1) (tgt := 103) dX11_count_1 (by rw [hc3]; decide) (by rw [hc3]; decide) (by rw [hc3]; rfl) (by decide) ?_
    refine M_aload_n (pc := 103) dX11_count_103 rfl ?_
    refine M_getR (pc := 104) dX11_count_104 f_X11_30 at_10 (gr_10_4 hp at_10).1 ?_
    refine M_getI (pc := 107) dX11_count_107 f_X11_145 (gr_10_4 hp at_10).2 ?_
    obtain rfl := Option.some.inj h
    exact M_iret (pc := 110) dX11_count_110 rfl rfl rfl rfl
  have h := (if_neg hc3).symm.trans h
  by_cases hc4 : x1 = (3 : Int32)
  · have h := (if_pos hc4).symm.trans h
    refine M_tableIn (pc := 1) (x := x1) (tgt := 111) dX11_count_1 (by rw [hc4]; decide) (by rw [hc4]; decide) (by rw [hc4]; rfl) (by decide) ?_
    refine M_aload_n (pc := 111) dX11_count_111 rfl ?_
    refine M_getR (pc := 112) dX11_count_112 f_X11_23 at_10 (gr_10_3 hp at_10).1 ?_
    refine M_getI (pc := 115) dX11_count_115 f_X11_252 (gr_10_3 hp at_10).2 ?_
    obtain rfl := Option.some.inj h
    exact M_iret (pc := 118) dX11_count_118 rfl rfl rfl rfl
  have h := (if_neg hc4).symm.trans h
  by_cases hc5 : x1 = (4 : Int32)
  · have h := (if_pos hc5).symm.trans h
    refine M_tableIn (pc := 1) (x := x1) (tgt := 119) dX11_count_1 (by rw [hc5]; decide) (by rw [hc5]; decide) (by rw [hc5]; rfl) (by decide) ?_
    refine M_aload_n (pc := 119) dX11_count_119 rfl ?_
    refine M_getR (pc := 120) dX11_count_120 f_X11_23 at_10 (gr_10_3 hp at_10).1 ?_
    refine M_getI (pc := 123) dX11_count_123 f_X11_242 (gr_10_3 hp at_10).2 ?_
    obtain rfl := Option.some.inj h
    exact M_iret (pc := 126) dX11_count_126 rfl rfl rfl rfl
  have h := (if_neg hc5).symm.trans h
  by_cases hc6 : x1 = (5 : Int32)
  · have h := (if_pos hc6).symm.trans h
    refine M_tableIn (pc := 1) (x := x1) (tgt := 127) dX11_count_1 (by rw [hc6]; decide) (by rw [hc6]; decide) (by rw [hc6]; rfl) (by decide) ?_
    refine M_aload_n (pc := 127) dX11_count_127 rfl ?_
    refine M_getR (pc := 128) dX11_count_128 f_X11_23 at_10 (gr_10_3 hp at_10).1 ?_
    refine M_getI (pc := 131) dX11_count_131 f_X11_220 (gr_10_3 hp at_10).2 ?_
    obtain rfl := Option.some.inj h
    exact M_iret (pc := 134) dX11_count_134 rfl rfl rfl rfl
  have h := (if_neg hc6).symm.trans h
  by_cases hc7 : x1 = (6 : Int32)
  · have h := (if_pos hc7).symm.trans h
    refine M_tableIn (pc := 1) (x := x1) (tgt := 135) dX11_count_1 (by rw [hc7]; decide) (by rw [hc7]; decide) (by rw [hc7]; rfl) (by decide) ?_
    refine M_aload_n (pc := 135) dX11_count_135 rfl ?_
    refine M_getR (pc := 136) dX11_count_136 f_X11_23 at_10 (gr_10_3 hp at_10).1 ?_
    refine M_getI (pc := 139) dX11_count_139 f_X11_420 (gr_10_3 hp at_10).2 ?_
    obtain rfl := Option.some.inj h
    exact M_iret (pc := 142) dX11_count_142 rfl rfl rfl rfl
  have h := (if_neg hc7).symm.trans h
  by_cases hc8 : x1 = (7 : Int32)
  · have h := (if_pos hc8).symm.trans h
    refine M_tableIn (pc := 1) (x := x1) (tgt := 143) dX11_count_1 (by rw [hc8]; decide) (by rw [hc8]; decide) (by rw [hc8]; rfl) (by decide) ?_
    refine M_aload_n (pc := 143) dX11_count_143 rfl ?_
    refine M_getR (pc := 144) dX11_count_144 f_X11_23 at_10 (gr_10_3 hp at_10).1 ?_
    refine M_getI (pc := 147) dX11_count_147 f_X11_236 (gr_10_3 hp at_10).2 ?_
    obtain rfl := Option.some.inj h
    exact M_iret (pc := 150) dX11_count_150 rfl rfl rfl rfl
  have h := (if_neg hc8).symm.trans h
  by_cases hc9 : x1 = (8 : Int32)
  · have h := (if_pos hc9).symm.trans h
    refine M_tableIn (pc := 1) (x := x1) (tgt := 151) dX11_count_1 (by rw [hc9]; decide) (by rw [hc9]; decide) (by rw [hc9]; rfl) (by decide) ?_
    refine M_aload_n (pc := 151) dX11_count_151 rfl ?_
    refine M_getR (pc := 152) dX11_count_152 f_X11_23 at_10 (gr_10_3 hp at_10).1 ?_
    refine M_getI (pc := 155) dX11_count_155 f_X11_180 (gr_10_3 hp at_10).2 ?_
    obtain rfl := Option.some.inj h
    exact M_iret (pc := 158) dX11_count_158 rfl rfl rfl rfl
  have h := (if_neg hc9).symm.trans h
  by_cases hc10 : x1 = (9 : Int32)
  · have h := (if_pos hc10).symm.trans h
    refine M_tableIn (pc := 1) (x := x1) (tgt := 159) dX11_count_1 (by rw [hc10]; decide) (by rw [hc10]; decide) (by rw [hc10]; rfl) (by decide) ?_
    refine M_aload_n (pc := 159) dX11_count_159 rfl ?_
    refine M_getR (pc := 160) dX11_count_160 f_X11_23 at_10 (gr_10_3 hp at_10).1 ?_
    refine M_getI (pc := 163) dX11_count_163 f_X11_373 (gr_10_3 hp at_10).2 ?_
    obtain rfl := Option.some.inj h
    exact M_iret (pc := 166) dX11_count_166 rfl rfl rfl rfl
  have h := (if_neg hc10).symm.trans h
  by_cases hc11 : x1 = (10 : Int32)
  · have h := (if_pos hc11).symm.trans h
    refine M_tableIn (pc := 1) (x := x1) (tgt := 167) dX11_count_1 (by rw [hc11]; decide) (by rw [hc11]; decide) (by rw [hc11]; rfl) (by decide) ?_
    refine M_aload_n (pc := 167) dX11_count_167 rfl ?_
    refine M_getR (pc := 168) dX11_count_168 f_X11_23 at_10 (gr_10_3 hp at_10).1 ?_
    refine M_getI (pc := 171) dX11_count_171 f_X11_376 (gr_10_3 hp at_10).2 ?_
    obtain rfl := Option.some.inj h
    exact M_iret (pc := 174) dX11_count_174 rfl rfl rfl rfl
  have h := (if_neg hc11).symm.trans h
  by_cases hc12 : x1 = (11 : Int32)
  · have h := (if_pos hc12).symm.trans h
    refine M_tableIn (pc := 1) (x := x1) (tgt := 175) dX11_count_1 (by rw [hc12]; decide) (by rw [hc12]; decide) (by rw [hc12]; rfl) (by decide) ?_
    refine M_aload_n (pc := 175) dX11_count_175 rfl ?_
    refine M_getR (pc := 176) dX11_count_176 f_X11_23 at_10 (gr_10_3 hp at_10).1 ?_
    refine M_getI (pc := 179) dX11_count_179 f_X11_280 (gr_10_3 hp at_10).2 ?_
    obtain rfl := Option.some.inj h
    exact M_iret (pc := 182) dX11_count_182 rfl rfl rfl rfl
  have h := (if_neg hc12).symm.trans h
  by_cases hc13 : x1 = (12 : Int32)
  · have h := (if_pos hc13).symm.trans h
    refine M_tableIn (pc := 1) (x := x1) (tgt := 183) dX11_count_1 (by rw [hc13]; decide) (by rw [hc13]; decide) (by rw [hc13]; rfl) (by decide) ?_
    refine M_aload_n (pc := 183) dX11_count_183 rfl ?_
    refine M_getR (pc := 184) dX11_count_184 f_X11_23 at_10 (gr_10_3 hp at_10).1 ?_
    refine M_getI (pc := 187) dX11_count_187 f_X11_274 (gr_10_3 hp at_10).2 ?_
    obtain rfl := Option.some.inj h
    exact M_iret (pc := 190) dX11_count_190 rfl rfl rfl rfl
  have h := (if_neg hc13).symm.trans h
  by_cases hc14 : x1 = (13 : Int32)
  · have h := (if_pos hc14).symm.trans h
    refine M_tableIn (pc := 1) (x := x1) (tgt := 191) dX11_count_1 (by rw [hc14]; decide) (by rw [hc14]; decide) (by rw [hc14]; rfl) (by decide) ?_
    refine M_aload_n (pc := 191) dX11_count_191 rfl ?_
    refine M_getR (pc := 192) dX11_count_192 f_X11_23 at_10 (gr_10_3 hp at_10).1 ?_
    refine M_getI (pc := 195) dX11_count_195 f_X11_423 (gr_10_3 hp at_10).2 ?_
    obtain rfl := Option.some.inj h
    exact M_iret (pc := 198) dX11_count_198 rfl rfl rfl rfl
  have h := (if_neg hc14).symm.trans h
  by_cases hc15 : x1 = (14 : Int32)
  · have h := (if_pos hc15).symm.trans h
    refine M_tableIn (pc := 1) (x := x1) (tgt := 199) dX11_count_1 (by rw [hc15]; decide) (by rw [hc15]; decide) (by rw [hc15]; rfl) (by decide) ?_
    refine M_aload_n (pc := 199) dX11_count_199 rfl ?_
    refine M_getR (pc := 200) dX11_count_200 f_X11_23 at_10 (gr_10_3 hp at_10).1 ?_
    refine M_getI (pc := 203) dX11_count_203 f_X11_396 (gr_10_3 hp at_10).2 ?_
    obtain rfl := Option.some.inj h
    exact M_iret (pc := 206) dX11_count_206 rfl rfl rfl rfl
  have h := (if_neg hc15).symm.trans h
  by_cases hc16 : x1 = (15 : Int32)
  · have h := (if_pos hc16).symm.trans h
    refine M_tableIn (pc := 1) (x := x1) (tgt := 207) dX11_count_1 (by rw [hc16]; decide) (by rw [hc16]; decide) (by rw [hc16]; rfl) (by decide) ?_
    refine M_aload_n (pc := 207) dX11_count_207 rfl ?_
    refine M_getR (pc := 208) dX11_count_208 f_X11_37 at_10 (gr_10_5 hp at_10).1 ?_
    refine M_getI (pc := 211) dX11_count_211 f_X11_426 (gr_10_5 hp at_10).2 ?_
    obtain rfl := Option.some.inj h
    exact M_iret (pc := 214) dX11_count_214 rfl rfl rfl rfl
  have h := (if_neg hc16).symm.trans h
  by_cases hc17 : x1 = (16 : Int32)
  · have h := (if_pos hc17).symm.trans h
    refine M_tableIn (pc := 1) (x := x1) (tgt := 215) dX11_count_1 (by rw [hc17]; decide) (by rw [hc17]; decide) (by rw [hc17]; rfl) (by decide) ?_
    refine M_aload_n (pc := 215) dX11_count_215 rfl ?_
    refine M_getR (pc := 216) dX11_count_216 f_X11_44 at_10 (gr_10_6 hp at_10).1 ?_
    refine M_getI (pc := 219) dX11_count_219 f_X11_429 (gr_10_6 hp at_10).2 ?_
    obtain rfl := Option.some.inj h
    exact M_iret (pc := 222) dX11_count_222 rfl rfl rfl rfl
  have h := (if_neg hc17).symm.trans h
  refine M_tableOut (pc := 1) (x := x1) (tgt := 223) dX11_count_1 (sw_out 17 (by decide) (fun j hj => match j, hj with
    | 0, _ => sw_ne hc1 (by decide)
    | 1, _ => sw_ne hc2 (by decide)
    | 2, _ => sw_ne hc3 (by decide)
    | 3, _ => sw_ne hc4 (by decide)
    | 4, _ => sw_ne hc5 (by decide)
    | 5, _ => sw_ne hc6 (by decide)
    | 6, _ => sw_ne hc7 (by decide)
    | 7, _ => sw_ne hc8 (by decide)
    | 8, _ => sw_ne hc9 (by decide)
    | 9, _ => sw_ne hc10 (by decide)
    | 10, _ => sw_ne hc11 (by decide)
    | 11, _ => sw_ne hc12 (by decide)
    | 12, _ => sw_ne hc13 (by decide)
    | 13, _ => sw_ne hc14 (by decide)
    | 14, _ => sw_ne hc15 (by decide)
    | 15, _ => sw_ne hc16 (by decide)
    | 16, _ => sw_ne hc17 (by decide)
    | j + 17, hj => absurd hj (by omega))) (by decide) ?_
  refine M_iconst (pc := 223) (v := -1) dX11_count_223 (by decide) ?_
  obtain rfl := Option.some.inj h
  exact M_iret (pc := 224) dX11_count_224 rfl rfl rfl rfl
def F_X11_feed (I : HI) (x1 : Int32) (x2 : Int32) (x3 : Int32) (x4 : Int32) (x5 : Int32) : Option (Int32 × HI) :=
  if (I 1 1) ≤ (380 : Int32) then (F_X11_putBytes I x1) >>= fun r2 => (F_X11_putBytes r2 x2) >>= fun r4 => (F_X11_putBytes r4 x3) >>= fun r6 => (F_X11_putBytes r6 x4) >>= fun r8 => (F_X11_putBytes r8 x5) >>= fun r10 => some ((r10 1 1), r10) else some ((-1 : Int32), I)
set_option maxRecDepth 4000 in
set_option maxHeartbeats 4000000 in
theorem C_X11_feed {g : gX} {d : Nat} {P : Nat → Nat → Option Nat} {I : HI} {x1 : Int32} {x2 : Int32} {x3 : Int32} {x4 : Int32} {x5 : Int32} {J : HJ} (hp : Wp P) {r : Int32 × HI} (h : F_X11_feed I x1 x2 x3 x4 x5 = some r) : Cm g mX11_feed (d + 1) [.ref 1, .int x1, .int x2, .int x3, .int x4, .int x5] (NT, I, J, P) (some (.int r.1)) (NT, r.2, J, P) := by
  unfold F_X11_feed at h
  refine Cm.of (by decide) (by simp [Value.category]) (Nat.le_of_ble_eq_true rfl) (Nat.le_refl _) (ls := [some (.ref 1), some (.int x1), some (.int x2), some (.int x3), some (.int x4), some (.int x5)]) rfl ?_
  refine M_aload_n (pc := 0) dX11_feed_0 rfl ?_
  refine M_getI (pc := 1) dX11_feed_1 f_X11_13 at_10 ?_
  refine M_sipush (pc := 4) (v := 380) dX11_feed_4 (by decide) ?_
  refine M_icmp_le (pc := 7) (tgt := 12) dX11_feed_7 (by decide) (fun hc1 => ?_) (fun hc1 => ?_)
  · have h := (if_pos hc1).symm.trans h
    refine M_aload_n (pc := 12) dX11_feed_12 rfl ?_
    refine M_iload_n (pc := 13) dX11_feed_13 rfl ?_
    obtain ⟨r2, hr3, h⟩ := bnd h
    refine M_callVv (pc := 14) dX11_feed_14 v_X11_99 rfl rfl at_10 (Nat.le_of_ble_eq_true rfl) (C_X11_putBytes (d := d + 0) hp hr3) (Nat.le_refl _) ?_
    refine M_aload_n (pc := 17) dX11_feed_17 rfl ?_
    refine M_iload_n (pc := 18) dX11_feed_18 rfl ?_
    obtain ⟨r4, hr5, h⟩ := bnd h
    refine M_callVv (pc := 19) dX11_feed_19 v_X11_99 rfl rfl at_10 (Nat.le_of_ble_eq_true rfl) (C_X11_putBytes (d := d + 0) hp hr5) (Nat.le_refl _) ?_
    refine M_aload_n (pc := 22) dX11_feed_22 rfl ?_
    refine M_iload_n (pc := 23) dX11_feed_23 rfl ?_
    obtain ⟨r6, hr7, h⟩ := bnd h
    refine M_callVv (pc := 24) dX11_feed_24 v_X11_99 rfl rfl at_10 (Nat.le_of_ble_eq_true rfl) (C_X11_putBytes (d := d + 0) hp hr7) (Nat.le_refl _) ?_
    refine M_aload_n (pc := 27) dX11_feed_27 rfl ?_
    refine M_iload (pc := 28) dX11_feed_28 rfl ?_
    obtain ⟨r8, hr9, h⟩ := bnd h
    refine M_callVv (pc := 30) dX11_feed_30 v_X11_99 rfl rfl at_10 (Nat.le_of_ble_eq_true rfl) (C_X11_putBytes (d := d + 0) hp hr9) (Nat.le_refl _) ?_
    refine M_aload_n (pc := 33) dX11_feed_33 rfl ?_
    refine M_iload (pc := 34) dX11_feed_34 rfl ?_
    obtain ⟨r10, hr11, h⟩ := bnd h
    refine M_callVv (pc := 36) dX11_feed_36 v_X11_99 rfl rfl at_10 (Nat.le_of_ble_eq_true rfl) (C_X11_putBytes (d := d + 0) hp hr11) (Nat.le_refl _) ?_
    refine M_aload_n (pc := 39) dX11_feed_39 rfl ?_
    refine M_getI (pc := 40) dX11_feed_40 f_X11_13 at_10 ?_
    obtain rfl := Option.some.inj h
    exact M_iret (pc := 43) dX11_feed_43 rfl rfl rfl rfl
  · have h := (if_neg hc1).symm.trans h
    refine M_iconst (pc := 10) (v := -1) dX11_feed_10 (by decide) ?_
    obtain rfl := Option.some.inj h
    exact M_iret (pc := 11) dX11_feed_11 rfl rfl rfl rfl
def F_X11_left (I : HI) : Option (Int32) :=
  (F_X1_all I 4) >>= fun r1 => (F_X1_allHad I 4) >>= fun r3 => some (r1 &&& (r3 ^^^ (-1 : Int32)))
set_option maxRecDepth 4000 in
set_option maxHeartbeats 4000000 in
theorem C_X11_left {g : gX} {d : Nat} {P : Nat → Nat → Option Nat} {I : HI} {J : HJ} (hp : Wp P) {r : Int32} (h : F_X11_left I = some r) : Cm g mX11_left (d + 2) [.ref 1] (NT, I, J, P) (some (.int r)) (NT, I, J, P) := by
  unfold F_X11_left at h
  refine Cm.of (by decide) (by simp [Value.category]) (Nat.le_of_ble_eq_true rfl) (Nat.le_refl _) (ls := [some (.ref 1)]) rfl ?_
  refine M_aload_n (pc := 0) dX11_left_0 rfl ?_
  refine M_getR (pc := 1) dX11_left_1 f_X11_23 at_10 (gr_10_3 hp at_10).1 ?_
  refine M_getR (pc := 4) dX11_left_4 f_X11_148 (gr_10_3 hp at_10).2 (gr_3_0 hp (gr_10_3 hp at_10).2).1 ?_
  obtain ⟨r1, hr2, h⟩ := bnd h
  refine M_callVi (pc := 7) dX11_left_7 v_X11_214 rfl rfl (gr_3_0 hp (gr_10_3 hp at_10).2).2 (Nat.le_of_ble_eq_true rfl) (C_X1_all (d := d + 1) hp (gr_3_0 hp (gr_10_3 hp at_10).2).2 hr2) (Nat.le_refl _) ?_
  refine M_aload_n (pc := 10) dX11_left_10 rfl ?_
  refine M_getR (pc := 11) dX11_left_11 f_X11_23 at_10 (gr_10_3 hp at_10).1 ?_
  refine M_getR (pc := 14) dX11_left_14 f_X11_148 (gr_10_3 hp at_10).2 (gr_3_0 hp (gr_10_3 hp at_10).2).1 ?_
  obtain ⟨r3, hr4, h⟩ := bnd h
  refine M_callVi (pc := 17) dX11_left_17 v_X11_217 rfl rfl (gr_3_0 hp (gr_10_3 hp at_10).2).2 (Nat.le_of_ble_eq_true rfl) (C_X1_allHad (d := d + 0) hp (gr_3_0 hp (gr_10_3 hp at_10).2).2 hr4) (Nat.le_refl _) ?_
  refine M_iconst (pc := 20) (v := -1) dX11_left_20 (by decide) ?_
  refine M_ixor (pc := 21) dX11_left_21 ?_
  refine M_iand (pc := 22) dX11_left_22 ?_
  obtain rfl := Option.some.inj h
  exact M_iret (pc := 23) dX11_left_23 rfl rfl rfl rfl
def F_X11_crust (I : HI) : Option (Int32 × HI) :=
  (F_X0_remember I 3 15) >>= fun r1 => (F_X3_comeBack r1 3) >>= fun r3 => some ((r3 3 2), r3)
set_option maxRecDepth 4000 in
set_option maxHeartbeats 4000000 in
theorem C_X11_crust {g : gX} {d : Nat} {P : Nat → Nat → Option Nat} {I : HI} {J : HJ} (hp : Wp P) {r : Int32 × HI} (h : F_X11_crust I = some r) : Cm g mX11_crust (d + 4) [.ref 1] (NT, I, J, P) (some (.int r.1)) (NT, r.2, J, P) := by
  unfold F_X11_crust at h
  refine Cm.of (by decide) (by simp [Value.category]) (Nat.le_of_ble_eq_true rfl) (Nat.le_refl _) (ls := [some (.ref 1)]) rfl ?_
  refine M_aload_n (pc := 0) dX11_crust_0 rfl ?_
  refine M_getR (pc := 1) dX11_crust_1 f_X11_44 at_10 (gr_10_6 hp at_10).1 ?_
  refine M_aload_n (pc := 4) dX11_crust_4 rfl ?_
  refine M_getR (pc := 5) dX11_crust_5 f_X11_23 at_10 (gr_10_3 hp at_10).1 ?_
  refine M_aload_n (pc := 8) dX11_crust_8 rfl ?_
  refine M_getR (pc := 9) dX11_crust_9 f_X11_37 at_10 (gr_10_5 hp at_10).1 ?_
  obtain ⟨r1, hr2, h⟩ := bnd h
  refine M_callVv (pc := 12) dX11_crust_12 v_X11_228 rfl rfl (gr_10_6 hp at_10).2 (Nat.le_of_ble_eq_true rfl) (C_X0_remember (d := d + 0) hp (gr_10_3 hp at_10).2 (gr_10_5 hp at_10).2 hr2) (Nat.le_refl _) ?_
  refine M_aload_n (pc := 15) dX11_crust_15 rfl ?_
  refine M_getR (pc := 16) dX11_crust_16 f_X11_23 at_10 (gr_10_3 hp at_10).1 ?_
  obtain ⟨r3, hr4, h⟩ := bnd h
  refine M_callVv (pc := 19) dX11_crust_19 v_X11_249 rfl rfl (gr_10_3 hp at_10).2 (Nat.le_of_ble_eq_true rfl) (C_X3_comeBack (d := d + 2) hp (gr_10_3 hp at_10).2 hr4) (Nat.le_refl _) ?_
  refine M_aload_n (pc := 22) dX11_crust_22 rfl ?_
  refine M_getR (pc := 23) dX11_crust_23 f_X11_23 at_10 (gr_10_3 hp at_10).1 ?_
  refine M_getI (pc := 26) dX11_crust_26 f_X11_252 (gr_10_3 hp at_10).2 ?_
  obtain rfl := Option.some.inj h
  exact M_iret (pc := 29) dX11_crust_29 rfl rfl rfl rfl
def F_X11_had (I : HI) (x1 : Int32) (x2 : Int32) (x3 : Int32) (x4 : Int32) : Option ((Int32 ⊕ String) × HI) :=
  (F_X1_has I 4 x1) >>= fun r1 => if r1 = 0 then some ((Sum.inr "java/lang/IndexOutOfBoundsException"), I) else (F_X11_isPlace I x3) >>= fun r4 => if r4 = 0 then some ((Sum.inr "java/lang/IndexOutOfBoundsException"), I) else if x2 < 0 then some ((Sum.inr "java/lang/IllegalArgumentException"), I) else if (9999 : Int32) < x2 then some ((Sum.inr "java/lang/IllegalArgumentException"), I) else if x4 < (-1 : Int32) then some ((Sum.inr "java/lang/IllegalArgumentException"), I) else if x4 ≤ (7 : Int32) then (F_X0_remember I 3 15) >>= fun r11 => (ald 12 (r11 6) x1) >>= fun v13 => (F_X1_tell r11 4 x1 x2 x3 x4) >>= fun r15 => some ((Sum.inl v13), r15) else some ((Sum.inr "java/lang/IllegalArgumentException"), I)
set_option maxRecDepth 4000 in
set_option maxHeartbeats 4000000 in
theorem C_X11_had {g : gX} {d : Nat} {P : Nat → Nat → Option Nat} {I : HI} {x1 : Int32} {x2 : Int32} {x3 : Int32} {x4 : Int32} {J : HJ} (hp : Wp P) {r : (Int32 ⊕ String) × HI} (h : F_X11_had I x1 x2 x3 x4 = some r) : Cx g mX11_had (d + 6) [.ref 1, .int x1, .int x2, .int x3, .int x4] (NT, I, J, P) ((thr_i r.1), (NT, r.2, J, P)) := by
  unfold F_X11_had at h
  refine Cx.of (by decide) (by simp [Value.category]) (Nat.le_of_ble_eq_true rfl) (Nat.le_refl _) (ls := [some (.ref 1), some (.int x1), some (.int x2), some (.int x3), some (.int x4), none]) rfl ?_
  refine M_aload_n (pc := 0) dX11_had_0 rfl ?_
  refine M_getR (pc := 1) dX11_had_1 f_X11_23 at_10 (gr_10_3 hp at_10).1 ?_
  refine M_getR (pc := 4) dX11_had_4 f_X11_148 (gr_10_3 hp at_10).2 (gr_3_0 hp (gr_10_3 hp at_10).2).1 ?_
  refine M_iload_n (pc := 7) dX11_had_7 rfl ?_
  obtain ⟨r1, hr2, h⟩ := bnd h
  refine M_callVi (pc := 8) dX11_had_8 v_X11_152 rfl rfl (gr_3_0 hp (gr_10_3 hp at_10).2).2 (Nat.le_of_ble_eq_true rfl) (C_X1_has (d := d + 5) hp (gr_3_0 hp (gr_10_3 hp at_10).2).2 hr2) (Nat.le_refl _) ?_
  refine M_if_eq (pc := 11) (tgt := 21) dX11_had_11 (by decide) (fun hc3 => ?_) (fun hc3 => ?_)
  · have h := (if_pos hc3).symm.trans h
    obtain rfl := Option.some.inj h
    exact M_throwW (pc := 21) dX11_had_21 dX11_had_24 dX11_had_25 dX11_had_28 dX11_had_31 x_X11_158 (j := 6) (by decide) str_X11_258 rfl rfl
  · have h := (if_neg hc3).symm.trans h
    refine M_iload_n (pc := 14) dX11_had_14 rfl ?_
    obtain ⟨r4, hr5, h⟩ := bnd h
    refine M_callSi (pc := 15) dX11_had_15 s_X11_255 rfl rfl (Nat.le_of_ble_eq_true rfl) (C_X11_isPlace (d := d + 5) hp hr5) (Nat.le_refl _) ?_
    refine M_if_ne (pc := 18) (tgt := 32) dX11_had_18 (by decide) (fun hc6 => ?_) (fun hc6 => ?_)
    · have h := (if_neg hc6).symm.trans h
      refine M_iload_n (pc := 32) dX11_had_32 rfl ?_
      refine M_if_lt (pc := 33) (tgt := 56) dX11_had_33 (by decide) (fun hc7 => ?_) (fun hc7 => ?_)
      · have h := (if_pos hc7).symm.trans h
        obtain rfl := Option.some.inj h
        exact M_throwW (pc := 56) dX11_had_56 dX11_had_59 dX11_had_60 dX11_had_63 dX11_had_66 x_X11_118 (j := 7) (by decide) str_X11_260 rfl rfl
      · have h := (if_neg hc7).symm.trans h
        refine M_iload_n (pc := 36) dX11_had_36 rfl ?_
        refine M_sipush (pc := 37) (v := 9999) dX11_had_37 (by decide) ?_
        refine M_icmp_gt (pc := 40) (tgt := 56) dX11_had_40 (by decide) (fun hc8 => ?_) (fun hc8 => ?_)
        · have h := (if_pos hc8).symm.trans h
          obtain rfl := Option.some.inj h
          exact M_throwW (pc := 56) dX11_had_56 dX11_had_59 dX11_had_60 dX11_had_63 dX11_had_66 x_X11_118 (j := 7) (by decide) str_X11_260 rfl rfl
        · have h := (if_neg hc8).symm.trans h
          refine M_iload (pc := 43) dX11_had_43 rfl ?_
          refine M_iconst (pc := 45) (v := -1) dX11_had_45 (by decide) ?_
          refine M_icmp_lt (pc := 46) (tgt := 56) dX11_had_46 (by decide) (fun hc9 => ?_) (fun hc9 => ?_)
          · have h := (if_pos hc9).symm.trans h
            obtain rfl := Option.some.inj h
            exact M_throwW (pc := 56) dX11_had_56 dX11_had_59 dX11_had_60 dX11_had_63 dX11_had_66 x_X11_118 (j := 7) (by decide) str_X11_260 rfl rfl
          · have h := (if_neg hc9).symm.trans h
            refine M_iload (pc := 49) dX11_had_49 rfl ?_
            refine M_bipush (pc := 51) (v := 7) dX11_had_51 (by decide) ?_
            refine M_icmp_le (pc := 53) (tgt := 67) dX11_had_53 (by decide) (fun hc10 => ?_) (fun hc10 => ?_)
            · have h := (if_pos hc10).symm.trans h
              refine M_aload_n (pc := 67) dX11_had_67 rfl ?_
              refine M_getR (pc := 68) dX11_had_68 f_X11_44 at_10 (gr_10_6 hp at_10).1 ?_
              refine M_aload_n (pc := 71) dX11_had_71 rfl ?_
              refine M_getR (pc := 72) dX11_had_72 f_X11_23 at_10 (gr_10_3 hp at_10).1 ?_
              refine M_aload_n (pc := 75) dX11_had_75 rfl ?_
              refine M_getR (pc := 76) dX11_had_76 f_X11_37 at_10 (gr_10_5 hp at_10).1 ?_
              obtain ⟨r11, hr12, h⟩ := bnd h
              refine M_callVv (pc := 79) dX11_had_79 v_X11_228 rfl rfl (gr_10_6 hp at_10).2 (Nat.le_of_ble_eq_true rfl) (C_X0_remember (d := d + 2) hp (gr_10_3 hp at_10).2 (gr_10_5 hp at_10).2 hr12) (Nat.le_refl _) ?_
              refine M_aload_n (pc := 82) dX11_had_82 rfl ?_
              refine M_getR (pc := 83) dX11_had_83 f_X11_23 at_10 (gr_10_3 hp at_10).1 ?_
              refine M_getR (pc := 86) dX11_had_86 f_X11_148 (gr_10_3 hp at_10).2 (gr_3_0 hp (gr_10_3 hp at_10).2).1 ?_
              refine M_getR (pc := 89) dX11_had_89 f_X11_171 (gr_3_0 hp (gr_10_3 hp at_10).2).2 (gr_1_2 hp (gr_3_0 hp (gr_10_3 hp at_10).2).2).1 ?_
              refine M_iload_n (pc := 92) dX11_had_92 rfl ?_
              obtain ⟨v13, hv14, h⟩ := bnd h
              refine M_aldI (pc := 93) dX11_had_93 (gr_1_2 hp (gr_3_0 hp (gr_10_3 hp at_10).2).2).2 hv14 ?_
              refine M_istore (pc := 94) (ls' := [some (.ref 1), some (.int x1), some (.int x2), some (.int x3), some (.int x4), some (.int v13)]) dX11_had_94 (by decide) rfl ?_
              refine M_aload_n (pc := 96) dX11_had_96 rfl ?_
              refine M_getR (pc := 97) dX11_had_97 f_X11_23 at_10 (gr_10_3 hp at_10).1 ?_
              refine M_getR (pc := 100) dX11_had_100 f_X11_148 (gr_10_3 hp at_10).2 (gr_3_0 hp (gr_10_3 hp at_10).2).1 ?_
              refine M_iload_n (pc := 103) dX11_had_103 rfl ?_
              refine M_iload_n (pc := 104) dX11_had_104 rfl ?_
              refine M_iload_n (pc := 105) dX11_had_105 rfl ?_
              refine M_iload (pc := 106) dX11_had_106 rfl ?_
              obtain ⟨r15, hr16, h⟩ := bnd h
              refine M_callVv (pc := 108) dX11_had_108 v_X11_262 rfl rfl (gr_3_0 hp (gr_10_3 hp at_10).2).2 (Nat.le_of_ble_eq_true rfl) (C_X1_tell (d := d + 4) hp (gr_3_0 hp (gr_10_3 hp at_10).2).2 hr16) (Nat.le_refl _) ?_
              refine M_iload (pc := 111) dX11_had_111 rfl ?_
              obtain rfl := Option.some.inj h
              exact M_iret (pc := 113) dX11_had_113 rfl rfl rfl rfl
            · have h := (if_neg hc10).symm.trans h
              obtain rfl := Option.some.inj h
              exact M_throwW (pc := 56) dX11_had_56 dX11_had_59 dX11_had_60 dX11_had_63 dX11_had_66 x_X11_118 (j := 7) (by decide) str_X11_260 rfl rfl
    · have h := (if_pos hc6).symm.trans h
      obtain rfl := Option.some.inj h
      exact M_throwW (pc := 21) dX11_had_21 dX11_had_24 dX11_had_25 dX11_had_28 dX11_had_31 x_X11_158 (j := 6) (by decide) str_X11_258 rfl rfl
def F_X11_forget (I : HI) (x1 : Int32) : Option ((Int32 ⊕ String) × HI) :=
  (F_X1_has I 4 x1) >>= fun r1 => if r1 = 0 then some ((Sum.inr "java/lang/IndexOutOfBoundsException"), I) else (F_X1_isHad I 4 x1) >>= fun r4 => if r4 = 0 then some ((Sum.inr "java/lang/IllegalStateException"), I) else (F_X0_remember I 3 15) >>= fun r7 => (ald 12 (r7 6) x1) >>= fun v9 => (F_X1_tell r7 4 x1 (-1 : Int32) (-1 : Int32) (-1 : Int32)) >>= fun r11 => some ((Sum.inl v9), r11)
set_option maxRecDepth 4000 in
set_option maxHeartbeats 4000000 in
theorem C_X11_forget {g : gX} {d : Nat} {P : Nat → Nat → Option Nat} {I : HI} {x1 : Int32} {J : HJ} (hp : Wp P) {r : (Int32 ⊕ String) × HI} (h : F_X11_forget I x1 = some r) : Cx g mX11_forget (d + 6) [.ref 1, .int x1] (NT, I, J, P) ((thr_i r.1), (NT, r.2, J, P)) := by
  unfold F_X11_forget at h
  refine Cx.of (by decide) (by simp [Value.category]) (Nat.le_of_ble_eq_true rfl) (Nat.le_refl _) (ls := [some (.ref 1), some (.int x1), none]) rfl ?_
  refine M_aload_n (pc := 0) dX11_forget_0 rfl ?_
  refine M_getR (pc := 1) dX11_forget_1 f_X11_23 at_10 (gr_10_3 hp at_10).1 ?_
  refine M_getR (pc := 4) dX11_forget_4 f_X11_148 (gr_10_3 hp at_10).2 (gr_3_0 hp (gr_10_3 hp at_10).2).1 ?_
  refine M_iload_n (pc := 7) dX11_forget_7 rfl ?_
  obtain ⟨r1, hr2, h⟩ := bnd h
  refine M_callVi (pc := 8) dX11_forget_8 v_X11_152 rfl rfl (gr_3_0 hp (gr_10_3 hp at_10).2).2 (Nat.le_of_ble_eq_true rfl) (C_X1_has (d := d + 5) hp (gr_3_0 hp (gr_10_3 hp at_10).2).2 hr2) (Nat.le_refl _) ?_
  refine M_if_ne (pc := 11) (tgt := 24) dX11_forget_11 (by decide) (fun hc3 => ?_) (fun hc3 => ?_)
  · have h := (if_neg hc3).symm.trans h
    refine M_aload_n (pc := 24) dX11_forget_24 rfl ?_
    refine M_getR (pc := 25) dX11_forget_25 f_X11_23 at_10 (gr_10_3 hp at_10).1 ?_
    refine M_getR (pc := 28) dX11_forget_28 f_X11_148 (gr_10_3 hp at_10).2 (gr_3_0 hp (gr_10_3 hp at_10).2).1 ?_
    refine M_iload_n (pc := 31) dX11_forget_31 rfl ?_
    obtain ⟨r4, hr5, h⟩ := bnd h
    refine M_callVi (pc := 32) dX11_forget_32 v_X11_265 rfl rfl (gr_3_0 hp (gr_10_3 hp at_10).2).2 (Nat.le_of_ble_eq_true rfl) (C_X1_isHad (d := d + 4) hp (gr_3_0 hp (gr_10_3 hp at_10).2).2 hr5) (Nat.le_refl _) ?_
    refine M_if_ne (pc := 35) (tgt := 49) dX11_forget_35 (by decide) (fun hc6 => ?_) (fun hc6 => ?_)
    · have h := (if_neg hc6).symm.trans h
      refine M_aload_n (pc := 49) dX11_forget_49 rfl ?_
      refine M_getR (pc := 50) dX11_forget_50 f_X11_44 at_10 (gr_10_6 hp at_10).1 ?_
      refine M_aload_n (pc := 53) dX11_forget_53 rfl ?_
      refine M_getR (pc := 54) dX11_forget_54 f_X11_23 at_10 (gr_10_3 hp at_10).1 ?_
      refine M_aload_n (pc := 57) dX11_forget_57 rfl ?_
      refine M_getR (pc := 58) dX11_forget_58 f_X11_37 at_10 (gr_10_5 hp at_10).1 ?_
      obtain ⟨r7, hr8, h⟩ := bnd h
      refine M_callVv (pc := 61) dX11_forget_61 v_X11_228 rfl rfl (gr_10_6 hp at_10).2 (Nat.le_of_ble_eq_true rfl) (C_X0_remember (d := d + 2) hp (gr_10_3 hp at_10).2 (gr_10_5 hp at_10).2 hr8) (Nat.le_refl _) ?_
      refine M_aload_n (pc := 64) dX11_forget_64 rfl ?_
      refine M_getR (pc := 65) dX11_forget_65 f_X11_23 at_10 (gr_10_3 hp at_10).1 ?_
      refine M_getR (pc := 68) dX11_forget_68 f_X11_148 (gr_10_3 hp at_10).2 (gr_3_0 hp (gr_10_3 hp at_10).2).1 ?_
      refine M_getR (pc := 71) dX11_forget_71 f_X11_171 (gr_3_0 hp (gr_10_3 hp at_10).2).2 (gr_1_2 hp (gr_3_0 hp (gr_10_3 hp at_10).2).2).1 ?_
      refine M_iload_n (pc := 74) dX11_forget_74 rfl ?_
      obtain ⟨v9, hv10, h⟩ := bnd h
      refine M_aldI (pc := 75) dX11_forget_75 (gr_1_2 hp (gr_3_0 hp (gr_10_3 hp at_10).2).2).2 hv10 ?_
      refine M_istore_n (pc := 76) (ls' := [some (.ref 1), some (.int x1), some (.int v9)]) dX11_forget_76 (by decide) rfl ?_
      refine M_aload_n (pc := 77) dX11_forget_77 rfl ?_
      refine M_getR (pc := 78) dX11_forget_78 f_X11_23 at_10 (gr_10_3 hp at_10).1 ?_
      refine M_getR (pc := 81) dX11_forget_81 f_X11_148 (gr_10_3 hp at_10).2 (gr_3_0 hp (gr_10_3 hp at_10).2).1 ?_
      refine M_iload_n (pc := 84) dX11_forget_84 rfl ?_
      refine M_iconst (pc := 85) (v := -1) dX11_forget_85 (by decide) ?_
      refine M_iconst (pc := 86) (v := -1) dX11_forget_86 (by decide) ?_
      refine M_iconst (pc := 87) (v := -1) dX11_forget_87 (by decide) ?_
      obtain ⟨r11, hr12, h⟩ := bnd h
      refine M_callVv (pc := 88) dX11_forget_88 v_X11_262 rfl rfl (gr_3_0 hp (gr_10_3 hp at_10).2).2 (Nat.le_of_ble_eq_true rfl) (C_X1_tell (d := d + 4) hp (gr_3_0 hp (gr_10_3 hp at_10).2).2 hr12) (Nat.le_refl _) ?_
      refine M_iload_n (pc := 91) dX11_forget_91 rfl ?_
      obtain rfl := Option.some.inj h
      exact M_iret (pc := 92) dX11_forget_92 rfl rfl rfl rfl
    · have h := (if_pos hc6).symm.trans h
      obtain rfl := Option.some.inj h
      exact M_throwW (pc := 38) dX11_forget_38 dX11_forget_41 dX11_forget_42 dX11_forget_45 dX11_forget_48 x_X11_223 (j := 8) (by decide) str_X11_268 rfl rfl
  · have h := (if_pos hc3).symm.trans h
    obtain rfl := Option.some.inj h
    exact M_throw (pc := 14) dX11_forget_14 dX11_forget_17 dX11_forget_18 dX11_forget_20 dX11_forget_23 x_X11_158 (j := 3) (by decide) str_X11_160 rfl rfl
def F_X11_reach (I : HI) (x1 : Int32) : Option ((Int32 ⊕ String) × HI) :=
  if x1 < 0 then some ((Sum.inr "java/lang/IllegalArgumentException"), I) else if x1 ≤ (45 : Int32) then (F_X0_remember I 3 15) >>= fun r3 => some ((Sum.inl (r3 3 7)), (up2 r3 3 7 x1)) else some ((Sum.inr "java/lang/IllegalArgumentException"), I)
set_option maxRecDepth 4000 in
set_option maxHeartbeats 4000000 in
theorem C_X11_reach {g : gX} {d : Nat} {P : Nat → Nat → Option Nat} {I : HI} {x1 : Int32} {J : HJ} (hp : Wp P) {r : (Int32 ⊕ String) × HI} (h : F_X11_reach I x1 = some r) : Cx g mX11_reach (d + 6) [.ref 1, .int x1] (NT, I, J, P) ((thr_i r.1), (NT, r.2, J, P)) := by
  unfold F_X11_reach at h
  refine Cx.of (by decide) (by simp [Value.category]) (Nat.le_of_ble_eq_true rfl) (Nat.le_refl _) (ls := [some (.ref 1), some (.int x1), none]) rfl ?_
  refine M_iload_n (pc := 0) dX11_reach_0 rfl ?_
  refine M_if_lt (pc := 1) (tgt := 10) dX11_reach_1 (by decide) (fun hc1 => ?_) (fun hc1 => ?_)
  · have h := (if_pos hc1).symm.trans h
    obtain rfl := Option.some.inj h
    exact M_throwW (pc := 10) dX11_reach_10 dX11_reach_13 dX11_reach_14 dX11_reach_17 dX11_reach_20 x_X11_118 (j := 9) (by decide) str_X11_270 rfl rfl
  · have h := (if_neg hc1).symm.trans h
    refine M_iload_n (pc := 4) dX11_reach_4 rfl ?_
    refine M_bipush (pc := 5) (v := 45) dX11_reach_5 (by decide) ?_
    refine M_icmp_le (pc := 7) (tgt := 21) dX11_reach_7 (by decide) (fun hc2 => ?_) (fun hc2 => ?_)
    · have h := (if_pos hc2).symm.trans h
      refine M_aload_n (pc := 21) dX11_reach_21 rfl ?_
      refine M_getR (pc := 22) dX11_reach_22 f_X11_44 at_10 (gr_10_6 hp at_10).1 ?_
      refine M_aload_n (pc := 25) dX11_reach_25 rfl ?_
      refine M_getR (pc := 26) dX11_reach_26 f_X11_23 at_10 (gr_10_3 hp at_10).1 ?_
      refine M_aload_n (pc := 29) dX11_reach_29 rfl ?_
      refine M_getR (pc := 30) dX11_reach_30 f_X11_37 at_10 (gr_10_5 hp at_10).1 ?_
      obtain ⟨r3, hr4, h⟩ := bnd h
      refine M_callVv (pc := 33) dX11_reach_33 v_X11_228 rfl rfl (gr_10_6 hp at_10).2 (Nat.le_of_ble_eq_true rfl) (C_X0_remember (d := d + 2) hp (gr_10_3 hp at_10).2 (gr_10_5 hp at_10).2 hr4) (Nat.le_refl _) ?_
      refine M_aload_n (pc := 36) dX11_reach_36 rfl ?_
      refine M_getR (pc := 37) dX11_reach_37 f_X11_23 at_10 (gr_10_3 hp at_10).1 ?_
      refine M_getI (pc := 40) dX11_reach_40 f_X11_180 (gr_10_3 hp at_10).2 ?_
      refine M_istore_n (pc := 43) (ls' := [some (.ref 1), some (.int x1), some (.int (r3 3 7))]) dX11_reach_43 (by decide) rfl ?_
      refine M_aload_n (pc := 44) dX11_reach_44 rfl ?_
      refine M_getR (pc := 45) dX11_reach_45 f_X11_23 at_10 (gr_10_3 hp at_10).1 ?_
      refine M_iload_n (pc := 48) dX11_reach_48 rfl ?_
      refine M_putI (pc := 49) dX11_reach_49 f_X11_180 (gr_10_3 hp at_10).2 rfl ⟨rfl, rfl⟩ ?_
      refine M_iload_n (pc := 52) dX11_reach_52 rfl ?_
      obtain rfl := Option.some.inj h
      exact M_iret (pc := 53) dX11_reach_53 rfl rfl rfl rfl
    · have h := (if_neg hc2).symm.trans h
      obtain rfl := Option.some.inj h
      exact M_throwW (pc := 10) dX11_reach_10 dX11_reach_13 dX11_reach_14 dX11_reach_17 dX11_reach_20 x_X11_118 (j := 9) (by decide) str_X11_270 rfl rfl
def F_X11_house (I : HI) (x1 : Int32) : Option ((Int32 ⊕ String) × HI) :=
  (F_X11_isPlace I x1) >>= fun r1 => if r1 = 0 then some ((Sum.inr "java/lang/IndexOutOfBoundsException"), I) else (F_X0_remember I 3 15) >>= fun r4 => some ((Sum.inl (r4 3 11)), (up2 r4 3 11 x1))
set_option maxRecDepth 4000 in
set_option maxHeartbeats 4000000 in
theorem C_X11_house {g : gX} {d : Nat} {P : Nat → Nat → Option Nat} {I : HI} {x1 : Int32} {J : HJ} (hp : Wp P) {r : (Int32 ⊕ String) × HI} (h : F_X11_house I x1 = some r) : Cx g mX11_house (d + 6) [.ref 1, .int x1] (NT, I, J, P) ((thr_i r.1), (NT, r.2, J, P)) := by
  unfold F_X11_house at h
  refine Cx.of (by decide) (by simp [Value.category]) (Nat.le_of_ble_eq_true rfl) (Nat.le_refl _) (ls := [some (.ref 1), some (.int x1), none]) rfl ?_
  refine M_iload_n (pc := 0) dX11_house_0 rfl ?_
  obtain ⟨r1, hr2, h⟩ := bnd h
  refine M_callSi (pc := 1) dX11_house_1 s_X11_255 rfl rfl (Nat.le_of_ble_eq_true rfl) (C_X11_isPlace (d := d + 5) hp hr2) (Nat.le_refl _) ?_
  refine M_if_ne (pc := 4) (tgt := 18) dX11_house_4 (by decide) (fun hc3 => ?_) (fun hc3 => ?_)
  · have h := (if_neg hc3).symm.trans h
    refine M_aload_n (pc := 18) dX11_house_18 rfl ?_
    refine M_getR (pc := 19) dX11_house_19 f_X11_44 at_10 (gr_10_6 hp at_10).1 ?_
    refine M_aload_n (pc := 22) dX11_house_22 rfl ?_
    refine M_getR (pc := 23) dX11_house_23 f_X11_23 at_10 (gr_10_3 hp at_10).1 ?_
    refine M_aload_n (pc := 26) dX11_house_26 rfl ?_
    refine M_getR (pc := 27) dX11_house_27 f_X11_37 at_10 (gr_10_5 hp at_10).1 ?_
    obtain ⟨r4, hr5, h⟩ := bnd h
    refine M_callVv (pc := 30) dX11_house_30 v_X11_228 rfl rfl (gr_10_6 hp at_10).2 (Nat.le_of_ble_eq_true rfl) (C_X0_remember (d := d + 2) hp (gr_10_3 hp at_10).2 (gr_10_5 hp at_10).2 hr5) (Nat.le_refl _) ?_
    refine M_aload_n (pc := 33) dX11_house_33 rfl ?_
    refine M_getR (pc := 34) dX11_house_34 f_X11_23 at_10 (gr_10_3 hp at_10).1 ?_
    refine M_getI (pc := 37) dX11_house_37 f_X11_274 (gr_10_3 hp at_10).2 ?_
    refine M_istore_n (pc := 40) (ls' := [some (.ref 1), some (.int x1), some (.int (r4 3 11))]) dX11_house_40 (by decide) rfl ?_
    refine M_aload_n (pc := 41) dX11_house_41 rfl ?_
    refine M_getR (pc := 42) dX11_house_42 f_X11_23 at_10 (gr_10_3 hp at_10).1 ?_
    refine M_iload_n (pc := 45) dX11_house_45 rfl ?_
    refine M_putI (pc := 46) dX11_house_46 f_X11_274 (gr_10_3 hp at_10).2 rfl ⟨rfl, rfl⟩ ?_
    refine M_iload_n (pc := 49) dX11_house_49 rfl ?_
    obtain rfl := Option.some.inj h
    exact M_iret (pc := 50) dX11_house_50 rfl rfl rfl rfl
  · have h := (if_pos hc3).symm.trans h
    obtain rfl := Option.some.inj h
    exact M_throwW (pc := 7) dX11_house_7 dX11_house_10 dX11_house_11 dX11_house_14 dX11_house_17 x_X11_158 (j := 10) (by decide) str_X11_272 rfl rfl
def F_X11_look (I : HI) : Option (Int32 × HI) :=
  (F_X0_remember I 3 15) >>= fun r1 => (F_X3_draw r1 3) >>= fun r3 => if (r3.2 3 10) ≤ (r3.1 - r3.1 / (100 : Int32) * (100 : Int32)) then some ((((r3.2 3 3) / (10 : Int32)) + (0 : Int32)), r3.2) else some ((((r3.2 3 3) / (10 : Int32)) + (1 : Int32)), r3.2)
set_option maxRecDepth 4000 in
set_option maxHeartbeats 4000000 in
theorem C_X11_look {g : gX} {d : Nat} {P : Nat → Nat → Option Nat} {I : HI} {J : HJ} (hp : Wp P) {r : Int32 × HI} (h : F_X11_look I = some r) : Cm g mX11_look (d + 4) [.ref 1] (NT, I, J, P) (some (.int r.1)) (NT, r.2, J, P) := by
  unfold F_X11_look at h
  refine Cm.of (by decide) (by simp [Value.category]) (Nat.le_of_ble_eq_true rfl) (Nat.le_refl _) (ls := [some (.ref 1), none]) rfl ?_
  refine M_aload_n (pc := 0) dX11_look_0 rfl ?_
  refine M_getR (pc := 1) dX11_look_1 f_X11_44 at_10 (gr_10_6 hp at_10).1 ?_
  refine M_aload_n (pc := 4) dX11_look_4 rfl ?_
  refine M_getR (pc := 5) dX11_look_5 f_X11_23 at_10 (gr_10_3 hp at_10).1 ?_
  refine M_aload_n (pc := 8) dX11_look_8 rfl ?_
  refine M_getR (pc := 9) dX11_look_9 f_X11_37 at_10 (gr_10_5 hp at_10).1 ?_
  obtain ⟨r1, hr2, h⟩ := bnd h
  refine M_callVv (pc := 12) dX11_look_12 v_X11_228 rfl rfl (gr_10_6 hp at_10).2 (Nat.le_of_ble_eq_true rfl) (C_X0_remember (d := d + 0) hp (gr_10_3 hp at_10).2 (gr_10_5 hp at_10).2 hr2) (Nat.le_refl _) ?_
  refine M_aload_n (pc := 15) dX11_look_15 rfl ?_
  refine M_getR (pc := 16) dX11_look_16 f_X11_23 at_10 (gr_10_3 hp at_10).1 ?_
  obtain ⟨r3, hr4, h⟩ := bnd h
  refine M_callVi (pc := 19) dX11_look_19 v_X11_277 rfl rfl (gr_10_3 hp at_10).2 (Nat.le_of_ble_eq_true rfl) (C_X3_draw (d := d + 3) hp (gr_10_3 hp at_10).2 hr4) (Nat.le_refl _) ?_
  refine M_bipush (pc := 22) (v := 100) dX11_look_22 (by decide) ?_
  refine M_irem (pc := 24) dX11_look_24 (by decide) ?_
  refine M_aload_n (pc := 25) dX11_look_25 rfl ?_
  refine M_getR (pc := 26) dX11_look_26 f_X11_23 at_10 (gr_10_3 hp at_10).1 ?_
  refine M_getI (pc := 29) dX11_look_29 f_X11_280 (gr_10_3 hp at_10).2 ?_
  refine M_icmp_ge (pc := 32) (tgt := 39) dX11_look_32 (by decide) (fun hc5 => ?_) (fun hc5 => ?_)
  · have h := (if_pos hc5).symm.trans h
    refine M_iconst (pc := 39) (v := 0) dX11_look_39 (by decide) ?_
    refine M_istore_n (pc := 40) (ls' := [some (.ref 1), some (.int (0 : Int32))]) dX11_look_40 (by decide) rfl ?_
    refine M_aload_n (pc := 41) dX11_look_41 rfl ?_
    refine M_getR (pc := 42) dX11_look_42 f_X11_23 at_10 (gr_10_3 hp at_10).1 ?_
    refine M_getI (pc := 45) dX11_look_45 f_X11_242 (gr_10_3 hp at_10).2 ?_
    refine M_bipush (pc := 48) (v := 10) dX11_look_48 (by decide) ?_
    refine M_idiv (pc := 50) dX11_look_50 (by decide) ?_
    refine M_iload_n (pc := 51) dX11_look_51 rfl ?_
    refine M_iadd (pc := 52) dX11_look_52 ?_
    obtain rfl := Option.some.inj h
    exact M_iret (pc := 53) dX11_look_53 rfl rfl rfl rfl
  · have h := (if_neg hc5).symm.trans h
    refine M_iconst (pc := 35) (v := 1) dX11_look_35 (by decide) ?_
    refine M_goto (pc := 36) (tgt := 40) dX11_look_36 (by decide) ?_
    refine M_istore_n (pc := 40) (ls' := [some (.ref 1), some (.int (1 : Int32))]) dX11_look_40 (by decide) rfl ?_
    refine M_aload_n (pc := 41) dX11_look_41 rfl ?_
    refine M_getR (pc := 42) dX11_look_42 f_X11_23 at_10 (gr_10_3 hp at_10).1 ?_
    refine M_getI (pc := 45) dX11_look_45 f_X11_242 (gr_10_3 hp at_10).2 ?_
    refine M_bipush (pc := 48) (v := 10) dX11_look_48 (by decide) ?_
    refine M_idiv (pc := 50) dX11_look_50 (by decide) ?_
    refine M_iload_n (pc := 51) dX11_look_51 rfl ?_
    refine M_iadd (pc := 52) dX11_look_52 ?_
    obtain rfl := Option.some.inj h
    exact M_iret (pc := 53) dX11_look_53 rfl rfl rfl rfl
def L_X11_he_42 (I : HI) (x1 : Int32) (x2 : Int32) (x3 : Int32) : Option ((Int32 ⊕ String) × HI) :=
  if x1 ≤ x3 then some ((Sum.inl x2), I) else if (400 : Int32) ≤ (x3 + (1 : Int32)) then some ((Sum.inl x2), I) else (ald 400 (I 2) x3) >>= fun v10 => (ald 400 (I 2) (x3 + (1 : Int32))) >>= fun v12 => (F_X1_companyIn I 4 v10 v12) >>= fun r14 => L_X11_he_42 I x1 (x2 &&& r14) (x3 + (2 : Int32))
partial_fixpoint
def F_X11_he (I : HI) : Option ((Int32 ⊕ String) × HI) :=
  (F_X11_takeTape I) >>= fun r1 => if (40 : Int32) < r1.1 then some ((Sum.inr "java/lang/IllegalArgumentException"), r1.2) else if (r1.1 - r1.1 / (2 : Int32) * (2 : Int32)) = 0 then (F_X11_arePairs r1.2 r1.1) >>= fun r5 => if r5 = 0 then some ((Sum.inr "java/lang/IllegalArgumentException"), r1.2) else L_X11_he_42 r1.2 r1.1 (255 : Int32) (0 : Int32) else some ((Sum.inr "java/lang/IllegalArgumentException"), r1.2)
set_option maxRecDepth 4000 in
set_option maxHeartbeats 4000000 in
theorem LC_X11_he_42 {g : gX} {d : Nat} {P : Nat → Nat → Option Nat} {J : HJ} {I : HI} {x1 : Int32} (hp : Wp P) : ∀ (x2 : Int32) (x3 : Int32) (r : (Int32 ⊕ String) × HI), L_X11_he_42 I x1 x2 x3 = some r → M g mX11_he (d + 6) (NT, NT, 1) ((thr_i r.1), (NT, r.2, J, P)) 42 [some (.ref 1), some (.int x1), some (.int x2), some (.int x3)] [] (NT, I, J, P) := by
  refine L_X11_he_42.partial_correctness I x1 (fun x2 x3 r => M g mX11_he (d + 6) (NT, NT, 1) ((thr_i r.1), (NT, r.2, J, P)) 42 [some (.ref 1), some (.int x1), some (.int x2), some (.int x3)] [] (NT, I, J, P)) ?_
  intro f ih x2 x3 r h
  refine M_iload_n (pc := 42) dX11_he_42 rfl ?_
  refine M_iload_n (pc := 43) dX11_he_43 rfl ?_
  refine M_icmp_ge (pc := 44) (tgt := 89) dX11_he_44 (by decide) (fun hc8 => ?_) (fun hc8 => ?_)
  · have h := (if_pos hc8).symm.trans h
    refine M_iload_n (pc := 89) dX11_he_89 rfl ?_
    obtain rfl := Option.some.inj h
    exact M_iret (pc := 90) dX11_he_90 rfl rfl rfl rfl
  · have h := (if_neg hc8).symm.trans h
    refine M_iload_n (pc := 47) dX11_he_47 rfl ?_
    refine M_iconst (pc := 48) (v := 1) dX11_he_48 (by decide) ?_
    refine M_iadd (pc := 49) dX11_he_49 ?_
    refine M_sipush (pc := 50) (v := 400) dX11_he_50 (by decide) ?_
    refine M_icmp_ge (pc := 53) (tgt := 89) dX11_he_53 (by decide) (fun hc9 => ?_) (fun hc9 => ?_)
    · have h := (if_pos hc9).symm.trans h
      refine M_iload_n (pc := 89) dX11_he_89 rfl ?_
      obtain rfl := Option.some.inj h
      exact M_iret (pc := 90) dX11_he_90 rfl rfl rfl rfl
    · have h := (if_neg hc9).symm.trans h
      refine M_iload_n (pc := 56) dX11_he_56 rfl ?_
      refine M_aload_n (pc := 57) dX11_he_57 rfl ?_
      refine M_getR (pc := 58) dX11_he_58 f_X11_23 at_10 (gr_10_3 hp at_10).1 ?_
      refine M_getR (pc := 61) dX11_he_61 f_X11_148 (gr_10_3 hp at_10).2 (gr_3_0 hp (gr_10_3 hp at_10).2).1 ?_
      refine M_aload_n (pc := 64) dX11_he_64 rfl ?_
      refine M_getR (pc := 65) dX11_he_65 f_X11_9 at_10 (gr_10_0 hp at_10).1 ?_
      refine M_iload_n (pc := 68) dX11_he_68 rfl ?_
      obtain ⟨v10, hv11, h⟩ := bnd h
      refine M_aldI (pc := 69) dX11_he_69 (gr_10_0 hp at_10).2 hv11 ?_
      refine M_aload_n (pc := 70) dX11_he_70 rfl ?_
      refine M_getR (pc := 71) dX11_he_71 f_X11_9 at_10 (gr_10_0 hp at_10).1 ?_
      refine M_iload_n (pc := 74) dX11_he_74 rfl ?_
      refine M_iconst (pc := 75) (v := 1) dX11_he_75 (by decide) ?_
      refine M_iadd (pc := 76) dX11_he_76 ?_
      obtain ⟨v12, hv13, h⟩ := bnd h
      refine M_aldI (pc := 77) dX11_he_77 (gr_10_0 hp at_10).2 hv13 ?_
      obtain ⟨r14, hr15, h⟩ := bnd h
      refine M_callVi (pc := 78) dX11_he_78 v_X11_333 rfl rfl (gr_3_0 hp (gr_10_3 hp at_10).2).2 (Nat.le_of_ble_eq_true rfl) (C_X1_companyIn (d := d + 3) hp (gr_3_0 hp (gr_10_3 hp at_10).2).2 hr15) (Nat.le_refl _) ?_
      refine M_iand (pc := 81) dX11_he_81 ?_
      refine M_istore_n (pc := 82) (ls' := [some (.ref 1), some (.int x1), some (.int (x2 &&& r14)), some (.int x3)]) dX11_he_82 (by decide) rfl ?_
      refine M_iinc (pc := 83) (v := (x3 + (2 : Int32))) (ls' := [some (.ref 1), some (.int x1), some (.int (x2 &&& r14)), some (.int (x3 + (2 : Int32)))]) dX11_he_83 rfl rfl (by decide) rfl ?_
      refine M_goto (pc := 86) (tgt := 42) dX11_he_86 (by decide) ?_
      exact ih (x2 &&& r14) (x3 + (2 : Int32)) _ h
set_option maxRecDepth 4000 in
set_option maxHeartbeats 4000000 in
theorem C_X11_he {g : gX} {d : Nat} {P : Nat → Nat → Option Nat} {I : HI} {J : HJ} (hp : Wp P) {r : (Int32 ⊕ String) × HI} (h : F_X11_he I = some r) : Cx g mX11_he (d + 6) [.ref 1] (NT, I, J, P) ((thr_i r.1), (NT, r.2, J, P)) := by
  unfold F_X11_he at h
  refine Cx.of (by decide) (by simp [Value.category]) (Nat.le_of_ble_eq_true rfl) (Nat.le_refl _) (ls := [some (.ref 1), none, none, none]) rfl ?_
  refine M_aload_n (pc := 0) dX11_he_0 rfl ?_
  obtain ⟨r1, hr2, h⟩ := bnd h
  refine M_callVi (pc := 1) dX11_he_1 v_X11_110 rfl rfl at_10 (Nat.le_of_ble_eq_true rfl) (C_X11_takeTape (d := d + 5) hp hr2) (Nat.le_refl _) ?_
  refine M_istore_n (pc := 4) (ls' := [some (.ref 1), some (.int r1.1), none, none]) dX11_he_4 (by decide) rfl ?_
  refine M_iload_n (pc := 5) dX11_he_5 rfl ?_
  refine M_bipush (pc := 6) (v := 40) dX11_he_6 (by decide) ?_
  refine M_icmp_gt (pc := 8) (tgt := 25) dX11_he_8 (by decide) (fun hc3 => ?_) (fun hc3 => ?_)
  · have h := (if_pos hc3).symm.trans h
    obtain rfl := Option.some.inj h
    exact M_throwW (pc := 25) dX11_he_25 dX11_he_28 dX11_he_29 dX11_he_32 dX11_he_35 x_X11_118 (j := 16) (by decide) str_X11_331 rfl rfl
  · have h := (if_neg hc3).symm.trans h
    refine M_iload_n (pc := 11) dX11_he_11 rfl ?_
    refine M_iconst (pc := 12) (v := 2) dX11_he_12 (by decide) ?_
    refine M_irem (pc := 13) dX11_he_13 (by decide) ?_
    refine M_if_ne (pc := 14) (tgt := 25) dX11_he_14 (by decide) (fun hc4 => ?_) (fun hc4 => ?_)
    · have h := (if_neg hc4).symm.trans h
      obtain rfl := Option.some.inj h
      exact M_throwW (pc := 25) dX11_he_25 dX11_he_28 dX11_he_29 dX11_he_32 dX11_he_35 x_X11_118 (j := 16) (by decide) str_X11_331 rfl rfl
    · have h := (if_pos hc4).symm.trans h
      refine M_aload_n (pc := 17) dX11_he_17 rfl ?_
      refine M_iload_n (pc := 18) dX11_he_18 rfl ?_
      obtain ⟨r5, hr6, h⟩ := bnd h
      refine M_callVi (pc := 19) dX11_he_19 v_X11_328 rfl rfl at_10 (Nat.le_of_ble_eq_true rfl) (C_X11_arePairs (d := d + 4) hp hr6) (Nat.le_refl _) ?_
      refine M_if_ne (pc := 22) (tgt := 36) dX11_he_22 (by decide) (fun hc7 => ?_) (fun hc7 => ?_)
      · have h := (if_neg hc7).symm.trans h
        refine M_sipush (pc := 36) (v := 255) dX11_he_36 (by decide) ?_
        refine M_istore_n (pc := 39) (ls' := [some (.ref 1), some (.int r1.1), some (.int (255 : Int32)), none]) dX11_he_39 (by decide) rfl ?_
        refine M_iconst (pc := 40) (v := 0) dX11_he_40 (by decide) ?_
        refine M_istore_n (pc := 41) (ls' := [some (.ref 1), some (.int r1.1), some (.int (255 : Int32)), some (.int (0 : Int32))]) dX11_he_41 (by decide) rfl ?_
        exact LC_X11_he_42 (P := P) hp (255 : Int32) (0 : Int32) _ h
      · have h := (if_pos hc7).symm.trans h
        obtain rfl := Option.some.inj h
        exact M_throwW (pc := 25) dX11_he_25 dX11_he_28 dX11_he_29 dX11_he_32 dX11_he_35 x_X11_118 (j := 16) (by decide) str_X11_331 rfl rfl
def L_X11_fitting_13 (I : HI) (x1 : Int32) (x2 : Int32) (x3 : Int32) : Option (Int32) :=
  if x1 ≤ x3 then some x2 else if (400 : Int32) ≤ x3 then some x2 else (ald 400 (I 2) x3) >>= fun v5 => (F_X1_inDecade I 4 v5) >>= fun r7 => (ald 400 (I 2) x3) >>= fun v9 => (F_X1_inDecade I 4 (v9 - (1 : Int32))) >>= fun r11 => L_X11_fitting_13 I x1 (x2 &&& (r7 ||| r11)) (x3 + (1 : Int32))
partial_fixpoint
def F_X11_fitting (I : HI) (x1 : Int32) : Option (Int32) :=
  (F_X1_allHad I 4) >>= fun r1 => L_X11_fitting_13 I x1 r1 (0 : Int32)
set_option maxRecDepth 4000 in
set_option maxHeartbeats 4000000 in
theorem LC_X11_fitting_13 {g : gX} {d : Nat} {P : Nat → Nat → Option Nat} {J : HJ} {I : HI} {x1 : Int32} (hp : Wp P) : ∀ (x2 : Int32) (x3 : Int32) (r : Int32), L_X11_fitting_13 I x1 x2 x3 = some r → M g mX11_fitting (d + 2) (NT, NT, 0) ((.inl (some (.int r))), (NT, I, J, P)) 13 [some (.ref 1), some (.int x1), some (.int x2), some (.int x3)] [] (NT, I, J, P) := by
  refine L_X11_fitting_13.partial_correctness I x1 (fun x2 x3 r => M g mX11_fitting (d + 2) (NT, NT, 0) ((.inl (some (.int r))), (NT, I, J, P)) 13 [some (.ref 1), some (.int x1), some (.int x2), some (.int x3)] [] (NT, I, J, P)) ?_
  intro f ih x2 x3 r h
  refine M_iload_n (pc := 13) dX11_fitting_13 rfl ?_
  refine M_iload_n (pc := 14) dX11_fitting_14 rfl ?_
  refine M_icmp_ge (pc := 15) (tgt := 69) dX11_fitting_15 (by decide) (fun hc3 => ?_) (fun hc3 => ?_)
  · have h := (if_pos hc3).symm.trans h
    refine M_iload_n (pc := 69) dX11_fitting_69 rfl ?_
    obtain rfl := Option.some.inj h
    exact M_iret (pc := 70) dX11_fitting_70 rfl rfl rfl rfl
  · have h := (if_neg hc3).symm.trans h
    refine M_iload_n (pc := 18) dX11_fitting_18 rfl ?_
    refine M_sipush (pc := 19) (v := 400) dX11_fitting_19 (by decide) ?_
    refine M_icmp_ge (pc := 22) (tgt := 69) dX11_fitting_22 (by decide) (fun hc4 => ?_) (fun hc4 => ?_)
    · have h := (if_pos hc4).symm.trans h
      refine M_iload_n (pc := 69) dX11_fitting_69 rfl ?_
      obtain rfl := Option.some.inj h
      exact M_iret (pc := 70) dX11_fitting_70 rfl rfl rfl rfl
    · have h := (if_neg hc4).symm.trans h
      refine M_iload_n (pc := 25) dX11_fitting_25 rfl ?_
      refine M_aload_n (pc := 26) dX11_fitting_26 rfl ?_
      refine M_getR (pc := 27) dX11_fitting_27 f_X11_23 at_10 (gr_10_3 hp at_10).1 ?_
      refine M_getR (pc := 30) dX11_fitting_30 f_X11_148 (gr_10_3 hp at_10).2 (gr_3_0 hp (gr_10_3 hp at_10).2).1 ?_
      refine M_aload_n (pc := 33) dX11_fitting_33 rfl ?_
      refine M_getR (pc := 34) dX11_fitting_34 f_X11_9 at_10 (gr_10_0 hp at_10).1 ?_
      refine M_iload_n (pc := 37) dX11_fitting_37 rfl ?_
      obtain ⟨v5, hv6, h⟩ := bnd h
      refine M_aldI (pc := 38) dX11_fitting_38 (gr_10_0 hp at_10).2 hv6 ?_
      obtain ⟨r7, hr8, h⟩ := bnd h
      refine M_callVi (pc := 39) dX11_fitting_39 v_X11_341 rfl rfl (gr_3_0 hp (gr_10_3 hp at_10).2).2 (Nat.le_of_ble_eq_true rfl) (C_X1_inDecade (d := d + 0) hp (gr_3_0 hp (gr_10_3 hp at_10).2).2 hr8) (Nat.le_refl _) ?_
      refine M_aload_n (pc := 42) dX11_fitting_42 rfl ?_
      refine M_getR (pc := 43) dX11_fitting_43 f_X11_23 at_10 (gr_10_3 hp at_10).1 ?_
      refine M_getR (pc := 46) dX11_fitting_46 f_X11_148 (gr_10_3 hp at_10).2 (gr_3_0 hp (gr_10_3 hp at_10).2).1 ?_
      refine M_aload_n (pc := 49) dX11_fitting_49 rfl ?_
      refine M_getR (pc := 50) dX11_fitting_50 f_X11_9 at_10 (gr_10_0 hp at_10).1 ?_
      refine M_iload_n (pc := 53) dX11_fitting_53 rfl ?_
      obtain ⟨v9, hv10, h⟩ := bnd h
      refine M_aldI (pc := 54) dX11_fitting_54 (gr_10_0 hp at_10).2 hv10 ?_
      refine M_iconst (pc := 55) (v := 1) dX11_fitting_55 (by decide) ?_
      refine M_isub (pc := 56) dX11_fitting_56 ?_
      obtain ⟨r11, hr12, h⟩ := bnd h
      refine M_callVi (pc := 57) dX11_fitting_57 v_X11_341 rfl rfl (gr_3_0 hp (gr_10_3 hp at_10).2).2 (Nat.le_of_ble_eq_true rfl) (C_X1_inDecade (d := d + 0) hp (gr_3_0 hp (gr_10_3 hp at_10).2).2 hr12) (Nat.le_refl _) ?_
      refine M_ior (pc := 60) dX11_fitting_60 ?_
      refine M_iand (pc := 61) dX11_fitting_61 ?_
      refine M_istore_n (pc := 62) (ls' := [some (.ref 1), some (.int x1), some (.int (x2 &&& (r7 ||| r11))), some (.int x3)]) dX11_fitting_62 (by decide) rfl ?_
      refine M_iinc (pc := 63) (v := (x3 + (1 : Int32))) (ls' := [some (.ref 1), some (.int x1), some (.int (x2 &&& (r7 ||| r11))), some (.int (x3 + (1 : Int32)))]) dX11_fitting_63 rfl rfl (by decide) rfl ?_
      refine M_goto (pc := 66) (tgt := 13) dX11_fitting_66 (by decide) ?_
      exact ih (x2 &&& (r7 ||| r11)) (x3 + (1 : Int32)) _ h
set_option maxRecDepth 4000 in
set_option maxHeartbeats 4000000 in
theorem C_X11_fitting {g : gX} {d : Nat} {P : Nat → Nat → Option Nat} {I : HI} {x1 : Int32} {J : HJ} (hp : Wp P) {r : Int32} (h : F_X11_fitting I x1 = some r) : Cm g mX11_fitting (d + 2) [.ref 1, .int x1] (NT, I, J, P) (some (.int r)) (NT, I, J, P) := by
  unfold F_X11_fitting at h
  refine Cm.of (by decide) (by simp [Value.category]) (Nat.le_of_ble_eq_true rfl) (Nat.le_refl _) (ls := [some (.ref 1), some (.int x1), none, none]) rfl ?_
  refine M_aload_n (pc := 0) dX11_fitting_0 rfl ?_
  refine M_getR (pc := 1) dX11_fitting_1 f_X11_23 at_10 (gr_10_3 hp at_10).1 ?_
  refine M_getR (pc := 4) dX11_fitting_4 f_X11_148 (gr_10_3 hp at_10).2 (gr_3_0 hp (gr_10_3 hp at_10).2).1 ?_
  obtain ⟨r1, hr2, h⟩ := bnd h
  refine M_callVi (pc := 7) dX11_fitting_7 v_X11_217 rfl rfl (gr_3_0 hp (gr_10_3 hp at_10).2).2 (Nat.le_of_ble_eq_true rfl) (C_X1_allHad (d := d + 0) hp (gr_3_0 hp (gr_10_3 hp at_10).2).2 hr2) (Nat.le_refl _) ?_
  refine M_istore_n (pc := 10) (ls' := [some (.ref 1), some (.int x1), some (.int r1), none]) dX11_fitting_10 (by decide) rfl ?_
  refine M_iconst (pc := 11) (v := 0) dX11_fitting_11 (by decide) ?_
  refine M_istore_n (pc := 12) (ls' := [some (.ref 1), some (.int x1), some (.int r1), some (.int (0 : Int32))]) dX11_fitting_12 (by decide) rfl ?_
  exact LC_X11_fitting_13 (P := P) hp r1 (0 : Int32) _ h
def F_X11_greaterPart (I : HI) (x1 : Int32) (x2 : Int32) : Option (Int32) :=
  (ald 12 (I 6) x1) >>= fun v1 => (F_X1_firstIn I 4 (0 : Int32) v1) >>= fun r3 => (F_J6_bitCount_0f7a4 I (x2 &&& r3)) >>= fun r5 => (F_J6_bitCount_0f7a4 I x2) >>= fun r7 => some (if r5 < (r7 - r5) then (r7 - r5) else r5)
set_option maxRecDepth 4000 in
set_option maxHeartbeats 4000000 in
theorem C_X11_greaterPart {g : gX} {d : Nat} {P : Nat → Nat → Option Nat} {I : HI} {x1 : Int32} {x2 : Int32} {J : HJ} (hp : Wp P) {r : Int32} (h : F_X11_greaterPart I x1 x2 = some r) : Cm g mX11_greaterPart (d + 1) [.ref 1, .int x1, .int x2] (NT, I, J, P) (some (.int r)) (NT, I, J, P) := by
  unfold F_X11_greaterPart at h
  refine Cm.of (by decide) (by simp [Value.category]) (Nat.le_of_ble_eq_true rfl) (Nat.le_refl _) (ls := [some (.ref 1), some (.int x1), some (.int x2), none]) rfl ?_
  refine M_iload_n (pc := 0) dX11_greaterPart_0 rfl ?_
  refine M_aload_n (pc := 1) dX11_greaterPart_1 rfl ?_
  refine M_getR (pc := 2) dX11_greaterPart_2 f_X11_23 at_10 (gr_10_3 hp at_10).1 ?_
  refine M_getR (pc := 5) dX11_greaterPart_5 f_X11_148 (gr_10_3 hp at_10).2 (gr_3_0 hp (gr_10_3 hp at_10).2).1 ?_
  refine M_iconst (pc := 8) (v := 0) dX11_greaterPart_8 (by decide) ?_
  refine M_aload_n (pc := 9) dX11_greaterPart_9 rfl ?_
  refine M_getR (pc := 10) dX11_greaterPart_10 f_X11_23 at_10 (gr_10_3 hp at_10).1 ?_
  refine M_getR (pc := 13) dX11_greaterPart_13 f_X11_148 (gr_10_3 hp at_10).2 (gr_3_0 hp (gr_10_3 hp at_10).2).1 ?_
  refine M_getR (pc := 16) dX11_greaterPart_16 f_X11_171 (gr_3_0 hp (gr_10_3 hp at_10).2).2 (gr_1_2 hp (gr_3_0 hp (gr_10_3 hp at_10).2).2).1 ?_
  refine M_iload_n (pc := 19) dX11_greaterPart_19 rfl ?_
  obtain ⟨v1, hv2, h⟩ := bnd h
  refine M_aldI (pc := 20) dX11_greaterPart_20 (gr_1_2 hp (gr_3_0 hp (gr_10_3 hp at_10).2).2).2 hv2 ?_
  obtain ⟨r3, hr4, h⟩ := bnd h
  refine M_callVi (pc := 21) dX11_greaterPart_21 v_X11_347 rfl rfl (gr_3_0 hp (gr_10_3 hp at_10).2).2 (Nat.le_of_ble_eq_true rfl) (C_X1_firstIn (d := d + 0) hp (gr_3_0 hp (gr_10_3 hp at_10).2).2 hr4) (Nat.le_refl _) ?_
  refine M_iand (pc := 24) dX11_greaterPart_24 ?_
  obtain ⟨r5, hr6, h⟩ := bnd h
  refine M_callSi (pc := 25) dX11_greaterPart_25 s_X11_311 rfl rfl (Nat.le_of_ble_eq_true rfl) (C_J6_bitCount_0f7a4 (d := d + 0) hp hr6) (Nat.le_refl _) ?_
  refine M_istore_n (pc := 28) (ls' := [some (.ref 1), some (.int x1), some (.int x2), some (.int r5)]) dX11_greaterPart_28 (by decide) rfl ?_
  refine M_iload_n (pc := 29) dX11_greaterPart_29 rfl ?_
  refine M_iload_n (pc := 30) dX11_greaterPart_30 rfl ?_
  obtain ⟨r7, hr8, h⟩ := bnd h
  refine M_callSi (pc := 31) dX11_greaterPart_31 s_X11_311 rfl rfl (Nat.le_of_ble_eq_true rfl) (C_J6_bitCount_0f7a4 (d := d + 0) hp hr8) (Nat.le_refl _) ?_
  refine M_iload_n (pc := 34) dX11_greaterPart_34 rfl ?_
  refine M_isub (pc := 35) dX11_greaterPart_35 ?_
  refine M_mmax (pc := 36) dX11_greaterPart_36 mm_X11_350.1 mm_X11_350.2.1 mm_X11_350.2.2.1 mm_X11_350.2.2.2 (Nat.le_of_ble_eq_true rfl) ?_
  obtain rfl := Option.some.inj h
  exact M_iret (pc := 39) dX11_greaterPart_39 rfl rfl rfl rfl
def L_X11_lover_6 (I : HI) (x1 : Int32) (x2 : Int32) (x3 : Int32) : Option (Int32) :=
  if (7 : Int32) < x3 then some x1 else (F_X1_hadWith I 4 x3) >>= fun r2 => (F_J6_bitCount_0f7a4 I r2) >>= fun r4 => if r4 ≤ x2 then L_X11_lover_6 I x1 x2 (x3 + (1 : Int32)) else L_X11_lover_6 I x3 r4 (x3 + (1 : Int32))
partial_fixpoint
def F_X11_lover (I : HI) : Option (Int32) :=
  L_X11_lover_6 I (-1 : Int32) (0 : Int32) (0 : Int32)
set_option maxRecDepth 4000 in
set_option maxHeartbeats 4000000 in
theorem LC_X11_lover_6 {g : gX} {d : Nat} {P : Nat → Nat → Option Nat} {J : HJ} {I : HI} (hp : Wp P) : ∀ (x1 : Int32) (x2 : Int32) (x3 : Int32) (r : Int32), L_X11_lover_6 I x1 x2 x3 = some r → M g mX11_lover (d + 1) (NT, NT, 0) ((.inl (some (.int r))), (NT, I, J, P)) 6 [some (.ref 1), some (.int x1), some (.int x2), some (.int x3), none] [] (NT, I, J, P) := by
  refine L_X11_lover_6.partial_correctness I (fun x1 x2 x3 r => M g mX11_lover (d + 1) (NT, NT, 0) ((.inl (some (.int r))), (NT, I, J, P)) 6 [some (.ref 1), some (.int x1), some (.int x2), some (.int x3), none] [] (NT, I, J, P)) ?_
  intro f ih x1 x2 x3 r h
  refine M_iload_n (pc := 6) dX11_lover_6 rfl ?_
  refine M_bipush (pc := 7) (v := 7) dX11_lover_7 (by decide) ?_
  refine M_icmp_gt (pc := 9) (tgt := 45) dX11_lover_9 (by decide) (fun hc1 => ?_) (fun hc1 => ?_)
  · have h := (if_pos hc1).symm.trans h
    refine M_iload_n (pc := 45) dX11_lover_45 rfl ?_
    obtain rfl := Option.some.inj h
    exact M_iret (pc := 46) dX11_lover_46 rfl rfl rfl rfl
  · have h := (if_neg hc1).symm.trans h
    refine M_aload_n (pc := 12) dX11_lover_12 rfl ?_
    refine M_getR (pc := 13) dX11_lover_13 f_X11_23 at_10 (gr_10_3 hp at_10).1 ?_
    refine M_getR (pc := 16) dX11_lover_16 f_X11_148 (gr_10_3 hp at_10).2 (gr_3_0 hp (gr_10_3 hp at_10).2).1 ?_
    refine M_iload_n (pc := 19) dX11_lover_19 rfl ?_
    obtain ⟨r2, hr3, h⟩ := bnd h
    refine M_callVi (pc := 20) dX11_lover_20 v_X11_368 rfl rfl (gr_3_0 hp (gr_10_3 hp at_10).2).2 (Nat.le_of_ble_eq_true rfl) (C_X1_hadWith (d := d + 0) hp (gr_3_0 hp (gr_10_3 hp at_10).2).2 hr3) (Nat.le_refl _) ?_
    obtain ⟨r4, hr5, h⟩ := bnd h
    refine M_callSi (pc := 23) dX11_lover_23 s_X11_311 rfl rfl (Nat.le_of_ble_eq_true rfl) (C_J6_bitCount_0f7a4 (d := d + 0) hp hr5) (Nat.le_refl _) ?_
    refine M_istore (pc := 26) (ls' := [some (.ref 1), some (.int x1), some (.int x2), some (.int x3), some (.int r4)]) dX11_lover_26 (by decide) rfl ?_
    refine M_iload (pc := 28) dX11_lover_28 rfl ?_
    refine M_iload_n (pc := 30) dX11_lover_30 rfl ?_
    refine M_icmp_le (pc := 31) (tgt := 39) dX11_lover_31 (by decide) (fun hc6 => ?_) (fun hc6 => ?_)
    · have h := (if_pos hc6).symm.trans h
      refine M_iinc (pc := 39) (v := (x3 + (1 : Int32))) (ls' := [some (.ref 1), some (.int x1), some (.int x2), some (.int (x3 + (1 : Int32))), some (.int r4)]) dX11_lover_39 rfl rfl (by decide) rfl ?_
      refine M_goto (pc := 42) (tgt := 6) dX11_lover_42 (by decide) ?_
      refine M_mask (pc := 6) [true, true, true, true, false] rfl ?_
      exact ih x1 x2 (x3 + (1 : Int32)) _ h
    · have h := (if_neg hc6).symm.trans h
      refine M_iload (pc := 34) dX11_lover_34 rfl ?_
      refine M_istore_n (pc := 36) (ls' := [some (.ref 1), some (.int x1), some (.int r4), some (.int x3), some (.int r4)]) dX11_lover_36 (by decide) rfl ?_
      refine M_iload_n (pc := 37) dX11_lover_37 rfl ?_
      refine M_istore_n (pc := 38) (ls' := [some (.ref 1), some (.int x3), some (.int r4), some (.int x3), some (.int r4)]) dX11_lover_38 (by decide) rfl ?_
      refine M_iinc (pc := 39) (v := (x3 + (1 : Int32))) (ls' := [some (.ref 1), some (.int x3), some (.int r4), some (.int (x3 + (1 : Int32))), some (.int r4)]) dX11_lover_39 rfl rfl (by decide) rfl ?_
      refine M_goto (pc := 42) (tgt := 6) dX11_lover_42 (by decide) ?_
      refine M_mask (pc := 6) [true, true, true, true, false] rfl ?_
      exact ih x3 r4 (x3 + (1 : Int32)) _ h
set_option maxRecDepth 4000 in
set_option maxHeartbeats 4000000 in
theorem C_X11_lover {g : gX} {d : Nat} {P : Nat → Nat → Option Nat} {I : HI} {J : HJ} (hp : Wp P) {r : Int32} (h : F_X11_lover I = some r) : Cm g mX11_lover (d + 1) [.ref 1] (NT, I, J, P) (some (.int r)) (NT, I, J, P) := by
  unfold F_X11_lover at h
  refine Cm.of (by decide) (by simp [Value.category]) (Nat.le_of_ble_eq_true rfl) (Nat.le_refl _) (ls := [some (.ref 1), none, none, none, none]) rfl ?_
  refine M_iconst (pc := 0) (v := -1) dX11_lover_0 (by decide) ?_
  refine M_istore_n (pc := 1) (ls' := [some (.ref 1), some (.int (-1 : Int32)), none, none, none]) dX11_lover_1 (by decide) rfl ?_
  refine M_iconst (pc := 2) (v := 0) dX11_lover_2 (by decide) ?_
  refine M_istore_n (pc := 3) (ls' := [some (.ref 1), some (.int (-1 : Int32)), some (.int (0 : Int32)), none, none]) dX11_lover_3 (by decide) rfl ?_
  refine M_iconst (pc := 4) (v := 0) dX11_lover_4 (by decide) ?_
  refine M_istore_n (pc := 5) (ls' := [some (.ref 1), some (.int (-1 : Int32)), some (.int (0 : Int32)), some (.int (0 : Int32)), none]) dX11_lover_5 (by decide) rfl ?_
  exact LC_X11_lover_6 (P := P) hp (-1 : Int32) (0 : Int32) (0 : Int32) _ h
def L_X11_odds_68 (I : HI) (x3 : Int64) (x5 : Int32) : Option ((Int32 ⊕ String)) :=
  if x5 ≤ (2 : Int32) then some (Sum.inl (x3).toInt32) else L_X11_odds_68 I (x3 / (100 : Int64)) (x5 + (-1 : Int32))
partial_fixpoint
def L_X11_odds_47 (I : HI) (x1 : Int32) (x3 : Int64) (x5 : Int32) : Option ((Int32 ⊕ String)) :=
  if (2 : Int32) ≤ x5 then L_X11_odds_68 I x3 x1 else L_X11_odds_47 I x1 (x3 * (100 : Int64)) (x5 + (1 : Int32))
partial_fixpoint
def F_X11_odds (I : HI) (x1 : Int32) (x2 : Int32) : Option ((Int32 ⊕ String)) :=
  if x1 < 0 then some (Sum.inr "java/lang/IllegalArgumentException") else if (6 : Int32) < x1 then some (Sum.inr "java/lang/IllegalArgumentException") else if x2 < 0 then some (Sum.inr "java/lang/IllegalArgumentException") else if x2 ≤ (6 : Int32) then (F_X11_slipParts 8 I x1 x2 (I 3 10)) >>= fun r5 => L_X11_odds_47 I x1 r5 x1 else some (Sum.inr "java/lang/IllegalArgumentException")
set_option maxRecDepth 4000 in
set_option maxHeartbeats 4000000 in
theorem LC_X11_odds_68 {g : gX} {d : Nat} {P : Nat → Nat → Option Nat} {J : HJ} {I : HI} (hp : Wp P) : ∀ (x3 : Int64) (x5 : Int32) (r : (Int32 ⊕ String)), L_X11_odds_68 I x3 x5 = some r → M g mX11_odds (d + 17) (NT, NT, 1) ((thr_i r), (NT, I, J, P)) 68 [none, none, none, some (.long x3), none, some (.int x5)] [] (NT, I, J, P) := by
  refine L_X11_odds_68.partial_correctness I (fun x3 x5 r => M g mX11_odds (d + 17) (NT, NT, 1) ((thr_i r), (NT, I, J, P)) 68 [none, none, none, some (.long x3), none, some (.int x5)] [] (NT, I, J, P)) ?_
  intro f ih x3 x5 r h
  refine M_iload (pc := 68) dX11_odds_68 rfl ?_
  refine M_iconst (pc := 70) (v := 2) dX11_odds_70 (by decide) ?_
  refine M_icmp_le (pc := 71) (tgt := 86) dX11_odds_71 (by decide) (fun hc8 => ?_) (fun hc8 => ?_)
  · have h := (if_pos hc8).symm.trans h
    refine M_lload_n (pc := 86) dX11_odds_86 rfl ?_
    refine M_l2i (pc := 87) dX11_odds_87 ?_
    obtain rfl := Option.some.inj h
    exact M_iret (pc := 88) dX11_odds_88 rfl rfl rfl rfl
  · have h := (if_neg hc8).symm.trans h
    refine M_lload_n (pc := 74) dX11_odds_74 rfl ?_
    refine M_ldc2 (pc := 75) (v := 100) dX11_odds_75 w_1311 ?_
    refine M_ldiv (pc := 78) dX11_odds_78 (by decide) ?_
    refine M_lstore_n (pc := 79) (ls' := [none, none, none, some (.long (x3 / (100 : Int64))), none, some (.int x5)]) dX11_odds_79 (by decide) rfl ?_
    refine M_iinc (pc := 80) (v := (x5 + (-1 : Int32))) (ls' := [none, none, none, some (.long (x3 / (100 : Int64))), none, some (.int (x5 + (-1 : Int32)))]) dX11_odds_80 rfl rfl (by decide) rfl ?_
    refine M_goto (pc := 83) (tgt := 68) dX11_odds_83 (by decide) ?_
    exact ih (x3 / (100 : Int64)) (x5 + (-1 : Int32)) _ h
set_option maxRecDepth 4000 in
set_option maxHeartbeats 4000000 in
theorem LC_X11_odds_47 {g : gX} {d : Nat} {P : Nat → Nat → Option Nat} {J : HJ} {I : HI} {x1 : Int32} (hp : Wp P) : ∀ (x3 : Int64) (x5 : Int32) (r : (Int32 ⊕ String)), L_X11_odds_47 I x1 x3 x5 = some r → M g mX11_odds (d + 17) (NT, NT, 1) ((thr_i r), (NT, I, J, P)) 47 [none, some (.int x1), none, some (.long x3), none, some (.int x5)] [] (NT, I, J, P) := by
  refine L_X11_odds_47.partial_correctness I x1 (fun x3 x5 r => M g mX11_odds (d + 17) (NT, NT, 1) ((thr_i r), (NT, I, J, P)) 47 [none, some (.int x1), none, some (.long x3), none, some (.int x5)] [] (NT, I, J, P)) ?_
  intro f ih x3 x5 r h
  refine M_iload (pc := 47) dX11_odds_47 rfl ?_
  refine M_iconst (pc := 49) (v := 2) dX11_odds_49 (by decide) ?_
  refine M_icmp_ge (pc := 50) (tgt := 65) dX11_odds_50 (by decide) (fun hc7 => ?_) (fun hc7 => ?_)
  · have h := (if_pos hc7).symm.trans h
    refine M_iload_n (pc := 65) dX11_odds_65 rfl ?_
    refine M_istore (pc := 66) (ls' := [none, some (.int x1), none, some (.long x3), none, some (.int x1)]) dX11_odds_66 (by decide) rfl ?_
    refine M_mask (pc := 68) [false, false, false, true, false, true] rfl ?_
    exact LC_X11_odds_68 (P := P) hp x3 x1 _ h
  · have h := (if_neg hc7).symm.trans h
    refine M_lload_n (pc := 53) dX11_odds_53 rfl ?_
    refine M_ldc2 (pc := 54) (v := 100) dX11_odds_54 w_1311 ?_
    refine M_lmul (pc := 57) dX11_odds_57 ?_
    refine M_lstore_n (pc := 58) (ls' := [none, some (.int x1), none, some (.long (x3 * (100 : Int64))), none, some (.int x5)]) dX11_odds_58 (by decide) rfl ?_
    refine M_iinc (pc := 59) (v := (x5 + (1 : Int32))) (ls' := [none, some (.int x1), none, some (.long (x3 * (100 : Int64))), none, some (.int (x5 + (1 : Int32)))]) dX11_odds_59 rfl rfl (by decide) rfl ?_
    refine M_goto (pc := 62) (tgt := 47) dX11_odds_62 (by decide) ?_
    exact ih (x3 * (100 : Int64)) (x5 + (1 : Int32)) _ h
set_option maxRecDepth 4000 in
set_option maxHeartbeats 4000000 in
theorem C_X11_odds {g : gX} {d : Nat} {P : Nat → Nat → Option Nat} {I : HI} {x1 : Int32} {x2 : Int32} {J : HJ} (hp : Wp P) {r : (Int32 ⊕ String)} (h : F_X11_odds I x1 x2 = some r) : Cx g mX11_odds (d + 17) [.ref 1, .int x1, .int x2] (NT, I, J, P) ((thr_i r), (NT, I, J, P)) := by
  unfold F_X11_odds at h
  refine Cx.of (by decide) (by simp [Value.category]) (Nat.le_of_ble_eq_true rfl) (Nat.le_refl _) (ls := [some (.ref 1), some (.int x1), some (.int x2), none, none, none]) rfl ?_
  refine M_iload_n (pc := 0) dX11_odds_0 rfl ?_
  refine M_if_lt (pc := 1) (tgt := 20) dX11_odds_1 (by decide) (fun hc1 => ?_) (fun hc1 => ?_)
  · have h := (if_pos hc1).symm.trans h
    obtain rfl := Option.some.inj h
    exact M_throwW (pc := 20) dX11_odds_20 dX11_odds_23 dX11_odds_24 dX11_odds_27 dX11_odds_30 x_X11_118 (j := 21) (by decide) str_X11_381 rfl rfl
  · have h := (if_neg hc1).symm.trans h
    refine M_iload_n (pc := 4) dX11_odds_4 rfl ?_
    refine M_bipush (pc := 5) (v := 6) dX11_odds_5 (by decide) ?_
    refine M_icmp_gt (pc := 7) (tgt := 20) dX11_odds_7 (by decide) (fun hc2 => ?_) (fun hc2 => ?_)
    · have h := (if_pos hc2).symm.trans h
      obtain rfl := Option.some.inj h
      exact M_throwW (pc := 20) dX11_odds_20 dX11_odds_23 dX11_odds_24 dX11_odds_27 dX11_odds_30 x_X11_118 (j := 21) (by decide) str_X11_381 rfl rfl
    · have h := (if_neg hc2).symm.trans h
      refine M_iload_n (pc := 10) dX11_odds_10 rfl ?_
      refine M_if_lt (pc := 11) (tgt := 20) dX11_odds_11 (by decide) (fun hc3 => ?_) (fun hc3 => ?_)
      · have h := (if_pos hc3).symm.trans h
        obtain rfl := Option.some.inj h
        exact M_throwW (pc := 20) dX11_odds_20 dX11_odds_23 dX11_odds_24 dX11_odds_27 dX11_odds_30 x_X11_118 (j := 21) (by decide) str_X11_381 rfl rfl
      · have h := (if_neg hc3).symm.trans h
        refine M_iload_n (pc := 14) dX11_odds_14 rfl ?_
        refine M_bipush (pc := 15) (v := 6) dX11_odds_15 (by decide) ?_
        refine M_icmp_le (pc := 17) (tgt := 31) dX11_odds_17 (by decide) (fun hc4 => ?_) (fun hc4 => ?_)
        · have h := (if_pos hc4).symm.trans h
          refine M_iload_n (pc := 31) dX11_odds_31 rfl ?_
          refine M_iload_n (pc := 32) dX11_odds_32 rfl ?_
          refine M_aload_n (pc := 33) dX11_odds_33 rfl ?_
          refine M_getR (pc := 34) dX11_odds_34 f_X11_23 at_10 (gr_10_3 hp at_10).1 ?_
          refine M_getI (pc := 37) dX11_odds_37 f_X11_280 (gr_10_3 hp at_10).2 ?_
          obtain ⟨r5, hr6, h⟩ := bnd h
          refine M_callSi (pc := 40) dX11_odds_40 s_X11_383 rfl rfl (Nat.le_of_ble_eq_true rfl) (C_X11_slipParts hp 8 (d := d + 0) _ _ _ _ _ hr6) (Nat.le_refl _) ?_
          refine M_lstore_n (pc := 43) (ls' := [some (.ref 1), some (.int x1), some (.int x2), some (.long r5), none, none]) dX11_odds_43 (by decide) rfl ?_
          refine M_iload_n (pc := 44) dX11_odds_44 rfl ?_
          refine M_istore (pc := 45) (ls' := [some (.ref 1), some (.int x1), some (.int x2), some (.long r5), none, some (.int x1)]) dX11_odds_45 (by decide) rfl ?_
          refine M_mask (pc := 47) [false, true, false, true, false, true] rfl ?_
          exact LC_X11_odds_47 (P := P) hp r5 x1 _ h
        · have h := (if_neg hc4).symm.trans h
          obtain rfl := Option.some.inj h
          exact M_throwW (pc := 20) dX11_odds_20 dX11_odds_23 dX11_odds_24 dX11_odds_27 dX11_odds_30 x_X11_118 (j := 21) (by decide) str_X11_381 rfl rfl
def F_X11_share (I : HI) (x1 : Int32) : Option ((Int32 ⊕ String)) :=
  (F_X11_isPlace I x1) >>= fun r1 => if r1 = 0 then some (Sum.inr "java/lang/IndexOutOfBoundsException") else (F_X1_allHad I 4) >>= fun r4 => (F_J6_bitCount_0f7a4 I r4) >>= fun r6 => if r6 ≤ 0 then some (Sum.inl (0 : Int32)) else (F_X1_hadAt I 4 x1) >>= fun r9 => (F_J6_bitCount_0f7a4 I r9) >>= fun r11 => if ¬ r6 = 0 then some (Sum.inl ((r11 * (100 : Int32)) / r6)) else none
set_option maxRecDepth 4000 in
set_option maxHeartbeats 4000000 in
theorem C_X11_share {g : gX} {d : Nat} {P : Nat → Nat → Option Nat} {I : HI} {x1 : Int32} {J : HJ} (hp : Wp P) {r : (Int32 ⊕ String)} (h : F_X11_share I x1 = some r) : Cx g mX11_share (d + 6) [.ref 1, .int x1] (NT, I, J, P) ((thr_i r), (NT, I, J, P)) := by
  unfold F_X11_share at h
  refine Cx.of (by decide) (by simp [Value.category]) (Nat.le_of_ble_eq_true rfl) (Nat.le_refl _) (ls := [some (.ref 1), some (.int x1), none]) rfl ?_
  refine M_iload_n (pc := 0) dX11_share_0 rfl ?_
  obtain ⟨r1, hr2, h⟩ := bnd h
  refine M_callSi (pc := 1) dX11_share_1 s_X11_255 rfl rfl (Nat.le_of_ble_eq_true rfl) (C_X11_isPlace (d := d + 5) hp hr2) (Nat.le_refl _) ?_
  refine M_if_ne (pc := 4) (tgt := 18) dX11_share_4 (by decide) (fun hc3 => ?_) (fun hc3 => ?_)
  · have h := (if_neg hc3).symm.trans h
    refine M_aload_n (pc := 18) dX11_share_18 rfl ?_
    refine M_getR (pc := 19) dX11_share_19 f_X11_23 at_10 (gr_10_3 hp at_10).1 ?_
    refine M_getR (pc := 22) dX11_share_22 f_X11_148 (gr_10_3 hp at_10).2 (gr_3_0 hp (gr_10_3 hp at_10).2).1 ?_
    obtain ⟨r4, hr5, h⟩ := bnd h
    refine M_callVi (pc := 25) dX11_share_25 v_X11_217 rfl rfl (gr_3_0 hp (gr_10_3 hp at_10).2).2 (Nat.le_of_ble_eq_true rfl) (C_X1_allHad (d := d + 4) hp (gr_3_0 hp (gr_10_3 hp at_10).2).2 hr5) (Nat.le_refl _) ?_
    obtain ⟨r6, hr7, h⟩ := bnd h
    refine M_callSi (pc := 28) dX11_share_28 s_X11_311 rfl rfl (Nat.le_of_ble_eq_true rfl) (C_J6_bitCount_0f7a4 (d := d + 5) hp hr7) (Nat.le_refl _) ?_
    refine M_istore_n (pc := 31) (ls' := [some (.ref 1), some (.int x1), some (.int r6)]) dX11_share_31 (by decide) rfl ?_
    refine M_iload_n (pc := 32) dX11_share_32 rfl ?_
    refine M_if_le (pc := 33) (tgt := 58) dX11_share_33 (by decide) (fun hc8 => ?_) (fun hc8 => ?_)
    · have h := (if_pos hc8).symm.trans h
      refine M_iconst (pc := 58) (v := 0) dX11_share_58 (by decide) ?_
      obtain rfl := Option.some.inj h
      exact M_iret (pc := 59) dX11_share_59 rfl rfl rfl rfl
    · have h := (if_neg hc8).symm.trans h
      refine M_aload_n (pc := 36) dX11_share_36 rfl ?_
      refine M_getR (pc := 37) dX11_share_37 f_X11_23 at_10 (gr_10_3 hp at_10).1 ?_
      refine M_getR (pc := 40) dX11_share_40 f_X11_148 (gr_10_3 hp at_10).2 (gr_3_0 hp (gr_10_3 hp at_10).2).1 ?_
      refine M_iload_n (pc := 43) dX11_share_43 rfl ?_
      obtain ⟨r9, hr10, h⟩ := bnd h
      refine M_callVi (pc := 44) dX11_share_44 v_X11_362 rfl rfl (gr_3_0 hp (gr_10_3 hp at_10).2).2 (Nat.le_of_ble_eq_true rfl) (C_X1_hadAt (d := d + 5) hp (gr_3_0 hp (gr_10_3 hp at_10).2).2 hr10) (Nat.le_refl _) ?_
      obtain ⟨r11, hr12, h⟩ := bnd h
      refine M_callSi (pc := 47) dX11_share_47 s_X11_311 rfl rfl (Nat.le_of_ble_eq_true rfl) (C_J6_bitCount_0f7a4 (d := d + 5) hp hr12) (Nat.le_refl _) ?_
      refine M_bipush (pc := 50) (v := 100) dX11_share_50 (by decide) ?_
      refine M_imul (pc := 52) dX11_share_52 ?_
      refine M_iload_n (pc := 53) dX11_share_53 rfl ?_
      obtain ⟨hz13, h⟩ := chk h
      refine M_idiv (pc := 54) dX11_share_54 hz13 ?_
      refine M_goto (pc := 55) (tgt := 59) dX11_share_55 (by decide) ?_
      obtain rfl := Option.some.inj h
      exact M_iret (pc := 59) dX11_share_59 rfl rfl rfl rfl
  · have h := (if_pos hc3).symm.trans h
    obtain rfl := Option.some.inj h
    exact M_throwW (pc := 7) dX11_share_7 dX11_share_10 dX11_share_11 dX11_share_14 dX11_share_17 x_X11_158 (j := 10) (by decide) str_X11_272 rfl rfl
def F_X11_undo (I : HI) : Option (Int32 × HI) :=
  (F_X0_recall I 3 15) >>= fun r1 => if r1.1 = 0 ∨ r1.1 = 1 then some (r1.1, r1.2) else none
set_option maxRecDepth 4000 in
set_option maxHeartbeats 4000000 in
theorem C_X11_undo {g : gX} {d : Nat} {P : Nat → Nat → Option Nat} {I : HI} {J : HJ} (hp : Wp P) {r : Int32 × HI} (h : F_X11_undo I = some r) : Cm g mX11_undo (d + 4) [.ref 1] (NT, I, J, P) (some (.int r.1)) (NT, r.2, J, P) := by
  unfold F_X11_undo at h
  refine Cm.of (by decide) (by simp [Value.category]) (Nat.le_of_ble_eq_true rfl) (Nat.le_refl _) (ls := [some (.ref 1)]) rfl ?_
  refine M_aload_n (pc := 0) dX11_undo_0 rfl ?_
  refine M_getR (pc := 1) dX11_undo_1 f_X11_44 at_10 (gr_10_6 hp at_10).1 ?_
  refine M_aload_n (pc := 4) dX11_undo_4 rfl ?_
  refine M_getR (pc := 5) dX11_undo_5 f_X11_23 at_10 (gr_10_3 hp at_10).1 ?_
  refine M_aload_n (pc := 8) dX11_undo_8 rfl ?_
  refine M_getR (pc := 9) dX11_undo_9 f_X11_37 at_10 (gr_10_5 hp at_10).1 ?_
  obtain ⟨r1, hr2, h⟩ := bnd h
  refine M_callVi (pc := 12) dX11_undo_12 v_X11_413 rfl rfl (gr_10_6 hp at_10).2 (Nat.le_of_ble_eq_true rfl) (C_X0_recall (d := d + 0) hp (gr_10_3 hp at_10).2 (gr_10_5 hp at_10).2 hr2) (Nat.le_refl _) ?_
  obtain ⟨hb3, h⟩ := chk h
  obtain rfl := Option.some.inj h
  exact M_iret (pc := 15) dX11_undo_15 rfl (by rcases hb3 with q | q <;> rw [q] <;> rfl) rfl rfl
def F_X11_unknown (I : HI) : Option ((Int32 ⊕ String) × HI) :=
  (F_X11_takeTape I) >>= fun r1 => if r1.1 ≤ (20 : Int32) then (F_X11_fitting r1.2 r1.1) >>= fun r4 => some ((Sum.inl r4), r1.2) else some ((Sum.inr "java/lang/IllegalArgumentException"), r1.2)
set_option maxRecDepth 4000 in
set_option maxHeartbeats 4000000 in
theorem C_X11_unknown {g : gX} {d : Nat} {P : Nat → Nat → Option Nat} {I : HI} {J : HJ} (hp : Wp P) {r : (Int32 ⊕ String) × HI} (h : F_X11_unknown I = some r) : Cx g mX11_unknown (d + 6) [.ref 1] (NT, I, J, P) ((thr_i r.1), (NT, r.2, J, P)) := by
  unfold F_X11_unknown at h
  refine Cx.of (by decide) (by simp [Value.category]) (Nat.le_of_ble_eq_true rfl) (Nat.le_refl _) (ls := [some (.ref 1), none]) rfl ?_
  refine M_aload_n (pc := 0) dX11_unknown_0 rfl ?_
  obtain ⟨r1, hr2, h⟩ := bnd h
  refine M_callVi (pc := 1) dX11_unknown_1 v_X11_110 rfl rfl at_10 (Nat.le_of_ble_eq_true rfl) (C_X11_takeTape (d := d + 5) hp hr2) (Nat.le_refl _) ?_
  refine M_istore_n (pc := 4) (ls' := [some (.ref 1), some (.int r1.1)]) dX11_unknown_4 (by decide) rfl ?_
  refine M_iload_n (pc := 5) dX11_unknown_5 rfl ?_
  refine M_bipush (pc := 6) (v := 20) dX11_unknown_6 (by decide) ?_
  refine M_icmp_le (pc := 8) (tgt := 22) dX11_unknown_8 (by decide) (fun hc3 => ?_) (fun hc3 => ?_)
  · have h := (if_pos hc3).symm.trans h
    refine M_aload_n (pc := 22) dX11_unknown_22 rfl ?_
    refine M_iload_n (pc := 23) dX11_unknown_23 rfl ?_
    obtain ⟨r4, hr5, h⟩ := bnd h
    refine M_callVi (pc := 24) dX11_unknown_24 v_X11_338 rfl rfl at_10 (Nat.le_of_ble_eq_true rfl) (C_X11_fitting (d := d + 3) hp hr5) (Nat.le_refl _) ?_
    obtain rfl := Option.some.inj h
    exact M_iret (pc := 27) dX11_unknown_27 rfl rfl rfl rfl
  · have h := (if_neg hc3).symm.trans h
    obtain rfl := Option.some.inj h
    exact M_throwW (pc := 11) dX11_unknown_11 dX11_unknown_14 dX11_unknown_15 dX11_unknown_18 dX11_unknown_21 x_X11_118 (j := 17) (by decide) str_X11_336 rfl rfl
def L_X11_serve_47 (I : HI) (x2 : Int32) (x3 : Int32) (x4 : Int32) (x5 : Int32) : Option ((Int32 ⊕ String) × HI) :=
  if (I 4 0) ≤ x5 then some ((Sum.inl x3), I) else (F_X11_greaterPart I x5 x2) >>= fun r10 => (F_X1_isHad I 4 x5) >>= fun r12 => if r12 = 0 then L_X11_serve_47 I x2 x3 x4 (x5 + (1 : Int32)) else if x4 ≤ r10 then L_X11_serve_47 I x2 x3 x4 (x5 + (1 : Int32)) else L_X11_serve_47 I x2 x5 r10 (x5 + (1 : Int32))
partial_fixpoint
def F_X11_serve (I : HI) : Option ((Int32 ⊕ String) × HI) :=
  (F_X11_takeTape I) >>= fun r1 => if r1.1 ≤ (20 : Int32) then (F_X11_fitting r1.2 r1.1) >>= fun r4 => (F_J6_bitCount_0f7a4 r1.2 r4) >>= fun r6 => if (2 : Int32) ≤ r6 then L_X11_serve_47 r1.2 r4 (-1 : Int32) (13 : Int32) (0 : Int32) else some ((Sum.inl (-1 : Int32)), r1.2) else some ((Sum.inr "java/lang/IllegalArgumentException"), r1.2)
set_option maxRecDepth 4000 in
set_option maxHeartbeats 4000000 in
theorem LC_X11_serve_47 {g : gX} {d : Nat} {P : Nat → Nat → Option Nat} {J : HJ} {I : HI} {x2 : Int32} (hp : Wp P) : ∀ (x3 : Int32) (x4 : Int32) (x5 : Int32) (r : (Int32 ⊕ String) × HI), L_X11_serve_47 I x2 x3 x4 x5 = some r → M g mX11_serve (d + 6) (NT, NT, 1) ((thr_i r.1), (NT, r.2, J, P)) 47 [some (.ref 1), none, some (.int x2), some (.int x3), some (.int x4), some (.int x5), none] [] (NT, I, J, P) := by
  refine L_X11_serve_47.partial_correctness I x2 (fun x3 x4 x5 r => M g mX11_serve (d + 6) (NT, NT, 1) ((thr_i r.1), (NT, r.2, J, P)) 47 [some (.ref 1), none, some (.int x2), some (.int x3), some (.int x4), some (.int x5), none] [] (NT, I, J, P)) ?_
  intro f ih x3 x4 x5 r h
  refine M_iload (pc := 47) dX11_serve_47 rfl ?_
  refine M_aload_n (pc := 49) dX11_serve_49 rfl ?_
  refine M_getR (pc := 50) dX11_serve_50 f_X11_23 at_10 (gr_10_3 hp at_10).1 ?_
  refine M_getR (pc := 53) dX11_serve_53 f_X11_148 (gr_10_3 hp at_10).2 (gr_3_0 hp (gr_10_3 hp at_10).2).1 ?_
  refine M_getI (pc := 56) dX11_serve_56 f_X11_211 (gr_3_0 hp (gr_10_3 hp at_10).2).2 ?_
  refine M_icmp_ge (pc := 59) (tgt := 106) dX11_serve_59 (by decide) (fun hc9 => ?_) (fun hc9 => ?_)
  · have h := (if_pos hc9).symm.trans h
    refine M_iload_n (pc := 106) dX11_serve_106 rfl ?_
    obtain rfl := Option.some.inj h
    exact M_iret (pc := 107) dX11_serve_107 rfl rfl rfl rfl
  · have h := (if_neg hc9).symm.trans h
    refine M_aload_n (pc := 62) dX11_serve_62 rfl ?_
    refine M_iload (pc := 63) dX11_serve_63 rfl ?_
    refine M_iload_n (pc := 65) dX11_serve_65 rfl ?_
    obtain ⟨r10, hr11, h⟩ := bnd h
    refine M_callVi (pc := 66) dX11_serve_66 v_X11_344 rfl rfl at_10 (Nat.le_of_ble_eq_true rfl) (C_X11_greaterPart (d := d + 4) hp hr11) (Nat.le_refl _) ?_
    refine M_istore (pc := 69) (ls' := [some (.ref 1), none, some (.int x2), some (.int x3), some (.int x4), some (.int x5), some (.int r10)]) dX11_serve_69 (by decide) rfl ?_
    refine M_aload_n (pc := 71) dX11_serve_71 rfl ?_
    refine M_getR (pc := 72) dX11_serve_72 f_X11_23 at_10 (gr_10_3 hp at_10).1 ?_
    refine M_getR (pc := 75) dX11_serve_75 f_X11_148 (gr_10_3 hp at_10).2 (gr_3_0 hp (gr_10_3 hp at_10).2).1 ?_
    refine M_iload (pc := 78) dX11_serve_78 rfl ?_
    obtain ⟨r12, hr13, h⟩ := bnd h
    refine M_callVi (pc := 80) dX11_serve_80 v_X11_265 rfl rfl (gr_3_0 hp (gr_10_3 hp at_10).2).2 (Nat.le_of_ble_eq_true rfl) (C_X1_isHad (d := d + 4) hp (gr_3_0 hp (gr_10_3 hp at_10).2).2 hr13) (Nat.le_refl _) ?_
    refine M_if_eq (pc := 83) (tgt := 100) dX11_serve_83 (by decide) (fun hc14 => ?_) (fun hc14 => ?_)
    · have h := (if_pos hc14).symm.trans h
      refine M_iinc (pc := 100) (v := (x5 + (1 : Int32))) (ls' := [some (.ref 1), none, some (.int x2), some (.int x3), some (.int x4), some (.int (x5 + (1 : Int32))), some (.int r10)]) dX11_serve_100 rfl rfl (by decide) rfl ?_
      refine M_goto (pc := 103) (tgt := 47) dX11_serve_103 (by decide) ?_
      refine M_mask (pc := 47) [true, false, true, true, true, true, false] rfl ?_
      exact ih x3 x4 (x5 + (1 : Int32)) _ h
    · have h := (if_neg hc14).symm.trans h
      refine M_iload (pc := 86) dX11_serve_86 rfl ?_
      refine M_iload (pc := 88) dX11_serve_88 rfl ?_
      refine M_icmp_ge (pc := 90) (tgt := 100) dX11_serve_90 (by decide) (fun hc15 => ?_) (fun hc15 => ?_)
      · have h := (if_pos hc15).symm.trans h
        refine M_iinc (pc := 100) (v := (x5 + (1 : Int32))) (ls' := [some (.ref 1), none, some (.int x2), some (.int x3), some (.int x4), some (.int (x5 + (1 : Int32))), some (.int r10)]) dX11_serve_100 rfl rfl (by decide) rfl ?_
        refine M_goto (pc := 103) (tgt := 47) dX11_serve_103 (by decide) ?_
        refine M_mask (pc := 47) [true, false, true, true, true, true, false] rfl ?_
        exact ih x3 x4 (x5 + (1 : Int32)) _ h
      · have h := (if_neg hc15).symm.trans h
        refine M_iload (pc := 93) dX11_serve_93 rfl ?_
        refine M_istore (pc := 95) (ls' := [some (.ref 1), none, some (.int x2), some (.int x3), some (.int r10), some (.int x5), some (.int r10)]) dX11_serve_95 (by decide) rfl ?_
        refine M_iload (pc := 97) dX11_serve_97 rfl ?_
        refine M_istore_n (pc := 99) (ls' := [some (.ref 1), none, some (.int x2), some (.int x5), some (.int r10), some (.int x5), some (.int r10)]) dX11_serve_99 (by decide) rfl ?_
        refine M_iinc (pc := 100) (v := (x5 + (1 : Int32))) (ls' := [some (.ref 1), none, some (.int x2), some (.int x5), some (.int r10), some (.int (x5 + (1 : Int32))), some (.int r10)]) dX11_serve_100 rfl rfl (by decide) rfl ?_
        refine M_goto (pc := 103) (tgt := 47) dX11_serve_103 (by decide) ?_
        refine M_mask (pc := 47) [true, false, true, true, true, true, false] rfl ?_
        exact ih x5 r10 (x5 + (1 : Int32)) _ h
set_option maxRecDepth 4000 in
set_option maxHeartbeats 4000000 in
theorem C_X11_serve {g : gX} {d : Nat} {P : Nat → Nat → Option Nat} {I : HI} {J : HJ} (hp : Wp P) {r : (Int32 ⊕ String) × HI} (h : F_X11_serve I = some r) : Cx g mX11_serve (d + 6) [.ref 1] (NT, I, J, P) ((thr_i r.1), (NT, r.2, J, P)) := by
  unfold F_X11_serve at h
  refine Cx.of (by decide) (by simp [Value.category]) (Nat.le_of_ble_eq_true rfl) (Nat.le_refl _) (ls := [some (.ref 1), none, none, none, none, none, none]) rfl ?_
  refine M_aload_n (pc := 0) dX11_serve_0 rfl ?_
  obtain ⟨r1, hr2, h⟩ := bnd h
  refine M_callVi (pc := 1) dX11_serve_1 v_X11_110 rfl rfl at_10 (Nat.le_of_ble_eq_true rfl) (C_X11_takeTape (d := d + 5) hp hr2) (Nat.le_refl _) ?_
  refine M_istore_n (pc := 4) (ls' := [some (.ref 1), some (.int r1.1), none, none, none, none, none]) dX11_serve_4 (by decide) rfl ?_
  refine M_iload_n (pc := 5) dX11_serve_5 rfl ?_
  refine M_bipush (pc := 6) (v := 20) dX11_serve_6 (by decide) ?_
  refine M_icmp_le (pc := 8) (tgt := 22) dX11_serve_8 (by decide) (fun hc3 => ?_) (fun hc3 => ?_)
  · have h := (if_pos hc3).symm.trans h
    refine M_aload_n (pc := 22) dX11_serve_22 rfl ?_
    refine M_iload_n (pc := 23) dX11_serve_23 rfl ?_
    obtain ⟨r4, hr5, h⟩ := bnd h
    refine M_callVi (pc := 24) dX11_serve_24 v_X11_338 rfl rfl at_10 (Nat.le_of_ble_eq_true rfl) (C_X11_fitting (d := d + 3) hp hr5) (Nat.le_refl _) ?_
    refine M_istore_n (pc := 27) (ls' := [some (.ref 1), some (.int r1.1), some (.int r4), none, none, none, none]) dX11_serve_27 (by decide) rfl ?_
    refine M_iload_n (pc := 28) dX11_serve_28 rfl ?_
    obtain ⟨r6, hr7, h⟩ := bnd h
    refine M_callSi (pc := 29) dX11_serve_29 s_X11_311 rfl rfl (Nat.le_of_ble_eq_true rfl) (C_J6_bitCount_0f7a4 (d := d + 5) hp hr7) (Nat.le_refl _) ?_
    refine M_iconst (pc := 32) (v := 2) dX11_serve_32 (by decide) ?_
    refine M_icmp_ge (pc := 33) (tgt := 38) dX11_serve_33 (by decide) (fun hc8 => ?_) (fun hc8 => ?_)
    · have h := (if_pos hc8).symm.trans h
      refine M_iconst (pc := 38) (v := -1) dX11_serve_38 (by decide) ?_
      refine M_istore_n (pc := 39) (ls' := [some (.ref 1), some (.int r1.1), some (.int r4), some (.int (-1 : Int32)), none, none, none]) dX11_serve_39 (by decide) rfl ?_
      refine M_bipush (pc := 40) (v := 13) dX11_serve_40 (by decide) ?_
      refine M_istore (pc := 42) (ls' := [some (.ref 1), some (.int r1.1), some (.int r4), some (.int (-1 : Int32)), some (.int (13 : Int32)), none, none]) dX11_serve_42 (by decide) rfl ?_
      refine M_iconst (pc := 44) (v := 0) dX11_serve_44 (by decide) ?_
      refine M_istore (pc := 45) (ls' := [some (.ref 1), some (.int r1.1), some (.int r4), some (.int (-1 : Int32)), some (.int (13 : Int32)), some (.int (0 : Int32)), none]) dX11_serve_45 (by decide) rfl ?_
      refine M_mask (pc := 47) [true, false, true, true, true, true, false] rfl ?_
      exact LC_X11_serve_47 (P := P) hp (-1 : Int32) (13 : Int32) (0 : Int32) _ h
    · have h := (if_neg hc8).symm.trans h
      refine M_iconst (pc := 36) (v := -1) dX11_serve_36 (by decide) ?_
      obtain rfl := Option.some.inj h
      exact M_iret (pc := 37) dX11_serve_37 rfl rfl rfl rfl
  · have h := (if_neg hc3).symm.trans h
    obtain rfl := Option.some.inj h
    exact M_throwW (pc := 11) dX11_serve_11 dX11_serve_14 dX11_serve_15 dX11_serve_18 dX11_serve_21 x_X11_118 (j := 17) (by decide) str_X11_336 rfl rfl
def F_X11_jars (I : HI) (x1 : Int32) : Option ((Int32 ⊕ String) × HI) :=
  (F_X11_takeTape I) >>= fun r1 => if (25 : Int32) < r1.1 then some ((Sum.inr "java/lang/IllegalArgumentException"), r1.2) else if (r1.1 - r1.1 / (5 : Int32) * (5 : Int32)) = 0 then (F_X11_toldAtMost r1.2 r1.1 (9 : Int32)) >>= fun r5 => if r5 = 0 then some ((Sum.inr "java/lang/IllegalArgumentException"), r1.2) else (F_X2_search r1.2 (r1.1 / (5 : Int32)) 4) >>= fun r8 => if x1 = (-1 : Int32) then some ((Sum.inl (r8 201 0)), r8) else (F_X2_nth r8 x1) >>= fun r11 => some ((Sum.inl r11), r8) else some ((Sum.inr "java/lang/IllegalArgumentException"), r1.2)
set_option maxRecDepth 4000 in
set_option maxHeartbeats 4000000 in
theorem C_X11_jars {g : gX} {d : Nat} {P : Nat → Nat → Option Nat} {I : HI} {x1 : Int32} {J : HJ} (hp : Wp P) {r : (Int32 ⊕ String) × HI} (h : F_X11_jars I x1 = some r) : Cx g mX11_jars (d + 18) [.ref 1, .int x1] (NT, I, J, P) ((thr_i r.1), (NT, r.2, J, P)) := by
  unfold F_X11_jars at h
  refine Cx.of (by decide) (by simp [Value.category]) (Nat.le_of_ble_eq_true rfl) (Nat.le_refl _) (ls := [some (.ref 1), some (.int x1), none]) rfl ?_
  refine M_aload_n (pc := 0) dX11_jars_0 rfl ?_
  obtain ⟨r1, hr2, h⟩ := bnd h
  refine M_callVi (pc := 1) dX11_jars_1 v_X11_110 rfl rfl at_10 (Nat.le_of_ble_eq_true rfl) (C_X11_takeTape (d := d + 17) hp hr2) (Nat.le_refl _) ?_
  refine M_istore_n (pc := 4) (ls' := [some (.ref 1), some (.int x1), some (.int r1.1)]) dX11_jars_4 (by decide) rfl ?_
  refine M_iload_n (pc := 5) dX11_jars_5 rfl ?_
  refine M_bipush (pc := 6) (v := 25) dX11_jars_6 (by decide) ?_
  refine M_icmp_gt (pc := 8) (tgt := 27) dX11_jars_8 (by decide) (fun hc3 => ?_) (fun hc3 => ?_)
  · have h := (if_pos hc3).symm.trans h
    obtain rfl := Option.some.inj h
    exact M_throwW (pc := 27) dX11_jars_27 dX11_jars_30 dX11_jars_31 dX11_jars_34 dX11_jars_37 x_X11_118 (j := 18) (by decide) str_X11_355 rfl rfl
  · have h := (if_neg hc3).symm.trans h
    refine M_iload_n (pc := 11) dX11_jars_11 rfl ?_
    refine M_iconst (pc := 12) (v := 5) dX11_jars_12 (by decide) ?_
    refine M_irem (pc := 13) dX11_jars_13 (by decide) ?_
    refine M_if_ne (pc := 14) (tgt := 27) dX11_jars_14 (by decide) (fun hc4 => ?_) (fun hc4 => ?_)
    · have h := (if_neg hc4).symm.trans h
      obtain rfl := Option.some.inj h
      exact M_throwW (pc := 27) dX11_jars_27 dX11_jars_30 dX11_jars_31 dX11_jars_34 dX11_jars_37 x_X11_118 (j := 18) (by decide) str_X11_355 rfl rfl
    · have h := (if_pos hc4).symm.trans h
      refine M_aload_n (pc := 17) dX11_jars_17 rfl ?_
      refine M_iload_n (pc := 18) dX11_jars_18 rfl ?_
      refine M_bipush (pc := 19) (v := 9) dX11_jars_19 (by decide) ?_
      obtain ⟨r5, hr6, h⟩ := bnd h
      refine M_callVi (pc := 21) dX11_jars_21 v_X11_298 rfl rfl at_10 (Nat.le_of_ble_eq_true rfl) (C_X11_toldAtMost (d := d + 17) hp hr6) (Nat.le_refl _) ?_
      refine M_if_ne (pc := 24) (tgt := 38) dX11_jars_24 (by decide) (fun hc7 => ?_) (fun hc7 => ?_)
      · have h := (if_neg hc7).symm.trans h
        refine M_aload_n (pc := 38) dX11_jars_38 rfl ?_
        refine M_getR (pc := 39) dX11_jars_39 f_X11_95 at_10 (gr_10_16 hp at_10).1 ?_
        refine M_aload_n (pc := 42) dX11_jars_42 rfl ?_
        refine M_getR (pc := 43) dX11_jars_43 f_X11_9 at_10 (gr_10_0 hp at_10).1 ?_
        refine M_iload_n (pc := 46) dX11_jars_46 rfl ?_
        refine M_iconst (pc := 47) (v := 5) dX11_jars_47 (by decide) ?_
        refine M_idiv (pc := 48) dX11_jars_48 (by decide) ?_
        refine M_aload_n (pc := 49) dX11_jars_49 rfl ?_
        refine M_getR (pc := 50) dX11_jars_50 f_X11_23 at_10 (gr_10_3 hp at_10).1 ?_
        refine M_getR (pc := 53) dX11_jars_53 f_X11_148 (gr_10_3 hp at_10).2 (gr_3_0 hp (gr_10_3 hp at_10).2).1 ?_
        obtain ⟨r8, hr9, h⟩ := bnd h
        refine M_callVv (pc := 56) dX11_jars_56 v_X11_357 rfl rfl (gr_10_16 hp at_10).2 (Nat.le_of_ble_eq_true rfl) (C_X2_search (d := d + 0) hp (gr_3_0 hp (gr_10_3 hp at_10).2).2 hr9) (Nat.le_refl _) ?_
        refine M_iload_n (pc := 59) dX11_jars_59 rfl ?_
        refine M_iconst (pc := 60) (v := -1) dX11_jars_60 (by decide) ?_
        refine M_icmp_ne (pc := 61) (tgt := 74) dX11_jars_61 (by decide) (fun hc10 => ?_) (fun hc10 => ?_)
        · have h := (if_neg hc10).symm.trans h
          refine M_aload_n (pc := 74) dX11_jars_74 rfl ?_
          refine M_getR (pc := 75) dX11_jars_75 f_X11_95 at_10 (gr_10_16 hp at_10).1 ?_
          refine M_iload_n (pc := 78) dX11_jars_78 rfl ?_
          obtain ⟨r11, hr12, h⟩ := bnd h
          refine M_callVi (pc := 79) dX11_jars_79 v_X11_361 rfl rfl (gr_10_16 hp at_10).2 (Nat.le_of_ble_eq_true rfl) (C_X2_nth (d := d + 17) hp hr12) (Nat.le_refl _) ?_
          obtain rfl := Option.some.inj h
          exact M_iret (pc := 82) dX11_jars_82 rfl rfl rfl rfl
        · have h := (if_pos hc10).symm.trans h
          refine M_aload_n (pc := 64) dX11_jars_64 rfl ?_
          refine M_getR (pc := 65) dX11_jars_65 f_X11_95 at_10 (gr_10_16 hp at_10).1 ?_
          refine M_getI (pc := 68) dX11_jars_68 f_X11_360 (gr_10_16 hp at_10).2 ?_
          refine M_goto (pc := 71) (tgt := 82) dX11_jars_71 (by decide) ?_
          obtain rfl := Option.some.inj h
          exact M_iret (pc := 82) dX11_jars_82 rfl rfl rfl rfl
      · have h := (if_pos hc7).symm.trans h
        obtain rfl := Option.some.inj h
        exact M_throwW (pc := 27) dX11_jars_27 dX11_jars_30 dX11_jars_31 dX11_jars_34 dX11_jars_37 x_X11_118 (j := 18) (by decide) str_X11_355 rfl rfl
def F_X11_turnsNow (I : HI) (x1 : Int32) : Option (Int32 × HI) :=
  (F_X9_put I 3 x1) >>= fun r1 => (F_X4_weigh r1 9) >>= fun r3 => some ((r3 136 1), r3)
set_option maxRecDepth 4000 in
set_option maxHeartbeats 4000000 in
theorem C_X11_turnsNow {g : gX} {d : Nat} {P : Nat → Nat → Option Nat} {I : HI} {x1 : Int32} {J : HJ} (hp : Wp P) {r : Int32 × HI} (h : F_X11_turnsNow I x1 = some r) : Cm g mX11_turnsNow (d + 4) [.ref 1, .int x1] (NT, I, J, P) (some (.int r.1)) (NT, r.2, J, P) := by
  unfold F_X11_turnsNow at h
  refine Cm.of (by decide) (by simp [Value.category]) (Nat.le_of_ble_eq_true rfl) (Nat.le_refl _) (ls := [some (.ref 1), some (.int x1)]) rfl ?_
  refine M_aload_n (pc := 0) dX11_turnsNow_0 rfl ?_
  refine M_getR (pc := 1) dX11_turnsNow_1 f_X11_67 at_10 (gr_10_12 hp at_10).1 ?_
  refine M_aload_n (pc := 4) dX11_turnsNow_4 rfl ?_
  refine M_getR (pc := 5) dX11_turnsNow_5 f_X11_23 at_10 (gr_10_3 hp at_10).1 ?_
  refine M_iload_n (pc := 8) dX11_turnsNow_8 rfl ?_
  obtain ⟨r1, hr2, h⟩ := bnd h
  refine M_callVv (pc := 9) dX11_turnsNow_9 v_X11_194 rfl rfl (gr_10_12 hp at_10).2 (Nat.le_of_ble_eq_true rfl) (C_X9_put (d := d + 0) hp (gr_10_3 hp at_10).2 hr2) (Nat.le_refl _) ?_
  refine M_aload_n (pc := 12) dX11_turnsNow_12 rfl ?_
  refine M_getR (pc := 13) dX11_turnsNow_13 f_X11_30 at_10 (gr_10_4 hp at_10).1 ?_
  refine M_aload_n (pc := 16) dX11_turnsNow_16 rfl ?_
  refine M_getR (pc := 17) dX11_turnsNow_17 f_X11_67 at_10 (gr_10_12 hp at_10).1 ?_
  obtain ⟨r3, hr4, h⟩ := bnd h
  refine M_callVv (pc := 20) dX11_turnsNow_20 v_X11_198 rfl rfl (gr_10_4 hp at_10).2 (Nat.le_of_ble_eq_true rfl) (C_X4_weigh (d := d + 0) hp (gr_10_4 hp at_10).2 hr4) (Nat.le_refl _) ?_
  refine M_aload_n (pc := 23) dX11_turnsNow_23 rfl ?_
  refine M_getR (pc := 24) dX11_turnsNow_24 f_X11_67 at_10 (gr_10_12 hp at_10).1 ?_
  refine M_getI (pc := 27) dX11_turnsNow_27 f_X11_202 (gr_10_12 hp at_10).2 ?_
  obtain rfl := Option.some.inj h
  exact M_iret (pc := 30) dX11_turnsNow_30 rfl rfl rfl rfl
def F_X11_paysNow (I : HI) (x1 : Int32) : Option (Int32 × HI) :=
  (F_X9_put I 3 x1) >>= fun r1 => (F_X4_weigh r1 9) >>= fun r3 => some ((r3 136 2), r3)
set_option maxRecDepth 4000 in
set_option maxHeartbeats 4000000 in
theorem C_X11_paysNow {g : gX} {d : Nat} {P : Nat → Nat → Option Nat} {I : HI} {x1 : Int32} {J : HJ} (hp : Wp P) {r : Int32 × HI} (h : F_X11_paysNow I x1 = some r) : Cm g mX11_paysNow (d + 4) [.ref 1, .int x1] (NT, I, J, P) (some (.int r.1)) (NT, r.2, J, P) := by
  unfold F_X11_paysNow at h
  refine Cm.of (by decide) (by simp [Value.category]) (Nat.le_of_ble_eq_true rfl) (Nat.le_refl _) (ls := [some (.ref 1), some (.int x1)]) rfl ?_
  refine M_aload_n (pc := 0) dX11_paysNow_0 rfl ?_
  refine M_getR (pc := 1) dX11_paysNow_1 f_X11_67 at_10 (gr_10_12 hp at_10).1 ?_
  refine M_aload_n (pc := 4) dX11_paysNow_4 rfl ?_
  refine M_getR (pc := 5) dX11_paysNow_5 f_X11_23 at_10 (gr_10_3 hp at_10).1 ?_
  refine M_iload_n (pc := 8) dX11_paysNow_8 rfl ?_
  obtain ⟨r1, hr2, h⟩ := bnd h
  refine M_callVv (pc := 9) dX11_paysNow_9 v_X11_194 rfl rfl (gr_10_12 hp at_10).2 (Nat.le_of_ble_eq_true rfl) (C_X9_put (d := d + 0) hp (gr_10_3 hp at_10).2 hr2) (Nat.le_refl _) ?_
  refine M_aload_n (pc := 12) dX11_paysNow_12 rfl ?_
  refine M_getR (pc := 13) dX11_paysNow_13 f_X11_30 at_10 (gr_10_4 hp at_10).1 ?_
  refine M_aload_n (pc := 16) dX11_paysNow_16 rfl ?_
  refine M_getR (pc := 17) dX11_paysNow_17 f_X11_67 at_10 (gr_10_12 hp at_10).1 ?_
  obtain ⟨r3, hr4, h⟩ := bnd h
  refine M_callVv (pc := 20) dX11_paysNow_20 v_X11_198 rfl rfl (gr_10_4 hp at_10).2 (Nat.le_of_ble_eq_true rfl) (C_X4_weigh (d := d + 0) hp (gr_10_4 hp at_10).2 hr4) (Nat.le_refl _) ?_
  refine M_aload_n (pc := 23) dX11_paysNow_23 rfl ?_
  refine M_getR (pc := 24) dX11_paysNow_24 f_X11_67 at_10 (gr_10_12 hp at_10).1 ?_
  refine M_getI (pc := 27) dX11_paysNow_27 f_X11_205 (gr_10_12 hp at_10).2 ?_
  obtain rfl := Option.some.inj h
  exact M_iret (pc := 30) dX11_paysNow_30 rfl rfl rfl rfl
def L_X11_sad_6 (x1 : Int32) (x2 : Int32) (x3 : Int32) (I : HI) : Option (Int32 × HI) :=
  if (I 4 0) ≤ x3 then some (x1, I) else (F_X11_turnsNow I x3) >>= fun r2 => if x1 = (-1 : Int32) then L_X11_sad_6 x3 r2.1 (x3 + (1 : Int32)) r2.2 else if r2.1 ≤ x2 then L_X11_sad_6 x1 x2 (x3 + (1 : Int32)) r2.2 else L_X11_sad_6 x3 r2.1 (x3 + (1 : Int32)) r2.2
partial_fixpoint
def F_X11_sad (I : HI) : Option (Int32 × HI) :=
  L_X11_sad_6 (-1 : Int32) (0 : Int32) (0 : Int32) I
set_option maxRecDepth 4000 in
set_option maxHeartbeats 4000000 in
theorem LC_X11_sad_6 {g : gX} {d : Nat} {P : Nat → Nat → Option Nat} {J : HJ}  (hp : Wp P) : ∀ (x1 : Int32) (x2 : Int32) (x3 : Int32) (I : HI) (r : Int32 × HI), L_X11_sad_6  x1 x2 x3 I = some r → M g mX11_sad (d + 5) (NT, NT, 0) ((.inl (some (.int r.1))), (NT, r.2, J, P)) 6 [some (.ref 1), some (.int x1), some (.int x2), some (.int x3), none] [] (NT, I, J, P) := by
  refine L_X11_sad_6.partial_correctness  (fun x1 x2 x3 I r => M g mX11_sad (d + 5) (NT, NT, 0) ((.inl (some (.int r.1))), (NT, r.2, J, P)) 6 [some (.ref 1), some (.int x1), some (.int x2), some (.int x3), none] [] (NT, I, J, P)) ?_
  intro f ih x1 x2 x3 I r h
  refine M_iload_n (pc := 6) dX11_sad_6 rfl ?_
  refine M_aload_n (pc := 7) dX11_sad_7 rfl ?_
  refine M_getR (pc := 8) dX11_sad_8 f_X11_23 at_10 (gr_10_3 hp at_10).1 ?_
  refine M_getR (pc := 11) dX11_sad_11 f_X11_148 (gr_10_3 hp at_10).2 (gr_3_0 hp (gr_10_3 hp at_10).2).1 ?_
  refine M_getI (pc := 14) dX11_sad_14 f_X11_211 (gr_3_0 hp (gr_10_3 hp at_10).2).2 ?_
  refine M_icmp_ge (pc := 17) (tgt := 49) dX11_sad_17 (by decide) (fun hc1 => ?_) (fun hc1 => ?_)
  · have h := (if_pos hc1).symm.trans h
    refine M_iload_n (pc := 49) dX11_sad_49 rfl ?_
    obtain rfl := Option.some.inj h
    exact M_iret (pc := 50) dX11_sad_50 rfl rfl rfl rfl
  · have h := (if_neg hc1).symm.trans h
    refine M_aload_n (pc := 20) dX11_sad_20 rfl ?_
    refine M_iload_n (pc := 21) dX11_sad_21 rfl ?_
    obtain ⟨r2, hr3, h⟩ := bnd h
    refine M_callVi (pc := 22) dX11_sad_22 v_X11_187 rfl rfl at_10 (Nat.le_of_ble_eq_true rfl) (C_X11_turnsNow (d := d + 0) hp hr3) (Nat.le_refl _) ?_
    refine M_istore (pc := 25) (ls' := [some (.ref 1), some (.int x1), some (.int x2), some (.int x3), some (.int r2.1)]) dX11_sad_25 (by decide) rfl ?_
    refine M_iload_n (pc := 27) dX11_sad_27 rfl ?_
    refine M_iconst (pc := 28) (v := -1) dX11_sad_28 (by decide) ?_
    refine M_icmp_eq (pc := 29) (tgt := 38) dX11_sad_29 (by decide) (fun hc4 => ?_) (fun hc4 => ?_)
    · have h := (if_pos hc4).symm.trans h
      refine M_iload (pc := 38) dX11_sad_38 rfl ?_
      refine M_istore_n (pc := 40) (ls' := [some (.ref 1), some (.int x1), some (.int r2.1), some (.int x3), some (.int r2.1)]) dX11_sad_40 (by decide) rfl ?_
      refine M_iload_n (pc := 41) dX11_sad_41 rfl ?_
      refine M_istore_n (pc := 42) (ls' := [some (.ref 1), some (.int x3), some (.int r2.1), some (.int x3), some (.int r2.1)]) dX11_sad_42 (by decide) rfl ?_
      refine M_iinc (pc := 43) (v := (x3 + (1 : Int32))) (ls' := [some (.ref 1), some (.int x3), some (.int r2.1), some (.int (x3 + (1 : Int32))), some (.int r2.1)]) dX11_sad_43 rfl rfl (by decide) rfl ?_
      refine M_goto (pc := 46) (tgt := 6) dX11_sad_46 (by decide) ?_
      refine M_mask (pc := 6) [true, true, true, true, false] rfl ?_
      exact ih x3 r2.1 (x3 + (1 : Int32)) r2.2 _ h
    · have h := (if_neg hc4).symm.trans h
      refine M_iload (pc := 32) dX11_sad_32 rfl ?_
      refine M_iload_n (pc := 34) dX11_sad_34 rfl ?_
      refine M_icmp_le (pc := 35) (tgt := 43) dX11_sad_35 (by decide) (fun hc5 => ?_) (fun hc5 => ?_)
      · have h := (if_pos hc5).symm.trans h
        refine M_iinc (pc := 43) (v := (x3 + (1 : Int32))) (ls' := [some (.ref 1), some (.int x1), some (.int x2), some (.int (x3 + (1 : Int32))), some (.int r2.1)]) dX11_sad_43 rfl rfl (by decide) rfl ?_
        refine M_goto (pc := 46) (tgt := 6) dX11_sad_46 (by decide) ?_
        refine M_mask (pc := 6) [true, true, true, true, false] rfl ?_
        exact ih x1 x2 (x3 + (1 : Int32)) r2.2 _ h
      · have h := (if_neg hc5).symm.trans h
        refine M_iload (pc := 38) dX11_sad_38 rfl ?_
        refine M_istore_n (pc := 40) (ls' := [some (.ref 1), some (.int x1), some (.int r2.1), some (.int x3), some (.int r2.1)]) dX11_sad_40 (by decide) rfl ?_
        refine M_iload_n (pc := 41) dX11_sad_41 rfl ?_
        refine M_istore_n (pc := 42) (ls' := [some (.ref 1), some (.int x3), some (.int r2.1), some (.int x3), some (.int r2.1)]) dX11_sad_42 (by decide) rfl ?_
        refine M_iinc (pc := 43) (v := (x3 + (1 : Int32))) (ls' := [some (.ref 1), some (.int x3), some (.int r2.1), some (.int (x3 + (1 : Int32))), some (.int r2.1)]) dX11_sad_43 rfl rfl (by decide) rfl ?_
        refine M_goto (pc := 46) (tgt := 6) dX11_sad_46 (by decide) ?_
        refine M_mask (pc := 6) [true, true, true, true, false] rfl ?_
        exact ih x3 r2.1 (x3 + (1 : Int32)) r2.2 _ h
set_option maxRecDepth 4000 in
set_option maxHeartbeats 4000000 in
theorem C_X11_sad {g : gX} {d : Nat} {P : Nat → Nat → Option Nat} {I : HI} {J : HJ} (hp : Wp P) {r : Int32 × HI} (h : F_X11_sad I = some r) : Cm g mX11_sad (d + 5) [.ref 1] (NT, I, J, P) (some (.int r.1)) (NT, r.2, J, P) := by
  unfold F_X11_sad at h
  refine Cm.of (by decide) (by simp [Value.category]) (Nat.le_of_ble_eq_true rfl) (Nat.le_refl _) (ls := [some (.ref 1), none, none, none, none]) rfl ?_
  refine M_iconst (pc := 0) (v := -1) dX11_sad_0 (by decide) ?_
  refine M_istore_n (pc := 1) (ls' := [some (.ref 1), some (.int (-1 : Int32)), none, none, none]) dX11_sad_1 (by decide) rfl ?_
  refine M_iconst (pc := 2) (v := 0) dX11_sad_2 (by decide) ?_
  refine M_istore_n (pc := 3) (ls' := [some (.ref 1), some (.int (-1 : Int32)), some (.int (0 : Int32)), none, none]) dX11_sad_3 (by decide) rfl ?_
  refine M_iconst (pc := 4) (v := 0) dX11_sad_4 (by decide) ?_
  refine M_istore_n (pc := 5) (ls' := [some (.ref 1), some (.int (-1 : Int32)), some (.int (0 : Int32)), some (.int (0 : Int32)), none]) dX11_sad_5 (by decide) rfl ?_
  exact LC_X11_sad_6 (P := P) hp (-1 : Int32) (0 : Int32) (0 : Int32) I _ h
def F_X11_hosts (I : HI) (x1 : Int32) (x2 : Int32) : Option ((Int32 ⊕ String) × HI) :=
  (F_X1_has I 4 x1) >>= fun r1 => if r1 = 0 then some ((Sum.inr "java/lang/IndexOutOfBoundsException"), I) else (F_X1_has I 4 x2) >>= fun r4 => if r4 = 0 then some ((Sum.inr "java/lang/IndexOutOfBoundsException"), I) else if x1 = x2 then some ((Sum.inr "java/lang/IllegalArgumentException"), I) else (F_X1_distance I 4 x1 x2) >>= fun r8 => if (I 3 7) < r8 then (F_X11_paysNow I x1) >>= fun r11 => (F_X11_paysNow r11.2 x2) >>= fun r13 => if (r11.1 / (2 : Int32)) < (r13.1 - (0 : Int32)) then if (r13.1 / (2 : Int32)) < (r11.1 - (0 : Int32)) then if (r11.1 - (0 : Int32)) < (r13.1 / (2 : Int32)) then some ((Sum.inl (((0 : Int32) ||| (0 : Int32)) ||| (0 : Int32))), r13.2) else if (r13.1 - (0 : Int32)) < (r11.1 / (2 : Int32)) then some ((Sum.inl (((0 : Int32) ||| (0 : Int32)) ||| (0 : Int32))), r13.2) else some ((Sum.inl (((0 : Int32) ||| (6 : Int32)) ||| (0 : Int32))), r13.2) else if (r11.1 - (0 : Int32)) < (r13.1 / (2 : Int32)) then some ((Sum.inl (((0 : Int32) ||| (0 : Int32)) ||| (8 : Int32))), r13.2) else if (r13.1 - (0 : Int32)) < (r11.1 / (2 : Int32)) then some ((Sum.inl (((0 : Int32) ||| (0 : Int32)) ||| (8 : Int32))), r13.2) else some ((Sum.inl (((0 : Int32) ||| (6 : Int32)) ||| (8 : Int32))), r13.2) else if (r13.1 / (2 : Int32)) < (r11.1 - (0 : Int32)) then if (r11.1 - (0 : Int32)) < (r13.1 / (2 : Int32)) then some ((Sum.inl (((1 : Int32) ||| (0 : Int32)) ||| (0 : Int32))), r13.2) else if (r13.1 - (0 : Int32)) < (r11.1 / (2 : Int32)) then some ((Sum.inl (((1 : Int32) ||| (0 : Int32)) ||| (0 : Int32))), r13.2) else some ((Sum.inl (((1 : Int32) ||| (6 : Int32)) ||| (0 : Int32))), r13.2) else if (r11.1 - (0 : Int32)) < (r13.1 / (2 : Int32)) then some ((Sum.inl (((1 : Int32) ||| (0 : Int32)) ||| (8 : Int32))), r13.2) else if (r13.1 - (0 : Int32)) < (r11.1 / (2 : Int32)) then some ((Sum.inl (((1 : Int32) ||| (0 : Int32)) ||| (8 : Int32))), r13.2) else some ((Sum.inl (((1 : Int32) ||| (6 : Int32)) ||| (8 : Int32))), r13.2) else (F_X11_paysNow I x1) >>= fun r62 => (F_X11_paysNow r62.2 x2) >>= fun r64 => if (r62.1 / (2 : Int32)) < (r64.1 - (2 : Int32)) then if (r64.1 / (2 : Int32)) < (r62.1 - (2 : Int32)) then if (r62.1 - (2 : Int32)) < (r64.1 / (2 : Int32)) then some ((Sum.inl (((0 : Int32) ||| (0 : Int32)) ||| (0 : Int32))), r64.2) else if (r64.1 - (2 : Int32)) < (r62.1 / (2 : Int32)) then some ((Sum.inl (((0 : Int32) ||| (0 : Int32)) ||| (0 : Int32))), r64.2) else some ((Sum.inl (((0 : Int32) ||| (6 : Int32)) ||| (0 : Int32))), r64.2) else if (r62.1 - (2 : Int32)) < (r64.1 / (2 : Int32)) then some ((Sum.inl (((0 : Int32) ||| (0 : Int32)) ||| (8 : Int32))), r64.2) else if (r64.1 - (2 : Int32)) < (r62.1 / (2 : Int32)) then some ((Sum.inl (((0 : Int32) ||| (0 : Int32)) ||| (8 : Int32))), r64.2) else some ((Sum.inl (((0 : Int32) ||| (6 : Int32)) ||| (8 : Int32))), r64.2) else if (r64.1 / (2 : Int32)) < (r62.1 - (2 : Int32)) then if (r62.1 - (2 : Int32)) < (r64.1 / (2 : Int32)) then some ((Sum.inl (((1 : Int32) ||| (0 : Int32)) ||| (0 : Int32))), r64.2) else if (r64.1 - (2 : Int32)) < (r62.1 / (2 : Int32)) then some ((Sum.inl (((1 : Int32) ||| (0 : Int32)) ||| (0 : Int32))), r64.2) else some ((Sum.inl (((1 : Int32) ||| (6 : Int32)) ||| (0 : Int32))), r64.2) else if (r62.1 - (2 : Int32)) < (r64.1 / (2 : Int32)) then some ((Sum.inl (((1 : Int32) ||| (0 : Int32)) ||| (8 : Int32))), r64.2) else if (r64.1 - (2 : Int32)) < (r62.1 / (2 : Int32)) then some ((Sum.inl (((1 : Int32) ||| (0 : Int32)) ||| (8 : Int32))), r64.2) else some ((Sum.inl (((1 : Int32) ||| (6 : Int32)) ||| (8 : Int32))), r64.2)
set_option maxRecDepth 4000 in
set_option maxHeartbeats 4000000 in
theorem C_X11_hosts {g : gX} {d : Nat} {P : Nat → Nat → Option Nat} {I : HI} {x1 : Int32} {x2 : Int32} {J : HJ} (hp : Wp P) {r : (Int32 ⊕ String) × HI} (h : F_X11_hosts I x1 x2 = some r) : Cx g mX11_hosts (d + 6) [.ref 1, .int x1, .int x2] (NT, I, J, P) ((thr_i r.1), (NT, r.2, J, P)) := by
  unfold F_X11_hosts at h
  refine Cx.of (by decide) (by simp [Value.category]) (Nat.le_of_ble_eq_true rfl) (Nat.le_refl _) (ls := [some (.ref 1), some (.int x1), some (.int x2), none, none, none, none, none, none]) rfl ?_
  refine M_aload_n (pc := 0) dX11_hosts_0 rfl ?_
  refine M_getR (pc := 1) dX11_hosts_1 f_X11_23 at_10 (gr_10_3 hp at_10).1 ?_
  refine M_getR (pc := 4) dX11_hosts_4 f_X11_148 (gr_10_3 hp at_10).2 (gr_3_0 hp (gr_10_3 hp at_10).2).1 ?_
  refine M_iload_n (pc := 7) dX11_hosts_7 rfl ?_
  obtain ⟨r1, hr2, h⟩ := bnd h
  refine M_callVi (pc := 8) dX11_hosts_8 v_X11_152 rfl rfl (gr_3_0 hp (gr_10_3 hp at_10).2).2 (Nat.le_of_ble_eq_true rfl) (C_X1_has (d := d + 5) hp (gr_3_0 hp (gr_10_3 hp at_10).2).2 hr2) (Nat.le_refl _) ?_
  refine M_if_eq (pc := 11) (tgt := 28) dX11_hosts_11 (by decide) (fun hc3 => ?_) (fun hc3 => ?_)
  · have h := (if_pos hc3).symm.trans h
    obtain rfl := Option.some.inj h
    exact M_throw (pc := 28) dX11_hosts_28 dX11_hosts_31 dX11_hosts_32 dX11_hosts_34 dX11_hosts_37 x_X11_158 (j := 3) (by decide) str_X11_160 rfl rfl
  · have h := (if_neg hc3).symm.trans h
    refine M_aload_n (pc := 14) dX11_hosts_14 rfl ?_
    refine M_getR (pc := 15) dX11_hosts_15 f_X11_23 at_10 (gr_10_3 hp at_10).1 ?_
    refine M_getR (pc := 18) dX11_hosts_18 f_X11_148 (gr_10_3 hp at_10).2 (gr_3_0 hp (gr_10_3 hp at_10).2).1 ?_
    refine M_iload_n (pc := 21) dX11_hosts_21 rfl ?_
    obtain ⟨r4, hr5, h⟩ := bnd h
    refine M_callVi (pc := 22) dX11_hosts_22 v_X11_152 rfl rfl (gr_3_0 hp (gr_10_3 hp at_10).2).2 (Nat.le_of_ble_eq_true rfl) (C_X1_has (d := d + 5) hp (gr_3_0 hp (gr_10_3 hp at_10).2).2 hr5) (Nat.le_refl _) ?_
    refine M_if_ne (pc := 25) (tgt := 38) dX11_hosts_25 (by decide) (fun hc6 => ?_) (fun hc6 => ?_)
    · have h := (if_neg hc6).symm.trans h
      refine M_iload_n (pc := 38) dX11_hosts_38 rfl ?_
      refine M_iload_n (pc := 39) dX11_hosts_39 rfl ?_
      refine M_icmp_ne (pc := 40) (tgt := 54) dX11_hosts_40 (by decide) (fun hc7 => ?_) (fun hc7 => ?_)
      · have h := (if_neg hc7).symm.trans h
        refine M_aload_n (pc := 54) dX11_hosts_54 rfl ?_
        refine M_getR (pc := 55) dX11_hosts_55 f_X11_23 at_10 (gr_10_3 hp at_10).1 ?_
        refine M_getR (pc := 58) dX11_hosts_58 f_X11_148 (gr_10_3 hp at_10).2 (gr_3_0 hp (gr_10_3 hp at_10).2).1 ?_
        refine M_iload_n (pc := 61) dX11_hosts_61 rfl ?_
        refine M_iload_n (pc := 62) dX11_hosts_62 rfl ?_
        obtain ⟨r8, hr9, h⟩ := bnd h
        refine M_callVi (pc := 63) dX11_hosts_63 v_X11_208 rfl rfl (gr_3_0 hp (gr_10_3 hp at_10).2).2 (Nat.le_of_ble_eq_true rfl) (C_X1_distance (d := d + 5) hp (gr_3_0 hp (gr_10_3 hp at_10).2).2 hr9) (Nat.le_refl _) ?_
        refine M_aload_n (pc := 66) dX11_hosts_66 rfl ?_
        refine M_getR (pc := 67) dX11_hosts_67 f_X11_23 at_10 (gr_10_3 hp at_10).1 ?_
        refine M_getI (pc := 70) dX11_hosts_70 f_X11_180 (gr_10_3 hp at_10).2 ?_
        refine M_icmp_gt (pc := 73) (tgt := 80) dX11_hosts_73 (by decide) (fun hc10 => ?_) (fun hc10 => ?_)
        · have h := (if_pos hc10).symm.trans h
          refine M_iconst (pc := 80) (v := 0) dX11_hosts_80 (by decide) ?_
          refine M_istore_n (pc := 81) (ls' := [some (.ref 1), some (.int x1), some (.int x2), some (.int (0 : Int32)), none, none, none, none, none]) dX11_hosts_81 (by decide) rfl ?_
          refine M_aload_n (pc := 82) dX11_hosts_82 rfl ?_
          refine M_iload_n (pc := 83) dX11_hosts_83 rfl ?_
          obtain ⟨r11, hr12, h⟩ := bnd h
          refine M_callVi (pc := 84) dX11_hosts_84 v_X11_191 rfl rfl at_10 (Nat.le_of_ble_eq_true rfl) (C_X11_paysNow (d := d + 1) hp hr12) (Nat.le_refl _) ?_
          refine M_istore (pc := 87) (ls' := [some (.ref 1), some (.int x1), some (.int x2), some (.int (0 : Int32)), some (.int r11.1), none, none, none, none]) dX11_hosts_87 (by decide) rfl ?_
          refine M_aload_n (pc := 89) dX11_hosts_89 rfl ?_
          refine M_iload_n (pc := 90) dX11_hosts_90 rfl ?_
          obtain ⟨r13, hr14, h⟩ := bnd h
          refine M_callVi (pc := 91) dX11_hosts_91 v_X11_191 rfl rfl at_10 (Nat.le_of_ble_eq_true rfl) (C_X11_paysNow (d := d + 1) hp hr14) (Nat.le_refl _) ?_
          refine M_istore (pc := 94) (ls' := [some (.ref 1), some (.int x1), some (.int x2), some (.int (0 : Int32)), some (.int r11.1), some (.int r13.1), none, none, none]) dX11_hosts_94 (by decide) rfl ?_
          refine M_iload (pc := 96) dX11_hosts_96 rfl ?_
          refine M_iconst (pc := 98) (v := 2) dX11_hosts_98 (by decide) ?_
          refine M_idiv (pc := 99) dX11_hosts_99 (by decide) ?_
          refine M_iload (pc := 100) dX11_hosts_100 rfl ?_
          refine M_iload_n (pc := 102) dX11_hosts_102 rfl ?_
          refine M_isub (pc := 103) dX11_hosts_103 ?_
          refine M_icmp_lt (pc := 104) (tgt := 111) dX11_hosts_104 (by decide) (fun hc15 => ?_) (fun hc15 => ?_)
          · have h := (if_pos hc15).symm.trans h
            refine M_iconst (pc := 111) (v := 0) dX11_hosts_111 (by decide) ?_
            refine M_istore (pc := 112) (ls' := [some (.ref 1), some (.int x1), some (.int x2), some (.int (0 : Int32)), some (.int r11.1), some (.int r13.1), some (.int (0 : Int32)), none, none]) dX11_hosts_112 (by decide) rfl ?_
            refine M_iload (pc := 114) dX11_hosts_114 rfl ?_
            refine M_iconst (pc := 116) (v := 2) dX11_hosts_116 (by decide) ?_
            refine M_idiv (pc := 117) dX11_hosts_117 (by decide) ?_
            refine M_iload (pc := 118) dX11_hosts_118 rfl ?_
            refine M_iload_n (pc := 120) dX11_hosts_120 rfl ?_
            refine M_isub (pc := 121) dX11_hosts_121 ?_
            refine M_icmp_lt (pc := 122) (tgt := 129) dX11_hosts_122 (by decide) (fun hc16 => ?_) (fun hc16 => ?_)
            · have h := (if_pos hc16).symm.trans h
              refine M_iconst (pc := 129) (v := 0) dX11_hosts_129 (by decide) ?_
              refine M_istore (pc := 130) (ls' := [some (.ref 1), some (.int x1), some (.int x2), some (.int (0 : Int32)), some (.int r11.1), some (.int r13.1), some (.int (0 : Int32)), some (.int (0 : Int32)), none]) dX11_hosts_130 (by decide) rfl ?_
              refine M_iload (pc := 132) dX11_hosts_132 rfl ?_
              refine M_iload_n (pc := 134) dX11_hosts_134 rfl ?_
              refine M_isub (pc := 135) dX11_hosts_135 ?_
              refine M_iload (pc := 136) dX11_hosts_136 rfl ?_
              refine M_iconst (pc := 138) (v := 2) dX11_hosts_138 (by decide) ?_
              refine M_idiv (pc := 139) dX11_hosts_139 (by decide) ?_
              refine M_icmp_lt (pc := 140) (tgt := 158) dX11_hosts_140 (by decide) (fun hc17 => ?_) (fun hc17 => ?_)
              · have h := (if_pos hc17).symm.trans h
                refine M_iconst (pc := 158) (v := 0) dX11_hosts_158 (by decide) ?_
                refine M_istore (pc := 159) (ls' := [some (.ref 1), some (.int x1), some (.int x2), some (.int (0 : Int32)), some (.int r11.1), some (.int r13.1), some (.int (0 : Int32)), some (.int (0 : Int32)), some (.int (0 : Int32))]) dX11_hosts_159 (by decide) rfl ?_
                refine M_iload (pc := 161) dX11_hosts_161 rfl ?_
                refine M_if_eq (pc := 163) (tgt := 170) dX11_hosts_163 (by decide) (fun hc18 => ?_) (fun hc18 => absurd hc18 (by decide))
                refine M_iconst (pc := 170) (v := 0) dX11_hosts_170 (by decide) ?_
                refine M_iload (pc := 171) dX11_hosts_171 rfl ?_
                refine M_if_eq (pc := 173) (tgt := 181) dX11_hosts_173 (by decide) (fun hc19 => ?_) (fun hc19 => absurd hc19 (by decide))
                refine M_iconst (pc := 181) (v := 0) dX11_hosts_181 (by decide) ?_
                refine M_ior (pc := 182) dX11_hosts_182 ?_
                refine M_iload (pc := 183) dX11_hosts_183 rfl ?_
                refine M_if_eq (pc := 185) (tgt := 193) dX11_hosts_185 (by decide) (fun hc20 => ?_) (fun hc20 => absurd hc20 (by decide))
                refine M_iconst (pc := 193) (v := 0) dX11_hosts_193 (by decide) ?_
                refine M_ior (pc := 194) dX11_hosts_194 ?_
                obtain rfl := Option.some.inj h
                exact M_iret (pc := 195) dX11_hosts_195 rfl rfl rfl rfl
              · have h := (if_neg hc17).symm.trans h
                refine M_iload (pc := 143) dX11_hosts_143 rfl ?_
                refine M_iload_n (pc := 145) dX11_hosts_145 rfl ?_
                refine M_isub (pc := 146) dX11_hosts_146 ?_
                refine M_iload (pc := 147) dX11_hosts_147 rfl ?_
                refine M_iconst (pc := 149) (v := 2) dX11_hosts_149 (by decide) ?_
                refine M_idiv (pc := 150) dX11_hosts_150 (by decide) ?_
                refine M_icmp_lt (pc := 151) (tgt := 158) dX11_hosts_151 (by decide) (fun hc21 => ?_) (fun hc21 => ?_)
                · have h := (if_pos hc21).symm.trans h
                  refine M_iconst (pc := 158) (v := 0) dX11_hosts_158 (by decide) ?_
                  refine M_istore (pc := 159) (ls' := [some (.ref 1), some (.int x1), some (.int x2), some (.int (0 : Int32)), some (.int r11.1), some (.int r13.1), some (.int (0 : Int32)), some (.int (0 : Int32)), some (.int (0 : Int32))]) dX11_hosts_159 (by decide) rfl ?_
                  refine M_iload (pc := 161) dX11_hosts_161 rfl ?_
                  refine M_if_eq (pc := 163) (tgt := 170) dX11_hosts_163 (by decide) (fun hc22 => ?_) (fun hc22 => absurd hc22 (by decide))
                  refine M_iconst (pc := 170) (v := 0) dX11_hosts_170 (by decide) ?_
                  refine M_iload (pc := 171) dX11_hosts_171 rfl ?_
                  refine M_if_eq (pc := 173) (tgt := 181) dX11_hosts_173 (by decide) (fun hc23 => ?_) (fun hc23 => absurd hc23 (by decide))
                  refine M_iconst (pc := 181) (v := 0) dX11_hosts_181 (by decide) ?_
                  refine M_ior (pc := 182) dX11_hosts_182 ?_
                  refine M_iload (pc := 183) dX11_hosts_183 rfl ?_
                  refine M_if_eq (pc := 185) (tgt := 193) dX11_hosts_185 (by decide) (fun hc24 => ?_) (fun hc24 => absurd hc24 (by decide))
                  refine M_iconst (pc := 193) (v := 0) dX11_hosts_193 (by decide) ?_
                  refine M_ior (pc := 194) dX11_hosts_194 ?_
                  obtain rfl := Option.some.inj h
                  exact M_iret (pc := 195) dX11_hosts_195 rfl rfl rfl rfl
                · have h := (if_neg hc21).symm.trans h
                  refine M_iconst (pc := 154) (v := 1) dX11_hosts_154 (by decide) ?_
                  refine M_goto (pc := 155) (tgt := 159) dX11_hosts_155 (by decide) ?_
                  refine M_istore (pc := 159) (ls' := [some (.ref 1), some (.int x1), some (.int x2), some (.int (0 : Int32)), some (.int r11.1), some (.int r13.1), some (.int (0 : Int32)), some (.int (0 : Int32)), some (.int (1 : Int32))]) dX11_hosts_159 (by decide) rfl ?_
                  refine M_iload (pc := 161) dX11_hosts_161 rfl ?_
                  refine M_if_eq (pc := 163) (tgt := 170) dX11_hosts_163 (by decide) (fun hc25 => ?_) (fun hc25 => absurd hc25 (by decide))
                  refine M_iconst (pc := 170) (v := 0) dX11_hosts_170 (by decide) ?_
                  refine M_iload (pc := 171) dX11_hosts_171 rfl ?_
                  refine M_if_eq (pc := 173) (tgt := 181) dX11_hosts_173 (by decide) (fun hc26 => absurd hc26 (by decide)) (fun hc26 => ?_)
                  refine M_bipush (pc := 176) (v := 6) dX11_hosts_176 (by decide) ?_
                  refine M_goto (pc := 178) (tgt := 182) dX11_hosts_178 (by decide) ?_
                  refine M_ior (pc := 182) dX11_hosts_182 ?_
                  refine M_iload (pc := 183) dX11_hosts_183 rfl ?_
                  refine M_if_eq (pc := 185) (tgt := 193) dX11_hosts_185 (by decide) (fun hc27 => ?_) (fun hc27 => absurd hc27 (by decide))
                  refine M_iconst (pc := 193) (v := 0) dX11_hosts_193 (by decide) ?_
                  refine M_ior (pc := 194) dX11_hosts_194 ?_
                  obtain rfl := Option.some.inj h
                  exact M_iret (pc := 195) dX11_hosts_195 rfl rfl rfl rfl
            · have h := (if_neg hc16).symm.trans h
              refine M_iconst (pc := 125) (v := 1) dX11_hosts_125 (by decide) ?_
              refine M_goto (pc := 126) (tgt := 130) dX11_hosts_126 (by decide) ?_
              refine M_istore (pc := 130) (ls' := [some (.ref 1), some (.int x1), some (.int x2), some (.int (0 : Int32)), some (.int r11.1), some (.int r13.1), some (.int (0 : Int32)), some (.int (1 : Int32)), none]) dX11_hosts_130 (by decide) rfl ?_
              refine M_iload (pc := 132) dX11_hosts_132 rfl ?_
              refine M_iload_n (pc := 134) dX11_hosts_134 rfl ?_
              refine M_isub (pc := 135) dX11_hosts_135 ?_
              refine M_iload (pc := 136) dX11_hosts_136 rfl ?_
              refine M_iconst (pc := 138) (v := 2) dX11_hosts_138 (by decide) ?_
              refine M_idiv (pc := 139) dX11_hosts_139 (by decide) ?_
              refine M_icmp_lt (pc := 140) (tgt := 158) dX11_hosts_140 (by decide) (fun hc28 => ?_) (fun hc28 => ?_)
              · have h := (if_pos hc28).symm.trans h
                refine M_iconst (pc := 158) (v := 0) dX11_hosts_158 (by decide) ?_
                refine M_istore (pc := 159) (ls' := [some (.ref 1), some (.int x1), some (.int x2), some (.int (0 : Int32)), some (.int r11.1), some (.int r13.1), some (.int (0 : Int32)), some (.int (1 : Int32)), some (.int (0 : Int32))]) dX11_hosts_159 (by decide) rfl ?_
                refine M_iload (pc := 161) dX11_hosts_161 rfl ?_
                refine M_if_eq (pc := 163) (tgt := 170) dX11_hosts_163 (by decide) (fun hc29 => ?_) (fun hc29 => absurd hc29 (by decide))
                refine M_iconst (pc := 170) (v := 0) dX11_hosts_170 (by decide) ?_
                refine M_iload (pc := 171) dX11_hosts_171 rfl ?_
                refine M_if_eq (pc := 173) (tgt := 181) dX11_hosts_173 (by decide) (fun hc30 => ?_) (fun hc30 => absurd hc30 (by decide))
                refine M_iconst (pc := 181) (v := 0) dX11_hosts_181 (by decide) ?_
                refine M_ior (pc := 182) dX11_hosts_182 ?_
                refine M_iload (pc := 183) dX11_hosts_183 rfl ?_
                refine M_if_eq (pc := 185) (tgt := 193) dX11_hosts_185 (by decide) (fun hc31 => absurd hc31 (by decide)) (fun hc31 => ?_)
                refine M_bipush (pc := 188) (v := 8) dX11_hosts_188 (by decide) ?_
                refine M_goto (pc := 190) (tgt := 194) dX11_hosts_190 (by decide) ?_
                refine M_ior (pc := 194) dX11_hosts_194 ?_
                obtain rfl := Option.some.inj h
                exact M_iret (pc := 195) dX11_hosts_195 rfl rfl rfl rfl
              · have h := (if_neg hc28).symm.trans h
                refine M_iload (pc := 143) dX11_hosts_143 rfl ?_
                refine M_iload_n (pc := 145) dX11_hosts_145 rfl ?_
                refine M_isub (pc := 146) dX11_hosts_146 ?_
                refine M_iload (pc := 147) dX11_hosts_147 rfl ?_
                refine M_iconst (pc := 149) (v := 2) dX11_hosts_149 (by decide) ?_
                refine M_idiv (pc := 150) dX11_hosts_150 (by decide) ?_
                refine M_icmp_lt (pc := 151) (tgt := 158) dX11_hosts_151 (by decide) (fun hc32 => ?_) (fun hc32 => ?_)
                · have h := (if_pos hc32).symm.trans h
                  refine M_iconst (pc := 158) (v := 0) dX11_hosts_158 (by decide) ?_
                  refine M_istore (pc := 159) (ls' := [some (.ref 1), some (.int x1), some (.int x2), some (.int (0 : Int32)), some (.int r11.1), some (.int r13.1), some (.int (0 : Int32)), some (.int (1 : Int32)), some (.int (0 : Int32))]) dX11_hosts_159 (by decide) rfl ?_
                  refine M_iload (pc := 161) dX11_hosts_161 rfl ?_
                  refine M_if_eq (pc := 163) (tgt := 170) dX11_hosts_163 (by decide) (fun hc33 => ?_) (fun hc33 => absurd hc33 (by decide))
                  refine M_iconst (pc := 170) (v := 0) dX11_hosts_170 (by decide) ?_
                  refine M_iload (pc := 171) dX11_hosts_171 rfl ?_
                  refine M_if_eq (pc := 173) (tgt := 181) dX11_hosts_173 (by decide) (fun hc34 => ?_) (fun hc34 => absurd hc34 (by decide))
                  refine M_iconst (pc := 181) (v := 0) dX11_hosts_181 (by decide) ?_
                  refine M_ior (pc := 182) dX11_hosts_182 ?_
                  refine M_iload (pc := 183) dX11_hosts_183 rfl ?_
                  refine M_if_eq (pc := 185) (tgt := 193) dX11_hosts_185 (by decide) (fun hc35 => absurd hc35 (by decide)) (fun hc35 => ?_)
                  refine M_bipush (pc := 188) (v := 8) dX11_hosts_188 (by decide) ?_
                  refine M_goto (pc := 190) (tgt := 194) dX11_hosts_190 (by decide) ?_
                  refine M_ior (pc := 194) dX11_hosts_194 ?_
                  obtain rfl := Option.some.inj h
                  exact M_iret (pc := 195) dX11_hosts_195 rfl rfl rfl rfl
                · have h := (if_neg hc32).symm.trans h
                  refine M_iconst (pc := 154) (v := 1) dX11_hosts_154 (by decide) ?_
                  refine M_goto (pc := 155) (tgt := 159) dX11_hosts_155 (by decide) ?_
                  refine M_istore (pc := 159) (ls' := [some (.ref 1), some (.int x1), some (.int x2), some (.int (0 : Int32)), some (.int r11.1), some (.int r13.1), some (.int (0 : Int32)), some (.int (1 : Int32)), some (.int (1 : Int32))]) dX11_hosts_159 (by decide) rfl ?_
                  refine M_iload (pc := 161) dX11_hosts_161 rfl ?_
                  refine M_if_eq (pc := 163) (tgt := 170) dX11_hosts_163 (by decide) (fun hc36 => ?_) (fun hc36 => absurd hc36 (by decide))
                  refine M_iconst (pc := 170) (v := 0) dX11_hosts_170 (by decide) ?_
                  refine M_iload (pc := 171) dX11_hosts_171 rfl ?_
                  refine M_if_eq (pc := 173) (tgt := 181) dX11_hosts_173 (by decide) (fun hc37 => absurd hc37 (by decide)) (fun hc37 => ?_)
                  refine M_bipush (pc := 176) (v := 6) dX11_hosts_176 (by decide) ?_
                  refine M_goto (pc := 178) (tgt := 182) dX11_hosts_178 (by decide) ?_
                  refine M_ior (pc := 182) dX11_hosts_182 ?_
                  refine M_iload (pc := 183) dX11_hosts_183 rfl ?_
                  refine M_if_eq (pc := 185) (tgt := 193) dX11_hosts_185 (by decide) (fun hc38 => absurd hc38 (by decide)) (fun hc38 => ?_)
                  refine M_bipush (pc := 188) (v := 8) dX11_hosts_188 (by decide) ?_
                  refine M_goto (pc := 190) (tgt := 194) dX11_hosts_190 (by decide) ?_
                  refine M_ior (pc := 194) dX11_hosts_194 ?_
                  obtain rfl := Option.some.inj h
                  exact M_iret (pc := 195) dX11_hosts_195 rfl rfl rfl rfl
          · have h := (if_neg hc15).symm.trans h
            refine M_iconst (pc := 107) (v := 1) dX11_hosts_107 (by decide) ?_
            refine M_goto (pc := 108) (tgt := 112) dX11_hosts_108 (by decide) ?_
            refine M_istore (pc := 112) (ls' := [some (.ref 1), some (.int x1), some (.int x2), some (.int (0 : Int32)), some (.int r11.1), some (.int r13.1), some (.int (1 : Int32)), none, none]) dX11_hosts_112 (by decide) rfl ?_
            refine M_iload (pc := 114) dX11_hosts_114 rfl ?_
            refine M_iconst (pc := 116) (v := 2) dX11_hosts_116 (by decide) ?_
            refine M_idiv (pc := 117) dX11_hosts_117 (by decide) ?_
            refine M_iload (pc := 118) dX11_hosts_118 rfl ?_
            refine M_iload_n (pc := 120) dX11_hosts_120 rfl ?_
            refine M_isub (pc := 121) dX11_hosts_121 ?_
            refine M_icmp_lt (pc := 122) (tgt := 129) dX11_hosts_122 (by decide) (fun hc39 => ?_) (fun hc39 => ?_)
            · have h := (if_pos hc39).symm.trans h
              refine M_iconst (pc := 129) (v := 0) dX11_hosts_129 (by decide) ?_
              refine M_istore (pc := 130) (ls' := [some (.ref 1), some (.int x1), some (.int x2), some (.int (0 : Int32)), some (.int r11.1), some (.int r13.1), some (.int (1 : Int32)), some (.int (0 : Int32)), none]) dX11_hosts_130 (by decide) rfl ?_
              refine M_iload (pc := 132) dX11_hosts_132 rfl ?_
              refine M_iload_n (pc := 134) dX11_hosts_134 rfl ?_
              refine M_isub (pc := 135) dX11_hosts_135 ?_
              refine M_iload (pc := 136) dX11_hosts_136 rfl ?_
              refine M_iconst (pc := 138) (v := 2) dX11_hosts_138 (by decide) ?_
              refine M_idiv (pc := 139) dX11_hosts_139 (by decide) ?_
              refine M_icmp_lt (pc := 140) (tgt := 158) dX11_hosts_140 (by decide) (fun hc40 => ?_) (fun hc40 => ?_)
              · have h := (if_pos hc40).symm.trans h
                refine M_iconst (pc := 158) (v := 0) dX11_hosts_158 (by decide) ?_
                refine M_istore (pc := 159) (ls' := [some (.ref 1), some (.int x1), some (.int x2), some (.int (0 : Int32)), some (.int r11.1), some (.int r13.1), some (.int (1 : Int32)), some (.int (0 : Int32)), some (.int (0 : Int32))]) dX11_hosts_159 (by decide) rfl ?_
                refine M_iload (pc := 161) dX11_hosts_161 rfl ?_
                refine M_if_eq (pc := 163) (tgt := 170) dX11_hosts_163 (by decide) (fun hc41 => absurd hc41 (by decide)) (fun hc41 => ?_)
                refine M_iconst (pc := 166) (v := 1) dX11_hosts_166 (by decide) ?_
                refine M_goto (pc := 167) (tgt := 171) dX11_hosts_167 (by decide) ?_
                refine M_iload (pc := 171) dX11_hosts_171 rfl ?_
                refine M_if_eq (pc := 173) (tgt := 181) dX11_hosts_173 (by decide) (fun hc42 => ?_) (fun hc42 => absurd hc42 (by decide))
                refine M_iconst (pc := 181) (v := 0) dX11_hosts_181 (by decide) ?_
                refine M_ior (pc := 182) dX11_hosts_182 ?_
                refine M_iload (pc := 183) dX11_hosts_183 rfl ?_
                refine M_if_eq (pc := 185) (tgt := 193) dX11_hosts_185 (by decide) (fun hc43 => ?_) (fun hc43 => absurd hc43 (by decide))
                refine M_iconst (pc := 193) (v := 0) dX11_hosts_193 (by decide) ?_
                refine M_ior (pc := 194) dX11_hosts_194 ?_
                obtain rfl := Option.some.inj h
                exact M_iret (pc := 195) dX11_hosts_195 rfl rfl rfl rfl
              · have h := (if_neg hc40).symm.trans h
                refine M_iload (pc := 143) dX11_hosts_143 rfl ?_
                refine M_iload_n (pc := 145) dX11_hosts_145 rfl ?_
                refine M_isub (pc := 146) dX11_hosts_146 ?_
                refine M_iload (pc := 147) dX11_hosts_147 rfl ?_
                refine M_iconst (pc := 149) (v := 2) dX11_hosts_149 (by decide) ?_
                refine M_idiv (pc := 150) dX11_hosts_150 (by decide) ?_
                refine M_icmp_lt (pc := 151) (tgt := 158) dX11_hosts_151 (by decide) (fun hc44 => ?_) (fun hc44 => ?_)
                · have h := (if_pos hc44).symm.trans h
                  refine M_iconst (pc := 158) (v := 0) dX11_hosts_158 (by decide) ?_
                  refine M_istore (pc := 159) (ls' := [some (.ref 1), some (.int x1), some (.int x2), some (.int (0 : Int32)), some (.int r11.1), some (.int r13.1), some (.int (1 : Int32)), some (.int (0 : Int32)), some (.int (0 : Int32))]) dX11_hosts_159 (by decide) rfl ?_
                  refine M_iload (pc := 161) dX11_hosts_161 rfl ?_
                  refine M_if_eq (pc := 163) (tgt := 170) dX11_hosts_163 (by decide) (fun hc45 => absurd hc45 (by decide)) (fun hc45 => ?_)
                  refine M_iconst (pc := 166) (v := 1) dX11_hosts_166 (by decide) ?_
                  refine M_goto (pc := 167) (tgt := 171) dX11_hosts_167 (by decide) ?_
                  refine M_iload (pc := 171) dX11_hosts_171 rfl ?_
                  refine M_if_eq (pc := 173) (tgt := 181) dX11_hosts_173 (by decide) (fun hc46 => ?_) (fun hc46 => absurd hc46 (by decide))
                  refine M_iconst (pc := 181) (v := 0) dX11_hosts_181 (by decide) ?_
                  refine M_ior (pc := 182) dX11_hosts_182 ?_
                  refine M_iload (pc := 183) dX11_hosts_183 rfl ?_
                  refine M_if_eq (pc := 185) (tgt := 193) dX11_hosts_185 (by decide) (fun hc47 => ?_) (fun hc47 => absurd hc47 (by decide))
                  refine M_iconst (pc := 193) (v := 0) dX11_hosts_193 (by decide) ?_
                  refine M_ior (pc := 194) dX11_hosts_194 ?_
                  obtain rfl := Option.some.inj h
                  exact M_iret (pc := 195) dX11_hosts_195 rfl rfl rfl rfl
                · have h := (if_neg hc44).symm.trans h
                  refine M_iconst (pc := 154) (v := 1) dX11_hosts_154 (by decide) ?_
                  refine M_goto (pc := 155) (tgt := 159) dX11_hosts_155 (by decide) ?_
                  refine M_istore (pc := 159) (ls' := [some (.ref 1), some (.int x1), some (.int x2), some (.int (0 : Int32)), some (.int r11.1), some (.int r13.1), some (.int (1 : Int32)), some (.int (0 : Int32)), some (.int (1 : Int32))]) dX11_hosts_159 (by decide) rfl ?_
                  refine M_iload (pc := 161) dX11_hosts_161 rfl ?_
                  refine M_if_eq (pc := 163) (tgt := 170) dX11_hosts_163 (by decide) (fun hc48 => absurd hc48 (by decide)) (fun hc48 => ?_)
                  refine M_iconst (pc := 166) (v := 1) dX11_hosts_166 (by decide) ?_
                  refine M_goto (pc := 167) (tgt := 171) dX11_hosts_167 (by decide) ?_
                  refine M_iload (pc := 171) dX11_hosts_171 rfl ?_
                  refine M_if_eq (pc := 173) (tgt := 181) dX11_hosts_173 (by decide) (fun hc49 => absurd hc49 (by decide)) (fun hc49 => ?_)
                  refine M_bipush (pc := 176) (v := 6) dX11_hosts_176 (by decide) ?_
                  refine M_goto (pc := 178) (tgt := 182) dX11_hosts_178 (by decide) ?_
                  refine M_ior (pc := 182) dX11_hosts_182 ?_
                  refine M_iload (pc := 183) dX11_hosts_183 rfl ?_
                  refine M_if_eq (pc := 185) (tgt := 193) dX11_hosts_185 (by decide) (fun hc50 => ?_) (fun hc50 => absurd hc50 (by decide))
                  refine M_iconst (pc := 193) (v := 0) dX11_hosts_193 (by decide) ?_
                  refine M_ior (pc := 194) dX11_hosts_194 ?_
                  obtain rfl := Option.some.inj h
                  exact M_iret (pc := 195) dX11_hosts_195 rfl rfl rfl rfl
            · have h := (if_neg hc39).symm.trans h
              refine M_iconst (pc := 125) (v := 1) dX11_hosts_125 (by decide) ?_
              refine M_goto (pc := 126) (tgt := 130) dX11_hosts_126 (by decide) ?_
              refine M_istore (pc := 130) (ls' := [some (.ref 1), some (.int x1), some (.int x2), some (.int (0 : Int32)), some (.int r11.1), some (.int r13.1), some (.int (1 : Int32)), some (.int (1 : Int32)), none]) dX11_hosts_130 (by decide) rfl ?_
              refine M_iload (pc := 132) dX11_hosts_132 rfl ?_
              refine M_iload_n (pc := 134) dX11_hosts_134 rfl ?_
              refine M_isub (pc := 135) dX11_hosts_135 ?_
              refine M_iload (pc := 136) dX11_hosts_136 rfl ?_
              refine M_iconst (pc := 138) (v := 2) dX11_hosts_138 (by decide) ?_
              refine M_idiv (pc := 139) dX11_hosts_139 (by decide) ?_
              refine M_icmp_lt (pc := 140) (tgt := 158) dX11_hosts_140 (by decide) (fun hc51 => ?_) (fun hc51 => ?_)
              · have h := (if_pos hc51).symm.trans h
                refine M_iconst (pc := 158) (v := 0) dX11_hosts_158 (by decide) ?_
                refine M_istore (pc := 159) (ls' := [some (.ref 1), some (.int x1), some (.int x2), some (.int (0 : Int32)), some (.int r11.1), some (.int r13.1), some (.int (1 : Int32)), some (.int (1 : Int32)), some (.int (0 : Int32))]) dX11_hosts_159 (by decide) rfl ?_
                refine M_iload (pc := 161) dX11_hosts_161 rfl ?_
                refine M_if_eq (pc := 163) (tgt := 170) dX11_hosts_163 (by decide) (fun hc52 => absurd hc52 (by decide)) (fun hc52 => ?_)
                refine M_iconst (pc := 166) (v := 1) dX11_hosts_166 (by decide) ?_
                refine M_goto (pc := 167) (tgt := 171) dX11_hosts_167 (by decide) ?_
                refine M_iload (pc := 171) dX11_hosts_171 rfl ?_
                refine M_if_eq (pc := 173) (tgt := 181) dX11_hosts_173 (by decide) (fun hc53 => ?_) (fun hc53 => absurd hc53 (by decide))
                refine M_iconst (pc := 181) (v := 0) dX11_hosts_181 (by decide) ?_
                refine M_ior (pc := 182) dX11_hosts_182 ?_
                refine M_iload (pc := 183) dX11_hosts_183 rfl ?_
                refine M_if_eq (pc := 185) (tgt := 193) dX11_hosts_185 (by decide) (fun hc54 => absurd hc54 (by decide)) (fun hc54 => ?_)
                refine M_bipush (pc := 188) (v := 8) dX11_hosts_188 (by decide) ?_
                refine M_goto (pc := 190) (tgt := 194) dX11_hosts_190 (by decide) ?_
                refine M_ior (pc := 194) dX11_hosts_194 ?_
                obtain rfl := Option.some.inj h
                exact M_iret (pc := 195) dX11_hosts_195 rfl rfl rfl rfl
              · have h := (if_neg hc51).symm.trans h
                refine M_iload (pc := 143) dX11_hosts_143 rfl ?_
                refine M_iload_n (pc := 145) dX11_hosts_145 rfl ?_
                refine M_isub (pc := 146) dX11_hosts_146 ?_
                refine M_iload (pc := 147) dX11_hosts_147 rfl ?_
                refine M_iconst (pc := 149) (v := 2) dX11_hosts_149 (by decide) ?_
                refine M_idiv (pc := 150) dX11_hosts_150 (by decide) ?_
                refine M_icmp_lt (pc := 151) (tgt := 158) dX11_hosts_151 (by decide) (fun hc55 => ?_) (fun hc55 => ?_)
                · have h := (if_pos hc55).symm.trans h
                  refine M_iconst (pc := 158) (v := 0) dX11_hosts_158 (by decide) ?_
                  refine M_istore (pc := 159) (ls' := [some (.ref 1), some (.int x1), some (.int x2), some (.int (0 : Int32)), some (.int r11.1), some (.int r13.1), some (.int (1 : Int32)), some (.int (1 : Int32)), some (.int (0 : Int32))]) dX11_hosts_159 (by decide) rfl ?_
                  refine M_iload (pc := 161) dX11_hosts_161 rfl ?_
                  refine M_if_eq (pc := 163) (tgt := 170) dX11_hosts_163 (by decide) (fun hc56 => absurd hc56 (by decide)) (fun hc56 => ?_)
                  refine M_iconst (pc := 166) (v := 1) dX11_hosts_166 (by decide) ?_
                  refine M_goto (pc := 167) (tgt := 171) dX11_hosts_167 (by decide) ?_
                  refine M_iload (pc := 171) dX11_hosts_171 rfl ?_
                  refine M_if_eq (pc := 173) (tgt := 181) dX11_hosts_173 (by decide) (fun hc57 => ?_) (fun hc57 => absurd hc57 (by decide))
                  refine M_iconst (pc := 181) (v := 0) dX11_hosts_181 (by decide) ?_
                  refine M_ior (pc := 182) dX11_hosts_182 ?_
                  refine M_iload (pc := 183) dX11_hosts_183 rfl ?_
                  refine M_if_eq (pc := 185) (tgt := 193) dX11_hosts_185 (by decide) (fun hc58 => absurd hc58 (by decide)) (fun hc58 => ?_)
                  refine M_bipush (pc := 188) (v := 8) dX11_hosts_188 (by decide) ?_
                  refine M_goto (pc := 190) (tgt := 194) dX11_hosts_190 (by decide) ?_
                  refine M_ior (pc := 194) dX11_hosts_194 ?_
                  obtain rfl := Option.some.inj h
                  exact M_iret (pc := 195) dX11_hosts_195 rfl rfl rfl rfl
                · have h := (if_neg hc55).symm.trans h
                  refine M_iconst (pc := 154) (v := 1) dX11_hosts_154 (by decide) ?_
                  refine M_goto (pc := 155) (tgt := 159) dX11_hosts_155 (by decide) ?_
                  refine M_istore (pc := 159) (ls' := [some (.ref 1), some (.int x1), some (.int x2), some (.int (0 : Int32)), some (.int r11.1), some (.int r13.1), some (.int (1 : Int32)), some (.int (1 : Int32)), some (.int (1 : Int32))]) dX11_hosts_159 (by decide) rfl ?_
                  refine M_iload (pc := 161) dX11_hosts_161 rfl ?_
                  refine M_if_eq (pc := 163) (tgt := 170) dX11_hosts_163 (by decide) (fun hc59 => absurd hc59 (by decide)) (fun hc59 => ?_)
                  refine M_iconst (pc := 166) (v := 1) dX11_hosts_166 (by decide) ?_
                  refine M_goto (pc := 167) (tgt := 171) dX11_hosts_167 (by decide) ?_
                  refine M_iload (pc := 171) dX11_hosts_171 rfl ?_
                  refine M_if_eq (pc := 173) (tgt := 181) dX11_hosts_173 (by decide) (fun hc60 => absurd hc60 (by decide)) (fun hc60 => ?_)
                  refine M_bipush (pc := 176) (v := 6) dX11_hosts_176 (by decide) ?_
                  refine M_goto (pc := 178) (tgt := 182) dX11_hosts_178 (by decide) ?_
                  refine M_ior (pc := 182) dX11_hosts_182 ?_
                  refine M_iload (pc := 183) dX11_hosts_183 rfl ?_
                  refine M_if_eq (pc := 185) (tgt := 193) dX11_hosts_185 (by decide) (fun hc61 => absurd hc61 (by decide)) (fun hc61 => ?_)
                  refine M_bipush (pc := 188) (v := 8) dX11_hosts_188 (by decide) ?_
                  refine M_goto (pc := 190) (tgt := 194) dX11_hosts_190 (by decide) ?_
                  refine M_ior (pc := 194) dX11_hosts_194 ?_
                  obtain rfl := Option.some.inj h
                  exact M_iret (pc := 195) dX11_hosts_195 rfl rfl rfl rfl
        · have h := (if_neg hc10).symm.trans h
          refine M_iconst (pc := 76) (v := 2) dX11_hosts_76 (by decide) ?_
          refine M_goto (pc := 77) (tgt := 81) dX11_hosts_77 (by decide) ?_
          refine M_istore_n (pc := 81) (ls' := [some (.ref 1), some (.int x1), some (.int x2), some (.int (2 : Int32)), none, none, none, none, none]) dX11_hosts_81 (by decide) rfl ?_
          refine M_aload_n (pc := 82) dX11_hosts_82 rfl ?_
          refine M_iload_n (pc := 83) dX11_hosts_83 rfl ?_
          obtain ⟨r62, hr63, h⟩ := bnd h
          refine M_callVi (pc := 84) dX11_hosts_84 v_X11_191 rfl rfl at_10 (Nat.le_of_ble_eq_true rfl) (C_X11_paysNow (d := d + 1) hp hr63) (Nat.le_refl _) ?_
          refine M_istore (pc := 87) (ls' := [some (.ref 1), some (.int x1), some (.int x2), some (.int (2 : Int32)), some (.int r62.1), none, none, none, none]) dX11_hosts_87 (by decide) rfl ?_
          refine M_aload_n (pc := 89) dX11_hosts_89 rfl ?_
          refine M_iload_n (pc := 90) dX11_hosts_90 rfl ?_
          obtain ⟨r64, hr65, h⟩ := bnd h
          refine M_callVi (pc := 91) dX11_hosts_91 v_X11_191 rfl rfl at_10 (Nat.le_of_ble_eq_true rfl) (C_X11_paysNow (d := d + 1) hp hr65) (Nat.le_refl _) ?_
          refine M_istore (pc := 94) (ls' := [some (.ref 1), some (.int x1), some (.int x2), some (.int (2 : Int32)), some (.int r62.1), some (.int r64.1), none, none, none]) dX11_hosts_94 (by decide) rfl ?_
          refine M_iload (pc := 96) dX11_hosts_96 rfl ?_
          refine M_iconst (pc := 98) (v := 2) dX11_hosts_98 (by decide) ?_
          refine M_idiv (pc := 99) dX11_hosts_99 (by decide) ?_
          refine M_iload (pc := 100) dX11_hosts_100 rfl ?_
          refine M_iload_n (pc := 102) dX11_hosts_102 rfl ?_
          refine M_isub (pc := 103) dX11_hosts_103 ?_
          refine M_icmp_lt (pc := 104) (tgt := 111) dX11_hosts_104 (by decide) (fun hc66 => ?_) (fun hc66 => ?_)
          · have h := (if_pos hc66).symm.trans h
            refine M_iconst (pc := 111) (v := 0) dX11_hosts_111 (by decide) ?_
            refine M_istore (pc := 112) (ls' := [some (.ref 1), some (.int x1), some (.int x2), some (.int (2 : Int32)), some (.int r62.1), some (.int r64.1), some (.int (0 : Int32)), none, none]) dX11_hosts_112 (by decide) rfl ?_
            refine M_iload (pc := 114) dX11_hosts_114 rfl ?_
            refine M_iconst (pc := 116) (v := 2) dX11_hosts_116 (by decide) ?_
            refine M_idiv (pc := 117) dX11_hosts_117 (by decide) ?_
            refine M_iload (pc := 118) dX11_hosts_118 rfl ?_
            refine M_iload_n (pc := 120) dX11_hosts_120 rfl ?_
            refine M_isub (pc := 121) dX11_hosts_121 ?_
            refine M_icmp_lt (pc := 122) (tgt := 129) dX11_hosts_122 (by decide) (fun hc67 => ?_) (fun hc67 => ?_)
            · have h := (if_pos hc67).symm.trans h
              refine M_iconst (pc := 129) (v := 0) dX11_hosts_129 (by decide) ?_
              refine M_istore (pc := 130) (ls' := [some (.ref 1), some (.int x1), some (.int x2), some (.int (2 : Int32)), some (.int r62.1), some (.int r64.1), some (.int (0 : Int32)), some (.int (0 : Int32)), none]) dX11_hosts_130 (by decide) rfl ?_
              refine M_iload (pc := 132) dX11_hosts_132 rfl ?_
              refine M_iload_n (pc := 134) dX11_hosts_134 rfl ?_
              refine M_isub (pc := 135) dX11_hosts_135 ?_
              refine M_iload (pc := 136) dX11_hosts_136 rfl ?_
              refine M_iconst (pc := 138) (v := 2) dX11_hosts_138 (by decide) ?_
              refine M_idiv (pc := 139) dX11_hosts_139 (by decide) ?_
              refine M_icmp_lt (pc := 140) (tgt := 158) dX11_hosts_140 (by decide) (fun hc68 => ?_) (fun hc68 => ?_)
              · have h := (if_pos hc68).symm.trans h
                refine M_iconst (pc := 158) (v := 0) dX11_hosts_158 (by decide) ?_
                refine M_istore (pc := 159) (ls' := [some (.ref 1), some (.int x1), some (.int x2), some (.int (2 : Int32)), some (.int r62.1), some (.int r64.1), some (.int (0 : Int32)), some (.int (0 : Int32)), some (.int (0 : Int32))]) dX11_hosts_159 (by decide) rfl ?_
                refine M_iload (pc := 161) dX11_hosts_161 rfl ?_
                refine M_if_eq (pc := 163) (tgt := 170) dX11_hosts_163 (by decide) (fun hc69 => ?_) (fun hc69 => absurd hc69 (by decide))
                refine M_iconst (pc := 170) (v := 0) dX11_hosts_170 (by decide) ?_
                refine M_iload (pc := 171) dX11_hosts_171 rfl ?_
                refine M_if_eq (pc := 173) (tgt := 181) dX11_hosts_173 (by decide) (fun hc70 => ?_) (fun hc70 => absurd hc70 (by decide))
                refine M_iconst (pc := 181) (v := 0) dX11_hosts_181 (by decide) ?_
                refine M_ior (pc := 182) dX11_hosts_182 ?_
                refine M_iload (pc := 183) dX11_hosts_183 rfl ?_
                refine M_if_eq (pc := 185) (tgt := 193) dX11_hosts_185 (by decide) (fun hc71 => ?_) (fun hc71 => absurd hc71 (by decide))
                refine M_iconst (pc := 193) (v := 0) dX11_hosts_193 (by decide) ?_
                refine M_ior (pc := 194) dX11_hosts_194 ?_
                obtain rfl := Option.some.inj h
                exact M_iret (pc := 195) dX11_hosts_195 rfl rfl rfl rfl
              · have h := (if_neg hc68).symm.trans h
                refine M_iload (pc := 143) dX11_hosts_143 rfl ?_
                refine M_iload_n (pc := 145) dX11_hosts_145 rfl ?_
                refine M_isub (pc := 146) dX11_hosts_146 ?_
                refine M_iload (pc := 147) dX11_hosts_147 rfl ?_
                refine M_iconst (pc := 149) (v := 2) dX11_hosts_149 (by decide) ?_
                refine M_idiv (pc := 150) dX11_hosts_150 (by decide) ?_
                refine M_icmp_lt (pc := 151) (tgt := 158) dX11_hosts_151 (by decide) (fun hc72 => ?_) (fun hc72 => ?_)
                · have h := (if_pos hc72).symm.trans h
                  refine M_iconst (pc := 158) (v := 0) dX11_hosts_158 (by decide) ?_
                  refine M_istore (pc := 159) (ls' := [some (.ref 1), some (.int x1), some (.int x2), some (.int (2 : Int32)), some (.int r62.1), some (.int r64.1), some (.int (0 : Int32)), some (.int (0 : Int32)), some (.int (0 : Int32))]) dX11_hosts_159 (by decide) rfl ?_
                  refine M_iload (pc := 161) dX11_hosts_161 rfl ?_
                  refine M_if_eq (pc := 163) (tgt := 170) dX11_hosts_163 (by decide) (fun hc73 => ?_) (fun hc73 => absurd hc73 (by decide))
                  refine M_iconst (pc := 170) (v := 0) dX11_hosts_170 (by decide) ?_
                  refine M_iload (pc := 171) dX11_hosts_171 rfl ?_
                  refine M_if_eq (pc := 173) (tgt := 181) dX11_hosts_173 (by decide) (fun hc74 => ?_) (fun hc74 => absurd hc74 (by decide))
                  refine M_iconst (pc := 181) (v := 0) dX11_hosts_181 (by decide) ?_
                  refine M_ior (pc := 182) dX11_hosts_182 ?_
                  refine M_iload (pc := 183) dX11_hosts_183 rfl ?_
                  refine M_if_eq (pc := 185) (tgt := 193) dX11_hosts_185 (by decide) (fun hc75 => ?_) (fun hc75 => absurd hc75 (by decide))
                  refine M_iconst (pc := 193) (v := 0) dX11_hosts_193 (by decide) ?_
                  refine M_ior (pc := 194) dX11_hosts_194 ?_
                  obtain rfl := Option.some.inj h
                  exact M_iret (pc := 195) dX11_hosts_195 rfl rfl rfl rfl
                · have h := (if_neg hc72).symm.trans h
                  refine M_iconst (pc := 154) (v := 1) dX11_hosts_154 (by decide) ?_
                  refine M_goto (pc := 155) (tgt := 159) dX11_hosts_155 (by decide) ?_
                  refine M_istore (pc := 159) (ls' := [some (.ref 1), some (.int x1), some (.int x2), some (.int (2 : Int32)), some (.int r62.1), some (.int r64.1), some (.int (0 : Int32)), some (.int (0 : Int32)), some (.int (1 : Int32))]) dX11_hosts_159 (by decide) rfl ?_
                  refine M_iload (pc := 161) dX11_hosts_161 rfl ?_
                  refine M_if_eq (pc := 163) (tgt := 170) dX11_hosts_163 (by decide) (fun hc76 => ?_) (fun hc76 => absurd hc76 (by decide))
                  refine M_iconst (pc := 170) (v := 0) dX11_hosts_170 (by decide) ?_
                  refine M_iload (pc := 171) dX11_hosts_171 rfl ?_
                  refine M_if_eq (pc := 173) (tgt := 181) dX11_hosts_173 (by decide) (fun hc77 => absurd hc77 (by decide)) (fun hc77 => ?_)
                  refine M_bipush (pc := 176) (v := 6) dX11_hosts_176 (by decide) ?_
                  refine M_goto (pc := 178) (tgt := 182) dX11_hosts_178 (by decide) ?_
                  refine M_ior (pc := 182) dX11_hosts_182 ?_
                  refine M_iload (pc := 183) dX11_hosts_183 rfl ?_
                  refine M_if_eq (pc := 185) (tgt := 193) dX11_hosts_185 (by decide) (fun hc78 => ?_) (fun hc78 => absurd hc78 (by decide))
                  refine M_iconst (pc := 193) (v := 0) dX11_hosts_193 (by decide) ?_
                  refine M_ior (pc := 194) dX11_hosts_194 ?_
                  obtain rfl := Option.some.inj h
                  exact M_iret (pc := 195) dX11_hosts_195 rfl rfl rfl rfl
            · have h := (if_neg hc67).symm.trans h
              refine M_iconst (pc := 125) (v := 1) dX11_hosts_125 (by decide) ?_
              refine M_goto (pc := 126) (tgt := 130) dX11_hosts_126 (by decide) ?_
              refine M_istore (pc := 130) (ls' := [some (.ref 1), some (.int x1), some (.int x2), some (.int (2 : Int32)), some (.int r62.1), some (.int r64.1), some (.int (0 : Int32)), some (.int (1 : Int32)), none]) dX11_hosts_130 (by decide) rfl ?_
              refine M_iload (pc := 132) dX11_hosts_132 rfl ?_
              refine M_iload_n (pc := 134) dX11_hosts_134 rfl ?_
              refine M_isub (pc := 135) dX11_hosts_135 ?_
              refine M_iload (pc := 136) dX11_hosts_136 rfl ?_
              refine M_iconst (pc := 138) (v := 2) dX11_hosts_138 (by decide) ?_
              refine M_idiv (pc := 139) dX11_hosts_139 (by decide) ?_
              refine M_icmp_lt (pc := 140) (tgt := 158) dX11_hosts_140 (by decide) (fun hc79 => ?_) (fun hc79 => ?_)
              · have h := (if_pos hc79).symm.trans h
                refine M_iconst (pc := 158) (v := 0) dX11_hosts_158 (by decide) ?_
                refine M_istore (pc := 159) (ls' := [some (.ref 1), some (.int x1), some (.int x2), some (.int (2 : Int32)), some (.int r62.1), some (.int r64.1), some (.int (0 : Int32)), some (.int (1 : Int32)), some (.int (0 : Int32))]) dX11_hosts_159 (by decide) rfl ?_
                refine M_iload (pc := 161) dX11_hosts_161 rfl ?_
                refine M_if_eq (pc := 163) (tgt := 170) dX11_hosts_163 (by decide) (fun hc80 => ?_) (fun hc80 => absurd hc80 (by decide))
                refine M_iconst (pc := 170) (v := 0) dX11_hosts_170 (by decide) ?_
                refine M_iload (pc := 171) dX11_hosts_171 rfl ?_
                refine M_if_eq (pc := 173) (tgt := 181) dX11_hosts_173 (by decide) (fun hc81 => ?_) (fun hc81 => absurd hc81 (by decide))
                refine M_iconst (pc := 181) (v := 0) dX11_hosts_181 (by decide) ?_
                refine M_ior (pc := 182) dX11_hosts_182 ?_
                refine M_iload (pc := 183) dX11_hosts_183 rfl ?_
                refine M_if_eq (pc := 185) (tgt := 193) dX11_hosts_185 (by decide) (fun hc82 => absurd hc82 (by decide)) (fun hc82 => ?_)
                refine M_bipush (pc := 188) (v := 8) dX11_hosts_188 (by decide) ?_
                refine M_goto (pc := 190) (tgt := 194) dX11_hosts_190 (by decide) ?_
                refine M_ior (pc := 194) dX11_hosts_194 ?_
                obtain rfl := Option.some.inj h
                exact M_iret (pc := 195) dX11_hosts_195 rfl rfl rfl rfl
              · have h := (if_neg hc79).symm.trans h
                refine M_iload (pc := 143) dX11_hosts_143 rfl ?_
                refine M_iload_n (pc := 145) dX11_hosts_145 rfl ?_
                refine M_isub (pc := 146) dX11_hosts_146 ?_
                refine M_iload (pc := 147) dX11_hosts_147 rfl ?_
                refine M_iconst (pc := 149) (v := 2) dX11_hosts_149 (by decide) ?_
                refine M_idiv (pc := 150) dX11_hosts_150 (by decide) ?_
                refine M_icmp_lt (pc := 151) (tgt := 158) dX11_hosts_151 (by decide) (fun hc83 => ?_) (fun hc83 => ?_)
                · have h := (if_pos hc83).symm.trans h
                  refine M_iconst (pc := 158) (v := 0) dX11_hosts_158 (by decide) ?_
                  refine M_istore (pc := 159) (ls' := [some (.ref 1), some (.int x1), some (.int x2), some (.int (2 : Int32)), some (.int r62.1), some (.int r64.1), some (.int (0 : Int32)), some (.int (1 : Int32)), some (.int (0 : Int32))]) dX11_hosts_159 (by decide) rfl ?_
                  refine M_iload (pc := 161) dX11_hosts_161 rfl ?_
                  refine M_if_eq (pc := 163) (tgt := 170) dX11_hosts_163 (by decide) (fun hc84 => ?_) (fun hc84 => absurd hc84 (by decide))
                  refine M_iconst (pc := 170) (v := 0) dX11_hosts_170 (by decide) ?_
                  refine M_iload (pc := 171) dX11_hosts_171 rfl ?_
                  refine M_if_eq (pc := 173) (tgt := 181) dX11_hosts_173 (by decide) (fun hc85 => ?_) (fun hc85 => absurd hc85 (by decide))
                  refine M_iconst (pc := 181) (v := 0) dX11_hosts_181 (by decide) ?_
                  refine M_ior (pc := 182) dX11_hosts_182 ?_
                  refine M_iload (pc := 183) dX11_hosts_183 rfl ?_
                  refine M_if_eq (pc := 185) (tgt := 193) dX11_hosts_185 (by decide) (fun hc86 => absurd hc86 (by decide)) (fun hc86 => ?_)
                  refine M_bipush (pc := 188) (v := 8) dX11_hosts_188 (by decide) ?_
                  refine M_goto (pc := 190) (tgt := 194) dX11_hosts_190 (by decide) ?_
                  refine M_ior (pc := 194) dX11_hosts_194 ?_
                  obtain rfl := Option.some.inj h
                  exact M_iret (pc := 195) dX11_hosts_195 rfl rfl rfl rfl
                · have h := (if_neg hc83).symm.trans h
                  refine M_iconst (pc := 154) (v := 1) dX11_hosts_154 (by decide) ?_
                  refine M_goto (pc := 155) (tgt := 159) dX11_hosts_155 (by decide) ?_
                  refine M_istore (pc := 159) (ls' := [some (.ref 1), some (.int x1), some (.int x2), some (.int (2 : Int32)), some (.int r62.1), some (.int r64.1), some (.int (0 : Int32)), some (.int (1 : Int32)), some (.int (1 : Int32))]) dX11_hosts_159 (by decide) rfl ?_
                  refine M_iload (pc := 161) dX11_hosts_161 rfl ?_
                  refine M_if_eq (pc := 163) (tgt := 170) dX11_hosts_163 (by decide) (fun hc87 => ?_) (fun hc87 => absurd hc87 (by decide))
                  refine M_iconst (pc := 170) (v := 0) dX11_hosts_170 (by decide) ?_
                  refine M_iload (pc := 171) dX11_hosts_171 rfl ?_
                  refine M_if_eq (pc := 173) (tgt := 181) dX11_hosts_173 (by decide) (fun hc88 => absurd hc88 (by decide)) (fun hc88 => ?_)
                  refine M_bipush (pc := 176) (v := 6) dX11_hosts_176 (by decide) ?_
                  refine M_goto (pc := 178) (tgt := 182) dX11_hosts_178 (by decide) ?_
                  refine M_ior (pc := 182) dX11_hosts_182 ?_
                  refine M_iload (pc := 183) dX11_hosts_183 rfl ?_
                  refine M_if_eq (pc := 185) (tgt := 193) dX11_hosts_185 (by decide) (fun hc89 => absurd hc89 (by decide)) (fun hc89 => ?_)
                  refine M_bipush (pc := 188) (v := 8) dX11_hosts_188 (by decide) ?_
                  refine M_goto (pc := 190) (tgt := 194) dX11_hosts_190 (by decide) ?_
                  refine M_ior (pc := 194) dX11_hosts_194 ?_
                  obtain rfl := Option.some.inj h
                  exact M_iret (pc := 195) dX11_hosts_195 rfl rfl rfl rfl
          · have h := (if_neg hc66).symm.trans h
            refine M_iconst (pc := 107) (v := 1) dX11_hosts_107 (by decide) ?_
            refine M_goto (pc := 108) (tgt := 112) dX11_hosts_108 (by decide) ?_
            refine M_istore (pc := 112) (ls' := [some (.ref 1), some (.int x1), some (.int x2), some (.int (2 : Int32)), some (.int r62.1), some (.int r64.1), some (.int (1 : Int32)), none, none]) dX11_hosts_112 (by decide) rfl ?_
            refine M_iload (pc := 114) dX11_hosts_114 rfl ?_
            refine M_iconst (pc := 116) (v := 2) dX11_hosts_116 (by decide) ?_
            refine M_idiv (pc := 117) dX11_hosts_117 (by decide) ?_
            refine M_iload (pc := 118) dX11_hosts_118 rfl ?_
            refine M_iload_n (pc := 120) dX11_hosts_120 rfl ?_
            refine M_isub (pc := 121) dX11_hosts_121 ?_
            refine M_icmp_lt (pc := 122) (tgt := 129) dX11_hosts_122 (by decide) (fun hc90 => ?_) (fun hc90 => ?_)
            · have h := (if_pos hc90).symm.trans h
              refine M_iconst (pc := 129) (v := 0) dX11_hosts_129 (by decide) ?_
              refine M_istore (pc := 130) (ls' := [some (.ref 1), some (.int x1), some (.int x2), some (.int (2 : Int32)), some (.int r62.1), some (.int r64.1), some (.int (1 : Int32)), some (.int (0 : Int32)), none]) dX11_hosts_130 (by decide) rfl ?_
              refine M_iload (pc := 132) dX11_hosts_132 rfl ?_
              refine M_iload_n (pc := 134) dX11_hosts_134 rfl ?_
              refine M_isub (pc := 135) dX11_hosts_135 ?_
              refine M_iload (pc := 136) dX11_hosts_136 rfl ?_
              refine M_iconst (pc := 138) (v := 2) dX11_hosts_138 (by decide) ?_
              refine M_idiv (pc := 139) dX11_hosts_139 (by decide) ?_
              refine M_icmp_lt (pc := 140) (tgt := 158) dX11_hosts_140 (by decide) (fun hc91 => ?_) (fun hc91 => ?_)
              · have h := (if_pos hc91).symm.trans h
                refine M_iconst (pc := 158) (v := 0) dX11_hosts_158 (by decide) ?_
                refine M_istore (pc := 159) (ls' := [some (.ref 1), some (.int x1), some (.int x2), some (.int (2 : Int32)), some (.int r62.1), some (.int r64.1), some (.int (1 : Int32)), some (.int (0 : Int32)), some (.int (0 : Int32))]) dX11_hosts_159 (by decide) rfl ?_
                refine M_iload (pc := 161) dX11_hosts_161 rfl ?_
                refine M_if_eq (pc := 163) (tgt := 170) dX11_hosts_163 (by decide) (fun hc92 => absurd hc92 (by decide)) (fun hc92 => ?_)
                refine M_iconst (pc := 166) (v := 1) dX11_hosts_166 (by decide) ?_
                refine M_goto (pc := 167) (tgt := 171) dX11_hosts_167 (by decide) ?_
                refine M_iload (pc := 171) dX11_hosts_171 rfl ?_
                refine M_if_eq (pc := 173) (tgt := 181) dX11_hosts_173 (by decide) (fun hc93 => ?_) (fun hc93 => absurd hc93 (by decide))
                refine M_iconst (pc := 181) (v := 0) dX11_hosts_181 (by decide) ?_
                refine M_ior (pc := 182) dX11_hosts_182 ?_
                refine M_iload (pc := 183) dX11_hosts_183 rfl ?_
                refine M_if_eq (pc := 185) (tgt := 193) dX11_hosts_185 (by decide) (fun hc94 => ?_) (fun hc94 => absurd hc94 (by decide))
                refine M_iconst (pc := 193) (v := 0) dX11_hosts_193 (by decide) ?_
                refine M_ior (pc := 194) dX11_hosts_194 ?_
                obtain rfl := Option.some.inj h
                exact M_iret (pc := 195) dX11_hosts_195 rfl rfl rfl rfl
              · have h := (if_neg hc91).symm.trans h
                refine M_iload (pc := 143) dX11_hosts_143 rfl ?_
                refine M_iload_n (pc := 145) dX11_hosts_145 rfl ?_
                refine M_isub (pc := 146) dX11_hosts_146 ?_
                refine M_iload (pc := 147) dX11_hosts_147 rfl ?_
                refine M_iconst (pc := 149) (v := 2) dX11_hosts_149 (by decide) ?_
                refine M_idiv (pc := 150) dX11_hosts_150 (by decide) ?_
                refine M_icmp_lt (pc := 151) (tgt := 158) dX11_hosts_151 (by decide) (fun hc95 => ?_) (fun hc95 => ?_)
                · have h := (if_pos hc95).symm.trans h
                  refine M_iconst (pc := 158) (v := 0) dX11_hosts_158 (by decide) ?_
                  refine M_istore (pc := 159) (ls' := [some (.ref 1), some (.int x1), some (.int x2), some (.int (2 : Int32)), some (.int r62.1), some (.int r64.1), some (.int (1 : Int32)), some (.int (0 : Int32)), some (.int (0 : Int32))]) dX11_hosts_159 (by decide) rfl ?_
                  refine M_iload (pc := 161) dX11_hosts_161 rfl ?_
                  refine M_if_eq (pc := 163) (tgt := 170) dX11_hosts_163 (by decide) (fun hc96 => absurd hc96 (by decide)) (fun hc96 => ?_)
                  refine M_iconst (pc := 166) (v := 1) dX11_hosts_166 (by decide) ?_
                  refine M_goto (pc := 167) (tgt := 171) dX11_hosts_167 (by decide) ?_
                  refine M_iload (pc := 171) dX11_hosts_171 rfl ?_
                  refine M_if_eq (pc := 173) (tgt := 181) dX11_hosts_173 (by decide) (fun hc97 => ?_) (fun hc97 => absurd hc97 (by decide))
                  refine M_iconst (pc := 181) (v := 0) dX11_hosts_181 (by decide) ?_
                  refine M_ior (pc := 182) dX11_hosts_182 ?_
                  refine M_iload (pc := 183) dX11_hosts_183 rfl ?_
                  refine M_if_eq (pc := 185) (tgt := 193) dX11_hosts_185 (by decide) (fun hc98 => ?_) (fun hc98 => absurd hc98 (by decide))
                  refine M_iconst (pc := 193) (v := 0) dX11_hosts_193 (by decide) ?_
                  refine M_ior (pc := 194) dX11_hosts_194 ?_
                  obtain rfl := Option.some.inj h
                  exact M_iret (pc := 195) dX11_hosts_195 rfl rfl rfl rfl
                · have h := (if_neg hc95).symm.trans h
                  refine M_iconst (pc := 154) (v := 1) dX11_hosts_154 (by decide) ?_
                  refine M_goto (pc := 155) (tgt := 159) dX11_hosts_155 (by decide) ?_
                  refine M_istore (pc := 159) (ls' := [some (.ref 1), some (.int x1), some (.int x2), some (.int (2 : Int32)), some (.int r62.1), some (.int r64.1), some (.int (1 : Int32)), some (.int (0 : Int32)), some (.int (1 : Int32))]) dX11_hosts_159 (by decide) rfl ?_
                  refine M_iload (pc := 161) dX11_hosts_161 rfl ?_
                  refine M_if_eq (pc := 163) (tgt := 170) dX11_hosts_163 (by decide) (fun hc99 => absurd hc99 (by decide)) (fun hc99 => ?_)
                  refine M_iconst (pc := 166) (v := 1) dX11_hosts_166 (by decide) ?_
                  refine M_goto (pc := 167) (tgt := 171) dX11_hosts_167 (by decide) ?_
                  refine M_iload (pc := 171) dX11_hosts_171 rfl ?_
                  refine M_if_eq (pc := 173) (tgt := 181) dX11_hosts_173 (by decide) (fun hc100 => absurd hc100 (by decide)) (fun hc100 => ?_)
                  refine M_bipush (pc := 176) (v := 6) dX11_hosts_176 (by decide) ?_
                  refine M_goto (pc := 178) (tgt := 182) dX11_hosts_178 (by decide) ?_
                  refine M_ior (pc := 182) dX11_hosts_182 ?_
                  refine M_iload (pc := 183) dX11_hosts_183 rfl ?_
                  refine M_if_eq (pc := 185) (tgt := 193) dX11_hosts_185 (by decide) (fun hc101 => ?_) (fun hc101 => absurd hc101 (by decide))
                  refine M_iconst (pc := 193) (v := 0) dX11_hosts_193 (by decide) ?_
                  refine M_ior (pc := 194) dX11_hosts_194 ?_
                  obtain rfl := Option.some.inj h
                  exact M_iret (pc := 195) dX11_hosts_195 rfl rfl rfl rfl
            · have h := (if_neg hc90).symm.trans h
              refine M_iconst (pc := 125) (v := 1) dX11_hosts_125 (by decide) ?_
              refine M_goto (pc := 126) (tgt := 130) dX11_hosts_126 (by decide) ?_
              refine M_istore (pc := 130) (ls' := [some (.ref 1), some (.int x1), some (.int x2), some (.int (2 : Int32)), some (.int r62.1), some (.int r64.1), some (.int (1 : Int32)), some (.int (1 : Int32)), none]) dX11_hosts_130 (by decide) rfl ?_
              refine M_iload (pc := 132) dX11_hosts_132 rfl ?_
              refine M_iload_n (pc := 134) dX11_hosts_134 rfl ?_
              refine M_isub (pc := 135) dX11_hosts_135 ?_
              refine M_iload (pc := 136) dX11_hosts_136 rfl ?_
              refine M_iconst (pc := 138) (v := 2) dX11_hosts_138 (by decide) ?_
              refine M_idiv (pc := 139) dX11_hosts_139 (by decide) ?_
              refine M_icmp_lt (pc := 140) (tgt := 158) dX11_hosts_140 (by decide) (fun hc102 => ?_) (fun hc102 => ?_)
              · have h := (if_pos hc102).symm.trans h
                refine M_iconst (pc := 158) (v := 0) dX11_hosts_158 (by decide) ?_
                refine M_istore (pc := 159) (ls' := [some (.ref 1), some (.int x1), some (.int x2), some (.int (2 : Int32)), some (.int r62.1), some (.int r64.1), some (.int (1 : Int32)), some (.int (1 : Int32)), some (.int (0 : Int32))]) dX11_hosts_159 (by decide) rfl ?_
                refine M_iload (pc := 161) dX11_hosts_161 rfl ?_
                refine M_if_eq (pc := 163) (tgt := 170) dX11_hosts_163 (by decide) (fun hc103 => absurd hc103 (by decide)) (fun hc103 => ?_)
                refine M_iconst (pc := 166) (v := 1) dX11_hosts_166 (by decide) ?_
                refine M_goto (pc := 167) (tgt := 171) dX11_hosts_167 (by decide) ?_
                refine M_iload (pc := 171) dX11_hosts_171 rfl ?_
                refine M_if_eq (pc := 173) (tgt := 181) dX11_hosts_173 (by decide) (fun hc104 => ?_) (fun hc104 => absurd hc104 (by decide))
                refine M_iconst (pc := 181) (v := 0) dX11_hosts_181 (by decide) ?_
                refine M_ior (pc := 182) dX11_hosts_182 ?_
                refine M_iload (pc := 183) dX11_hosts_183 rfl ?_
                refine M_if_eq (pc := 185) (tgt := 193) dX11_hosts_185 (by decide) (fun hc105 => absurd hc105 (by decide)) (fun hc105 => ?_)
                refine M_bipush (pc := 188) (v := 8) dX11_hosts_188 (by decide) ?_
                refine M_goto (pc := 190) (tgt := 194) dX11_hosts_190 (by decide) ?_
                refine M_ior (pc := 194) dX11_hosts_194 ?_
                obtain rfl := Option.some.inj h
                exact M_iret (pc := 195) dX11_hosts_195 rfl rfl rfl rfl
              · have h := (if_neg hc102).symm.trans h
                refine M_iload (pc := 143) dX11_hosts_143 rfl ?_
                refine M_iload_n (pc := 145) dX11_hosts_145 rfl ?_
                refine M_isub (pc := 146) dX11_hosts_146 ?_
                refine M_iload (pc := 147) dX11_hosts_147 rfl ?_
                refine M_iconst (pc := 149) (v := 2) dX11_hosts_149 (by decide) ?_
                refine M_idiv (pc := 150) dX11_hosts_150 (by decide) ?_
                refine M_icmp_lt (pc := 151) (tgt := 158) dX11_hosts_151 (by decide) (fun hc106 => ?_) (fun hc106 => ?_)
                · have h := (if_pos hc106).symm.trans h
                  refine M_iconst (pc := 158) (v := 0) dX11_hosts_158 (by decide) ?_
                  refine M_istore (pc := 159) (ls' := [some (.ref 1), some (.int x1), some (.int x2), some (.int (2 : Int32)), some (.int r62.1), some (.int r64.1), some (.int (1 : Int32)), some (.int (1 : Int32)), some (.int (0 : Int32))]) dX11_hosts_159 (by decide) rfl ?_
                  refine M_iload (pc := 161) dX11_hosts_161 rfl ?_
                  refine M_if_eq (pc := 163) (tgt := 170) dX11_hosts_163 (by decide) (fun hc107 => absurd hc107 (by decide)) (fun hc107 => ?_)
                  refine M_iconst (pc := 166) (v := 1) dX11_hosts_166 (by decide) ?_
                  refine M_goto (pc := 167) (tgt := 171) dX11_hosts_167 (by decide) ?_
                  refine M_iload (pc := 171) dX11_hosts_171 rfl ?_
                  refine M_if_eq (pc := 173) (tgt := 181) dX11_hosts_173 (by decide) (fun hc108 => ?_) (fun hc108 => absurd hc108 (by decide))
                  refine M_iconst (pc := 181) (v := 0) dX11_hosts_181 (by decide) ?_
                  refine M_ior (pc := 182) dX11_hosts_182 ?_
                  refine M_iload (pc := 183) dX11_hosts_183 rfl ?_
                  refine M_if_eq (pc := 185) (tgt := 193) dX11_hosts_185 (by decide) (fun hc109 => absurd hc109 (by decide)) (fun hc109 => ?_)
                  refine M_bipush (pc := 188) (v := 8) dX11_hosts_188 (by decide) ?_
                  refine M_goto (pc := 190) (tgt := 194) dX11_hosts_190 (by decide) ?_
                  refine M_ior (pc := 194) dX11_hosts_194 ?_
                  obtain rfl := Option.some.inj h
                  exact M_iret (pc := 195) dX11_hosts_195 rfl rfl rfl rfl
                · have h := (if_neg hc106).symm.trans h
                  refine M_iconst (pc := 154) (v := 1) dX11_hosts_154 (by decide) ?_
                  refine M_goto (pc := 155) (tgt := 159) dX11_hosts_155 (by decide) ?_
                  refine M_istore (pc := 159) (ls' := [some (.ref 1), some (.int x1), some (.int x2), some (.int (2 : Int32)), some (.int r62.1), some (.int r64.1), some (.int (1 : Int32)), some (.int (1 : Int32)), some (.int (1 : Int32))]) dX11_hosts_159 (by decide) rfl ?_
                  refine M_iload (pc := 161) dX11_hosts_161 rfl ?_
                  refine M_if_eq (pc := 163) (tgt := 170) dX11_hosts_163 (by decide) (fun hc110 => absurd hc110 (by decide)) (fun hc110 => ?_)
                  refine M_iconst (pc := 166) (v := 1) dX11_hosts_166 (by decide) ?_
                  refine M_goto (pc := 167) (tgt := 171) dX11_hosts_167 (by decide) ?_
                  refine M_iload (pc := 171) dX11_hosts_171 rfl ?_
                  refine M_if_eq (pc := 173) (tgt := 181) dX11_hosts_173 (by decide) (fun hc111 => absurd hc111 (by decide)) (fun hc111 => ?_)
                  refine M_bipush (pc := 176) (v := 6) dX11_hosts_176 (by decide) ?_
                  refine M_goto (pc := 178) (tgt := 182) dX11_hosts_178 (by decide) ?_
                  refine M_ior (pc := 182) dX11_hosts_182 ?_
                  refine M_iload (pc := 183) dX11_hosts_183 rfl ?_
                  refine M_if_eq (pc := 185) (tgt := 193) dX11_hosts_185 (by decide) (fun hc112 => absurd hc112 (by decide)) (fun hc112 => ?_)
                  refine M_bipush (pc := 188) (v := 8) dX11_hosts_188 (by decide) ?_
                  refine M_goto (pc := 190) (tgt := 194) dX11_hosts_190 (by decide) ?_
                  refine M_ior (pc := 194) dX11_hosts_194 ?_
                  obtain rfl := Option.some.inj h
                  exact M_iret (pc := 195) dX11_hosts_195 rfl rfl rfl rfl
      · have h := (if_pos hc7).symm.trans h
        obtain rfl := Option.some.inj h
        exact M_throwW (pc := 43) dX11_hosts_43 dX11_hosts_46 dX11_hosts_47 dX11_hosts_50 dX11_hosts_53 x_X11_118 (j := 19) (by decide) str_X11_371 rfl rfl
    · have h := (if_pos hc6).symm.trans h
      obtain rfl := Option.some.inj h
      exact M_throw (pc := 28) dX11_hosts_28 dX11_hosts_31 dX11_hosts_32 dX11_hosts_34 dX11_hosts_37 x_X11_158 (j := 3) (by decide) str_X11_160 rfl rfl
def F_X11_dish (I : HI) (x1 : Int32) (x2 : Int32) : Option ((Int32 ⊕ String) × HI) :=
  (F_X1_has I 4 x1) >>= fun r1 => if r1 = 0 then some ((Sum.inr "java/lang/IndexOutOfBoundsException"), I) else if x2 < 0 then some ((Sum.inr "java/util/NoSuchElementException"), I) else if x2 ≤ (10 : Int32) then if (5 : Int32) ≤ x2 then if x2 = (5 : Int32) then (ald 12 (I 6) x1) >>= fun v8 => some ((Sum.inl v8), I) else if x2 = (6 : Int32) then (ald 12 (I 7) x1) >>= fun v11 => some ((Sum.inl v11), I) else if x2 = (7 : Int32) then (ald 12 (I 8) x1) >>= fun v14 => some ((Sum.inl v14), I) else if x2 = (8 : Int32) then (F_X1_calledUp I 4 x1 (I 3 7)) >>= fun r17 => some ((Sum.inl r17), I) else if x2 = (9 : Int32) then (F_X11_turnsNow I x1) >>= fun r20 => some ((Sum.inl r20.1), r20.2) else (F_X11_paysNow I x1) >>= fun r22 => some ((Sum.inl r22.1), r22.2) else (ald 60 (I 5) ((x1 * (5 : Int32)) + x2)) >>= fun v24 => some ((Sum.inl v24), I) else some ((Sum.inr "java/util/NoSuchElementException"), I)
set_option maxRecDepth 4000 in
set_option maxHeartbeats 4000000 in
theorem C_X11_dish {g : gX} {d : Nat} {P : Nat → Nat → Option Nat} {I : HI} {x1 : Int32} {x2 : Int32} {J : HJ} (hp : Wp P) {r : (Int32 ⊕ String) × HI} (h : F_X11_dish I x1 x2 = some r) : Cx g mX11_dish (d + 6) [.ref 1, .int x1, .int x2] (NT, I, J, P) ((thr_i r.1), (NT, r.2, J, P)) := by
  unfold F_X11_dish at h
  refine Cx.of (by decide) (by simp [Value.category]) (Nat.le_of_ble_eq_true rfl) (Nat.le_refl _) (ls := [some (.ref 1), some (.int x1), some (.int x2)]) rfl ?_
  refine M_aload_n (pc := 0) dX11_dish_0 rfl ?_
  refine M_getR (pc := 1) dX11_dish_1 f_X11_23 at_10 (gr_10_3 hp at_10).1 ?_
  refine M_getR (pc := 4) dX11_dish_4 f_X11_148 (gr_10_3 hp at_10).2 (gr_3_0 hp (gr_10_3 hp at_10).2).1 ?_
  refine M_iload_n (pc := 7) dX11_dish_7 rfl ?_
  obtain ⟨r1, hr2, h⟩ := bnd h
  refine M_callVi (pc := 8) dX11_dish_8 v_X11_152 rfl rfl (gr_3_0 hp (gr_10_3 hp at_10).2).2 (Nat.le_of_ble_eq_true rfl) (C_X1_has (d := d + 5) hp (gr_3_0 hp (gr_10_3 hp at_10).2).2 hr2) (Nat.le_refl _) ?_
  refine M_if_ne (pc := 11) (tgt := 24) dX11_dish_11 (by decide) (fun hc3 => ?_) (fun hc3 => ?_)
  · have h := (if_neg hc3).symm.trans h
    refine M_iload_n (pc := 24) dX11_dish_24 rfl ?_
    refine M_if_lt (pc := 25) (tgt := 34) dX11_dish_25 (by decide) (fun hc4 => ?_) (fun hc4 => ?_)
    · have h := (if_pos hc4).symm.trans h
      obtain rfl := Option.some.inj h
      exact M_throw (pc := 34) dX11_dish_34 dX11_dish_37 dX11_dish_38 dX11_dish_40 dX11_dish_43 x_X11_163 (j := 4) (by decide) str_X11_165 rfl rfl
    · have h := (if_neg hc4).symm.trans h
      refine M_iload_n (pc := 28) dX11_dish_28 rfl ?_
      refine M_bipush (pc := 29) (v := 10) dX11_dish_29 (by decide) ?_
      refine M_icmp_le (pc := 31) (tgt := 44) dX11_dish_31 (by decide) (fun hc5 => ?_) (fun hc5 => ?_)
      · have h := (if_pos hc5).symm.trans h
        refine M_iload_n (pc := 44) dX11_dish_44 rfl ?_
        refine M_iconst (pc := 45) (v := 5) dX11_dish_45 (by decide) ?_
        refine M_icmp_ge (pc := 46) (tgt := 66) dX11_dish_46 (by decide) (fun hc6 => ?_) (fun hc6 => ?_)
        · have h := (if_pos hc6).symm.trans h
          refine M_iload_n (pc := 66) dX11_dish_66 rfl ?_
          by_cases hc7 : x2 = (5 : Int32)
          · have h := (if_pos hc7).symm.trans h
            refine M_tableIn (pc := 67) (x := x2) (tgt := 100) dX11_dish_67 (by rw [hc7]; decide) (by rw [hc7]; decide) (by rw [hc7]; rfl) (by decide) ?_
            refine M_aload_n (pc := 100) dX11_dish_100 rfl ?_
            refine M_getR (pc := 101) dX11_dish_101 f_X11_23 at_10 (gr_10_3 hp at_10).1 ?_
            refine M_getR (pc := 104) dX11_dish_104 f_X11_148 (gr_10_3 hp at_10).2 (gr_3_0 hp (gr_10_3 hp at_10).2).1 ?_
            refine M_getR (pc := 107) dX11_dish_107 f_X11_171 (gr_3_0 hp (gr_10_3 hp at_10).2).2 (gr_1_2 hp (gr_3_0 hp (gr_10_3 hp at_10).2).2).1 ?_
            refine M_iload_n (pc := 110) dX11_dish_110 rfl ?_
            obtain ⟨v8, hv9, h⟩ := bnd h
            refine M_aldI (pc := 111) dX11_dish_111 (gr_1_2 hp (gr_3_0 hp (gr_10_3 hp at_10).2).2).2 hv9 ?_
            obtain rfl := Option.some.inj h
            exact M_iret (pc := 112) dX11_dish_112 rfl rfl rfl rfl
          have h := (if_neg hc7).symm.trans h
          by_cases hc10 : x2 = (6 : Int32)
          · have h := (if_pos hc10).symm.trans h
            refine M_tableIn (pc := 67) (x := x2) (tgt := 113) dX11_dish_67 (by rw [hc10]; decide) (by rw [hc10]; decide) (by rw [hc10]; rfl) (by decide) ?_
            refine M_aload_n (pc := 113) dX11_dish_113 rfl ?_
            refine M_getR (pc := 114) dX11_dish_114 f_X11_23 at_10 (gr_10_3 hp at_10).1 ?_
            refine M_getR (pc := 117) dX11_dish_117 f_X11_148 (gr_10_3 hp at_10).2 (gr_3_0 hp (gr_10_3 hp at_10).2).1 ?_
            refine M_getR (pc := 120) dX11_dish_120 f_X11_174 (gr_3_0 hp (gr_10_3 hp at_10).2).2 (gr_1_3 hp (gr_3_0 hp (gr_10_3 hp at_10).2).2).1 ?_
            refine M_iload_n (pc := 123) dX11_dish_123 rfl ?_
            obtain ⟨v11, hv12, h⟩ := bnd h
            refine M_aldI (pc := 124) dX11_dish_124 (gr_1_3 hp (gr_3_0 hp (gr_10_3 hp at_10).2).2).2 hv12 ?_
            obtain rfl := Option.some.inj h
            exact M_iret (pc := 125) dX11_dish_125 rfl rfl rfl rfl
          have h := (if_neg hc10).symm.trans h
          by_cases hc13 : x2 = (7 : Int32)
          · have h := (if_pos hc13).symm.trans h
            refine M_tableIn (pc := 67) (x := x2) (tgt := 126) dX11_dish_67 (by rw [hc13]; decide) (by rw [hc13]; decide) (by rw [hc13]; rfl) (by decide) ?_
            refine M_aload_n (pc := 126) dX11_dish_126 rfl ?_
            refine M_getR (pc := 127) dX11_dish_127 f_X11_23 at_10 (gr_10_3 hp at_10).1 ?_
            refine M_getR (pc := 130) dX11_dish_130 f_X11_148 (gr_10_3 hp at_10).2 (gr_3_0 hp (gr_10_3 hp at_10).2).1 ?_
            refine M_getR (pc := 133) dX11_dish_133 f_X11_177 (gr_3_0 hp (gr_10_3 hp at_10).2).2 (gr_1_4 hp (gr_3_0 hp (gr_10_3 hp at_10).2).2).1 ?_
            refine M_iload_n (pc := 136) dX11_dish_136 rfl ?_
            obtain ⟨v14, hv15, h⟩ := bnd h
            refine M_aldI (pc := 137) dX11_dish_137 (gr_1_4 hp (gr_3_0 hp (gr_10_3 hp at_10).2).2).2 hv15 ?_
            obtain rfl := Option.some.inj h
            exact M_iret (pc := 138) dX11_dish_138 rfl rfl rfl rfl
          have h := (if_neg hc13).symm.trans h
          by_cases hc16 : x2 = (8 : Int32)
          · have h := (if_pos hc16).symm.trans h
            refine M_tableIn (pc := 67) (x := x2) (tgt := 139) dX11_dish_67 (by rw [hc16]; decide) (by rw [hc16]; decide) (by rw [hc16]; rfl) (by decide) ?_
            refine M_aload_n (pc := 139) dX11_dish_139 rfl ?_
            refine M_getR (pc := 140) dX11_dish_140 f_X11_23 at_10 (gr_10_3 hp at_10).1 ?_
            refine M_getR (pc := 143) dX11_dish_143 f_X11_148 (gr_10_3 hp at_10).2 (gr_3_0 hp (gr_10_3 hp at_10).2).1 ?_
            refine M_iload_n (pc := 146) dX11_dish_146 rfl ?_
            refine M_aload_n (pc := 147) dX11_dish_147 rfl ?_
            refine M_getR (pc := 148) dX11_dish_148 f_X11_23 at_10 (gr_10_3 hp at_10).1 ?_
            refine M_getI (pc := 151) dX11_dish_151 f_X11_180 (gr_10_3 hp at_10).2 ?_
            obtain ⟨r17, hr18, h⟩ := bnd h
            refine M_callVi (pc := 154) dX11_dish_154 v_X11_183 rfl rfl (gr_3_0 hp (gr_10_3 hp at_10).2).2 (Nat.le_of_ble_eq_true rfl) (C_X1_calledUp (d := d + 3) hp (gr_3_0 hp (gr_10_3 hp at_10).2).2 hr18) (Nat.le_refl _) ?_
            obtain rfl := Option.some.inj h
            exact M_iret (pc := 157) dX11_dish_157 rfl rfl rfl rfl
          have h := (if_neg hc16).symm.trans h
          by_cases hc19 : x2 = (9 : Int32)
          · have h := (if_pos hc19).symm.trans h
            refine M_tableIn (pc := 67) (x := x2) (tgt := 158) dX11_dish_67 (by rw [hc19]; decide) (by rw [hc19]; decide) (by rw [hc19]; rfl) (by decide) ?_
            refine M_aload_n (pc := 158) dX11_dish_158 rfl ?_
            refine M_iload_n (pc := 159) dX11_dish_159 rfl ?_
            obtain ⟨r20, hr21, h⟩ := bnd h
            refine M_callVi (pc := 160) dX11_dish_160 v_X11_187 rfl rfl at_10 (Nat.le_of_ble_eq_true rfl) (C_X11_turnsNow (d := d + 1) hp hr21) (Nat.le_refl _) ?_
            obtain rfl := Option.some.inj h
            exact M_iret (pc := 163) dX11_dish_163 rfl rfl rfl rfl
          have h := (if_neg hc19).symm.trans h
          refine M_tableOut (pc := 67) (x := x2) (tgt := 164) dX11_dish_67 (sw_out 5 (by decide) (fun j hj => match j, hj with
            | 0, _ => sw_ne hc7 (by decide)
            | 1, _ => sw_ne hc10 (by decide)
            | 2, _ => sw_ne hc13 (by decide)
            | 3, _ => sw_ne hc16 (by decide)
            | 4, _ => sw_ne hc19 (by decide)
            | j + 5, hj => absurd hj (by omega))) (by decide) ?_
          refine M_aload_n (pc := 164) dX11_dish_164 rfl ?_
          refine M_iload_n (pc := 165) dX11_dish_165 rfl ?_
          obtain ⟨r22, hr23, h⟩ := bnd h
          refine M_callVi (pc := 166) dX11_dish_166 v_X11_191 rfl rfl at_10 (Nat.le_of_ble_eq_true rfl) (C_X11_paysNow (d := d + 1) hp hr23) (Nat.le_refl _) ?_
          obtain rfl := Option.some.inj h
          exact M_iret (pc := 169) dX11_dish_169 rfl rfl rfl rfl
        · have h := (if_neg hc6).symm.trans h
          refine M_aload_n (pc := 49) dX11_dish_49 rfl ?_
          refine M_getR (pc := 50) dX11_dish_50 f_X11_23 at_10 (gr_10_3 hp at_10).1 ?_
          refine M_getR (pc := 53) dX11_dish_53 f_X11_148 (gr_10_3 hp at_10).2 (gr_3_0 hp (gr_10_3 hp at_10).2).1 ?_
          refine M_getR (pc := 56) dX11_dish_56 f_X11_168 (gr_3_0 hp (gr_10_3 hp at_10).2).2 (gr_1_1 hp (gr_3_0 hp (gr_10_3 hp at_10).2).2).1 ?_
          refine M_iload_n (pc := 59) dX11_dish_59 rfl ?_
          refine M_iconst (pc := 60) (v := 5) dX11_dish_60 (by decide) ?_
          refine M_imul (pc := 61) dX11_dish_61 ?_
          refine M_iload_n (pc := 62) dX11_dish_62 rfl ?_
          refine M_iadd (pc := 63) dX11_dish_63 ?_
          obtain ⟨v24, hv25, h⟩ := bnd h
          refine M_aldI (pc := 64) dX11_dish_64 (gr_1_1 hp (gr_3_0 hp (gr_10_3 hp at_10).2).2).2 hv25 ?_
          obtain rfl := Option.some.inj h
          exact M_iret (pc := 65) dX11_dish_65 rfl rfl rfl rfl
      · have h := (if_neg hc5).symm.trans h
        obtain rfl := Option.some.inj h
        exact M_throw (pc := 34) dX11_dish_34 dX11_dish_37 dX11_dish_38 dX11_dish_40 dX11_dish_43 x_X11_163 (j := 4) (by decide) str_X11_165 rfl rfl
  · have h := (if_pos hc3).symm.trans h
    obtain rfl := Option.some.inj h
    exact M_throw (pc := 14) dX11_dish_14 dX11_dish_17 dX11_dish_18 dX11_dish_20 dX11_dish_23 x_X11_158 (j := 3) (by decide) str_X11_160 rfl rfl
def F_X11_spoon (I : HI) (x1 : Int32) : Option ((Int32 ⊕ String) × HI) :=
  (F_X1_has I 4 x1) >>= fun r1 => if r1 = 0 then some ((Sum.inr "java/lang/IndexOutOfBoundsException"), I) else if (I 3 4) < (99 : Int32) then (F_X0_remember I 3 15) >>= fun r5 => (F_X3_bite r5 3 x1 9) >>= fun r7 => (F_X7_write r7 15 (r7 3 6) x1 (r7 136 0) (r7 3 3)) >>= fun r9 => some ((Sum.inl (r9 3 3)), r9) else some ((Sum.inr "java/lang/IllegalStateException"), I)
set_option maxRecDepth 4000 in
set_option maxHeartbeats 4000000 in
theorem C_X11_spoon {g : gX} {d : Nat} {P : Nat → Nat → Option Nat} {I : HI} {x1 : Int32} {J : HJ} (hp : Wp P) {r : (Int32 ⊕ String) × HI} (h : F_X11_spoon I x1 = some r) : Cx g mX11_spoon (d + 6) [.ref 1, .int x1] (NT, I, J, P) ((thr_i r.1), (NT, r.2, J, P)) := by
  unfold F_X11_spoon at h
  refine Cx.of (by decide) (by simp [Value.category]) (Nat.le_of_ble_eq_true rfl) (Nat.le_refl _) (ls := [some (.ref 1), some (.int x1)]) rfl ?_
  refine M_aload_n (pc := 0) dX11_spoon_0 rfl ?_
  refine M_getR (pc := 1) dX11_spoon_1 f_X11_23 at_10 (gr_10_3 hp at_10).1 ?_
  refine M_getR (pc := 4) dX11_spoon_4 f_X11_148 (gr_10_3 hp at_10).2 (gr_3_0 hp (gr_10_3 hp at_10).2).1 ?_
  refine M_iload_n (pc := 7) dX11_spoon_7 rfl ?_
  obtain ⟨r1, hr2, h⟩ := bnd h
  refine M_callVi (pc := 8) dX11_spoon_8 v_X11_152 rfl rfl (gr_3_0 hp (gr_10_3 hp at_10).2).2 (Nat.le_of_ble_eq_true rfl) (C_X1_has (d := d + 5) hp (gr_3_0 hp (gr_10_3 hp at_10).2).2 hr2) (Nat.le_refl _) ?_
  refine M_if_ne (pc := 11) (tgt := 24) dX11_spoon_11 (by decide) (fun hc3 => ?_) (fun hc3 => ?_)
  · have h := (if_neg hc3).symm.trans h
    refine M_aload_n (pc := 24) dX11_spoon_24 rfl ?_
    refine M_getR (pc := 25) dX11_spoon_25 f_X11_23 at_10 (gr_10_3 hp at_10).1 ?_
    refine M_getI (pc := 28) dX11_spoon_28 f_X11_220 (gr_10_3 hp at_10).2 ?_
    refine M_bipush (pc := 31) (v := 99) dX11_spoon_31 (by decide) ?_
    refine M_icmp_lt (pc := 33) (tgt := 46) dX11_spoon_33 (by decide) (fun hc4 => ?_) (fun hc4 => ?_)
    · have h := (if_pos hc4).symm.trans h
      refine M_aload_n (pc := 46) dX11_spoon_46 rfl ?_
      refine M_getR (pc := 47) dX11_spoon_47 f_X11_44 at_10 (gr_10_6 hp at_10).1 ?_
      refine M_aload_n (pc := 50) dX11_spoon_50 rfl ?_
      refine M_getR (pc := 51) dX11_spoon_51 f_X11_23 at_10 (gr_10_3 hp at_10).1 ?_
      refine M_aload_n (pc := 54) dX11_spoon_54 rfl ?_
      refine M_getR (pc := 55) dX11_spoon_55 f_X11_37 at_10 (gr_10_5 hp at_10).1 ?_
      obtain ⟨r5, hr6, h⟩ := bnd h
      refine M_callVv (pc := 58) dX11_spoon_58 v_X11_228 rfl rfl (gr_10_6 hp at_10).2 (Nat.le_of_ble_eq_true rfl) (C_X0_remember (d := d + 2) hp (gr_10_3 hp at_10).2 (gr_10_5 hp at_10).2 hr6) (Nat.le_refl _) ?_
      refine M_aload_n (pc := 61) dX11_spoon_61 rfl ?_
      refine M_getR (pc := 62) dX11_spoon_62 f_X11_23 at_10 (gr_10_3 hp at_10).1 ?_
      refine M_iload_n (pc := 65) dX11_spoon_65 rfl ?_
      refine M_aload_n (pc := 66) dX11_spoon_66 rfl ?_
      refine M_getR (pc := 67) dX11_spoon_67 f_X11_30 at_10 (gr_10_4 hp at_10).1 ?_
      refine M_aload_n (pc := 70) dX11_spoon_70 rfl ?_
      refine M_getR (pc := 71) dX11_spoon_71 f_X11_67 at_10 (gr_10_12 hp at_10).1 ?_
      obtain ⟨r7, hr8, h⟩ := bnd h
      refine M_callVv (pc := 74) dX11_spoon_74 v_X11_232 rfl rfl (gr_10_3 hp at_10).2 (Nat.le_of_ble_eq_true rfl) (C_X3_bite (d := d + 1) hp (gr_10_3 hp at_10).2 (gr_10_4 hp at_10).2 hr8) (Nat.le_refl _) ?_
      refine M_aload_n (pc := 77) dX11_spoon_77 rfl ?_
      refine M_getR (pc := 78) dX11_spoon_78 f_X11_37 at_10 (gr_10_5 hp at_10).1 ?_
      refine M_aload_n (pc := 81) dX11_spoon_81 rfl ?_
      refine M_getR (pc := 82) dX11_spoon_82 f_X11_23 at_10 (gr_10_3 hp at_10).1 ?_
      refine M_getI (pc := 85) dX11_spoon_85 f_X11_236 (gr_10_3 hp at_10).2 ?_
      refine M_iload_n (pc := 88) dX11_spoon_88 rfl ?_
      refine M_aload_n (pc := 89) dX11_spoon_89 rfl ?_
      refine M_getR (pc := 90) dX11_spoon_90 f_X11_67 at_10 (gr_10_12 hp at_10).1 ?_
      refine M_getI (pc := 93) dX11_spoon_93 f_X11_239 (gr_10_12 hp at_10).2 ?_
      refine M_aload_n (pc := 96) dX11_spoon_96 rfl ?_
      refine M_getR (pc := 97) dX11_spoon_97 f_X11_23 at_10 (gr_10_3 hp at_10).1 ?_
      refine M_getI (pc := 100) dX11_spoon_100 f_X11_242 (gr_10_3 hp at_10).2 ?_
      obtain ⟨r9, hr10, h⟩ := bnd h
      refine M_callVv (pc := 103) dX11_spoon_103 v_X11_245 rfl rfl (gr_10_5 hp at_10).2 (Nat.le_of_ble_eq_true rfl) (C_X7_write (d := d + 4) hp (gr_10_5 hp at_10).2 hr10) (Nat.le_refl _) ?_
      refine M_aload_n (pc := 106) dX11_spoon_106 rfl ?_
      refine M_getR (pc := 107) dX11_spoon_107 f_X11_23 at_10 (gr_10_3 hp at_10).1 ?_
      refine M_getI (pc := 110) dX11_spoon_110 f_X11_242 (gr_10_3 hp at_10).2 ?_
      obtain rfl := Option.some.inj h
      exact M_iret (pc := 113) dX11_spoon_113 rfl rfl rfl rfl
    · have h := (if_neg hc4).symm.trans h
      obtain rfl := Option.some.inj h
      exact M_throw (pc := 36) dX11_spoon_36 dX11_spoon_39 dX11_spoon_40 dX11_spoon_42 dX11_spoon_45 x_X11_223 (j := 5) (by decide) str_X11_225 rfl rfl
  · have h := (if_pos hc3).symm.trans h
    obtain rfl := Option.some.inj h
    exact M_throw (pc := 14) dX11_spoon_14 dX11_spoon_17 dX11_spoon_18 dX11_spoon_20 dX11_spoon_23 x_X11_158 (j := 3) (by decide) str_X11_160 rfl rfl
def L_X11_passEvening_11 (b1 : Nat) (x2 : Int32) (x4 : Int32) (x3 : Int32) (x5 : Int32) (I : HI) : Option (Int32 × HI) :=
  if x4 ≤ x5 then (F_X3_comeBack I b1) >>= fun r4 => some (x3, r4) else (F_X3_drawDish I b1) >>= fun r6 => (F_X3_takes r6.2 b1 r6.1) >>= fun r8 => if r8 = 0 then L_X11_passEvening_11 b1 x2 x4 x3 (x5 + (1 : Int32)) r6.2 else (F_X3_bite r6.2 b1 r6.1 9) >>= fun r11 => if x2 = 0 then L_X11_passEvening_11 b1 x2 x4 (x3 + (1 : Int32)) (x5 + (1 : Int32)) r11 else (F_X7_write r11 15 (r11 b1 6) r6.1 (r11 136 0) (r11 b1 3)) >>= fun r14 => L_X11_passEvening_11 b1 x2 x4 (x3 + (1 : Int32)) (x5 + (1 : Int32)) r14
partial_fixpoint
def F_X11_passEvening (I : HI) (b1 : Nat) (x2 : Int32) : Option (Int32 × HI) :=
  (F_X3_drawSpoons I b1) >>= fun r1 => L_X11_passEvening_11 b1 x2 r1.1 (0 : Int32) (0 : Int32) r1.2
set_option maxRecDepth 4000 in
set_option maxHeartbeats 4000000 in
theorem LC_X11_passEvening_11 {g : gX} {d : Nat} {P : Nat → Nat → Option Nat} {J : HJ} {b1 : Nat} {x2 : Int32} {x4 : Int32} (hp : Wp P) (hb1 : OB NT b1 3) : ∀ (x3 : Int32) (x5 : Int32) (I : HI) (r : Int32 × HI), L_X11_passEvening_11 b1 x2 x4 x3 x5 I = some r → M g mX11_passEvening (d + 5) (NT, NT, 0) ((.inl (some (.int r.1))), (NT, r.2, J, P)) 11 [some (.ref 1), some (.ref b1), some (.int x2), some (.int x3), some (.int x4), some (.int x5), none] [] (NT, I, J, P) := by
  refine L_X11_passEvening_11.partial_correctness b1 x2 x4 (fun x3 x5 I r => M g mX11_passEvening (d + 5) (NT, NT, 0) ((.inl (some (.int r.1))), (NT, r.2, J, P)) 11 [some (.ref 1), some (.ref b1), some (.int x2), some (.int x3), some (.int x4), some (.int x5), none] [] (NT, I, J, P)) ?_
  intro f ih x3 x5 I r h
  refine M_iload (pc := 11) dX11_passEvening_11 rfl ?_
  refine M_iload (pc := 13) dX11_passEvening_13 rfl ?_
  refine M_icmp_ge (pc := 15) (tgt := 84) dX11_passEvening_15 (by decide) (fun hc3 => ?_) (fun hc3 => ?_)
  · have h := (if_pos hc3).symm.trans h
    refine M_aload_n (pc := 84) dX11_passEvening_84 rfl ?_
    obtain ⟨r4, hr5, h⟩ := bnd h
    refine M_callVv (pc := 85) dX11_passEvening_85 v_X11_249 rfl rfl hb1 (Nat.le_of_ble_eq_true rfl) (C_X3_comeBack (d := d + 3) hp hb1 hr5) (Nat.le_refl _) ?_
    refine M_iload_n (pc := 88) dX11_passEvening_88 rfl ?_
    obtain rfl := Option.some.inj h
    exact M_iret (pc := 89) dX11_passEvening_89 rfl rfl rfl rfl
  · have h := (if_neg hc3).symm.trans h
    refine M_aload_n (pc := 18) dX11_passEvening_18 rfl ?_
    obtain ⟨r6, hr7, h⟩ := bnd h
    refine M_callVi (pc := 19) dX11_passEvening_19 v_X11_292 rfl rfl hb1 (Nat.le_of_ble_eq_true rfl) (C_X3_drawDish (d := d + 3) hp hb1 hr7) (Nat.le_refl _) ?_
    refine M_istore (pc := 22) (ls' := [some (.ref 1), some (.ref b1), some (.int x2), some (.int x3), some (.int x4), some (.int x5), some (.int r6.1)]) dX11_passEvening_22 (by decide) rfl ?_
    refine M_aload_n (pc := 24) dX11_passEvening_24 rfl ?_
    refine M_iload (pc := 25) dX11_passEvening_25 rfl ?_
    obtain ⟨r8, hr9, h⟩ := bnd h
    refine M_callVi (pc := 27) dX11_passEvening_27 v_X11_295 rfl rfl hb1 (Nat.le_of_ble_eq_true rfl) (C_X3_takes (d := d + 3) hp hb1 hr9) (Nat.le_refl _) ?_
    refine M_if_eq (pc := 30) (tgt := 78) dX11_passEvening_30 (by decide) (fun hc10 => ?_) (fun hc10 => ?_)
    · have h := (if_pos hc10).symm.trans h
      refine M_iinc (pc := 78) (v := (x5 + (1 : Int32))) (ls' := [some (.ref 1), some (.ref b1), some (.int x2), some (.int x3), some (.int x4), some (.int (x5 + (1 : Int32))), some (.int r6.1)]) dX11_passEvening_78 rfl rfl (by decide) rfl ?_
      refine M_goto (pc := 81) (tgt := 11) dX11_passEvening_81 (by decide) ?_
      refine M_mask (pc := 11) [true, true, true, true, true, true, false] rfl ?_
      exact ih x3 (x5 + (1 : Int32)) r6.2 _ h
    · have h := (if_neg hc10).symm.trans h
      refine M_aload_n (pc := 33) dX11_passEvening_33 rfl ?_
      refine M_iload (pc := 34) dX11_passEvening_34 rfl ?_
      refine M_aload_n (pc := 36) dX11_passEvening_36 rfl ?_
      refine M_getR (pc := 37) dX11_passEvening_37 f_X11_30 at_10 (gr_10_4 hp at_10).1 ?_
      refine M_aload_n (pc := 40) dX11_passEvening_40 rfl ?_
      refine M_getR (pc := 41) dX11_passEvening_41 f_X11_67 at_10 (gr_10_12 hp at_10).1 ?_
      obtain ⟨r11, hr12, h⟩ := bnd h
      refine M_callVv (pc := 44) dX11_passEvening_44 v_X11_232 rfl rfl hb1 (Nat.le_of_ble_eq_true rfl) (C_X3_bite (d := d + 0) hp hb1 (gr_10_4 hp at_10).2 hr12) (Nat.le_refl _) ?_
      refine M_iinc (pc := 47) (v := (x3 + (1 : Int32))) (ls' := [some (.ref 1), some (.ref b1), some (.int x2), some (.int (x3 + (1 : Int32))), some (.int x4), some (.int x5), some (.int r6.1)]) dX11_passEvening_47 rfl rfl (by decide) rfl ?_
      refine M_iload_n (pc := 50) dX11_passEvening_50 rfl ?_
      refine M_if_eq (pc := 51) (tgt := 78) dX11_passEvening_51 (by decide) (fun hc13 => ?_) (fun hc13 => ?_)
      · have h := (if_pos hc13).symm.trans h
        refine M_iinc (pc := 78) (v := (x5 + (1 : Int32))) (ls' := [some (.ref 1), some (.ref b1), some (.int x2), some (.int (x3 + (1 : Int32))), some (.int x4), some (.int (x5 + (1 : Int32))), some (.int r6.1)]) dX11_passEvening_78 rfl rfl (by decide) rfl ?_
        refine M_goto (pc := 81) (tgt := 11) dX11_passEvening_81 (by decide) ?_
        refine M_mask (pc := 11) [true, true, true, true, true, true, false] rfl ?_
        exact ih (x3 + (1 : Int32)) (x5 + (1 : Int32)) r11 _ h
      · have h := (if_neg hc13).symm.trans h
        refine M_aload_n (pc := 54) dX11_passEvening_54 rfl ?_
        refine M_getR (pc := 55) dX11_passEvening_55 f_X11_37 at_10 (gr_10_5 hp at_10).1 ?_
        refine M_aload_n (pc := 58) dX11_passEvening_58 rfl ?_
        refine M_getI (pc := 59) dX11_passEvening_59 f_X11_236 hb1 ?_
        refine M_iload (pc := 62) dX11_passEvening_62 rfl ?_
        refine M_aload_n (pc := 64) dX11_passEvening_64 rfl ?_
        refine M_getR (pc := 65) dX11_passEvening_65 f_X11_67 at_10 (gr_10_12 hp at_10).1 ?_
        refine M_getI (pc := 68) dX11_passEvening_68 f_X11_239 (gr_10_12 hp at_10).2 ?_
        refine M_aload_n (pc := 71) dX11_passEvening_71 rfl ?_
        refine M_getI (pc := 72) dX11_passEvening_72 f_X11_242 hb1 ?_
        obtain ⟨r14, hr15, h⟩ := bnd h
        refine M_callVv (pc := 75) dX11_passEvening_75 v_X11_245 rfl rfl (gr_10_5 hp at_10).2 (Nat.le_of_ble_eq_true rfl) (C_X7_write (d := d + 3) hp (gr_10_5 hp at_10).2 hr15) (Nat.le_refl _) ?_
        refine M_iinc (pc := 78) (v := (x5 + (1 : Int32))) (ls' := [some (.ref 1), some (.ref b1), some (.int x2), some (.int (x3 + (1 : Int32))), some (.int x4), some (.int (x5 + (1 : Int32))), some (.int r6.1)]) dX11_passEvening_78 rfl rfl (by decide) rfl ?_
        refine M_goto (pc := 81) (tgt := 11) dX11_passEvening_81 (by decide) ?_
        refine M_mask (pc := 11) [true, true, true, true, true, true, false] rfl ?_
        exact ih (x3 + (1 : Int32)) (x5 + (1 : Int32)) r14 _ h
set_option maxRecDepth 4000 in
set_option maxHeartbeats 4000000 in
theorem C_X11_passEvening {g : gX} {d : Nat} {P : Nat → Nat → Option Nat} {I : HI} {b1 : Nat} {x2 : Int32} {J : HJ} (hp : Wp P) (hb1 : OB NT b1 3) {r : Int32 × HI} (h : F_X11_passEvening I b1 x2 = some r) : Cm g mX11_passEvening (d + 5) [.ref 1, .ref b1, .int x2] (NT, I, J, P) (some (.int r.1)) (NT, r.2, J, P) := by
  unfold F_X11_passEvening at h
  refine Cm.of (by decide) (by simp [Value.category]) (Nat.le_of_ble_eq_true rfl) (Nat.le_refl _) (ls := [some (.ref 1), some (.ref b1), some (.int x2), none, none, none, none]) rfl ?_
  refine M_iconst (pc := 0) (v := 0) dX11_passEvening_0 (by decide) ?_
  refine M_istore_n (pc := 1) (ls' := [some (.ref 1), some (.ref b1), some (.int x2), some (.int (0 : Int32)), none, none, none]) dX11_passEvening_1 (by decide) rfl ?_
  refine M_aload_n (pc := 2) dX11_passEvening_2 rfl ?_
  obtain ⟨r1, hr2, h⟩ := bnd h
  refine M_callVi (pc := 3) dX11_passEvening_3 v_X11_289 rfl rfl hb1 (Nat.le_of_ble_eq_true rfl) (C_X3_drawSpoons (d := d + 3) hp hb1 hr2) (Nat.le_refl _) ?_
  refine M_istore (pc := 6) (ls' := [some (.ref 1), some (.ref b1), some (.int x2), some (.int (0 : Int32)), some (.int r1.1), none, none]) dX11_passEvening_6 (by decide) rfl ?_
  refine M_iconst (pc := 8) (v := 0) dX11_passEvening_8 (by decide) ?_
  refine M_istore (pc := 9) (ls' := [some (.ref 1), some (.ref b1), some (.int x2), some (.int (0 : Int32)), some (.int r1.1), some (.int (0 : Int32)), none]) dX11_passEvening_9 (by decide) rfl ?_
  exact LC_X11_passEvening_11 (P := P) hp hb1 (0 : Int32) (0 : Int32) r1.2 _ h
def L_X11_menu_81 (x1 : Int32) (x2 : Int32) (x3 : Int32) (x4 : Int32) (x5 : Int32) (I : HI) : Option ((Int32 ⊕ String) × HI) :=
  if x2 ≤ x5 then if x1 = (0 : Int32) then some ((Sum.inl (I 130 3)), I) else if x1 = (1 : Int32) then some ((Sum.inl (I 130 4)), I) else if x1 = (2 : Int32) then some ((Sum.inl x3), I) else some ((Sum.inl x4), I) else if (400 : Int32) ≤ x5 then if x1 = (0 : Int32) then some ((Sum.inl (I 130 3)), I) else if x1 = (1 : Int32) then some ((Sum.inl (I 130 4)), I) else if x1 = (2 : Int32) then some ((Sum.inl x3), I) else some ((Sum.inl x4), I) else (ald 400 (I 2) x5) >>= fun v19 => (F_X3_takes I 130 v19) >>= fun r21 => if r21 = 0 then L_X11_menu_81 x1 x2 x3 x4 (x5 + (1 : Int32)) I else (ald 400 (I 2) x5) >>= fun v24 => (F_X3_bite I 130 v24 9) >>= fun r26 => L_X11_menu_81 x1 x2 (x3 + (1 : Int32)) (x4 + (r26 136 2)) (x5 + (1 : Int32)) r26
partial_fixpoint
def F_X11_menu (I : HI) (x1 : Int32) : Option ((Int32 ⊕ String) × HI) :=
  (F_X11_takeTape I) >>= fun r1 => if (40 : Int32) < r1.1 then some ((Sum.inr "java/lang/IllegalArgumentException"), r1.2) else (F_X11_toldAtMost r1.2 r1.1 ((r1.2 4 0) - (1 : Int32))) >>= fun r4 => if r4 = 0 then some ((Sum.inr "java/lang/IllegalArgumentException"), r1.2) else if x1 < 0 then some ((Sum.inr "java/util/NoSuchElementException"), r1.2) else if x1 ≤ (3 : Int32) then (F_X3_copy r1.2 130 3) >>= fun r9 => L_X11_menu_81 x1 r1.1 (0 : Int32) (0 : Int32) (0 : Int32) r9 else some ((Sum.inr "java/util/NoSuchElementException"), r1.2)
set_option maxRecDepth 4000 in
set_option maxHeartbeats 4000000 in
theorem LC_X11_menu_81 {g : gX} {d : Nat} {P : Nat → Nat → Option Nat} {J : HJ} {x1 : Int32} {x2 : Int32} (hp : Wp P) : ∀ (x3 : Int32) (x4 : Int32) (x5 : Int32) (I : HI) (r : (Int32 ⊕ String) × HI), L_X11_menu_81 x1 x2 x3 x4 x5 I = some r → M g mX11_menu (d + 6) (NT, NT, 1) ((thr_i r.1), (NT, r.2, J, P)) 81 [some (.ref 1), some (.int x1), some (.int x2), some (.int x3), some (.int x4), some (.int x5)] [] (NT, I, J, P) := by
  refine L_X11_menu_81.partial_correctness x1 x2 (fun x3 x4 x5 I r => M g mX11_menu (d + 6) (NT, NT, 1) ((thr_i r.1), (NT, r.2, J, P)) 81 [some (.ref 1), some (.int x1), some (.int x2), some (.int x3), some (.int x4), some (.int x5)] [] (NT, I, J, P)) ?_
  intro f ih x3 x4 x5 I r h
  refine M_iload (pc := 81) dX11_menu_81 rfl ?_
  refine M_iload_n (pc := 83) dX11_menu_83 rfl ?_
  refine M_icmp_ge (pc := 84) (tgt := 155) dX11_menu_84 (by decide) (fun hc11 => ?_) (fun hc11 => ?_)
  · have h := (if_pos hc11).symm.trans h
    refine M_iload_n (pc := 155) dX11_menu_155 rfl ?_
    by_cases hc12 : x1 = (0 : Int32)
    · have h := (if_pos hc12).symm.trans h
      refine M_tableIn (pc := 156) (x := x1) (tgt := 184) dX11_menu_156 (by rw [hc12]; decide) (by rw [hc12]; decide) (by rw [hc12]; rfl) (by decide) ?_
      refine M_aload_n (pc := 184) dX11_menu_184 rfl ?_
      refine M_getR (pc := 185) dX11_menu_185 f_X11_61 at_10 (gr_10_11 hp at_10).1 ?_
      refine M_getI (pc := 188) dX11_menu_188 f_X11_242 (gr_10_11 hp at_10).2 ?_
      obtain rfl := Option.some.inj h
      exact M_iret (pc := 191) dX11_menu_191 rfl rfl rfl rfl
    have h := (if_neg hc12).symm.trans h
    by_cases hc13 : x1 = (1 : Int32)
    · have h := (if_pos hc13).symm.trans h
      refine M_tableIn (pc := 156) (x := x1) (tgt := 192) dX11_menu_156 (by rw [hc13]; decide) (by rw [hc13]; decide) (by rw [hc13]; rfl) (by decide) ?_
      refine M_aload_n (pc := 192) dX11_menu_192 rfl ?_
      refine M_getR (pc := 193) dX11_menu_193 f_X11_61 at_10 (gr_10_11 hp at_10).1 ?_
      refine M_getI (pc := 196) dX11_menu_196 f_X11_220 (gr_10_11 hp at_10).2 ?_
      obtain rfl := Option.some.inj h
      exact M_iret (pc := 199) dX11_menu_199 rfl rfl rfl rfl
    have h := (if_neg hc13).symm.trans h
    by_cases hc14 : x1 = (2 : Int32)
    · have h := (if_pos hc14).symm.trans h
      refine M_tableIn (pc := 156) (x := x1) (tgt := 200) dX11_menu_156 (by rw [hc14]; decide) (by rw [hc14]; decide) (by rw [hc14]; rfl) (by decide) ?_
      refine M_iload_n (pc := 200) dX11_menu_200 rfl ?_
      obtain rfl := Option.some.inj h
      exact M_iret (pc := 201) dX11_menu_201 rfl rfl rfl rfl
    have h := (if_neg hc14).symm.trans h
    refine M_tableOut (pc := 156) (x := x1) (tgt := 202) dX11_menu_156 (sw_out 3 (by decide) (fun j hj => match j, hj with
      | 0, _ => sw_ne hc12 (by decide)
      | 1, _ => sw_ne hc13 (by decide)
      | 2, _ => sw_ne hc14 (by decide)
      | j + 3, hj => absurd hj (by omega))) (by decide) ?_
    refine M_iload (pc := 202) dX11_menu_202 rfl ?_
    obtain rfl := Option.some.inj h
    exact M_iret (pc := 204) dX11_menu_204 rfl rfl rfl rfl
  · have h := (if_neg hc11).symm.trans h
    refine M_iload (pc := 87) dX11_menu_87 rfl ?_
    refine M_sipush (pc := 89) (v := 400) dX11_menu_89 (by decide) ?_
    refine M_icmp_ge (pc := 92) (tgt := 155) dX11_menu_92 (by decide) (fun hc15 => ?_) (fun hc15 => ?_)
    · have h := (if_pos hc15).symm.trans h
      refine M_iload_n (pc := 155) dX11_menu_155 rfl ?_
      by_cases hc16 : x1 = (0 : Int32)
      · have h := (if_pos hc16).symm.trans h
        refine M_tableIn (pc := 156) (x := x1) (tgt := 184) dX11_menu_156 (by rw [hc16]; decide) (by rw [hc16]; decide) (by rw [hc16]; rfl) (by decide) ?_
        refine M_aload_n (pc := 184) dX11_menu_184 rfl ?_
        refine M_getR (pc := 185) dX11_menu_185 f_X11_61 at_10 (gr_10_11 hp at_10).1 ?_
        refine M_getI (pc := 188) dX11_menu_188 f_X11_242 (gr_10_11 hp at_10).2 ?_
        obtain rfl := Option.some.inj h
        exact M_iret (pc := 191) dX11_menu_191 rfl rfl rfl rfl
      have h := (if_neg hc16).symm.trans h
      by_cases hc17 : x1 = (1 : Int32)
      · have h := (if_pos hc17).symm.trans h
        refine M_tableIn (pc := 156) (x := x1) (tgt := 192) dX11_menu_156 (by rw [hc17]; decide) (by rw [hc17]; decide) (by rw [hc17]; rfl) (by decide) ?_
        refine M_aload_n (pc := 192) dX11_menu_192 rfl ?_
        refine M_getR (pc := 193) dX11_menu_193 f_X11_61 at_10 (gr_10_11 hp at_10).1 ?_
        refine M_getI (pc := 196) dX11_menu_196 f_X11_220 (gr_10_11 hp at_10).2 ?_
        obtain rfl := Option.some.inj h
        exact M_iret (pc := 199) dX11_menu_199 rfl rfl rfl rfl
      have h := (if_neg hc17).symm.trans h
      by_cases hc18 : x1 = (2 : Int32)
      · have h := (if_pos hc18).symm.trans h
        refine M_tableIn (pc := 156) (x := x1) (tgt := 200) dX11_menu_156 (by rw [hc18]; decide) (by rw [hc18]; decide) (by rw [hc18]; rfl) (by decide) ?_
        refine M_iload_n (pc := 200) dX11_menu_200 rfl ?_
        obtain rfl := Option.some.inj h
        exact M_iret (pc := 201) dX11_menu_201 rfl rfl rfl rfl
      have h := (if_neg hc18).symm.trans h
      refine M_tableOut (pc := 156) (x := x1) (tgt := 202) dX11_menu_156 (sw_out 3 (by decide) (fun j hj => match j, hj with
        | 0, _ => sw_ne hc16 (by decide)
        | 1, _ => sw_ne hc17 (by decide)
        | 2, _ => sw_ne hc18 (by decide)
        | j + 3, hj => absurd hj (by omega))) (by decide) ?_
      refine M_iload (pc := 202) dX11_menu_202 rfl ?_
      obtain rfl := Option.some.inj h
      exact M_iret (pc := 204) dX11_menu_204 rfl rfl rfl rfl
    · have h := (if_neg hc15).symm.trans h
      refine M_aload_n (pc := 95) dX11_menu_95 rfl ?_
      refine M_getR (pc := 96) dX11_menu_96 f_X11_61 at_10 (gr_10_11 hp at_10).1 ?_
      refine M_aload_n (pc := 99) dX11_menu_99 rfl ?_
      refine M_getR (pc := 100) dX11_menu_100 f_X11_9 at_10 (gr_10_0 hp at_10).1 ?_
      refine M_iload (pc := 103) dX11_menu_103 rfl ?_
      obtain ⟨v19, hv20, h⟩ := bnd h
      refine M_aldI (pc := 105) dX11_menu_105 (gr_10_0 hp at_10).2 hv20 ?_
      obtain ⟨r21, hr22, h⟩ := bnd h
      refine M_callVi (pc := 106) dX11_menu_106 v_X11_295 rfl rfl (gr_10_11 hp at_10).2 (Nat.le_of_ble_eq_true rfl) (C_X3_takes (d := d + 4) hp (gr_10_11 hp at_10).2 hr22) (Nat.le_refl _) ?_
      refine M_if_eq (pc := 109) (tgt := 149) dX11_menu_109 (by decide) (fun hc23 => ?_) (fun hc23 => ?_)
      · have h := (if_pos hc23).symm.trans h
        refine M_iinc (pc := 149) (v := (x5 + (1 : Int32))) (ls' := [some (.ref 1), some (.int x1), some (.int x2), some (.int x3), some (.int x4), some (.int (x5 + (1 : Int32)))]) dX11_menu_149 rfl rfl (by decide) rfl ?_
        refine M_goto (pc := 152) (tgt := 81) dX11_menu_152 (by decide) ?_
        exact ih x3 x4 (x5 + (1 : Int32)) I _ h
      · have h := (if_neg hc23).symm.trans h
        refine M_aload_n (pc := 112) dX11_menu_112 rfl ?_
        refine M_getR (pc := 113) dX11_menu_113 f_X11_61 at_10 (gr_10_11 hp at_10).1 ?_
        refine M_aload_n (pc := 116) dX11_menu_116 rfl ?_
        refine M_getR (pc := 117) dX11_menu_117 f_X11_9 at_10 (gr_10_0 hp at_10).1 ?_
        refine M_iload (pc := 120) dX11_menu_120 rfl ?_
        obtain ⟨v24, hv25, h⟩ := bnd h
        refine M_aldI (pc := 122) dX11_menu_122 (gr_10_0 hp at_10).2 hv25 ?_
        refine M_aload_n (pc := 123) dX11_menu_123 rfl ?_
        refine M_getR (pc := 124) dX11_menu_124 f_X11_30 at_10 (gr_10_4 hp at_10).1 ?_
        refine M_aload_n (pc := 127) dX11_menu_127 rfl ?_
        refine M_getR (pc := 128) dX11_menu_128 f_X11_67 at_10 (gr_10_12 hp at_10).1 ?_
        obtain ⟨r26, hr27, h⟩ := bnd h
        refine M_callVv (pc := 131) dX11_menu_131 v_X11_232 rfl rfl (gr_10_11 hp at_10).2 (Nat.le_of_ble_eq_true rfl) (C_X3_bite (d := d + 1) hp (gr_10_11 hp at_10).2 (gr_10_4 hp at_10).2 hr27) (Nat.le_refl _) ?_
        refine M_iload (pc := 134) dX11_menu_134 rfl ?_
        refine M_aload_n (pc := 136) dX11_menu_136 rfl ?_
        refine M_getR (pc := 137) dX11_menu_137 f_X11_67 at_10 (gr_10_12 hp at_10).1 ?_
        refine M_getI (pc := 140) dX11_menu_140 f_X11_205 (gr_10_12 hp at_10).2 ?_
        refine M_iadd (pc := 143) dX11_menu_143 ?_
        refine M_istore (pc := 144) (ls' := [some (.ref 1), some (.int x1), some (.int x2), some (.int x3), some (.int (x4 + (r26 136 2))), some (.int x5)]) dX11_menu_144 (by decide) rfl ?_
        refine M_iinc (pc := 146) (v := (x3 + (1 : Int32))) (ls' := [some (.ref 1), some (.int x1), some (.int x2), some (.int (x3 + (1 : Int32))), some (.int (x4 + (r26 136 2))), some (.int x5)]) dX11_menu_146 rfl rfl (by decide) rfl ?_
        refine M_iinc (pc := 149) (v := (x5 + (1 : Int32))) (ls' := [some (.ref 1), some (.int x1), some (.int x2), some (.int (x3 + (1 : Int32))), some (.int (x4 + (r26 136 2))), some (.int (x5 + (1 : Int32)))]) dX11_menu_149 rfl rfl (by decide) rfl ?_
        refine M_goto (pc := 152) (tgt := 81) dX11_menu_152 (by decide) ?_
        exact ih (x3 + (1 : Int32)) (x4 + (r26 136 2)) (x5 + (1 : Int32)) r26 _ h
set_option maxRecDepth 4000 in
set_option maxHeartbeats 4000000 in
theorem C_X11_menu {g : gX} {d : Nat} {P : Nat → Nat → Option Nat} {I : HI} {x1 : Int32} {J : HJ} (hp : Wp P) {r : (Int32 ⊕ String) × HI} (h : F_X11_menu I x1 = some r) : Cx g mX11_menu (d + 6) [.ref 1, .int x1] (NT, I, J, P) ((thr_i r.1), (NT, r.2, J, P)) := by
  unfold F_X11_menu at h
  refine Cx.of (by decide) (by simp [Value.category]) (Nat.le_of_ble_eq_true rfl) (Nat.le_refl _) (ls := [some (.ref 1), some (.int x1), none, none, none, none]) rfl ?_
  refine M_aload_n (pc := 0) dX11_menu_0 rfl ?_
  obtain ⟨r1, hr2, h⟩ := bnd h
  refine M_callVi (pc := 1) dX11_menu_1 v_X11_110 rfl rfl at_10 (Nat.le_of_ble_eq_true rfl) (C_X11_takeTape (d := d + 5) hp hr2) (Nat.le_refl _) ?_
  refine M_istore_n (pc := 4) (ls' := [some (.ref 1), some (.int x1), some (.int r1.1), none, none, none]) dX11_menu_4 (by decide) rfl ?_
  refine M_iload_n (pc := 5) dX11_menu_5 rfl ?_
  refine M_bipush (pc := 6) (v := 40) dX11_menu_6 (by decide) ?_
  refine M_icmp_gt (pc := 8) (tgt := 31) dX11_menu_8 (by decide) (fun hc3 => ?_) (fun hc3 => ?_)
  · have h := (if_pos hc3).symm.trans h
    obtain rfl := Option.some.inj h
    exact M_throwW (pc := 31) dX11_menu_31 dX11_menu_34 dX11_menu_35 dX11_menu_38 dX11_menu_41 x_X11_118 (j := 12) (by decide) str_X11_302 rfl rfl
  · have h := (if_neg hc3).symm.trans h
    refine M_aload_n (pc := 11) dX11_menu_11 rfl ?_
    refine M_iload_n (pc := 12) dX11_menu_12 rfl ?_
    refine M_aload_n (pc := 13) dX11_menu_13 rfl ?_
    refine M_getR (pc := 14) dX11_menu_14 f_X11_23 at_10 (gr_10_3 hp at_10).1 ?_
    refine M_getR (pc := 17) dX11_menu_17 f_X11_148 (gr_10_3 hp at_10).2 (gr_3_0 hp (gr_10_3 hp at_10).2).1 ?_
    refine M_getI (pc := 20) dX11_menu_20 f_X11_211 (gr_3_0 hp (gr_10_3 hp at_10).2).2 ?_
    refine M_iconst (pc := 23) (v := 1) dX11_menu_23 (by decide) ?_
    refine M_isub (pc := 24) dX11_menu_24 ?_
    obtain ⟨r4, hr5, h⟩ := bnd h
    refine M_callVi (pc := 25) dX11_menu_25 v_X11_298 rfl rfl at_10 (Nat.le_of_ble_eq_true rfl) (C_X11_toldAtMost (d := d + 5) hp hr5) (Nat.le_refl _) ?_
    refine M_if_ne (pc := 28) (tgt := 42) dX11_menu_28 (by decide) (fun hc6 => ?_) (fun hc6 => ?_)
    · have h := (if_neg hc6).symm.trans h
      refine M_iload_n (pc := 42) dX11_menu_42 rfl ?_
      refine M_if_lt (pc := 43) (tgt := 51) dX11_menu_43 (by decide) (fun hc7 => ?_) (fun hc7 => ?_)
      · have h := (if_pos hc7).symm.trans h
        obtain rfl := Option.some.inj h
        exact M_throwW (pc := 51) dX11_menu_51 dX11_menu_54 dX11_menu_55 dX11_menu_58 dX11_menu_61 x_X11_163 (j := 13) (by decide) str_X11_304 rfl rfl
      · have h := (if_neg hc7).symm.trans h
        refine M_iload_n (pc := 46) dX11_menu_46 rfl ?_
        refine M_iconst (pc := 47) (v := 3) dX11_menu_47 (by decide) ?_
        refine M_icmp_le (pc := 48) (tgt := 62) dX11_menu_48 (by decide) (fun hc8 => ?_) (fun hc8 => ?_)
        · have h := (if_pos hc8).symm.trans h
          refine M_aload_n (pc := 62) dX11_menu_62 rfl ?_
          refine M_getR (pc := 63) dX11_menu_63 f_X11_61 at_10 (gr_10_11 hp at_10).1 ?_
          refine M_aload_n (pc := 66) dX11_menu_66 rfl ?_
          refine M_getR (pc := 67) dX11_menu_67 f_X11_23 at_10 (gr_10_3 hp at_10).1 ?_
          obtain ⟨r9, hr10, h⟩ := bnd h
          refine M_callVv (pc := 70) dX11_menu_70 v_X11_106 rfl rfl (gr_10_11 hp at_10).2 (Nat.le_of_ble_eq_true rfl) (C_X3_copy (d := d + 3) hp (gr_10_11 hp at_10).2 (gr_10_3 hp at_10).2 hr10) (Nat.le_refl _) ?_
          refine M_iconst (pc := 73) (v := 0) dX11_menu_73 (by decide) ?_
          refine M_istore_n (pc := 74) (ls' := [some (.ref 1), some (.int x1), some (.int r1.1), some (.int (0 : Int32)), none, none]) dX11_menu_74 (by decide) rfl ?_
          refine M_iconst (pc := 75) (v := 0) dX11_menu_75 (by decide) ?_
          refine M_istore (pc := 76) (ls' := [some (.ref 1), some (.int x1), some (.int r1.1), some (.int (0 : Int32)), some (.int (0 : Int32)), none]) dX11_menu_76 (by decide) rfl ?_
          refine M_iconst (pc := 78) (v := 0) dX11_menu_78 (by decide) ?_
          refine M_istore (pc := 79) (ls' := [some (.ref 1), some (.int x1), some (.int r1.1), some (.int (0 : Int32)), some (.int (0 : Int32)), some (.int (0 : Int32))]) dX11_menu_79 (by decide) rfl ?_
          exact LC_X11_menu_81 (P := P) hp (0 : Int32) (0 : Int32) (0 : Int32) r9 _ h
        · have h := (if_neg hc8).symm.trans h
          obtain rfl := Option.some.inj h
          exact M_throwW (pc := 51) dX11_menu_51 dX11_menu_54 dX11_menu_55 dX11_menu_58 dX11_menu_61 x_X11_163 (j := 13) (by decide) str_X11_304 rfl rfl
    · have h := (if_pos hc6).symm.trans h
      obtain rfl := Option.some.inj h
      exact M_throwW (pc := 31) dX11_menu_31 dX11_menu_34 dX11_menu_35 dX11_menu_38 dX11_menu_41 x_X11_118 (j := 12) (by decide) str_X11_302 rfl rfl
def L_X11_breaks_37 (x1 : Int32) (x2 : Int32) (I : HI) : Option ((Int32 ⊕ String) × HI) :=
  if (100 : Int32) ≤ x2 then (F_X3_takes I 130 x1) >>= fun r7 => if r7 = 0 then some ((Sum.inl (100 : Int32)), I) else some ((Sum.inl (-1 : Int32)), I) else (F_X3_takes I 130 x1) >>= fun r10 => if r10 = 0 then some ((Sum.inl x2), I) else (F_X3_bite I 130 x1 9) >>= fun r13 => L_X11_breaks_37 x1 (x2 + (1 : Int32)) r13
partial_fixpoint
def F_X11_breaks (I : HI) (x1 : Int32) : Option ((Int32 ⊕ String) × HI) :=
  (F_X1_has I 4 x1) >>= fun r1 => if r1 = 0 then some ((Sum.inr "java/lang/IndexOutOfBoundsException"), I) else (F_X3_copy I 130 3) >>= fun r4 => L_X11_breaks_37 x1 (0 : Int32) r4
set_option maxRecDepth 4000 in
set_option maxHeartbeats 4000000 in
theorem LC_X11_breaks_37 {g : gX} {d : Nat} {P : Nat → Nat → Option Nat} {J : HJ} {x1 : Int32} (hp : Wp P) : ∀ (x2 : Int32) (I : HI) (r : (Int32 ⊕ String) × HI), L_X11_breaks_37 x1 x2 I = some r → M g mX11_breaks (d + 6) (NT, NT, 1) ((thr_i r.1), (NT, r.2, J, P)) 37 [some (.ref 1), some (.int x1), some (.int x2)] [] (NT, I, J, P) := by
  refine L_X11_breaks_37.partial_correctness x1 (fun x2 I r => M g mX11_breaks (d + 6) (NT, NT, 1) ((thr_i r.1), (NT, r.2, J, P)) 37 [some (.ref 1), some (.int x1), some (.int x2)] [] (NT, I, J, P)) ?_
  intro f ih x2 I r h
  refine M_iload_n (pc := 37) dX11_breaks_37 rfl ?_
  refine M_bipush (pc := 38) (v := 100) dX11_breaks_38 (by decide) ?_
  refine M_icmp_ge (pc := 40) (tgt := 78) dX11_breaks_40 (by decide) (fun hc6 => ?_) (fun hc6 => ?_)
  · have h := (if_pos hc6).symm.trans h
    refine M_aload_n (pc := 78) dX11_breaks_78 rfl ?_
    refine M_getR (pc := 79) dX11_breaks_79 f_X11_61 at_10 (gr_10_11 hp at_10).1 ?_
    refine M_iload_n (pc := 82) dX11_breaks_82 rfl ?_
    obtain ⟨r7, hr8, h⟩ := bnd h
    refine M_callVi (pc := 83) dX11_breaks_83 v_X11_295 rfl rfl (gr_10_11 hp at_10).2 (Nat.le_of_ble_eq_true rfl) (C_X3_takes (d := d + 4) hp (gr_10_11 hp at_10).2 hr8) (Nat.le_refl _) ?_
    refine M_if_eq (pc := 86) (tgt := 93) dX11_breaks_86 (by decide) (fun hc9 => ?_) (fun hc9 => ?_)
    · have h := (if_pos hc9).symm.trans h
      refine M_bipush (pc := 93) (v := 100) dX11_breaks_93 (by decide) ?_
      obtain rfl := Option.some.inj h
      exact M_iret (pc := 95) dX11_breaks_95 rfl rfl rfl rfl
    · have h := (if_neg hc9).symm.trans h
      refine M_iconst (pc := 89) (v := -1) dX11_breaks_89 (by decide) ?_
      refine M_goto (pc := 90) (tgt := 95) dX11_breaks_90 (by decide) ?_
      obtain rfl := Option.some.inj h
      exact M_iret (pc := 95) dX11_breaks_95 rfl rfl rfl rfl
  · have h := (if_neg hc6).symm.trans h
    refine M_aload_n (pc := 43) dX11_breaks_43 rfl ?_
    refine M_getR (pc := 44) dX11_breaks_44 f_X11_61 at_10 (gr_10_11 hp at_10).1 ?_
    refine M_iload_n (pc := 47) dX11_breaks_47 rfl ?_
    obtain ⟨r10, hr11, h⟩ := bnd h
    refine M_callVi (pc := 48) dX11_breaks_48 v_X11_295 rfl rfl (gr_10_11 hp at_10).2 (Nat.le_of_ble_eq_true rfl) (C_X3_takes (d := d + 4) hp (gr_10_11 hp at_10).2 hr11) (Nat.le_refl _) ?_
    refine M_if_ne (pc := 51) (tgt := 56) dX11_breaks_51 (by decide) (fun hc12 => ?_) (fun hc12 => ?_)
    · have h := (if_neg hc12).symm.trans h
      refine M_aload_n (pc := 56) dX11_breaks_56 rfl ?_
      refine M_getR (pc := 57) dX11_breaks_57 f_X11_61 at_10 (gr_10_11 hp at_10).1 ?_
      refine M_iload_n (pc := 60) dX11_breaks_60 rfl ?_
      refine M_aload_n (pc := 61) dX11_breaks_61 rfl ?_
      refine M_getR (pc := 62) dX11_breaks_62 f_X11_30 at_10 (gr_10_4 hp at_10).1 ?_
      refine M_aload_n (pc := 65) dX11_breaks_65 rfl ?_
      refine M_getR (pc := 66) dX11_breaks_66 f_X11_67 at_10 (gr_10_12 hp at_10).1 ?_
      obtain ⟨r13, hr14, h⟩ := bnd h
      refine M_callVv (pc := 69) dX11_breaks_69 v_X11_232 rfl rfl (gr_10_11 hp at_10).2 (Nat.le_of_ble_eq_true rfl) (C_X3_bite (d := d + 1) hp (gr_10_11 hp at_10).2 (gr_10_4 hp at_10).2 hr14) (Nat.le_refl _) ?_
      refine M_iinc (pc := 72) (v := (x2 + (1 : Int32))) (ls' := [some (.ref 1), some (.int x1), some (.int (x2 + (1 : Int32)))]) dX11_breaks_72 rfl rfl (by decide) rfl ?_
      refine M_goto (pc := 75) (tgt := 37) dX11_breaks_75 (by decide) ?_
      exact ih (x2 + (1 : Int32)) r13 _ h
    · have h := (if_pos hc12).symm.trans h
      refine M_iload_n (pc := 54) dX11_breaks_54 rfl ?_
      obtain rfl := Option.some.inj h
      exact M_iret (pc := 55) dX11_breaks_55 rfl rfl rfl rfl
set_option maxRecDepth 4000 in
set_option maxHeartbeats 4000000 in
theorem C_X11_breaks {g : gX} {d : Nat} {P : Nat → Nat → Option Nat} {I : HI} {x1 : Int32} {J : HJ} (hp : Wp P) {r : (Int32 ⊕ String) × HI} (h : F_X11_breaks I x1 = some r) : Cx g mX11_breaks (d + 6) [.ref 1, .int x1] (NT, I, J, P) ((thr_i r.1), (NT, r.2, J, P)) := by
  unfold F_X11_breaks at h
  refine Cx.of (by decide) (by simp [Value.category]) (Nat.le_of_ble_eq_true rfl) (Nat.le_refl _) (ls := [some (.ref 1), some (.int x1), none]) rfl ?_
  refine M_aload_n (pc := 0) dX11_breaks_0 rfl ?_
  refine M_getR (pc := 1) dX11_breaks_1 f_X11_23 at_10 (gr_10_3 hp at_10).1 ?_
  refine M_getR (pc := 4) dX11_breaks_4 f_X11_148 (gr_10_3 hp at_10).2 (gr_3_0 hp (gr_10_3 hp at_10).2).1 ?_
  refine M_iload_n (pc := 7) dX11_breaks_7 rfl ?_
  obtain ⟨r1, hr2, h⟩ := bnd h
  refine M_callVi (pc := 8) dX11_breaks_8 v_X11_152 rfl rfl (gr_3_0 hp (gr_10_3 hp at_10).2).2 (Nat.le_of_ble_eq_true rfl) (C_X1_has (d := d + 5) hp (gr_3_0 hp (gr_10_3 hp at_10).2).2 hr2) (Nat.le_refl _) ?_
  refine M_if_ne (pc := 11) (tgt := 24) dX11_breaks_11 (by decide) (fun hc3 => ?_) (fun hc3 => ?_)
  · have h := (if_neg hc3).symm.trans h
    refine M_aload_n (pc := 24) dX11_breaks_24 rfl ?_
    refine M_getR (pc := 25) dX11_breaks_25 f_X11_61 at_10 (gr_10_11 hp at_10).1 ?_
    refine M_aload_n (pc := 28) dX11_breaks_28 rfl ?_
    refine M_getR (pc := 29) dX11_breaks_29 f_X11_23 at_10 (gr_10_3 hp at_10).1 ?_
    obtain ⟨r4, hr5, h⟩ := bnd h
    refine M_callVv (pc := 32) dX11_breaks_32 v_X11_106 rfl rfl (gr_10_11 hp at_10).2 (Nat.le_of_ble_eq_true rfl) (C_X3_copy (d := d + 3) hp (gr_10_11 hp at_10).2 (gr_10_3 hp at_10).2 hr5) (Nat.le_refl _) ?_
    refine M_iconst (pc := 35) (v := 0) dX11_breaks_35 (by decide) ?_
    refine M_istore_n (pc := 36) (ls' := [some (.ref 1), some (.int x1), some (.int (0 : Int32))]) dX11_breaks_36 (by decide) rfl ?_
    exact LC_X11_breaks_37 (P := P) hp (0 : Int32) r4 _ h
  · have h := (if_pos hc3).symm.trans h
    obtain rfl := Option.some.inj h
    exact M_throw (pc := 14) dX11_breaks_14 dX11_breaks_17 dX11_breaks_18 dX11_breaks_20 dX11_breaks_23 x_X11_158 (j := 3) (by decide) str_X11_160 rfl rfl
def L_X11_tryEvenings_21 (x1 : Int32) (x3 : Int32) (I : HI) : Option (HI) :=
  if x1 ≤ x3 then some I else (F_X11_passEvening I 130 (0 : Int32)) >>= fun r4 => L_X11_tryEvenings_21 x1 (x3 + (1 : Int32)) r4.2
partial_fixpoint
def F_X11_tryEvenings (I : HI) (x1 : Int32) (x2 : Int32) : Option (HI) :=
  (F_X3_copy I 130 3) >>= fun r1 => L_X11_tryEvenings_21 x1 (0 : Int32) (up2 r1 130 14 x2)
set_option maxRecDepth 4000 in
set_option maxHeartbeats 4000000 in
theorem LC_X11_tryEvenings_21 {g : gX} {d : Nat} {P : Nat → Nat → Option Nat} {J : HJ} {x1 : Int32} (hp : Wp P) : ∀ (x3 : Int32) (I : HI) (r : HI), L_X11_tryEvenings_21 x1 x3 I = some r → M g mX11_tryEvenings (d + 6) (NT, NT, 0) ((.inl none), (NT, r, J, P)) 21 [some (.ref 1), some (.int x1), none, some (.int x3)] [] (NT, I, J, P) := by
  refine L_X11_tryEvenings_21.partial_correctness x1 (fun x3 I r => M g mX11_tryEvenings (d + 6) (NT, NT, 0) ((.inl none), (NT, r, J, P)) 21 [some (.ref 1), some (.int x1), none, some (.int x3)] [] (NT, I, J, P)) ?_
  intro f ih x3 I r h
  refine M_iload_n (pc := 21) dX11_tryEvenings_21 rfl ?_
  refine M_iload_n (pc := 22) dX11_tryEvenings_22 rfl ?_
  refine M_icmp_ge (pc := 23) (tgt := 42) dX11_tryEvenings_23 (by decide) (fun hc3 => ?_) (fun hc3 => ?_)
  · have h := (if_pos hc3).symm.trans h
    obtain rfl := Option.some.inj h
    exact M_vret (pc := 42) dX11_tryEvenings_42 rfl rfl rfl
  · have h := (if_neg hc3).symm.trans h
    refine M_aload_n (pc := 26) dX11_tryEvenings_26 rfl ?_
    refine M_aload_n (pc := 27) dX11_tryEvenings_27 rfl ?_
    refine M_getR (pc := 28) dX11_tryEvenings_28 f_X11_61 at_10 (gr_10_11 hp at_10).1 ?_
    refine M_iconst (pc := 31) (v := 0) dX11_tryEvenings_31 (by decide) ?_
    obtain ⟨r4, hr5, h⟩ := bnd h
    refine M_callVi (pc := 32) dX11_tryEvenings_32 v_X11_285 rfl rfl at_10 (Nat.le_of_ble_eq_true rfl) (C_X11_passEvening (d := d + 0) hp (gr_10_11 hp at_10).2 hr5) (Nat.le_refl _) ?_
    refine M_pop (pc := 35) dX11_tryEvenings_35 rfl ?_
    refine M_iinc (pc := 36) (v := (x3 + (1 : Int32))) (ls' := [some (.ref 1), some (.int x1), none, some (.int (x3 + (1 : Int32)))]) dX11_tryEvenings_36 rfl rfl (by decide) rfl ?_
    refine M_goto (pc := 39) (tgt := 21) dX11_tryEvenings_39 (by decide) ?_
    exact ih (x3 + (1 : Int32)) r4.2 _ h
set_option maxRecDepth 4000 in
set_option maxHeartbeats 4000000 in
theorem C_X11_tryEvenings {g : gX} {d : Nat} {P : Nat → Nat → Option Nat} {I : HI} {x1 : Int32} {x2 : Int32} {J : HJ} (hp : Wp P) {r : HI} (h : F_X11_tryEvenings I x1 x2 = some r) : Cm g mX11_tryEvenings (d + 6) [.ref 1, .int x1, .int x2] (NT, I, J, P) none (NT, r, J, P) := by
  unfold F_X11_tryEvenings at h
  refine Cm.of (by decide) (by simp [Value.category]) (Nat.le_of_ble_eq_true rfl) (Nat.le_refl _) (ls := [some (.ref 1), some (.int x1), some (.int x2), none]) rfl ?_
  refine M_aload_n (pc := 0) dX11_tryEvenings_0 rfl ?_
  refine M_getR (pc := 1) dX11_tryEvenings_1 f_X11_61 at_10 (gr_10_11 hp at_10).1 ?_
  refine M_aload_n (pc := 4) dX11_tryEvenings_4 rfl ?_
  refine M_getR (pc := 5) dX11_tryEvenings_5 f_X11_23 at_10 (gr_10_3 hp at_10).1 ?_
  obtain ⟨r1, hr2, h⟩ := bnd h
  refine M_callVv (pc := 8) dX11_tryEvenings_8 v_X11_106 rfl rfl (gr_10_11 hp at_10).2 (Nat.le_of_ble_eq_true rfl) (C_X3_copy (d := d + 3) hp (gr_10_11 hp at_10).2 (gr_10_3 hp at_10).2 hr2) (Nat.le_refl _) ?_
  refine M_aload_n (pc := 11) dX11_tryEvenings_11 rfl ?_
  refine M_getR (pc := 12) dX11_tryEvenings_12 f_X11_61 at_10 (gr_10_11 hp at_10).1 ?_
  refine M_iload_n (pc := 15) dX11_tryEvenings_15 rfl ?_
  refine M_putI (pc := 16) dX11_tryEvenings_16 f_X11_389 (gr_10_11 hp at_10).2 rfl ⟨rfl, rfl⟩ ?_
  refine M_iconst (pc := 19) (v := 0) dX11_tryEvenings_19 (by decide) ?_
  refine M_istore_n (pc := 20) (ls' := [some (.ref 1), some (.int x1), some (.int x2), some (.int (0 : Int32))]) dX11_tryEvenings_20 (by decide) rfl ?_
  refine M_mask (pc := 21) [true, true, false, true] rfl ?_
  exact LC_X11_tryEvenings_21 (P := P) hp (0 : Int32) (up2 r1 130 14 x2) _ h
def L_X11_span_31 (x1 : Int32) (x2 : Int32) (x3 : Int32) (x4 : Int32) (x5 : Int32) (I : HI) : Option ((Int32 ⊕ String) × HI) :=
  if (6 : Int32) < x5 then if x2 = 0 then some ((Sum.inl x3), I) else some ((Sum.inl x4), I) else (F_X11_tryEvenings I x1 x5) >>= fun r5 => L_X11_span_31 x1 x2 (if (r5 130 13) < x3 then (r5 130 13) else x3) (if x4 < (r5 130 13) then (r5 130 13) else x4) (x5 + (1 : Int32)) r5
partial_fixpoint
def F_X11_span (I : HI) (x1 : Int32) (x2 : Int32) : Option ((Int32 ⊕ String) × HI) :=
  if x1 < 0 then some ((Sum.inr "java/lang/IllegalArgumentException"), I) else if x1 ≤ (60 : Int32) then L_X11_span_31 x1 x2 (9999 : Int32) (0 : Int32) (1 : Int32) I else some ((Sum.inr "java/lang/IllegalArgumentException"), I)
set_option maxRecDepth 4000 in
set_option maxHeartbeats 4000000 in
theorem LC_X11_span_31 {g : gX} {d : Nat} {P : Nat → Nat → Option Nat} {J : HJ} {x1 : Int32} {x2 : Int32} (hp : Wp P) : ∀ (x3 : Int32) (x4 : Int32) (x5 : Int32) (I : HI) (r : (Int32 ⊕ String) × HI), L_X11_span_31 x1 x2 x3 x4 x5 I = some r → M g mX11_span (d + 7) (NT, NT, 1) ((thr_i r.1), (NT, r.2, J, P)) 31 [some (.ref 1), some (.int x1), some (.int x2), some (.int x3), some (.int x4), some (.int x5)] [] (NT, I, J, P) := by
  refine L_X11_span_31.partial_correctness x1 x2 (fun x3 x4 x5 I r => M g mX11_span (d + 7) (NT, NT, 1) ((thr_i r.1), (NT, r.2, J, P)) 31 [some (.ref 1), some (.int x1), some (.int x2), some (.int x3), some (.int x4), some (.int x5)] [] (NT, I, J, P)) ?_
  intro f ih x3 x4 x5 I r h
  refine M_iload (pc := 31) dX11_span_31 rfl ?_
  refine M_bipush (pc := 33) (v := 6) dX11_span_33 (by decide) ?_
  refine M_icmp_gt (pc := 35) (tgt := 77) dX11_span_35 (by decide) (fun hc3 => ?_) (fun hc3 => ?_)
  · have h := (if_pos hc3).symm.trans h
    refine M_iload_n (pc := 77) dX11_span_77 rfl ?_
    refine M_if_eq (pc := 78) (tgt := 86) dX11_span_78 (by decide) (fun hc4 => ?_) (fun hc4 => ?_)
    · have h := (if_pos hc4).symm.trans h
      refine M_iload_n (pc := 86) dX11_span_86 rfl ?_
      obtain rfl := Option.some.inj h
      exact M_iret (pc := 87) dX11_span_87 rfl rfl rfl rfl
    · have h := (if_neg hc4).symm.trans h
      refine M_iload (pc := 81) dX11_span_81 rfl ?_
      refine M_goto (pc := 83) (tgt := 87) dX11_span_83 (by decide) ?_
      obtain rfl := Option.some.inj h
      exact M_iret (pc := 87) dX11_span_87 rfl rfl rfl rfl
  · have h := (if_neg hc3).symm.trans h
    refine M_aload_n (pc := 38) dX11_span_38 rfl ?_
    refine M_iload_n (pc := 39) dX11_span_39 rfl ?_
    refine M_iload (pc := 40) dX11_span_40 rfl ?_
    obtain ⟨r5, hr6, h⟩ := bnd h
    refine M_callVv (pc := 42) dX11_span_42 v_X11_392 rfl rfl at_10 (Nat.le_of_ble_eq_true rfl) (C_X11_tryEvenings (d := d + 0) hp hr6) (Nat.le_refl _) ?_
    refine M_iload_n (pc := 45) dX11_span_45 rfl ?_
    refine M_aload_n (pc := 46) dX11_span_46 rfl ?_
    refine M_getR (pc := 47) dX11_span_47 f_X11_61 at_10 (gr_10_11 hp at_10).1 ?_
    refine M_getI (pc := 50) dX11_span_50 f_X11_396 (gr_10_11 hp at_10).2 ?_
    refine M_mmin (pc := 53) dX11_span_53 mm_X11_399.1 mm_X11_399.2.1 mm_X11_399.2.2.1 mm_X11_399.2.2.2 (Nat.le_of_ble_eq_true rfl) ?_
    refine M_istore_n (pc := 56) (ls' := [some (.ref 1), some (.int x1), some (.int x2), some (.int (if (r5 130 13) < x3 then (r5 130 13) else x3)), some (.int x4), some (.int x5)]) dX11_span_56 (by decide) rfl ?_
    refine M_iload (pc := 57) dX11_span_57 rfl ?_
    refine M_aload_n (pc := 59) dX11_span_59 rfl ?_
    refine M_getR (pc := 60) dX11_span_60 f_X11_61 at_10 (gr_10_11 hp at_10).1 ?_
    refine M_getI (pc := 63) dX11_span_63 f_X11_396 (gr_10_11 hp at_10).2 ?_
    refine M_mmax (pc := 66) dX11_span_66 mm_X11_350.1 mm_X11_350.2.1 mm_X11_350.2.2.1 mm_X11_350.2.2.2 (Nat.le_of_ble_eq_true rfl) ?_
    refine M_istore (pc := 69) (ls' := [some (.ref 1), some (.int x1), some (.int x2), some (.int (if (r5 130 13) < x3 then (r5 130 13) else x3)), some (.int (if x4 < (r5 130 13) then (r5 130 13) else x4)), some (.int x5)]) dX11_span_69 (by decide) rfl ?_
    refine M_iinc (pc := 71) (v := (x5 + (1 : Int32))) (ls' := [some (.ref 1), some (.int x1), some (.int x2), some (.int (if (r5 130 13) < x3 then (r5 130 13) else x3)), some (.int (if x4 < (r5 130 13) then (r5 130 13) else x4)), some (.int (x5 + (1 : Int32)))]) dX11_span_71 rfl rfl (by decide) rfl ?_
    refine M_goto (pc := 74) (tgt := 31) dX11_span_74 (by decide) ?_
    exact ih (if (r5 130 13) < x3 then (r5 130 13) else x3) (if x4 < (r5 130 13) then (r5 130 13) else x4) (x5 + (1 : Int32)) r5 _ h
set_option maxRecDepth 4000 in
set_option maxHeartbeats 4000000 in
theorem C_X11_span {g : gX} {d : Nat} {P : Nat → Nat → Option Nat} {I : HI} {x1 : Int32} {x2 : Int32} {J : HJ} (hp : Wp P) {r : (Int32 ⊕ String) × HI} (h : F_X11_span I x1 x2 = some r) : Cx g mX11_span (d + 7) [.ref 1, .int x1, .int x2] (NT, I, J, P) ((thr_i r.1), (NT, r.2, J, P)) := by
  unfold F_X11_span at h
  refine Cx.of (by decide) (by simp [Value.category]) (Nat.le_of_ble_eq_true rfl) (Nat.le_refl _) (ls := [some (.ref 1), some (.int x1), some (.int x2), none, none, none]) rfl ?_
  refine M_iload_n (pc := 0) dX11_span_0 rfl ?_
  refine M_if_lt (pc := 1) (tgt := 10) dX11_span_1 (by decide) (fun hc1 => ?_) (fun hc1 => ?_)
  · have h := (if_pos hc1).symm.trans h
    obtain rfl := Option.some.inj h
    exact M_throwW (pc := 10) dX11_span_10 dX11_span_13 dX11_span_14 dX11_span_17 dX11_span_20 x_X11_118 (j := 11) (by decide) str_X11_283 rfl rfl
  · have h := (if_neg hc1).symm.trans h
    refine M_iload_n (pc := 4) dX11_span_4 rfl ?_
    refine M_bipush (pc := 5) (v := 60) dX11_span_5 (by decide) ?_
    refine M_icmp_le (pc := 7) (tgt := 21) dX11_span_7 (by decide) (fun hc2 => ?_) (fun hc2 => ?_)
    · have h := (if_pos hc2).symm.trans h
      refine M_sipush (pc := 21) (v := 9999) dX11_span_21 (by decide) ?_
      refine M_istore_n (pc := 24) (ls' := [some (.ref 1), some (.int x1), some (.int x2), some (.int (9999 : Int32)), none, none]) dX11_span_24 (by decide) rfl ?_
      refine M_iconst (pc := 25) (v := 0) dX11_span_25 (by decide) ?_
      refine M_istore (pc := 26) (ls' := [some (.ref 1), some (.int x1), some (.int x2), some (.int (9999 : Int32)), some (.int (0 : Int32)), none]) dX11_span_26 (by decide) rfl ?_
      refine M_iconst (pc := 28) (v := 1) dX11_span_28 (by decide) ?_
      refine M_istore (pc := 29) (ls' := [some (.ref 1), some (.int x1), some (.int x2), some (.int (9999 : Int32)), some (.int (0 : Int32)), some (.int (1 : Int32))]) dX11_span_29 (by decide) rfl ?_
      exact LC_X11_span_31 (P := P) hp (9999 : Int32) (0 : Int32) (1 : Int32) I _ h
    · have h := (if_neg hc2).symm.trans h
      obtain rfl := Option.some.inj h
      exact M_throwW (pc := 10) dX11_span_10 dX11_span_13 dX11_span_14 dX11_span_17 dX11_span_20 x_X11_118 (j := 11) (by decide) str_X11_283 rfl rfl
def F_X11_life (I : HI) : Option ((Int32 ⊕ String) × HI) :=
  (F_X3_copy I 140 3) >>= fun r1 => (F_X11_takeTape r1) >>= fun r3 => (F_X10_firstWrong_c6 r3.2 r3.1 (14 : Int32)) >>= fun r5 => if ((up2 r5.2 1 2 r5.1) 1 2) = (-1 : Int32) then if ((up2 r5.2 1 2 r5.1) 3 1) < (12 : Int32) then (F_X3_copy (up2 r5.2 1 2 r5.1) 3 140) >>= fun r9 => (F_X0_clear (up2 r9 3 1 ((r9 3 1) + (1 : Int32)))) >>= fun r11 => some ((Sum.inl (r11 3 1)), r11) else some ((Sum.inr "java/lang/UnsupportedOperationException"), (up2 r5.2 1 2 r5.1)) else some ((Sum.inr "java/lang/IllegalArgumentException"), (up2 r5.2 1 2 r5.1))
set_option maxRecDepth 4000 in
set_option maxHeartbeats 4000000 in
theorem C_X11_life {g : gX} {d : Nat} {P : Nat → Nat → Option Nat} {I : HI} {J : HJ} (hp : Wp P) {r : (Int32 ⊕ String) × HI} (h : F_X11_life I = some r) : Cx g mX11_life (d + 9) [.ref 1] (NT, I, J, P) ((thr_i r.1), (NT, r.2, J, (up2 P 1 0 (some 2)))) := by
  unfold F_X11_life at h
  refine Cx.of (by decide) (by simp [Value.category]) (Nat.le_of_ble_eq_true rfl) (Nat.le_refl _) (ls := [some (.ref 1)]) rfl ?_
  refine M_aload_n (pc := 0) dX11_life_0 rfl ?_
  refine M_getR (pc := 1) dX11_life_1 f_X11_74 at_10 (gr_10_13 hp at_10).1 ?_
  refine M_getR (pc := 4) dX11_life_4 f_X11_103 (gr_10_13 hp at_10).2 (gr_6_5 hp (gr_10_13 hp at_10).2).1 ?_
  refine M_aload_n (pc := 7) dX11_life_7 rfl ?_
  refine M_getR (pc := 8) dX11_life_8 f_X11_23 at_10 (gr_10_3 hp at_10).1 ?_
  obtain ⟨r1, hr2, h⟩ := bnd h
  refine M_callVv (pc := 11) dX11_life_11 v_X11_106 rfl rfl (gr_6_5 hp (gr_10_13 hp at_10).2).2 (Nat.le_of_ble_eq_true rfl) (C_X3_copy (d := d + 6) hp (gr_6_5 hp (gr_10_13 hp at_10).2).2 (gr_10_3 hp at_10).2 hr2) (Nat.le_refl _) ?_
  refine M_aload_n (pc := 14) dX11_life_14 rfl ?_
  refine M_aload_n (pc := 15) dX11_life_15 rfl ?_
  refine M_getR (pc := 16) dX11_life_16 f_X11_74 at_10 (gr_10_13 hp at_10).1 ?_
  refine M_aload_n (pc := 19) dX11_life_19 rfl ?_
  refine M_getR (pc := 20) dX11_life_20 f_X11_9 at_10 (gr_10_0 hp at_10).1 ?_
  refine M_aload_n (pc := 23) dX11_life_23 rfl ?_
  obtain ⟨r3, hr4, h⟩ := bnd h
  refine M_callVi (pc := 24) dX11_life_24 v_X11_110 rfl rfl at_10 (Nat.le_of_ble_eq_true rfl) (C_X11_takeTape (d := d + 8) hp hr4) (Nat.le_refl _) ?_
  refine M_bipush (pc := 27) (v := 14) dX11_life_27 (by decide) ?_
  obtain ⟨r5, hr6, h⟩ := bnd h
  refine M_callUi (pc := 29) dX11_life_29 u_X11_114 rfl rfl (gr_10_13 hp at_10).2 (Nat.le_of_ble_eq_true rfl) (C_X10_firstWrong_c6 (d := d + 0) hp hr6) (Nat.le_refl _) ?_
  refine M_putI (pc := 32) dX11_life_32 f_X11_17 at_10 rfl ⟨rfl, rfl⟩ ?_
  refine M_aload_n (pc := 35) dX11_life_35 rfl ?_
  refine M_getI (pc := 36) dX11_life_36 f_X11_17 at_10 ?_
  refine M_iconst (pc := 39) (v := -1) dX11_life_39 (by decide) ?_
  refine M_icmp_eq (pc := 40) (tgt := 53) dX11_life_40 (by decide) (fun hc7 => ?_) (fun hc7 => ?_)
  · have h := (if_pos hc7).symm.trans h
    refine M_aload_n (pc := 53) dX11_life_53 rfl ?_
    refine M_getR (pc := 54) dX11_life_54 f_X11_23 at_10 (gr_10_3 hp at_10).1 ?_
    refine M_getI (pc := 57) dX11_life_57 f_X11_125 (gr_10_3 hp at_10).2 ?_
    refine M_bipush (pc := 60) (v := 12) dX11_life_60 (by decide) ?_
    refine M_icmp_lt (pc := 62) (tgt := 75) dX11_life_62 (by decide) (fun hc8 => ?_) (fun hc8 => ?_)
    · have h := (if_pos hc8).symm.trans h
      refine M_aload_n (pc := 75) dX11_life_75 rfl ?_
      refine M_getR (pc := 76) dX11_life_76 f_X11_23 at_10 (gr_10_3 hp at_10).1 ?_
      refine M_aload_n (pc := 79) dX11_life_79 rfl ?_
      refine M_getR (pc := 80) dX11_life_80 f_X11_74 at_10 (gr_10_13 hp at_10).1 ?_
      refine M_getR (pc := 83) dX11_life_83 f_X11_103 (gr_10_13 hp at_10).2 (gr_6_5 hp (gr_10_13 hp at_10).2).1 ?_
      obtain ⟨r9, hr10, h⟩ := bnd h
      refine M_callVv (pc := 86) dX11_life_86 v_X11_106 rfl rfl (gr_10_3 hp at_10).2 (Nat.le_of_ble_eq_true rfl) (C_X3_copy (d := d + 6) hp (gr_10_3 hp at_10).2 (gr_6_5 hp (gr_10_13 hp at_10).2).2 hr10) (Nat.le_refl _) ?_
      refine M_aload_n (pc := 89) dX11_life_89 rfl ?_
      refine M_getR (pc := 90) dX11_life_90 f_X11_23 at_10 (gr_10_3 hp at_10).1 ?_
      refine M_dup (pc := 93) dX11_life_93 rfl ?_
      refine M_getI (pc := 94) dX11_life_94 f_X11_125 (gr_10_3 hp at_10).2 ?_
      refine M_iconst (pc := 97) (v := 1) dX11_life_97 (by decide) ?_
      refine M_iadd (pc := 98) dX11_life_98 ?_
      refine M_putI (pc := 99) dX11_life_99 f_X11_125 (gr_10_3 hp at_10).2 rfl ⟨rfl, rfl⟩ ?_
      refine M_aload_n (pc := 102) dX11_life_102 rfl ?_
      refine M_getR (pc := 103) dX11_life_103 f_X11_44 at_10 (gr_10_6 hp at_10).1 ?_
      obtain ⟨r11, hr12, h⟩ := bnd h
      refine M_callVv (pc := 106) dX11_life_106 v_X11_133 rfl rfl (gr_10_6 hp at_10).2 (Nat.le_of_ble_eq_true rfl) (C_X0_clear (d := d + 8) hp hr12) (Nat.le_refl _) ?_
      refine M_aload_n (pc := 109) dX11_life_109 rfl ?_
      refine M_getR (pc := 110) dX11_life_110 f_X11_23 at_10 (gr_10_3 hp at_10).1 ?_
      refine M_getI (pc := 113) dX11_life_113 f_X11_125 (gr_10_3 hp at_10).2 ?_
      obtain rfl := Option.some.inj h
      exact M_iret (pc := 116) dX11_life_116 rfl rfl rfl rfl
    · have h := (if_neg hc8).symm.trans h
      obtain rfl := Option.some.inj h
      exact M_throw (pc := 65) dX11_life_65 dX11_life_68 dX11_life_69 dX11_life_71 dX11_life_74 x_X11_128 (j := 1) (by decide) str_X11_130 rfl rfl
  · have h := (if_neg hc7).symm.trans h
    obtain rfl := Option.some.inj h
    exact M_throw (pc := 43) dX11_life_43 dX11_life_46 dX11_life_47 dX11_life_49 dX11_life_52 x_X11_118 (j := 0) (by decide) str_X11_120 rfl rfl
def L_X11_evenings_41 (x1 : Int32) (x2 : Int32) (x3 : Int32) (I : HI) : Option ((Int32 ⊕ String) × HI) :=
  if x1 ≤ x3 then some ((Sum.inl x2), I) else (F_X11_passEvening I 3 (1 : Int32)) >>= fun r6 => L_X11_evenings_41 x1 (x2 + r6.1) (x3 + (1 : Int32)) r6.2
partial_fixpoint
def F_X11_evenings (I : HI) (x1 : Int32) : Option ((Int32 ⊕ String) × HI) :=
  if x1 < (1 : Int32) then some ((Sum.inr "java/lang/IllegalArgumentException"), I) else if x1 ≤ (60 : Int32) then (F_X0_remember I 3 15) >>= fun r3 => L_X11_evenings_41 x1 (0 : Int32) (0 : Int32) r3 else some ((Sum.inr "java/lang/IllegalArgumentException"), I)
set_option maxRecDepth 4000 in
set_option maxHeartbeats 4000000 in
theorem LC_X11_evenings_41 {g : gX} {d : Nat} {P : Nat → Nat → Option Nat} {J : HJ} {x1 : Int32} (hp : Wp P) : ∀ (x2 : Int32) (x3 : Int32) (I : HI) (r : (Int32 ⊕ String) × HI), L_X11_evenings_41 x1 x2 x3 I = some r → M g mX11_evenings (d + 6) (NT, NT, 1) ((thr_i r.1), (NT, r.2, J, P)) 41 [some (.ref 1), some (.int x1), some (.int x2), some (.int x3)] [] (NT, I, J, P) := by
  refine L_X11_evenings_41.partial_correctness x1 (fun x2 x3 I r => M g mX11_evenings (d + 6) (NT, NT, 1) ((thr_i r.1), (NT, r.2, J, P)) 41 [some (.ref 1), some (.int x1), some (.int x2), some (.int x3)] [] (NT, I, J, P)) ?_
  intro f ih x2 x3 I r h
  refine M_iload_n (pc := 41) dX11_evenings_41 rfl ?_
  refine M_iload_n (pc := 42) dX11_evenings_42 rfl ?_
  refine M_icmp_ge (pc := 43) (tgt := 64) dX11_evenings_43 (by decide) (fun hc5 => ?_) (fun hc5 => ?_)
  · have h := (if_pos hc5).symm.trans h
    refine M_iload_n (pc := 64) dX11_evenings_64 rfl ?_
    obtain rfl := Option.some.inj h
    exact M_iret (pc := 65) dX11_evenings_65 rfl rfl rfl rfl
  · have h := (if_neg hc5).symm.trans h
    refine M_iload_n (pc := 46) dX11_evenings_46 rfl ?_
    refine M_aload_n (pc := 47) dX11_evenings_47 rfl ?_
    refine M_aload_n (pc := 48) dX11_evenings_48 rfl ?_
    refine M_getR (pc := 49) dX11_evenings_49 f_X11_23 at_10 (gr_10_3 hp at_10).1 ?_
    refine M_iconst (pc := 52) (v := 1) dX11_evenings_52 (by decide) ?_
    obtain ⟨r6, hr7, h⟩ := bnd h
    refine M_callVi (pc := 53) dX11_evenings_53 v_X11_285 rfl rfl at_10 (Nat.le_of_ble_eq_true rfl) (C_X11_passEvening (d := d + 0) hp (gr_10_3 hp at_10).2 hr7) (Nat.le_refl _) ?_
    refine M_iadd (pc := 56) dX11_evenings_56 ?_
    refine M_istore_n (pc := 57) (ls' := [some (.ref 1), some (.int x1), some (.int (x2 + r6.1)), some (.int x3)]) dX11_evenings_57 (by decide) rfl ?_
    refine M_iinc (pc := 58) (v := (x3 + (1 : Int32))) (ls' := [some (.ref 1), some (.int x1), some (.int (x2 + r6.1)), some (.int (x3 + (1 : Int32)))]) dX11_evenings_58 rfl rfl (by decide) rfl ?_
    refine M_goto (pc := 61) (tgt := 41) dX11_evenings_61 (by decide) ?_
    exact ih (x2 + r6.1) (x3 + (1 : Int32)) r6.2 _ h
set_option maxRecDepth 4000 in
set_option maxHeartbeats 4000000 in
theorem C_X11_evenings {g : gX} {d : Nat} {P : Nat → Nat → Option Nat} {I : HI} {x1 : Int32} {J : HJ} (hp : Wp P) {r : (Int32 ⊕ String) × HI} (h : F_X11_evenings I x1 = some r) : Cx g mX11_evenings (d + 6) [.ref 1, .int x1] (NT, I, J, P) ((thr_i r.1), (NT, r.2, J, P)) := by
  unfold F_X11_evenings at h
  refine Cx.of (by decide) (by simp [Value.category]) (Nat.le_of_ble_eq_true rfl) (Nat.le_refl _) (ls := [some (.ref 1), some (.int x1), none, none]) rfl ?_
  refine M_iload_n (pc := 0) dX11_evenings_0 rfl ?_
  refine M_iconst (pc := 1) (v := 1) dX11_evenings_1 (by decide) ?_
  refine M_icmp_lt (pc := 2) (tgt := 11) dX11_evenings_2 (by decide) (fun hc1 => ?_) (fun hc1 => ?_)
  · have h := (if_pos hc1).symm.trans h
    obtain rfl := Option.some.inj h
    exact M_throwW (pc := 11) dX11_evenings_11 dX11_evenings_14 dX11_evenings_15 dX11_evenings_18 dX11_evenings_21 x_X11_118 (j := 11) (by decide) str_X11_283 rfl rfl
  · have h := (if_neg hc1).symm.trans h
    refine M_iload_n (pc := 5) dX11_evenings_5 rfl ?_
    refine M_bipush (pc := 6) (v := 60) dX11_evenings_6 (by decide) ?_
    refine M_icmp_le (pc := 8) (tgt := 22) dX11_evenings_8 (by decide) (fun hc2 => ?_) (fun hc2 => ?_)
    · have h := (if_pos hc2).symm.trans h
      refine M_aload_n (pc := 22) dX11_evenings_22 rfl ?_
      refine M_getR (pc := 23) dX11_evenings_23 f_X11_44 at_10 (gr_10_6 hp at_10).1 ?_
      refine M_aload_n (pc := 26) dX11_evenings_26 rfl ?_
      refine M_getR (pc := 27) dX11_evenings_27 f_X11_23 at_10 (gr_10_3 hp at_10).1 ?_
      refine M_aload_n (pc := 30) dX11_evenings_30 rfl ?_
      refine M_getR (pc := 31) dX11_evenings_31 f_X11_37 at_10 (gr_10_5 hp at_10).1 ?_
      obtain ⟨r3, hr4, h⟩ := bnd h
      refine M_callVv (pc := 34) dX11_evenings_34 v_X11_228 rfl rfl (gr_10_6 hp at_10).2 (Nat.le_of_ble_eq_true rfl) (C_X0_remember (d := d + 2) hp (gr_10_3 hp at_10).2 (gr_10_5 hp at_10).2 hr4) (Nat.le_refl _) ?_
      refine M_iconst (pc := 37) (v := 0) dX11_evenings_37 (by decide) ?_
      refine M_istore_n (pc := 38) (ls' := [some (.ref 1), some (.int x1), some (.int (0 : Int32)), none]) dX11_evenings_38 (by decide) rfl ?_
      refine M_iconst (pc := 39) (v := 0) dX11_evenings_39 (by decide) ?_
      refine M_istore_n (pc := 40) (ls' := [some (.ref 1), some (.int x1), some (.int (0 : Int32)), some (.int (0 : Int32))]) dX11_evenings_40 (by decide) rfl ?_
      exact LC_X11_evenings_41 (P := P) hp (0 : Int32) (0 : Int32) r3 _ h
    · have h := (if_neg hc2).symm.trans h
      obtain rfl := Option.some.inj h
      exact M_throwW (pc := 11) dX11_evenings_11 dX11_evenings_14 dX11_evenings_15 dX11_evenings_18 dX11_evenings_21 x_X11_118 (j := 11) (by decide) str_X11_283 rfl rfl
def F_X11_order (I : HI) (x1 : Int32) (x2 : Int32) : Option ((Int32 ⊕ String) × HI) :=
  (F_X1_all I 4) >>= fun r1 => (F_J6_bitCount_0f7a4 I (x1 &&& r1)) >>= fun r3 => if r3 ≤ (6 : Int32) then (F_X8_search I 3 (x1 &&& r1) 9) >>= fun r6 => if x2 = (-1 : Int32) then some ((Sum.inl (r6 155 0)), r6) else (F_X8_nth r6 x2) >>= fun r9 => some ((Sum.inl r9), r6) else some ((Sum.inr "java/lang/IllegalArgumentException"), I)
set_option maxRecDepth 4000 in
set_option maxHeartbeats 4000000 in
theorem C_X11_order {g : gX} {d : Nat} {P : Nat → Nat → Option Nat} {I : HI} {x1 : Int32} {x2 : Int32} {J : HJ} (hp : Wp P) {r : (Int32 ⊕ String) × HI} (h : F_X11_order I x1 x2 = some r) : Cx g mX11_order (d + 18) [.ref 1, .int x1, .int x2] (NT, I, J, P) ((thr_i r.1), (NT, r.2, J, P)) := by
  unfold F_X11_order at h
  refine Cx.of (by decide) (by simp [Value.category]) (Nat.le_of_ble_eq_true rfl) (Nat.le_refl _) (ls := [some (.ref 1), some (.int x1), some (.int x2), none]) rfl ?_
  refine M_iload_n (pc := 0) dX11_order_0 rfl ?_
  refine M_aload_n (pc := 1) dX11_order_1 rfl ?_
  refine M_getR (pc := 2) dX11_order_2 f_X11_23 at_10 (gr_10_3 hp at_10).1 ?_
  refine M_getR (pc := 5) dX11_order_5 f_X11_148 (gr_10_3 hp at_10).2 (gr_3_0 hp (gr_10_3 hp at_10).2).1 ?_
  obtain ⟨r1, hr2, h⟩ := bnd h
  refine M_callVi (pc := 8) dX11_order_8 v_X11_214 rfl rfl (gr_3_0 hp (gr_10_3 hp at_10).2).2 (Nat.le_of_ble_eq_true rfl) (C_X1_all (d := d + 17) hp (gr_3_0 hp (gr_10_3 hp at_10).2).2 hr2) (Nat.le_refl _) ?_
  refine M_iand (pc := 11) dX11_order_11 ?_
  refine M_istore_n (pc := 12) (ls' := [some (.ref 1), some (.int x1), some (.int x2), some (.int (x1 &&& r1))]) dX11_order_12 (by decide) rfl ?_
  refine M_iload_n (pc := 13) dX11_order_13 rfl ?_
  obtain ⟨r3, hr4, h⟩ := bnd h
  refine M_callSi (pc := 14) dX11_order_14 s_X11_311 rfl rfl (Nat.le_of_ble_eq_true rfl) (C_J6_bitCount_0f7a4 (d := d + 17) hp hr4) (Nat.le_refl _) ?_
  refine M_bipush (pc := 17) (v := 6) dX11_order_17 (by decide) ?_
  refine M_icmp_le (pc := 19) (tgt := 33) dX11_order_19 (by decide) (fun hc5 => ?_) (fun hc5 => ?_)
  · have h := (if_pos hc5).symm.trans h
    refine M_aload_n (pc := 33) dX11_order_33 rfl ?_
    refine M_getR (pc := 34) dX11_order_34 f_X11_88 at_10 (gr_10_15 hp at_10).1 ?_
    refine M_aload_n (pc := 37) dX11_order_37 rfl ?_
    refine M_getR (pc := 38) dX11_order_38 f_X11_23 at_10 (gr_10_3 hp at_10).1 ?_
    refine M_iload_n (pc := 41) dX11_order_41 rfl ?_
    refine M_aload_n (pc := 42) dX11_order_42 rfl ?_
    refine M_getR (pc := 43) dX11_order_43 f_X11_30 at_10 (gr_10_4 hp at_10).1 ?_
    refine M_aload_n (pc := 46) dX11_order_46 rfl ?_
    refine M_getR (pc := 47) dX11_order_47 f_X11_67 at_10 (gr_10_12 hp at_10).1 ?_
    obtain ⟨r6, hr7, h⟩ := bnd h
    refine M_callVv (pc := 50) dX11_order_50 v_X11_318 rfl rfl (gr_10_15 hp at_10).2 (Nat.le_of_ble_eq_true rfl) (C_X8_search (d := d + 0) hp (gr_10_3 hp at_10).2 (gr_10_4 hp at_10).2 hr7) (Nat.le_refl _) ?_
    refine M_iload_n (pc := 53) dX11_order_53 rfl ?_
    refine M_iconst (pc := 54) (v := -1) dX11_order_54 (by decide) ?_
    refine M_icmp_ne (pc := 55) (tgt := 68) dX11_order_55 (by decide) (fun hc8 => ?_) (fun hc8 => ?_)
    · have h := (if_neg hc8).symm.trans h
      refine M_aload_n (pc := 68) dX11_order_68 rfl ?_
      refine M_getR (pc := 69) dX11_order_69 f_X11_88 at_10 (gr_10_15 hp at_10).1 ?_
      refine M_iload_n (pc := 72) dX11_order_72 rfl ?_
      obtain ⟨r9, hr10, h⟩ := bnd h
      refine M_callVi (pc := 73) dX11_order_73 v_X11_325 rfl rfl (gr_10_15 hp at_10).2 (Nat.le_of_ble_eq_true rfl) (C_X8_nth (d := d + 17) hp hr10) (Nat.le_refl _) ?_
      obtain rfl := Option.some.inj h
      exact M_iret (pc := 76) dX11_order_76 rfl rfl rfl rfl
    · have h := (if_pos hc8).symm.trans h
      refine M_aload_n (pc := 58) dX11_order_58 rfl ?_
      refine M_getR (pc := 59) dX11_order_59 f_X11_88 at_10 (gr_10_15 hp at_10).1 ?_
      refine M_getI (pc := 62) dX11_order_62 f_X11_322 (gr_10_15 hp at_10).2 ?_
      refine M_goto (pc := 65) (tgt := 76) dX11_order_65 (by decide) ?_
      obtain rfl := Option.some.inj h
      exact M_iret (pc := 76) dX11_order_76 rfl rfl rfl rfl
  · have h := (if_neg hc5).symm.trans h
    obtain rfl := Option.some.inj h
    exact M_throwW (pc := 22) dX11_order_22 dX11_order_25 dX11_order_26 dX11_order_29 dX11_order_32 x_X11_118 (j := 15) (by decide) str_X11_316 rfl rfl
def F_X11_trial (I : HI) (x1 : Int32) (x2 : Int32) : Option ((Int32 ⊕ String) × HI) :=
  if x1 < 0 then some ((Sum.inr "java/lang/IllegalArgumentException"), I) else if x1 ≤ (60 : Int32) then (F_X11_tryEvenings I x1 (I 3 14)) >>= fun r3 => if x2 = 0 then some ((Sum.inl (r3 130 4)), r3) else some ((Sum.inl (r3 130 13)), r3) else some ((Sum.inr "java/lang/IllegalArgumentException"), I)
set_option maxRecDepth 4000 in
set_option maxHeartbeats 4000000 in
theorem C_X11_trial {g : gX} {d : Nat} {P : Nat → Nat → Option Nat} {I : HI} {x1 : Int32} {x2 : Int32} {J : HJ} (hp : Wp P) {r : (Int32 ⊕ String) × HI} (h : F_X11_trial I x1 x2 = some r) : Cx g mX11_trial (d + 7) [.ref 1, .int x1, .int x2] (NT, I, J, P) ((thr_i r.1), (NT, r.2, J, P)) := by
  unfold F_X11_trial at h
  refine Cx.of (by decide) (by simp [Value.category]) (Nat.le_of_ble_eq_true rfl) (Nat.le_refl _) (ls := [some (.ref 1), some (.int x1), some (.int x2)]) rfl ?_
  refine M_iload_n (pc := 0) dX11_trial_0 rfl ?_
  refine M_if_lt (pc := 1) (tgt := 10) dX11_trial_1 (by decide) (fun hc1 => ?_) (fun hc1 => ?_)
  · have h := (if_pos hc1).symm.trans h
    obtain rfl := Option.some.inj h
    exact M_throwW (pc := 10) dX11_trial_10 dX11_trial_13 dX11_trial_14 dX11_trial_17 dX11_trial_20 x_X11_118 (j := 11) (by decide) str_X11_283 rfl rfl
  · have h := (if_neg hc1).symm.trans h
    refine M_iload_n (pc := 4) dX11_trial_4 rfl ?_
    refine M_bipush (pc := 5) (v := 60) dX11_trial_5 (by decide) ?_
    refine M_icmp_le (pc := 7) (tgt := 21) dX11_trial_7 (by decide) (fun hc2 => ?_) (fun hc2 => ?_)
    · have h := (if_pos hc2).symm.trans h
      refine M_aload_n (pc := 21) dX11_trial_21 rfl ?_
      refine M_iload_n (pc := 22) dX11_trial_22 rfl ?_
      refine M_aload_n (pc := 23) dX11_trial_23 rfl ?_
      refine M_getR (pc := 24) dX11_trial_24 f_X11_23 at_10 (gr_10_3 hp at_10).1 ?_
      refine M_getI (pc := 27) dX11_trial_27 f_X11_389 (gr_10_3 hp at_10).2 ?_
      obtain ⟨r3, hr4, h⟩ := bnd h
      refine M_callVv (pc := 30) dX11_trial_30 v_X11_392 rfl rfl at_10 (Nat.le_of_ble_eq_true rfl) (C_X11_tryEvenings (d := d + 0) hp hr4) (Nat.le_refl _) ?_
      refine M_iload_n (pc := 33) dX11_trial_33 rfl ?_
      refine M_if_eq (pc := 34) (tgt := 47) dX11_trial_34 (by decide) (fun hc5 => ?_) (fun hc5 => ?_)
      · have h := (if_pos hc5).symm.trans h
        refine M_aload_n (pc := 47) dX11_trial_47 rfl ?_
        refine M_getR (pc := 48) dX11_trial_48 f_X11_61 at_10 (gr_10_11 hp at_10).1 ?_
        refine M_getI (pc := 51) dX11_trial_51 f_X11_220 (gr_10_11 hp at_10).2 ?_
        obtain rfl := Option.some.inj h
        exact M_iret (pc := 54) dX11_trial_54 rfl rfl rfl rfl
      · have h := (if_neg hc5).symm.trans h
        refine M_aload_n (pc := 37) dX11_trial_37 rfl ?_
        refine M_getR (pc := 38) dX11_trial_38 f_X11_61 at_10 (gr_10_11 hp at_10).1 ?_
        refine M_getI (pc := 41) dX11_trial_41 f_X11_396 (gr_10_11 hp at_10).2 ?_
        refine M_goto (pc := 44) (tgt := 54) dX11_trial_44 (by decide) ?_
        obtain rfl := Option.some.inj h
        exact M_iret (pc := 54) dX11_trial_54 rfl rfl rfl rfl
    · have h := (if_neg hc2).symm.trans h
      obtain rfl := Option.some.inj h
      exact M_throwW (pc := 10) dX11_trial_10 dX11_trial_13 dX11_trial_14 dX11_trial_17 dX11_trial_20 x_X11_118 (j := 11) (by decide) str_X11_283 rfl rfl
def F_X11_law (I : HI) : Option ((Int32 ⊕ String) × HI) :=
  (F_X4_clear I 148) >>= fun r1 => (F_X11_takeTape r1) >>= fun r3 => (F_X10_firstWrong_c5 r3.2 r3.1 (12 : Int32)) >>= fun r5 => if ((up2 r5.2 1 2 r5.1) 1 2) = (-1 : Int32) then (F_X4_copy (up2 r5.2 1 2 r5.1) 9 148) >>= fun r8 => (F_X0_clear r8) >>= fun r10 => some ((Sum.inl (r10 9 0)), r10) else some ((Sum.inr "java/lang/IllegalArgumentException"), (up2 r5.2 1 2 r5.1))
set_option maxRecDepth 4000 in
set_option maxHeartbeats 4000000 in
theorem C_X11_law {g : gX} {d : Nat} {P : Nat → Nat → Option Nat} {I : HI} {J : HJ} (hp : Wp P) {r : (Int32 ⊕ String) × HI} (h : F_X11_law I = some r) : Cx g mX11_law (d + 11) [.ref 1] (NT, I, J, P) ((thr_i r.1), (NT, r.2, J, (up2 P 1 0 (some 2)))) := by
  unfold F_X11_law at h
  refine Cx.of (by decide) (by simp [Value.category]) (Nat.le_of_ble_eq_true rfl) (Nat.le_refl _) (ls := [some (.ref 1)]) rfl ?_
  refine M_aload_n (pc := 0) dX11_law_0 rfl ?_
  refine M_getR (pc := 1) dX11_law_1 f_X11_81 at_10 (gr_10_14 hp at_10).1 ?_
  refine M_getR (pc := 4) dX11_law_4 f_X11_136 (gr_10_14 hp at_10).2 (gr_5_5 hp (gr_10_14 hp at_10).2).1 ?_
  obtain ⟨r1, hr2, h⟩ := bnd h
  refine M_callVv (pc := 7) dX11_law_7 v_X11_138 rfl rfl (gr_5_5 hp (gr_10_14 hp at_10).2).2 (Nat.le_of_ble_eq_true rfl) (C_X4_clear (d := d + 10) hp (gr_5_5 hp (gr_10_14 hp at_10).2).2 hr2) (Nat.le_refl _) ?_
  refine M_aload_n (pc := 10) dX11_law_10 rfl ?_
  refine M_aload_n (pc := 11) dX11_law_11 rfl ?_
  refine M_getR (pc := 12) dX11_law_12 f_X11_81 at_10 (gr_10_14 hp at_10).1 ?_
  refine M_aload_n (pc := 15) dX11_law_15 rfl ?_
  refine M_getR (pc := 16) dX11_law_16 f_X11_9 at_10 (gr_10_0 hp at_10).1 ?_
  refine M_aload_n (pc := 19) dX11_law_19 rfl ?_
  obtain ⟨r3, hr4, h⟩ := bnd h
  refine M_callVi (pc := 20) dX11_law_20 v_X11_110 rfl rfl at_10 (Nat.le_of_ble_eq_true rfl) (C_X11_takeTape (d := d + 10) hp hr4) (Nat.le_refl _) ?_
  refine M_bipush (pc := 23) (v := 12) dX11_law_23 (by decide) ?_
  obtain ⟨r5, hr6, h⟩ := bnd h
  refine M_callUi (pc := 25) dX11_law_25 u_X11_139 rfl rfl (gr_10_14 hp at_10).2 (Nat.le_of_ble_eq_true rfl) (C_X10_firstWrong_c5 (d := d + 0) hp hr6) (Nat.le_refl _) ?_
  refine M_putI (pc := 28) dX11_law_28 f_X11_17 at_10 rfl ⟨rfl, rfl⟩ ?_
  refine M_aload_n (pc := 31) dX11_law_31 rfl ?_
  refine M_getI (pc := 32) dX11_law_32 f_X11_17 at_10 ?_
  refine M_iconst (pc := 35) (v := -1) dX11_law_35 (by decide) ?_
  refine M_icmp_eq (pc := 36) (tgt := 49) dX11_law_36 (by decide) (fun hc7 => ?_) (fun hc7 => ?_)
  · have h := (if_pos hc7).symm.trans h
    refine M_aload_n (pc := 49) dX11_law_49 rfl ?_
    refine M_getR (pc := 50) dX11_law_50 f_X11_30 at_10 (gr_10_4 hp at_10).1 ?_
    refine M_aload_n (pc := 53) dX11_law_53 rfl ?_
    refine M_getR (pc := 54) dX11_law_54 f_X11_81 at_10 (gr_10_14 hp at_10).1 ?_
    refine M_getR (pc := 57) dX11_law_57 f_X11_136 (gr_10_14 hp at_10).2 (gr_5_5 hp (gr_10_14 hp at_10).2).1 ?_
    obtain ⟨r8, hr9, h⟩ := bnd h
    refine M_callVv (pc := 60) dX11_law_60 v_X11_142 rfl rfl (gr_10_4 hp at_10).2 (Nat.le_of_ble_eq_true rfl) (C_X4_copy (d := d + 9) hp (gr_10_4 hp at_10).2 (gr_5_5 hp (gr_10_14 hp at_10).2).2 hr9) (Nat.le_refl _) ?_
    refine M_aload_n (pc := 63) dX11_law_63 rfl ?_
    refine M_getR (pc := 64) dX11_law_64 f_X11_44 at_10 (gr_10_6 hp at_10).1 ?_
    obtain ⟨r10, hr11, h⟩ := bnd h
    refine M_callVv (pc := 67) dX11_law_67 v_X11_133 rfl rfl (gr_10_6 hp at_10).2 (Nat.le_of_ble_eq_true rfl) (C_X0_clear (d := d + 10) hp hr11) (Nat.le_refl _) ?_
    refine M_aload_n (pc := 70) dX11_law_70 rfl ?_
    refine M_getR (pc := 71) dX11_law_71 f_X11_30 at_10 (gr_10_4 hp at_10).1 ?_
    refine M_getI (pc := 74) dX11_law_74 f_X11_145 (gr_10_4 hp at_10).2 ?_
    obtain rfl := Option.some.inj h
    exact M_iret (pc := 77) dX11_law_77 rfl rfl rfl rfl
  · have h := (if_neg hc7).symm.trans h
    obtain rfl := Option.some.inj h
    exact M_throw (pc := 39) dX11_law_39 dX11_law_42 dX11_law_43 dX11_law_45 dX11_law_48 x_X11_118 (j := 2) (by decide) str_X11_140 rfl rfl
