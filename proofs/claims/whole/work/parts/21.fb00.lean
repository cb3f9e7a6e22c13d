def L_X11_putBytes_3 (x1 : Int32) (x2 : Int32) (I : HI) : Option (HI) :=
  if x2 < 0 then some I else if (400 : Int32) ≤ (I 1 1) then L_X11_putBytes_3 x1 (x2 + (-8 : Int32)) I else if inB (I 1 1) 400 = true then L_X11_putBytes_3 x1 (x2 + (-8 : Int32)) (up2 (up2 I 2 ((I 1 1)).toNatClampNeg (((x1).toUInt32 >>> ((x2).toUInt32 &&& Int32.toUInt32 31)).toInt32 &&& (255 : Int32))) 1 1 (((up2 I 2 ((I 1 1)).toNatClampNeg (((x1).toUInt32 >>> ((x2).toUInt32 &&& Int32.toUInt32 31)).toInt32 &&& (255 : Int32))) 1 1) + (1 : Int32))) else none
partial_fixpoint
def F_X11_putBytes (I : HI) (x1 : Int32) : Option (HI) :=
  L_X11_putBytes_3 x1 (24 : Int32) I
set_option maxRecDepth 4000 in
set_option maxHeartbeats 4000000 in
theorem LC_X11_putBytes_3 {g : gX} {d : Nat} {P : Nat → Nat → Option Nat} {J : HJ} {x1 : Int32} (hp : Wp P) : ∀ (x2 : Int32) (I : HI) (r : HI), L_X11_putBytes_3 x1 x2 I = some r → M g mX11_putBytes (d + 0) (NT, NT, 0) ((.inl none), (NT, r, J, P)) 3 [some (.ref 1), some (.int x1), some (.int x2)] [] (NT, I, J, P) := by
  refine L_X11_putBytes_3.partial_correctness x1 (fun x2 I r => M g mX11_putBytes (d + 0) (NT, NT, 0) ((.inl none), (NT, r, J, P)) 3 [some (.ref 1), some (.int x1), some (.int x2)] [] (NT, I, J, P)) ?_
  intro f ih x2 I r h
  refine M_iload_n (pc := 3) dX11_putBytes_3 rfl ?_
  refine M_if_lt (pc := 4) (tgt := 49) dX11_putBytes_4 (by decide) (fun hc1 => ?_) (fun hc1 => ?_)
  · have h := (if_pos hc1).symm.trans h
    obtain rfl := Option.some.inj h
    exact M_vret (pc := 49) dX11_putBytes_49 rfl rfl rfl
  · have h := (if_neg hc1).symm.trans h
    refine M_aload_n (pc := 7) dX11_putBytes_7 rfl ?_
    refine M_getI (pc := 8) dX11_putBytes_8 f_X11_13 at_10 ?_
    refine M_sipush (pc := 11) (v := 400) dX11_putBytes_11 (by decide) ?_
    refine M_icmp_ge (pc := 14) (tgt := 43) dX11_putBytes_14 (by decide) (fun hc2 => ?_) (fun hc2 => ?_)
    · have h := (if_pos hc2).symm.trans h
      refine M_iinc (pc := 43) (v := (x2 + (-8 : Int32))) (ls' := [some (.ref 1), some (.int x1), some (.int (x2 + (-8 : Int32)))]) dX11_putBytes_43 rfl rfl (by decide) rfl ?_
      refine M_goto (pc := 46) (tgt := 3) dX11_putBytes_46 (by decide) ?_
      exact ih (x2 + (-8 : Int32)) I _ h
    · have h := (if_neg hc2).symm.trans h
      refine M_aload_n (pc := 17) dX11_putBytes_17 rfl ?_
      refine M_getR (pc := 18) dX11_putBytes_18 f_X11_9 at_10 (gc_1_0 hp).1 ?_
      refine M_aload_n (pc := 21) dX11_putBytes_21 rfl ?_
      refine M_getI (pc := 22) dX11_putBytes_22 f_X11_13 at_10 ?_
      refine M_iload_n (pc := 25) dX11_putBytes_25 rfl ?_
      refine M_iload_n (pc := 26) dX11_putBytes_26 rfl ?_
      refine M_iushr (pc := 27) dX11_putBytes_27 ?_
      refine M_sipush (pc := 28) (v := 255) dX11_putBytes_28 (by decide) ?_
      refine M_iand (pc := 31) dX11_putBytes_31 ?_
      obtain ⟨hq3, h⟩ := chk h
      refine M_iast (pc := 32) dX11_putBytes_32 (gc_1_0 hp).2 (inB_in hq3) ?_
      refine M_aload_n (pc := 33) dX11_putBytes_33 rfl ?_
      refine M_dup (pc := 34) dX11_putBytes_34 rfl ?_
      refine M_getI (pc := 35) dX11_putBytes_35 f_X11_13 at_10 ?_
      refine M_iconst (pc := 38) (v := 1) dX11_putBytes_38 (by decide) ?_
      refine M_iadd (pc := 39) dX11_putBytes_39 ?_
      refine M_putI (pc := 40) dX11_putBytes_40 f_X11_13 at_10 rfl ⟨rfl, rfl⟩ ?_
      refine M_iinc (pc := 43) (v := (x2 + (-8 : Int32))) (ls' := [some (.ref 1), some (.int x1), some (.int (x2 + (-8 : Int32)))]) dX11_putBytes_43 rfl rfl (by decide) rfl ?_
      refine M_goto (pc := 46) (tgt := 3) dX11_putBytes_46 (by decide) ?_
      exact ih (x2 + (-8 : Int32)) (up2 (up2 I 2 ((I 1 1)).toNatClampNeg (((x1).toUInt32 >>> ((x2).toUInt32 &&& Int32.toUInt32 31)).toInt32 &&& (255 : Int32))) 1 1 (((up2 I 2 ((I 1 1)).toNatClampNeg (((x1).toUInt32 >>> ((x2).toUInt32 &&& Int32.toUInt32 31)).toInt32 &&& (255 : Int32))) 1 1) + (1 : Int32))) _ h
set_option maxRecDepth 4000 in
set_option maxHeartbeats 4000000 in
theorem C_X11_putBytes {g : gX} {d : Nat} {P : Nat → Nat → Option Nat} {I : HI} {x1 : Int32} {J : HJ} (hp : Wp P) {r : HI} (h : F_X11_putBytes I x1 = some r) : Cm g mX11_putBytes (d + 0) [.ref 1, .int x1] (NT, I, J, P) none (NT, r, J, P) := by
  unfold F_X11_putBytes at h
  refine Cm.of (by decide) (by simp [Value.category]) (Nat.le_of_ble_eq_true rfl) (Nat.le_refl _) (ls := [some (.ref 1), some (.int x1), none]) rfl ?_
  refine M_bipush (pc := 0) (v := 24) dX11_putBytes_0 (by decide) ?_
  refine M_istore_n (pc := 2) (ls' := [some (.ref 1), some (.int x1), some (.int (24 : Int32))]) dX11_putBytes_2 (by decide) rfl ?_
  exact LC_X11_putBytes_3 (P := P) hp (24 : Int32) I _ h
def F_X11_end (I : HI) (x1 : Int32) : Option (Int32 × HI) :=
  if x1 < 0 then some ((0 : Int32), I) else if x1 ≤ (I 1 1) then some ((1 : Int32), (up2 I 1 1 x1)) else some ((0 : Int32), I)
set_option maxRecDepth 4000 in
set_option maxHeartbeats 4000000 in
theorem C_X11_end {g : gX} {d : Nat} {P : Nat → Nat → Option Nat} {I : HI} {x1 : Int32} {J : HJ} (hp : Wp P) {r : Int32 × HI} (h : F_X11_end I x1 = some r) : Cm g mX11_end (d + 0) [.ref 1, .int x1] (NT, I, J, P) (some (.int r.1)) (NT, r.2, J, P) := by
  unfold F_X11_end at h
  refine Cm.of (by decide) (by simp [Value.category]) (Nat.le_of_ble_eq_true rfl) (Nat.le_refl _) (ls := [some (.ref 1), some (.int x1)]) rfl ?_
  refine M_iload_n (pc := 0) dX11_end_0 rfl ?_
  refine M_if_lt (pc := 1) (tgt := 12) dX11_end_1 (by decide) (fun hc1 => ?_) (fun hc1 => ?_)
  · have h := (if_pos hc1).symm.trans h
    refine M_iconst (pc := 12) (v := 0) dX11_end_12 (by decide) ?_
    obtain rfl := Option.some.inj h
    exact M_iret (pc := 13) dX11_end_13 rfl rfl rfl rfl
  · have h := (if_neg hc1).symm.trans h
    refine M_iload_n (pc := 4) dX11_end_4 rfl ?_
    refine M_aload_n (pc := 5) dX11_end_5 rfl ?_
    refine M_getI (pc := 6) dX11_end_6 f_X11_13 at_10 ?_
    refine M_icmp_le (pc := 9) (tgt := 14) dX11_end_9 (by decide) (fun hc2 => ?_) (fun hc2 => ?_)
    · have h := (if_pos hc2).symm.trans h
      refine M_aload_n (pc := 14) dX11_end_14 rfl ?_
      refine M_iload_n (pc := 15) dX11_end_15 rfl ?_
      refine M_putI (pc := 16) dX11_end_16 f_X11_13 at_10 rfl ⟨rfl, rfl⟩ ?_
      refine M_iconst (pc := 19) (v := 1) dX11_end_19 (by decide) ?_
      obtain rfl := Option.some.inj h
      exact M_iret (pc := 20) dX11_end_20 rfl rfl rfl rfl
    · have h := (if_neg hc2).symm.trans h
      refine M_iconst (pc := 12) (v := 0) dX11_end_12 (by decide) ?_
      obtain rfl := Option.some.inj h
      exact M_iret (pc := 13) dX11_end_13 rfl rfl rfl rfl
def F_X11_takeTape (I : HI) : Option (Int32 × HI) :=
  some ((I 1 1), (up2 I 1 1 (0 : Int32)))
set_option maxRecDepth 4000 in
set_option maxHeartbeats 4000000 in
theorem C_X11_takeTape {g : gX} {d : Nat} {P : Nat → Nat → Option Nat} {I : HI} {J : HJ} (hp : Wp P) {r : Int32 × HI} (h : F_X11_takeTape I = some r) : Cm g mX11_takeTape (d + 0) [.ref 1] (NT, I, J, P) (some (.int r.1)) (NT, r.2, J, P) := by
  unfold F_X11_takeTape at h
  refine Cm.of (by decide) (by simp [Value.category]) (Nat.le_of_ble_eq_true rfl) (Nat.le_refl _) (ls := [some (.ref 1), none]) rfl ?_
  refine M_aload_n (pc := 0) dX11_takeTape_0 rfl ?_
  refine M_getI (pc := 1) dX11_takeTape_1 f_X11_13 at_10 ?_
  refine M_istore_n (pc := 4) (ls' := [some (.ref 1), some (.int (I 1 1))]) dX11_takeTape_4 (by decide) rfl ?_
  refine M_aload_n (pc := 5) dX11_takeTape_5 rfl ?_
  refine M_iconst (pc := 6) (v := 0) dX11_takeTape_6 (by decide) ?_
  refine M_putI (pc := 7) dX11_takeTape_7 f_X11_13 at_10 rfl ⟨rfl, rfl⟩ ?_
  refine M_iload_n (pc := 10) dX11_takeTape_10 rfl ?_
  obtain rfl := Option.some.inj h
  exact M_iret (pc := 11) dX11_takeTape_11 rfl rfl rfl rfl
def L_X11_toldAtMost_2 (I : HI) (x1 : Int32) (x2 : Int32) (x3 : Int32) : Option (Int32) :=
  if x1 ≤ x3 then some (1 : Int32) else if (400 : Int32) ≤ x3 then some (1 : Int32) else (ald 400 (I 2) x3) >>= fun v3 => if v3 ≤ x2 then L_X11_toldAtMost_2 I x1 x2 (x3 + (1 : Int32)) else some (0 : Int32)
partial_fixpoint
def F_X11_toldAtMost (I : HI) (x1 : Int32) (x2 : Int32) : Option (Int32) :=
  L_X11_toldAtMost_2 I x1 x2 (0 : Int32)
set_option maxRecDepth 4000 in
set_option maxHeartbeats 4000000 in
theorem LC_X11_toldAtMost_2 {g : gX} {d : Nat} {P : Nat → Nat → Option Nat} {J : HJ} {I : HI} {x1 : Int32} {x2 : Int32} (hp : Wp P) : ∀ (x3 : Int32) (r : Int32), L_X11_toldAtMost_2 I x1 x2 x3 = some r → M g mX11_toldAtMost (d + 0) (NT, NT, 0) ((.inl (some (.int r))), (NT, I, J, P)) 2 [some (.ref 1), some (.int x1), some (.int x2), some (.int x3)] [] (NT, I, J, P) := by
  refine L_X11_toldAtMost_2.partial_correctness I x1 x2 (fun x3 r => M g mX11_toldAtMost (d + 0) (NT, NT, 0) ((.inl (some (.int r))), (NT, I, J, P)) 2 [some (.ref 1), some (.int x1), some (.int x2), some (.int x3)] [] (NT, I, J, P)) ?_
  intro f ih x3 r h
  refine M_iload_n (pc := 2) dX11_toldAtMost_2 rfl ?_
  refine M_iload_n (pc := 3) dX11_toldAtMost_3 rfl ?_
  refine M_icmp_ge (pc := 4) (tgt := 32) dX11_toldAtMost_4 (by decide) (fun hc1 => ?_) (fun hc1 => ?_)
  · have h := (if_pos hc1).symm.trans h
    refine M_iconst (pc := 32) (v := 1) dX11_toldAtMost_32 (by decide) ?_
    obtain rfl := Option.some.inj h
    exact M_iret (pc := 33) dX11_toldAtMost_33 rfl rfl rfl rfl
  · have h := (if_neg hc1).symm.trans h
    refine M_iload_n (pc := 7) dX11_toldAtMost_7 rfl ?_
    refine M_sipush (pc := 8) (v := 400) dX11_toldAtMost_8 (by decide) ?_
    refine M_icmp_ge (pc := 11) (tgt := 32) dX11_toldAtMost_11 (by decide) (fun hc2 => ?_) (fun hc2 => ?_)
    · have h := (if_pos hc2).symm.trans h
      refine M_iconst (pc := 32) (v := 1) dX11_toldAtMost_32 (by decide) ?_
      obtain rfl := Option.some.inj h
      exact M_iret (pc := 33) dX11_toldAtMost_33 rfl rfl rfl rfl
    · have h := (if_neg hc2).symm.trans h
      refine M_aload_n (pc := 14) dX11_toldAtMost_14 rfl ?_
      refine M_getR (pc := 15) dX11_toldAtMost_15 f_X11_9 at_10 (gc_1_0 hp).1 ?_
      refine M_iload_n (pc := 18) dX11_toldAtMost_18 rfl ?_
      obtain ⟨v3, hv4, h⟩ := bnd h
      refine M_aldI (pc := 19) dX11_toldAtMost_19 (gc_1_0 hp).2 hv4 ?_
      refine M_iload_n (pc := 20) dX11_toldAtMost_20 rfl ?_
      refine M_icmp_le (pc := 21) (tgt := 26) dX11_toldAtMost_21 (by decide) (fun hc5 => ?_) (fun hc5 => ?_)
      · have h := (if_pos hc5).symm.trans h
        refine M_iinc (pc := 26) (v := (x3 + (1 : Int32))) (ls' := [some (.ref 1), some (.int x1), some (.int x2), some (.int (x3 + (1 : Int32)))]) dX11_toldAtMost_26 rfl rfl (by decide) rfl ?_
        refine M_goto (pc := 29) (tgt := 2) dX11_toldAtMost_29 (by decide) ?_
        exact ih (x3 + (1 : Int32)) _ h
      · have h := (if_neg hc5).symm.trans h
        refine M_iconst (pc := 24) (v := 0) dX11_toldAtMost_24 (by decide) ?_
        obtain rfl := Option.some.inj h
        exact M_iret (pc := 25) dX11_toldAtMost_25 rfl rfl rfl rfl
set_option maxRecDepth 4000 in
set_option maxHeartbeats 4000000 in
theorem C_X11_toldAtMost {g : gX} {d : Nat} {P : Nat → Nat → Option Nat} {I : HI} {x1 : Int32} {x2 : Int32} {J : HJ} (hp : Wp P) {r : Int32} (h : F_X11_toldAtMost I x1 x2 = some r) : Cm g mX11_toldAtMost (d + 0) [.ref 1, .int x1, .int x2] (NT, I, J, P) (some (.int r)) (NT, I, J, P) := by
  unfold F_X11_toldAtMost at h
  refine Cm.of (by decide) (by simp [Value.category]) (Nat.le_of_ble_eq_true rfl) (Nat.le_refl _) (ls := [some (.ref 1), some (.int x1), some (.int x2), none]) rfl ?_
  refine M_iconst (pc := 0) (v := 0) dX11_toldAtMost_0 (by decide) ?_
  refine M_istore_n (pc := 1) (ls' := [some (.ref 1), some (.int x1), some (.int x2), some (.int (0 : Int32))]) dX11_toldAtMost_1 (by decide) rfl ?_
  exact LC_X11_toldAtMost_2 (P := P) hp (0 : Int32) _ h
def F_X11_fault (I : HI) : Option (Int32) :=
  some (I 1 2)
set_option maxRecDepth 4000 in
set_option maxHeartbeats 4000000 in
theorem C_X11_fault {g : gX} {d : Nat} {P : Nat → Nat → Option Nat} {I : HI} {J : HJ} (hp : Wp P) {r : Int32} (h : F_X11_fault I = some r) : Cm g mX11_fault (d + 0) [.ref 1] (NT, I, J, P) (some (.int r)) (NT, I, J, P) := by
  unfold F_X11_fault at h
  refine Cm.of (by decide) (by simp [Value.category]) (Nat.le_of_ble_eq_true rfl) (Nat.le_refl _) (ls := [some (.ref 1)]) rfl ?_
  refine M_aload_n (pc := 0) dX11_fault_0 rfl ?_
  refine M_getI (pc := 1) dX11_fault_1 f_X11_17 at_10 ?_
  obtain rfl := Option.some.inj h
  exact M_iret (pc := 4) dX11_fault_4 rfl rfl rfl rfl
def F_X11_far (I : HI) (x1 : Int32) (x2 : Int32) : Option ((Int32 ⊕ String)) :=
  (F_X1_has I 4 x1) >>= fun r1 => if r1 = 0 then some (Sum.inr "java/lang/IndexOutOfBoundsException") else (F_X1_has I 4 x2) >>= fun r4 => if r4 = 0 then some (Sum.inr "java/lang/IndexOutOfBoundsException") else (F_X1_distance I 4 x1 x2) >>= fun r7 => some (Sum.inl r7)
set_option maxRecDepth 4000 in
set_option maxHeartbeats 4000000 in
theorem C_X11_far {g : gX} {d : Nat} {P : Nat → Nat → Option Nat} {I : HI} {x1 : Int32} {x2 : Int32} {J : HJ} (hp : Wp P) {r : (Int32 ⊕ String)} (h : F_X11_far I x1 x2 = some r) : Cx g mX11_far (d + 6) [.ref 1, .int x1, .int x2] (NT, I, J, P) ((thr_i r), (NT, I, J, P)) := by
  unfold F_X11_far at h
  refine Cx.of (by decide) (by simp [Value.category]) (Nat.le_of_ble_eq_true rfl) (Nat.le_refl _) (ls := [some (.ref 1), some (.int x1), some (.int x2)]) rfl ?_
  refine M_aload_n (pc := 0) dX11_far_0 rfl ?_
  refine M_getR (pc := 1) dX11_far_1 f_X11_23 at_10 (gc_1_3 hp).1 ?_
  refine M_getR (pc := 4) dX11_far_4 f_X11_148 (gc_1_3 hp).2 (gc_3_0 hp).1 ?_
  refine M_iload_n (pc := 7) dX11_far_7 rfl ?_
  obtain ⟨r1, hr2, h⟩ := bnd h
  refine M_callVi (pc := 8) dX11_far_8 v_X11_152 rfl rfl (gc_3_0 hp).2 (Nat.le_of_ble_eq_true rfl) (C_X1_has (d := d + 5) hp (gc_3_0 hp).2 hr2) (Nat.le_refl _) ?_
  refine M_if_eq (pc := 11) (tgt := 28) dX11_far_11 (by decide) (fun hc3 => ?_) (fun hc3 => ?_)
  · have h := (if_pos hc3).symm.trans h
    obtain rfl := Option.some.inj h
    exact M_throw (pc := 28) dX11_far_28 dX11_far_31 dX11_far_32 dX11_far_34 dX11_far_37 ⟨rfl, rfl, rfl, rfl⟩ x_X11_158 (j := 3) (by decide) str_X11_160 rfl rfl
  · have h := (if_neg hc3).symm.trans h
    refine M_aload_n (pc := 14) dX11_far_14 rfl ?_
    refine M_getR (pc := 15) dX11_far_15 f_X11_23 at_10 (gc_1_3 hp).1 ?_
    refine M_getR (pc := 18) dX11_far_18 f_X11_148 (gc_1_3 hp).2 (gc_3_0 hp).1 ?_
    refine M_iload_n (pc := 21) dX11_far_21 rfl ?_
    obtain ⟨r4, hr5, h⟩ := bnd h
    refine M_callVi (pc := 22) dX11_far_22 v_X11_152 rfl rfl (gc_3_0 hp).2 (Nat.le_of_ble_eq_true rfl) (C_X1_has (d := d + 5) hp (gc_3_0 hp).2 hr5) (Nat.le_refl _) ?_
    refine M_if_ne (pc := 25) (tgt := 38) dX11_far_25 (by decide) (fun hc6 => ?_) (fun hc6 => ?_)
    · have h := (if_neg hc6).symm.trans h
      refine M_aload_n (pc := 38) dX11_far_38 rfl ?_
      refine M_getR (pc := 39) dX11_far_39 f_X11_23 at_10 (gc_1_3 hp).1 ?_
      refine M_getR (pc := 42) dX11_far_42 f_X11_148 (gc_1_3 hp).2 (gc_3_0 hp).1 ?_
      refine M_iload_n (pc := 45) dX11_far_45 rfl ?_
      refine M_iload_n (pc := 46) dX11_far_46 rfl ?_
      obtain ⟨r7, hr8, h⟩ := bnd h
      refine M_callVi (pc := 47) dX11_far_47 v_X11_208 rfl rfl (gc_3_0 hp).2 (Nat.le_of_ble_eq_true rfl) (C_X1_distance (d := d + 5) hp (gc_3_0 hp).2 hr8) (Nat.le_refl _) ?_
      obtain rfl := Option.some.inj h
      exact M_iret (pc := 50) dX11_far_50 rfl rfl rfl rfl
    · have h := (if_pos hc6).symm.trans h
      obtain rfl := Option.some.inj h
      exact M_throw (pc := 28) dX11_far_28 dX11_far_31 dX11_far_32 dX11_far_34 dX11_far_37 ⟨rfl, rfl, rfl, rfl⟩ x_X11_158 (j := 3) (by decide) str_X11_160 rfl rfl
def L_X11_near_28 (I : HI) (x1 : Int32) (x2 : Int32) (x3 : Int32) : Option ((Int32 ⊕ String)) :=
  if (I 4 0) ≤ x3 then some (Sum.inl x2) else if x3 = x1 then L_X11_near_28 I x1 x2 (x3 + (1 : Int32)) else (F_X1_distance I 4 x1 x3) >>= fun r6 => if (I 3 7) < r6 then L_X11_near_28 I x1 x2 (x3 + (1 : Int32)) else L_X11_near_28 I x1 (x2 ||| ((1 : Int32) <<< (x3 &&& 31))) (x3 + (1 : Int32))
partial_fixpoint
def F_X11_near (I : HI) (x1 : Int32) : Option ((Int32 ⊕ String)) :=
  (F_X1_has I 4 x1) >>= fun r1 => if r1 = 0 then some (Sum.inr "java/lang/IndexOutOfBoundsException") else L_X11_near_28 I x1 (0 : Int32) (0 : Int32)
set_option maxRecDepth 4000 in
set_option maxHeartbeats 4000000 in
theorem LC_X11_near_28 {g : gX} {d : Nat} {P : Nat → Nat → Option Nat} {J : HJ} {I : HI} {x1 : Int32} (hp : Wp P) : ∀ (x2 : Int32) (x3 : Int32) (r : (Int32 ⊕ String)), L_X11_near_28 I x1 x2 x3 = some r → M g mX11_near (d + 6) (NT, NT, 1) ((thr_i r), (NT, I, J, P)) 28 [some (.ref 1), some (.int x1), some (.int x2), some (.int x3)] [] (NT, I, J, P) := by
  refine L_X11_near_28.partial_correctness I x1 (fun x2 x3 r => M g mX11_near (d + 6) (NT, NT, 1) ((thr_i r), (NT, I, J, P)) 28 [some (.ref 1), some (.int x1), some (.int x2), some (.int x3)] [] (NT, I, J, P)) ?_
  intro f ih x2 x3 r h
  refine M_iload_n (pc := 28) dX11_near_28 rfl ?_
  refine M_aload_n (pc := 29) dX11_near_29 rfl ?_
  refine M_getR (pc := 30) dX11_near_30 f_X11_23 at_10 (gc_1_3 hp).1 ?_
  refine M_getR (pc := 33) dX11_near_33 f_X11_148 (gc_1_3 hp).2 (gc_3_0 hp).1 ?_
  refine M_getI (pc := 36) dX11_near_36 f_X11_211 (gc_3_0 hp).2 ?_
  refine M_icmp_ge (pc := 39) (tgt := 81) dX11_near_39 (by decide) (fun hc4 => ?_) (fun hc4 => ?_)
  · have h := (if_pos hc4).symm.trans h
    refine M_iload_n (pc := 81) dX11_near_81 rfl ?_
    obtain rfl := Option.some.inj h
    exact M_iret (pc := 82) dX11_near_82 rfl rfl rfl rfl
  · have h := (if_neg hc4).symm.trans h
    refine M_iload_n (pc := 42) dX11_near_42 rfl ?_
    refine M_iload_n (pc := 43) dX11_near_43 rfl ?_
    refine M_icmp_eq (pc := 44) (tgt := 75) dX11_near_44 (by decide) (fun hc5 => ?_) (fun hc5 => ?_)
    · have h := (if_pos hc5).symm.trans h
      refine M_iinc (pc := 75) (v := (x3 + (1 : Int32))) (ls' := [some (.ref 1), some (.int x1), some (.int x2), some (.int (x3 + (1 : Int32)))]) dX11_near_75 rfl rfl (by decide) rfl ?_
      refine M_goto (pc := 78) (tgt := 28) dX11_near_78 (by decide) ?_
      exact ih x2 (x3 + (1 : Int32)) _ h
    · have h := (if_neg hc5).symm.trans h
      refine M_aload_n (pc := 47) dX11_near_47 rfl ?_
      refine M_getR (pc := 48) dX11_near_48 f_X11_23 at_10 (gc_1_3 hp).1 ?_
      refine M_getR (pc := 51) dX11_near_51 f_X11_148 (gc_1_3 hp).2 (gc_3_0 hp).1 ?_
      refine M_iload_n (pc := 54) dX11_near_54 rfl ?_
      refine M_iload_n (pc := 55) dX11_near_55 rfl ?_
      obtain ⟨r6, hr7, h⟩ := bnd h
      refine M_callVi (pc := 56) dX11_near_56 v_X11_208 rfl rfl (gc_3_0 hp).2 (Nat.le_of_ble_eq_true rfl) (C_X1_distance (d := d + 5) hp (gc_3_0 hp).2 hr7) (Nat.le_refl _) ?_
      refine M_aload_n (pc := 59) dX11_near_59 rfl ?_
      refine M_getR (pc := 60) dX11_near_60 f_X11_23 at_10 (gc_1_3 hp).1 ?_
      refine M_getI (pc := 63) dX11_near_63 f_X11_180 (gc_1_3 hp).2 ?_
      refine M_icmp_gt (pc := 66) (tgt := 75) dX11_near_66 (by decide) (fun hc8 => ?_) (fun hc8 => ?_)
      · have h := (if_pos hc8).symm.trans h
        refine M_iinc (pc := 75) (v := (x3 + (1 : Int32))) (ls' := [some (.ref 1), some (.int x1), some (.int x2), some (.int (x3 + (1 : Int32)))]) dX11_near_75 rfl rfl (by decide) rfl ?_
        refine M_goto (pc := 78) (tgt := 28) dX11_near_78 (by decide) ?_
        exact ih x2 (x3 + (1 : Int32)) _ h
      · have h := (if_neg hc8).symm.trans h
        refine M_iload_n (pc := 69) dX11_near_69 rfl ?_
        refine M_iconst (pc := 70) (v := 1) dX11_near_70 (by decide) ?_
        refine M_iload_n (pc := 71) dX11_near_71 rfl ?_
        refine M_ishl (pc := 72) dX11_near_72 ?_
        refine M_ior (pc := 73) dX11_near_73 ?_
        refine M_istore_n (pc := 74) (ls' := [some (.ref 1), some (.int x1), some (.int (x2 ||| ((1 : Int32) <<< (x3 &&& 31)))), some (.int x3)]) dX11_near_74 (by decide) rfl ?_
        refine M_iinc (pc := 75) (v := (x3 + (1 : Int32))) (ls' := [some (.ref 1), some (.int x1), some (.int (x2 ||| ((1 : Int32) <<< (x3 &&& 31)))), some (.int (x3 + (1 : Int32)))]) dX11_near_75 rfl rfl (by decide) rfl ?_
        refine M_goto (pc := 78) (tgt := 28) dX11_near_78 (by decide) ?_
        exact ih (x2 ||| ((1 : Int32) <<< (x3 &&& 31))) (x3 + (1 : Int32)) _ h
set_option maxRecDepth 4000 in
set_option maxHeartbeats 4000000 in
theorem C_X11_near {g : gX} {d : Nat} {P : Nat → Nat → Option Nat} {I : HI} {x1 : Int32} {J : HJ} (hp : Wp P) {r : (Int32 ⊕ String)} (h : F_X11_near I x1 = some r) : Cx g mX11_near (d + 6) [.ref 1, .int x1] (NT, I, J, P) ((thr_i r), (NT, I, J, P)) := by
  unfold F_X11_near at h
  refine Cx.of (by decide) (by simp [Value.category]) (Nat.le_of_ble_eq_true rfl) (Nat.le_refl _) (ls := [some (.ref 1), some (.int x1), none, none]) rfl ?_
  refine M_aload_n (pc := 0) dX11_near_0 rfl ?_
  refine M_getR (pc := 1) dX11_near_1 f_X11_23 at_10 (gc_1_3 hp).1 ?_
  refine M_getR (pc := 4) dX11_near_4 f_X11_148 (gc_1_3 hp).2 (gc_3_0 hp).1 ?_
  refine M_iload_n (pc := 7) dX11_near_7 rfl ?_
  obtain ⟨r1, hr2, h⟩ := bnd h
  refine M_callVi (pc := 8) dX11_near_8 v_X11_152 rfl rfl (gc_3_0 hp).2 (Nat.le_of_ble_eq_true rfl) (C_X1_has (d := d + 5) hp (gc_3_0 hp).2 hr2) (Nat.le_refl _) ?_
  refine M_if_ne (pc := 11) (tgt := 24) dX11_near_11 (by decide) (fun hc3 => ?_) (fun hc3 => ?_)
  · have h := (if_neg hc3).symm.trans h
    refine M_iconst (pc := 24) (v := 0) dX11_near_24 (by decide) ?_
    refine M_istore_n (pc := 25) (ls' := [some (.ref 1), some (.int x1), some (.int (0 : Int32)), none]) dX11_near_25 (by decide) rfl ?_
    refine M_iconst (pc := 26) (v := 0) dX11_near_26 (by decide) ?_
    refine M_istore_n (pc := 27) (ls' := [some (.ref 1), some (.int x1), some (.int (0 : Int32)), some (.int (0 : Int32))]) dX11_near_27 (by decide) rfl ?_
    exact LC_X11_near_28 (P := P) hp (0 : Int32) (0 : Int32) _ h
  · have h := (if_pos hc3).symm.trans h
    obtain rfl := Option.some.inj h
    exact M_throw (pc := 14) dX11_near_14 dX11_near_17 dX11_near_18 dX11_near_20 dX11_near_23 ⟨rfl, rfl, rfl, rfl⟩ x_X11_158 (j := 3) (by decide) str_X11_160 rfl rfl
def F_X11_isPlace (I : HI) (x0 : Int32) : Option (Int32) :=
  if x0 < 0 then some (0 : Int32) else if (7 : Int32) < x0 then some (0 : Int32) else some (1 : Int32)
set_option maxRecDepth 4000 in
set_option maxHeartbeats 4000000 in
theorem C_X11_isPlace {g : gX} {d : Nat} {P : Nat → Nat → Option Nat} {I : HI} {x0 : Int32} {J : HJ} (hp : Wp P) {r : Int32} (h : F_X11_isPlace I x0 = some r) : Cm g mX11_isPlace (d + 0) [.int x0] (NT, I, J, P) (some (.int r)) (NT, I, J, P) := by
  unfold F_X11_isPlace at h
  refine Cm.of (by decide) (by simp [Value.category]) (Nat.le_of_ble_eq_true rfl) (Nat.le_refl _) (ls := [some (.int x0)]) rfl ?_
  refine M_iload_n (pc := 0) dX11_isPlace_0 rfl ?_
  refine M_if_lt (pc := 1) (tgt := 14) dX11_isPlace_1 (by decide) (fun hc1 => ?_) (fun hc1 => ?_)
  · have h := (if_pos hc1).symm.trans h
    refine M_iconst (pc := 14) (v := 0) dX11_isPlace_14 (by decide) ?_
    obtain rfl := Option.some.inj h
    exact M_iret (pc := 15) dX11_isPlace_15 rfl rfl rfl rfl
  · have h := (if_neg hc1).symm.trans h
    refine M_iload_n (pc := 4) dX11_isPlace_4 rfl ?_
    refine M_bipush (pc := 5) (v := 7) dX11_isPlace_5 (by decide) ?_
    refine M_icmp_gt (pc := 7) (tgt := 14) dX11_isPlace_7 (by decide) (fun hc2 => ?_) (fun hc2 => ?_)
    · have h := (if_pos hc2).symm.trans h
      refine M_iconst (pc := 14) (v := 0) dX11_isPlace_14 (by decide) ?_
      obtain rfl := Option.some.inj h
      exact M_iret (pc := 15) dX11_isPlace_15 rfl rfl rfl rfl
    · have h := (if_neg hc2).symm.trans h
      refine M_iconst (pc := 10) (v := 1) dX11_isPlace_10 (by decide) ?_
      refine M_goto (pc := 11) (tgt := 15) dX11_isPlace_11 (by decide) ?_
      obtain rfl := Option.some.inj h
      exact M_iret (pc := 15) dX11_isPlace_15 rfl rfl rfl rfl
def L_X11_fewest_46 (I : HI) (x1 : Int32) (x3 : Int32) (x4 : Int32) : Option ((Int32 ⊕ String)) :=
  if (10 : Int32) ≤ x4 then some (Sum.inl x3) else if ((x1 >>> (x4 &&& 31)) &&& (1 : Int32)) = 0 then L_X11_fewest_46 I x1 x3 (x4 + (1 : Int32)) else (F_X1_leastOfAge I 4 x4) >>= fun r8 => if r8 = (-1 : Int32) then some (Sum.inl (-1 : Int32)) else L_X11_fewest_46 I x1 (x3 ||| ((1 : Int32) <<< (r8 &&& 31))) (x4 + (1 : Int32))
partial_fixpoint
def F_X11_fewest (I : HI) (x1 : Int32) (x2 : Int32) : Option ((Int32 ⊕ String)) :=
  if x1 < 0 then some (Sum.inr "java/lang/IllegalArgumentException") else if (1023 : Int32) < x1 then some (Sum.inr "java/lang/IllegalArgumentException") else if x2 < 0 then some (Sum.inr "java/lang/IllegalArgumentException") else if x2 ≤ (1023 : Int32) then if (x1 &&& x2) = 0 then L_X11_fewest_46 I x1 (0 : Int32) (0 : Int32) else some (Sum.inl (-1 : Int32)) else some (Sum.inr "java/lang/IllegalArgumentException")
set_option maxRecDepth 4000 in
set_option maxHeartbeats 4000000 in
theorem LC_X11_fewest_46 {g : gX} {d : Nat} {P : Nat → Nat → Option Nat} {J : HJ} {I : HI} {x1 : Int32} (hp : Wp P) : ∀ (x3 : Int32) (x4 : Int32) (r : (Int32 ⊕ String)), L_X11_fewest_46 I x1 x3 x4 = some r → M g mX11_fewest (d + 6) (NT, NT, 1) ((thr_i r), (NT, I, J, P)) 46 [some (.ref 1), some (.int x1), none, some (.int x3), some (.int x4), none] [] (NT, I, J, P) := by
  refine L_X11_fewest_46.partial_correctness I x1 (fun x3 x4 r => M g mX11_fewest (d + 6) (NT, NT, 1) ((thr_i r), (NT, I, J, P)) 46 [some (.ref 1), some (.int x1), none, some (.int x3), some (.int x4), none] [] (NT, I, J, P)) ?_
  intro f ih x3 x4 r h
  refine M_iload (pc := 46) dX11_fewest_46 rfl ?_
  refine M_bipush (pc := 48) (v := 10) dX11_fewest_48 (by decide) ?_
  refine M_icmp_ge (pc := 50) (tgt := 97) dX11_fewest_50 (by decide) (fun hc6 => ?_) (fun hc6 => ?_)
  · have h := (if_pos hc6).symm.trans h
    refine M_iload_n (pc := 97) dX11_fewest_97 rfl ?_
    obtain rfl := Option.some.inj h
    exact M_iret (pc := 98) dX11_fewest_98 rfl rfl rfl rfl
  · have h := (if_neg hc6).symm.trans h
    refine M_iload_n (pc := 53) dX11_fewest_53 rfl ?_
    refine M_iload (pc := 54) dX11_fewest_54 rfl ?_
    refine M_ishr (pc := 56) dX11_fewest_56 ?_
    refine M_iconst (pc := 57) (v := 1) dX11_fewest_57 (by decide) ?_
    refine M_iand (pc := 58) dX11_fewest_58 ?_
    refine M_if_eq (pc := 59) (tgt := 91) dX11_fewest_59 (by decide) (fun hc7 => ?_) (fun hc7 => ?_)
    · have h := (if_pos hc7).symm.trans h
      refine M_iinc (pc := 91) (v := (x4 + (1 : Int32))) (ls' := [some (.ref 1), some (.int x1), none, some (.int x3), some (.int (x4 + (1 : Int32))), none]) dX11_fewest_91 rfl rfl (by decide) rfl ?_
      refine M_goto (pc := 94) (tgt := 46) dX11_fewest_94 (by decide) ?_
      exact ih x3 (x4 + (1 : Int32)) _ h
    · have h := (if_neg hc7).symm.trans h
      refine M_aload_n (pc := 62) dX11_fewest_62 rfl ?_
      refine M_getR (pc := 63) dX11_fewest_63 f_X11_23 at_10 (gc_1_3 hp).1 ?_
      refine M_getR (pc := 66) dX11_fewest_66 f_X11_148 (gc_1_3 hp).2 (gc_3_0 hp).1 ?_
      refine M_iload (pc := 69) dX11_fewest_69 rfl ?_
      obtain ⟨r8, hr9, h⟩ := bnd h
      refine M_callVi (pc := 71) dX11_fewest_71 v_X11_308 rfl rfl (gc_3_0 hp).2 (Nat.le_of_ble_eq_true rfl) (C_X1_leastOfAge (d := d + 3) hp (gc_3_0 hp).2 hr9) (Nat.le_refl _) ?_
      refine M_istore (pc := 74) (ls' := [some (.ref 1), some (.int x1), none, some (.int x3), some (.int x4), some (.int r8)]) dX11_fewest_74 (by decide) rfl ?_
      refine M_iload (pc := 76) dX11_fewest_76 rfl ?_
      refine M_iconst (pc := 78) (v := -1) dX11_fewest_78 (by decide) ?_
      refine M_icmp_ne (pc := 79) (tgt := 84) dX11_fewest_79 (by decide) (fun hc10 => ?_) (fun hc10 => ?_)
      · have h := (if_neg hc10).symm.trans h
        refine M_iload_n (pc := 84) dX11_fewest_84 rfl ?_
        refine M_iconst (pc := 85) (v := 1) dX11_fewest_85 (by decide) ?_
        refine M_iload (pc := 86) dX11_fewest_86 rfl ?_
        refine M_ishl (pc := 88) dX11_fewest_88 ?_
        refine M_ior (pc := 89) dX11_fewest_89 ?_
        refine M_istore_n (pc := 90) (ls' := [some (.ref 1), some (.int x1), none, some (.int (x3 ||| ((1 : Int32) <<< (r8 &&& 31)))), some (.int x4), some (.int r8)]) dX11_fewest_90 (by decide) rfl ?_
        refine M_iinc (pc := 91) (v := (x4 + (1 : Int32))) (ls' := [some (.ref 1), some (.int x1), none, some (.int (x3 ||| ((1 : Int32) <<< (r8 &&& 31)))), some (.int (x4 + (1 : Int32))), some (.int r8)]) dX11_fewest_91 rfl rfl (by decide) rfl ?_
        refine M_goto (pc := 94) (tgt := 46) dX11_fewest_94 (by decide) ?_
        refine M_mask (pc := 46) [true, true, false, true, true, false] rfl ?_
        exact ih (x3 ||| ((1 : Int32) <<< (r8 &&& 31))) (x4 + (1 : Int32)) _ h
      · have h := (if_pos hc10).symm.trans h
        refine M_iconst (pc := 82) (v := -1) dX11_fewest_82 (by decide) ?_
        obtain rfl := Option.some.inj h
        exact M_iret (pc := 83) dX11_fewest_83 rfl rfl rfl rfl
set_option maxRecDepth 4000 in
set_option maxHeartbeats 4000000 in
theorem C_X11_fewest {g : gX} {d : Nat} {P : Nat → Nat → Option Nat} {I : HI} {x1 : Int32} {x2 : Int32} {J : HJ} (hp : Wp P) {r : (Int32 ⊕ String)} (h : F_X11_fewest I x1 x2 = some r) : Cx g mX11_fewest (d + 6) [.ref 1, .int x1, .int x2] (NT, I, J, P) ((thr_i r), (NT, I, J, P)) := by
  unfold F_X11_fewest at h
  refine Cx.of (by decide) (by simp [Value.category]) (Nat.le_of_ble_eq_true rfl) (Nat.le_refl _) (ls := [some (.ref 1), some (.int x1), some (.int x2), none, none, none]) rfl ?_
  refine M_iload_n (pc := 0) dX11_fewest_0 rfl ?_
  refine M_if_lt (pc := 1) (tgt := 22) dX11_fewest_1 (by decide) (fun hc1 => ?_) (fun hc1 => ?_)
  · have h := (if_pos hc1).symm.trans h
    obtain rfl := Option.some.inj h
    exact M_throwW (pc := 22) dX11_fewest_22 dX11_fewest_25 dX11_fewest_26 dX11_fewest_29 dX11_fewest_32 ⟨rfl, rfl, rfl, rfl⟩ x_X11_118 (j := 14) (by decide) str_X11_306 rfl rfl
  · have h := (if_neg hc1).symm.trans h
    refine M_iload_n (pc := 4) dX11_fewest_4 rfl ?_
    refine M_sipush (pc := 5) (v := 1023) dX11_fewest_5 (by decide) ?_
    refine M_icmp_gt (pc := 8) (tgt := 22) dX11_fewest_8 (by decide) (fun hc2 => ?_) (fun hc2 => ?_)
    · have h := (if_pos hc2).symm.trans h
      obtain rfl := Option.some.inj h
      exact M_throwW (pc := 22) dX11_fewest_22 dX11_fewest_25 dX11_fewest_26 dX11_fewest_29 dX11_fewest_32 ⟨rfl, rfl, rfl, rfl⟩ x_X11_118 (j := 14) (by decide) str_X11_306 rfl rfl
    · have h := (if_neg hc2).symm.trans h
      refine M_iload_n (pc := 11) dX11_fewest_11 rfl ?_
      refine M_if_lt (pc := 12) (tgt := 22) dX11_fewest_12 (by decide) (fun hc3 => ?_) (fun hc3 => ?_)
      · have h := (if_pos hc3).symm.trans h
        obtain rfl := Option.some.inj h
        exact M_throwW (pc := 22) dX11_fewest_22 dX11_fewest_25 dX11_fewest_26 dX11_fewest_29 dX11_fewest_32 ⟨rfl, rfl, rfl, rfl⟩ x_X11_118 (j := 14) (by decide) str_X11_306 rfl rfl
      · have h := (if_neg hc3).symm.trans h
        refine M_iload_n (pc := 15) dX11_fewest_15 rfl ?_
        refine M_sipush (pc := 16) (v := 1023) dX11_fewest_16 (by decide) ?_
        refine M_icmp_le (pc := 19) (tgt := 33) dX11_fewest_19 (by decide) (fun hc4 => ?_) (fun hc4 => ?_)
        · have h := (if_pos hc4).symm.trans h
          refine M_iload_n (pc := 33) dX11_fewest_33 rfl ?_
          refine M_iload_n (pc := 34) dX11_fewest_34 rfl ?_
          refine M_iand (pc := 35) dX11_fewest_35 ?_
          refine M_if_eq (pc := 36) (tgt := 41) dX11_fewest_36 (by decide) (fun hc5 => ?_) (fun hc5 => ?_)
          · have h := (if_pos hc5).symm.trans h
            refine M_iconst (pc := 41) (v := 0) dX11_fewest_41 (by decide) ?_
            refine M_istore_n (pc := 42) (ls' := [some (.ref 1), some (.int x1), some (.int x2), some (.int (0 : Int32)), none, none]) dX11_fewest_42 (by decide) rfl ?_
            refine M_iconst (pc := 43) (v := 0) dX11_fewest_43 (by decide) ?_
            refine M_istore (pc := 44) (ls' := [some (.ref 1), some (.int x1), some (.int x2), some (.int (0 : Int32)), some (.int (0 : Int32)), none]) dX11_fewest_44 (by decide) rfl ?_
            refine M_mask (pc := 46) [true, true, false, true, true, false] rfl ?_
            exact LC_X11_fewest_46 (P := P) hp (0 : Int32) (0 : Int32) _ h
          · have h := (if_neg hc5).symm.trans h
            refine M_iconst (pc := 39) (v := -1) dX11_fewest_39 (by decide) ?_
            obtain rfl := Option.some.inj h
            exact M_iret (pc := 40) dX11_fewest_40 rfl rfl rfl rfl
        · have h := (if_neg hc4).symm.trans h
          obtain rfl := Option.some.inj h
          exact M_throwW (pc := 22) dX11_fewest_22 dX11_fewest_25 dX11_fewest_26 dX11_fewest_29 dX11_fewest_32 ⟨rfl, rfl, rfl, rfl⟩ x_X11_118 (j := 14) (by decide) str_X11_306 rfl rfl
def L_X11_arePairs_2 (I : HI) (x1 : Int32) (x2 : Int32) : Option (Int32) :=
  if x1 ≤ x2 then some (1 : Int32) else if (400 : Int32) ≤ (x2 + (1 : Int32)) then some (1 : Int32) else (ald 400 (I 2) x2) >>= fun v3 => if (99 : Int32) < v3 then some (0 : Int32) else (ald 400 (I 2) (x2 + (1 : Int32))) >>= fun v6 => (F_X11_isPlace I v6) >>= fun r8 => if r8 = 0 then some (0 : Int32) else L_X11_arePairs_2 I x1 (x2 + (2 : Int32))
partial_fixpoint
def F_X11_arePairs (I : HI) (x1 : Int32) : Option (Int32) :=
  L_X11_arePairs_2 I x1 (0 : Int32)
set_option maxRecDepth 4000 in
set_option maxHeartbeats 4000000 in
theorem LC_X11_arePairs_2 {g : gX} {d : Nat} {P : Nat → Nat → Option Nat} {J : HJ} {I : HI} {x1 : Int32} (hp : Wp P) : ∀ (x2 : Int32) (r : Int32), L_X11_arePairs_2 I x1 x2 = some r → M g mX11_arePairs (d + 1) (NT, NT, 0) ((.inl (some (.int r))), (NT, I, J, P)) 2 [some (.ref 1), some (.int x1), some (.int x2)] [] (NT, I, J, P) := by
  refine L_X11_arePairs_2.partial_correctness I x1 (fun x2 r => M g mX11_arePairs (d + 1) (NT, NT, 0) ((.inl (some (.int r))), (NT, I, J, P)) 2 [some (.ref 1), some (.int x1), some (.int x2)] [] (NT, I, J, P)) ?_
  intro f ih x2 r h
  refine M_iload_n (pc := 2) dX11_arePairs_2 rfl ?_
  refine M_iload_n (pc := 3) dX11_arePairs_3 rfl ?_
  refine M_icmp_ge (pc := 4) (tgt := 49) dX11_arePairs_4 (by decide) (fun hc1 => ?_) (fun hc1 => ?_)
  · have h := (if_pos hc1).symm.trans h
    refine M_iconst (pc := 49) (v := 1) dX11_arePairs_49 (by decide) ?_
    obtain rfl := Option.some.inj h
    exact M_iret (pc := 50) dX11_arePairs_50 rfl rfl rfl rfl
  · have h := (if_neg hc1).symm.trans h
    refine M_iload_n (pc := 7) dX11_arePairs_7 rfl ?_
    refine M_iconst (pc := 8) (v := 1) dX11_arePairs_8 (by decide) ?_
    refine M_iadd (pc := 9) dX11_arePairs_9 ?_
    refine M_sipush (pc := 10) (v := 400) dX11_arePairs_10 (by decide) ?_
    refine M_icmp_ge (pc := 13) (tgt := 49) dX11_arePairs_13 (by decide) (fun hc2 => ?_) (fun hc2 => ?_)
    · have h := (if_pos hc2).symm.trans h
      refine M_iconst (pc := 49) (v := 1) dX11_arePairs_49 (by decide) ?_
      obtain rfl := Option.some.inj h
      exact M_iret (pc := 50) dX11_arePairs_50 rfl rfl rfl rfl
    · have h := (if_neg hc2).symm.trans h
      refine M_aload_n (pc := 16) dX11_arePairs_16 rfl ?_
      refine M_getR (pc := 17) dX11_arePairs_17 f_X11_9 at_10 (gc_1_0 hp).1 ?_
      refine M_iload_n (pc := 20) dX11_arePairs_20 rfl ?_
      obtain ⟨v3, hv4, h⟩ := bnd h
      refine M_aldI (pc := 21) dX11_arePairs_21 (gc_1_0 hp).2 hv4 ?_
      refine M_bipush (pc := 22) (v := 99) dX11_arePairs_22 (by decide) ?_
      refine M_icmp_gt (pc := 24) (tgt := 41) dX11_arePairs_24 (by decide) (fun hc5 => ?_) (fun hc5 => ?_)
      · have h := (if_pos hc5).symm.trans h
        refine M_iconst (pc := 41) (v := 0) dX11_arePairs_41 (by decide) ?_
        obtain rfl := Option.some.inj h
        exact M_iret (pc := 42) dX11_arePairs_42 rfl rfl rfl rfl
      · have h := (if_neg hc5).symm.trans h
        refine M_aload_n (pc := 27) dX11_arePairs_27 rfl ?_
        refine M_getR (pc := 28) dX11_arePairs_28 f_X11_9 at_10 (gc_1_0 hp).1 ?_
        refine M_iload_n (pc := 31) dX11_arePairs_31 rfl ?_
        refine M_iconst (pc := 32) (v := 1) dX11_arePairs_32 (by decide) ?_
        refine M_iadd (pc := 33) dX11_arePairs_33 ?_
        obtain ⟨v6, hv7, h⟩ := bnd h
        refine M_aldI (pc := 34) dX11_arePairs_34 (gc_1_0 hp).2 hv7 ?_
        obtain ⟨r8, hr9, h⟩ := bnd h
        refine M_callSi (pc := 35) dX11_arePairs_35 s_X11_255 rfl rfl (Nat.le_of_ble_eq_true rfl) (C_X11_isPlace (d := d + 0) hp hr9) (Nat.le_refl _) ?_
        refine M_if_ne (pc := 38) (tgt := 43) dX11_arePairs_38 (by decide) (fun hc10 => ?_) (fun hc10 => ?_)
        · have h := (if_neg hc10).symm.trans h
          refine M_iinc (pc := 43) (v := (x2 + (2 : Int32))) (ls' := [some (.ref 1), some (.int x1), some (.int (x2 + (2 : Int32)))]) dX11_arePairs_43 rfl rfl (by decide) rfl ?_
          refine M_goto (pc := 46) (tgt := 2) dX11_arePairs_46 (by decide) ?_
          exact ih (x2 + (2 : Int32)) _ h
        · have h := (if_pos hc10).symm.trans h
          refine M_iconst (pc := 41) (v := 0) dX11_arePairs_41 (by decide) ?_
          obtain rfl := Option.some.inj h
          exact M_iret (pc := 42) dX11_arePairs_42 rfl rfl rfl rfl
set_option maxRecDepth 4000 in
set_option maxHeartbeats 4000000 in
theorem C_X11_arePairs {g : gX} {d : Nat} {P : Nat → Nat → Option Nat} {I : HI} {x1 : Int32} {J : HJ} (hp : Wp P) {r : Int32} (h : F_X11_arePairs I x1 = some r) : Cm g mX11_arePairs (d + 1) [.ref 1, .int x1] (NT, I, J, P) (some (.int r)) (NT, I, J, P) := by
  unfold F_X11_arePairs at h
  refine Cm.of (by decide) (by simp [Value.category]) (Nat.le_of_ble_eq_true rfl) (Nat.le_refl _) (ls := [some (.ref 1), some (.int x1), none]) rfl ?_
  refine M_iconst (pc := 0) (v := 0) dX11_arePairs_0 (by decide) ?_
  refine M_istore_n (pc := 1) (ls' := [some (.ref 1), some (.int x1), some (.int (0 : Int32))]) dX11_arePairs_1 (by decide) rfl ?_
  exact LC_X11_arePairs_2 (P := P) hp (0 : Int32) _ h
def F_X11_kitchen (I : HI) (x1 : Int32) : Option ((Int32 ⊕ String)) :=
  (F_X11_isPlace I x1) >>= fun r1 => if r1 = 0 then some (Sum.inr "java/lang/IndexOutOfBoundsException") else (F_X1_hadAt I 4 x1) >>= fun r4 => some (Sum.inl r4)
set_option maxRecDepth 4000 in
set_option maxHeartbeats 4000000 in
theorem C_X11_kitchen {g : gX} {d : Nat} {P : Nat → Nat → Option Nat} {I : HI} {x1 : Int32} {J : HJ} (hp : Wp P) {r : (Int32 ⊕ String)} (h : F_X11_kitchen I x1 = some r) : Cx g mX11_kitchen (d + 6) [.ref 1, .int x1] (NT, I, J, P) ((thr_i r), (NT, I, J, P)) := by
  unfold F_X11_kitchen at h
  refine Cx.of (by decide) (by simp [Value.category]) (Nat.le_of_ble_eq_true rfl) (Nat.le_refl _) (ls := [some (.ref 1), some (.int x1)]) rfl ?_
  refine M_iload_n (pc := 0) dX11_kitchen_0 rfl ?_
  obtain ⟨r1, hr2, h⟩ := bnd h
  refine M_callSi (pc := 1) dX11_kitchen_1 s_X11_255 rfl rfl (Nat.le_of_ble_eq_true rfl) (C_X11_isPlace (d := d + 5) hp hr2) (Nat.le_refl _) ?_
  refine M_if_ne (pc := 4) (tgt := 18) dX11_kitchen_4 (by decide) (fun hc3 => ?_) (fun hc3 => ?_)
  · have h := (if_neg hc3).symm.trans h
    refine M_aload_n (pc := 18) dX11_kitchen_18 rfl ?_
    refine M_getR (pc := 19) dX11_kitchen_19 f_X11_23 at_10 (gc_1_3 hp).1 ?_
    refine M_getR (pc := 22) dX11_kitchen_22 f_X11_148 (gc_1_3 hp).2 (gc_3_0 hp).1 ?_
    refine M_iload_n (pc := 25) dX11_kitchen_25 rfl ?_
    obtain ⟨r4, hr5, h⟩ := bnd h
    refine M_callVi (pc := 26) dX11_kitchen_26 v_X11_362 rfl rfl (gc_3_0 hp).2 (Nat.le_of_ble_eq_true rfl) (C_X1_hadAt (d := d + 5) hp (gc_3_0 hp).2 hr5) (Nat.le_refl _) ?_
    obtain rfl := Option.some.inj h
    exact M_iret (pc := 29) dX11_kitchen_29 rfl rfl rfl rfl
  · have h := (if_pos hc3).symm.trans h
    obtain rfl := Option.some.inj h
    exact M_throwW (pc := 7) dX11_kitchen_7 dX11_kitchen_10 dX11_kitchen_11 dX11_kitchen_14 dX11_kitchen_17 ⟨rfl, rfl, rfl, rfl⟩ x_X11_158 (j := 10) (by decide) str_X11_272 rfl rfl
def L_X11_dated_18 (I : HI) (x2 : Int32) (x3 : Int32) (x4 : Int32) : Option (Int32) :=
  if (I 4 0) ≤ x4 then some x3 else if ((x2 >>> (x4 &&& 31)) &&& (1 : Int32)) = 0 then L_X11_dated_18 I x2 x3 (x4 + (1 : Int32)) else (F_X1_isHad I 4 x4) >>= fun r5 => if r5 = 0 then some (-1 : Int32) else (ald 12 (I 6) x4) >>= fun v8 => L_X11_dated_18 I x2 (if x3 < v8 then v8 else x3) (x4 + (1 : Int32))
partial_fixpoint
def F_X11_dated (I : HI) (x1 : Int32) : Option (Int32) :=
  (F_X1_all I 4) >>= fun r1 => L_X11_dated_18 I (x1 &&& r1) (-1 : Int32) (0 : Int32)
set_option maxRecDepth 4000 in
set_option maxHeartbeats 4000000 in
theorem LC_X11_dated_18 {g : gX} {d : Nat} {P : Nat → Nat → Option Nat} {J : HJ} {I : HI} {x2 : Int32} (hp : Wp P) : ∀ (x3 : Int32) (x4 : Int32) (r : Int32), L_X11_dated_18 I x2 x3 x4 = some r → M g mX11_dated (d + 2) (NT, NT, 0) ((.inl (some (.int r))), (NT, I, J, P)) 18 [some (.ref 1), none, some (.int x2), some (.int x3), some (.int x4)] [] (NT, I, J, P) := by
  refine L_X11_dated_18.partial_correctness I x2 (fun x3 x4 r => M g mX11_dated (d + 2) (NT, NT, 0) ((.inl (some (.int r))), (NT, I, J, P)) 18 [some (.ref 1), none, some (.int x2), some (.int x3), some (.int x4)] [] (NT, I, J, P)) ?_
  intro f ih x3 x4 r h
  refine M_iload (pc := 18) dX11_dated_18 rfl ?_
  refine M_aload_n (pc := 20) dX11_dated_20 rfl ?_
  refine M_getR (pc := 21) dX11_dated_21 f_X11_23 at_10 (gc_1_3 hp).1 ?_
  refine M_getR (pc := 24) dX11_dated_24 f_X11_148 (gc_1_3 hp).2 (gc_3_0 hp).1 ?_
  refine M_getI (pc := 27) dX11_dated_27 f_X11_211 (gc_3_0 hp).2 ?_
  refine M_icmp_ge (pc := 30) (tgt := 83) dX11_dated_30 (by decide) (fun hc3 => ?_) (fun hc3 => ?_)
  · have h := (if_pos hc3).symm.trans h
    refine M_iload_n (pc := 83) dX11_dated_83 rfl ?_
    obtain rfl := Option.some.inj h
    exact M_iret (pc := 84) dX11_dated_84 rfl rfl rfl rfl
  · have h := (if_neg hc3).symm.trans h
    refine M_iload_n (pc := 33) dX11_dated_33 rfl ?_
    refine M_iload (pc := 34) dX11_dated_34 rfl ?_
    refine M_ishr (pc := 36) dX11_dated_36 ?_
    refine M_iconst (pc := 37) (v := 1) dX11_dated_37 (by decide) ?_
    refine M_iand (pc := 38) dX11_dated_38 ?_
    refine M_if_eq (pc := 39) (tgt := 77) dX11_dated_39 (by decide) (fun hc4 => ?_) (fun hc4 => ?_)
    · have h := (if_pos hc4).symm.trans h
      refine M_iinc (pc := 77) (v := (x4 + (1 : Int32))) (ls' := [some (.ref 1), none, some (.int x2), some (.int x3), some (.int (x4 + (1 : Int32)))]) dX11_dated_77 rfl rfl (by decide) rfl ?_
      refine M_goto (pc := 80) (tgt := 18) dX11_dated_80 (by decide) ?_
      exact ih x3 (x4 + (1 : Int32)) _ h
    · have h := (if_neg hc4).symm.trans h
      refine M_aload_n (pc := 42) dX11_dated_42 rfl ?_
      refine M_getR (pc := 43) dX11_dated_43 f_X11_23 at_10 (gc_1_3 hp).1 ?_
      refine M_getR (pc := 46) dX11_dated_46 f_X11_148 (gc_1_3 hp).2 (gc_3_0 hp).1 ?_
      refine M_iload (pc := 49) dX11_dated_49 rfl ?_
      obtain ⟨r5, hr6, h⟩ := bnd h
      refine M_callVi (pc := 51) dX11_dated_51 v_X11_265 rfl rfl (gc_3_0 hp).2 (Nat.le_of_ble_eq_true rfl) (C_X1_isHad (d := d + 0) hp (gc_3_0 hp).2 hr6) (Nat.le_refl _) ?_
      refine M_if_ne (pc := 54) (tgt := 59) dX11_dated_54 (by decide) (fun hc7 => ?_) (fun hc7 => ?_)
      · have h := (if_neg hc7).symm.trans h
        refine M_iload_n (pc := 59) dX11_dated_59 rfl ?_
        refine M_aload_n (pc := 60) dX11_dated_60 rfl ?_
        refine M_getR (pc := 61) dX11_dated_61 f_X11_23 at_10 (gc_1_3 hp).1 ?_
        refine M_getR (pc := 64) dX11_dated_64 f_X11_148 (gc_1_3 hp).2 (gc_3_0 hp).1 ?_
        refine M_getR (pc := 67) dX11_dated_67 f_X11_171 (gc_3_0 hp).2 (gc_4_2 hp).1 ?_
        refine M_iload (pc := 70) dX11_dated_70 rfl ?_
        obtain ⟨v8, hv9, h⟩ := bnd h
        refine M_aldI (pc := 72) dX11_dated_72 (gc_4_2 hp).2 hv9 ?_
        refine M_mmax (pc := 73) dX11_dated_73 mm_X11_350.1 mm_X11_350.2.1 mm_X11_350.2.2.1 mm_X11_350.2.2.2 (Nat.le_of_ble_eq_true rfl) ?_
        refine M_istore_n (pc := 76) (ls' := [some (.ref 1), none, some (.int x2), some (.int (if x3 < v8 then v8 else x3)), some (.int x4)]) dX11_dated_76 (by decide) rfl ?_
        refine M_iinc (pc := 77) (v := (x4 + (1 : Int32))) (ls' := [some (.ref 1), none, some (.int x2), some (.int (if x3 < v8 then v8 else x3)), some (.int (x4 + (1 : Int32)))]) dX11_dated_77 rfl rfl (by decide) rfl ?_
        refine M_goto (pc := 80) (tgt := 18) dX11_dated_80 (by decide) ?_
        exact ih (if x3 < v8 then v8 else x3) (x4 + (1 : Int32)) _ h
      · have h := (if_pos hc7).symm.trans h
        refine M_iconst (pc := 57) (v := -1) dX11_dated_57 (by decide) ?_
        obtain rfl := Option.some.inj h
        exact M_iret (pc := 58) dX11_dated_58 rfl rfl rfl rfl
set_option maxRecDepth 4000 in
set_option maxHeartbeats 4000000 in
theorem C_X11_dated {g : gX} {d : Nat} {P : Nat → Nat → Option Nat} {I : HI} {x1 : Int32} {J : HJ} (hp : Wp P) {r : Int32} (h : F_X11_dated I x1 = some r) : Cm g mX11_dated (d + 2) [.ref 1, .int x1] (NT, I, J, P) (some (.int r)) (NT, I, J, P) := by
  unfold F_X11_dated at h
  refine Cm.of (by decide) (by simp [Value.category]) (Nat.le_of_ble_eq_true rfl) (Nat.le_refl _) (ls := [some (.ref 1), some (.int x1), none, none, none]) rfl ?_
  refine M_iload_n (pc := 0) dX11_dated_0 rfl ?_
  refine M_aload_n (pc := 1) dX11_dated_1 rfl ?_
  refine M_getR (pc := 2) dX11_dated_2 f_X11_23 at_10 (gc_1_3 hp).1 ?_
  refine M_getR (pc := 5) dX11_dated_5 f_X11_148 (gc_1_3 hp).2 (gc_3_0 hp).1 ?_
  obtain ⟨r1, hr2, h⟩ := bnd h
  refine M_callVi (pc := 8) dX11_dated_8 v_X11_214 rfl rfl (gc_3_0 hp).2 (Nat.le_of_ble_eq_true rfl) (C_X1_all (d := d + 1) hp (gc_3_0 hp).2 hr2) (Nat.le_refl _) ?_
  refine M_iand (pc := 11) dX11_dated_11 ?_
  refine M_istore_n (pc := 12) (ls' := [some (.ref 1), some (.int x1), some (.int (x1 &&& r1)), none, none]) dX11_dated_12 (by decide) rfl ?_
  refine M_iconst (pc := 13) (v := -1) dX11_dated_13 (by decide) ?_
  refine M_istore_n (pc := 14) (ls' := [some (.ref 1), some (.int x1), some (.int (x1 &&& r1)), some (.int (-1 : Int32)), none]) dX11_dated_14 (by decide) rfl ?_
  refine M_iconst (pc := 15) (v := 0) dX11_dated_15 (by decide) ?_
  refine M_istore (pc := 16) (ls' := [some (.ref 1), some (.int x1), some (.int (x1 &&& r1)), some (.int (-1 : Int32)), some (.int (0 : Int32))]) dX11_dated_16 (by decide) rfl ?_
  refine M_mask (pc := 18) [true, false, true, true, true] rfl ?_
  exact LC_X11_dated_18 (P := P) hp (-1 : Int32) (0 : Int32) _ h
def L_X11_gap_4 (I : HI) (x1 : Int32) (x2 : Int32) : Option (Int32) :=
  if (I 4 0) ≤ x2 then some x1 else (F_X1_isHad I 4 x2) >>= fun r2 => if r2 = 0 then L_X11_gap_4 I x1 (x2 + (1 : Int32)) else (ald 12 (I 6) x2) >>= fun v5 => (F_X1_earliestBehind I 4 v5) >>= fun r7 => if r7 = (-1 : Int32) then L_X11_gap_4 I x1 (x2 + (1 : Int32)) else (ald 12 (I 6) r7) >>= fun v10 => (ald 12 (I 6) x2) >>= fun v12 => L_X11_gap_4 I (if x1 < (v10 - v12) then (v10 - v12) else x1) (x2 + (1 : Int32))
partial_fixpoint
def F_X11_gap (I : HI) : Option (Int32) :=
  L_X11_gap_4 I (0 : Int32) (0 : Int32)
set_option maxRecDepth 4000 in
set_option maxHeartbeats 4000000 in
theorem LC_X11_gap_4 {g : gX} {d : Nat} {P : Nat → Nat → Option Nat} {J : HJ} {I : HI} (hp : Wp P) : ∀ (x1 : Int32) (x2 : Int32) (r : Int32), L_X11_gap_4 I x1 x2 = some r → M g mX11_gap (d + 2) (NT, NT, 0) ((.inl (some (.int r))), (NT, I, J, P)) 4 [some (.ref 1), some (.int x1), some (.int x2), none] [] (NT, I, J, P) := by
  refine L_X11_gap_4.partial_correctness I (fun x1 x2 r => M g mX11_gap (d + 2) (NT, NT, 0) ((.inl (some (.int r))), (NT, I, J, P)) 4 [some (.ref 1), some (.int x1), some (.int x2), none] [] (NT, I, J, P)) ?_
  intro f ih x1 x2 r h
  refine M_iload_n (pc := 4) dX11_gap_4 rfl ?_
  refine M_aload_n (pc := 5) dX11_gap_5 rfl ?_
  refine M_getR (pc := 6) dX11_gap_6 f_X11_23 at_10 (gc_1_3 hp).1 ?_
  refine M_getR (pc := 9) dX11_gap_9 f_X11_148 (gc_1_3 hp).2 (gc_3_0 hp).1 ?_
  refine M_getI (pc := 12) dX11_gap_12 f_X11_211 (gc_3_0 hp).2 ?_
  refine M_icmp_ge (pc := 15) (tgt := 96) dX11_gap_15 (by decide) (fun hc1 => ?_) (fun hc1 => ?_)
  · have h := (if_pos hc1).symm.trans h
    refine M_iload_n (pc := 96) dX11_gap_96 rfl ?_
    obtain rfl := Option.some.inj h
    exact M_iret (pc := 97) dX11_gap_97 rfl rfl rfl rfl
  · have h := (if_neg hc1).symm.trans h
    refine M_aload_n (pc := 18) dX11_gap_18 rfl ?_
    refine M_getR (pc := 19) dX11_gap_19 f_X11_23 at_10 (gc_1_3 hp).1 ?_
    refine M_getR (pc := 22) dX11_gap_22 f_X11_148 (gc_1_3 hp).2 (gc_3_0 hp).1 ?_
    refine M_iload_n (pc := 25) dX11_gap_25 rfl ?_
    obtain ⟨r2, hr3, h⟩ := bnd h
    refine M_callVi (pc := 26) dX11_gap_26 v_X11_265 rfl rfl (gc_3_0 hp).2 (Nat.le_of_ble_eq_true rfl) (C_X1_isHad (d := d + 0) hp (gc_3_0 hp).2 hr3) (Nat.le_refl _) ?_
    refine M_if_eq (pc := 29) (tgt := 90) dX11_gap_29 (by decide) (fun hc4 => ?_) (fun hc4 => ?_)
    · have h := (if_pos hc4).symm.trans h
      refine M_iinc (pc := 90) (v := (x2 + (1 : Int32))) (ls' := [some (.ref 1), some (.int x1), some (.int (x2 + (1 : Int32))), none]) dX11_gap_90 rfl rfl (by decide) rfl ?_
      refine M_goto (pc := 93) (tgt := 4) dX11_gap_93 (by decide) ?_
      exact ih x1 (x2 + (1 : Int32)) _ h
    · have h := (if_neg hc4).symm.trans h
      refine M_aload_n (pc := 32) dX11_gap_32 rfl ?_
      refine M_getR (pc := 33) dX11_gap_33 f_X11_23 at_10 (gc_1_3 hp).1 ?_
      refine M_getR (pc := 36) dX11_gap_36 f_X11_148 (gc_1_3 hp).2 (gc_3_0 hp).1 ?_
      refine M_aload_n (pc := 39) dX11_gap_39 rfl ?_
      refine M_getR (pc := 40) dX11_gap_40 f_X11_23 at_10 (gc_1_3 hp).1 ?_
      refine M_getR (pc := 43) dX11_gap_43 f_X11_148 (gc_1_3 hp).2 (gc_3_0 hp).1 ?_
      refine M_getR (pc := 46) dX11_gap_46 f_X11_171 (gc_3_0 hp).2 (gc_4_2 hp).1 ?_
      refine M_iload_n (pc := 49) dX11_gap_49 rfl ?_
      obtain ⟨v5, hv6, h⟩ := bnd h
      refine M_aldI (pc := 50) dX11_gap_50 (gc_4_2 hp).2 hv6 ?_
      obtain ⟨r7, hr8, h⟩ := bnd h
      refine M_callVi (pc := 51) dX11_gap_51 v_X11_365 rfl rfl (gc_3_0 hp).2 (Nat.le_of_ble_eq_true rfl) (C_X1_earliestBehind (d := d + 1) hp (gc_3_0 hp).2 hr8) (Nat.le_refl _) ?_
      refine M_istore_n (pc := 54) (ls' := [some (.ref 1), some (.int x1), some (.int x2), some (.int r7)]) dX11_gap_54 (by decide) rfl ?_
      refine M_iload_n (pc := 55) dX11_gap_55 rfl ?_
      refine M_iconst (pc := 56) (v := -1) dX11_gap_56 (by decide) ?_
      refine M_icmp_eq (pc := 57) (tgt := 90) dX11_gap_57 (by decide) (fun hc9 => ?_) (fun hc9 => ?_)
      · have h := (if_pos hc9).symm.trans h
        refine M_iinc (pc := 90) (v := (x2 + (1 : Int32))) (ls' := [some (.ref 1), some (.int x1), some (.int (x2 + (1 : Int32))), some (.int r7)]) dX11_gap_90 rfl rfl (by decide) rfl ?_
        refine M_goto (pc := 93) (tgt := 4) dX11_gap_93 (by decide) ?_
        refine M_mask (pc := 4) [true, true, true, false] rfl ?_
        exact ih x1 (x2 + (1 : Int32)) _ h
      · have h := (if_neg hc9).symm.trans h
        refine M_iload_n (pc := 60) dX11_gap_60 rfl ?_
        refine M_aload_n (pc := 61) dX11_gap_61 rfl ?_
        refine M_getR (pc := 62) dX11_gap_62 f_X11_23 at_10 (gc_1_3 hp).1 ?_
        refine M_getR (pc := 65) dX11_gap_65 f_X11_148 (gc_1_3 hp).2 (gc_3_0 hp).1 ?_
        refine M_getR (pc := 68) dX11_gap_68 f_X11_171 (gc_3_0 hp).2 (gc_4_2 hp).1 ?_
        refine M_iload_n (pc := 71) dX11_gap_71 rfl ?_
        obtain ⟨v10, hv11, h⟩ := bnd h
        refine M_aldI (pc := 72) dX11_gap_72 (gc_4_2 hp).2 hv11 ?_
        refine M_aload_n (pc := 73) dX11_gap_73 rfl ?_
        refine M_getR (pc := 74) dX11_gap_74 f_X11_23 at_10 (gc_1_3 hp).1 ?_
        refine M_getR (pc := 77) dX11_gap_77 f_X11_148 (gc_1_3 hp).2 (gc_3_0 hp).1 ?_
        refine M_getR (pc := 80) dX11_gap_80 f_X11_171 (gc_3_0 hp).2 (gc_4_2 hp).1 ?_
        refine M_iload_n (pc := 83) dX11_gap_83 rfl ?_
        obtain ⟨v12, hv13, h⟩ := bnd h
        refine M_aldI (pc := 84) dX11_gap_84 (gc_4_2 hp).2 hv13 ?_
        refine M_isub (pc := 85) dX11_gap_85 ?_
        refine M_mmax (pc := 86) dX11_gap_86 mm_X11_350.1 mm_X11_350.2.1 mm_X11_350.2.2.1 mm_X11_350.2.2.2 (Nat.le_of_ble_eq_true rfl) ?_
        refine M_istore_n (pc := 89) (ls' := [some (.ref 1), some (.int (if x1 < (v10 - v12) then (v10 - v12) else x1)), some (.int x2), some (.int r7)]) dX11_gap_89 (by decide) rfl ?_
        refine M_iinc (pc := 90) (v := (x2 + (1 : Int32))) (ls' := [some (.ref 1), some (.int (if x1 < (v10 - v12) then (v10 - v12) else x1)), some (.int (x2 + (1 : Int32))), some (.int r7)]) dX11_gap_90 rfl rfl (by decide) rfl ?_
        refine M_goto (pc := 93) (tgt := 4) dX11_gap_93 (by decide) ?_
        refine M_mask (pc := 4) [true, true, true, false] rfl ?_
        exact ih (if x1 < (v10 - v12) then (v10 - v12) else x1) (x2 + (1 : Int32)) _ h
set_option maxRecDepth 4000 in
set_option maxHeartbeats 4000000 in
theorem C_X11_gap {g : gX} {d : Nat} {P : Nat → Nat → Option Nat} {I : HI} {J : HJ} (hp : Wp P) {r : Int32} (h : F_X11_gap I = some r) : Cm g mX11_gap (d + 2) [.ref 1] (NT, I, J, P) (some (.int r)) (NT, I, J, P) := by
  unfold F_X11_gap at h
  refine Cm.of (by decide) (by simp [Value.category]) (Nat.le_of_ble_eq_true rfl) (Nat.le_refl _) (ls := [some (.ref 1), none, none, none]) rfl ?_
  refine M_iconst (pc := 0) (v := 0) dX11_gap_0 (by decide) ?_
  refine M_istore_n (pc := 1) (ls' := [some (.ref 1), some (.int (0 : Int32)), none, none]) dX11_gap_1 (by decide) rfl ?_
  refine M_iconst (pc := 2) (v := 0) dX11_gap_2 (by decide) ?_
  refine M_istore_n (pc := 3) (ls' := [some (.ref 1), some (.int (0 : Int32)), some (.int (0 : Int32)), none]) dX11_gap_3 (by decide) rfl ?_
  exact LC_X11_gap_4 (P := P) hp (0 : Int32) (0 : Int32) _ h
def F_X11_oldest (I : HI) : Option (Int32) :=
  (F_X1_earliestBehind I 4 (-1 : Int32)) >>= fun r1 => some r1
set_option maxRecDepth 4000 in
set_option maxHeartbeats 4000000 in
theorem C_X11_oldest {g : gX} {d : Nat} {P : Nat → Nat → Option Nat} {I : HI} {J : HJ} (hp : Wp P) {r : Int32} (h : F_X11_oldest I = some r) : Cm g mX11_oldest (d + 1) [.ref 1] (NT, I, J, P) (some (.int r)) (NT, I, J, P) := by
  unfold F_X11_oldest at h
  refine Cm.of (by decide) (by simp [Value.category]) (Nat.le_of_ble_eq_true rfl) (Nat.le_refl _) (ls := [some (.ref 1)]) rfl ?_
  refine M_aload_n (pc := 0) dX11_oldest_0 rfl ?_
  refine M_getR (pc := 1) dX11_oldest_1 f_X11_23 at_10 (gc_1_3 hp).1 ?_
  refine M_getR (pc := 4) dX11_oldest_4 f_X11_148 (gc_1_3 hp).2 (gc_3_0 hp).1 ?_
  refine M_iconst (pc := 7) (v := -1) dX11_oldest_7 (by decide) ?_
  obtain ⟨r1, hr2, h⟩ := bnd h
  refine M_callVi (pc := 8) dX11_oldest_8 v_X11_365 rfl rfl (gc_3_0 hp).2 (Nat.le_of_ble_eq_true rfl) (C_X1_earliestBehind (d := d + 0) hp (gc_3_0 hp).2 hr2) (Nat.le_refl _) ?_
  obtain rfl := Option.some.inj h
  exact M_iret (pc := 11) dX11_oldest_11 rfl rfl rfl rfl
