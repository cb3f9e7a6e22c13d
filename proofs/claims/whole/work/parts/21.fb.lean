def L_X11_putBytes_3 (x1 : Int32) (x2 : Int32) (I : HI) : Option (HI) :=
  if x2 < 0 then some I else if (400 : Int32) ≤ (I 1 1) then L_X11_putBytes_3 x1 (x2 + (-8 : Int32)) I else if inB (I 1 1) 400 = true then L_X11_putBytes_3 x1 (x2 + (-8 : Int32)) (up2 (up2 I 2 ((I 1 1)).toNatClampNeg (((x1).toUInt32 >>> ((x2).toUInt32 &&& Int32.toUInt32 31)).toInt32 &&& (255 : Int32))) 1 1 (((up2 I 2 ((I 1 1)).toNatClampNeg (((x1).toUInt32 >>> ((x2).toUInt32 &&& Int32.toUInt32 31)).toInt32 &&& (255 : Int32))) 1 1) + (1 : Int32))) else none
partial_fixpoint
def F_X11_putBytes (I : HI) (x1 : Int32) : Option (HI) :=
  L_X11_putBytes_3 x1 (24 : Int32) I
set_option maxRecDepth 4000 in
set_option maxHeartbeats 4000000 in
theorem LC_X11_putBytes_3 {g : gX} {d : Nat} {P : Nat → Nat → Option Nat} {J : HJ} {x1 : Int32} (hp : Wp P) : ∀ (x2 : Int32) (I : HI) (r : HI), L_X11_putBytes_3 x1 x2 I = some r → M g mX11_putBytes (d + 0) (NT, NT, 0) ((.inl none), (NT, r, J, P)) 3 [some (.ref 1), some (.int x1), some (.int x2)] [] (NT, I, J, P) := by
  refine L_X11_putBytes_3.partial_correctness x1 (fun x2 I r => M g mX11_putBytes (d + 0) (NT, NT, 0) ((.inl none), (NT, r, J, P)) 3 [some (.ref 1), some (.int x1), some (.int x2)] [] (NT, I, J, P)) ?_
  intro f ih x2 I r h
  refine M_iload_n (pc := 3) dX11_putBytes_3 rfl ?_
  refine M_if_lt (pc := 4) (tgt := 49) dX11_putBytes_4 (by decide) (fun hc1 => ?_) (fun hc1 => ?_)
  · have h := (if_pos hc1).symm.trans h
    obtain rfl := Option.some.inj h
    exact M_vret (pc := 49) dX11_putBytes_49 rfl rfl rfl
  · have h := (if_neg hc1).symm.trans h
    refine M_aload_n (pc := 7) dX11_putBytes_7 rfl ?_
    refine M_getI (pc := 8) dX11_putBytes_8 f_X11_13 at_10 ?_
    refine M_sipush (pc := 11) (v := 400) dX11_putBytes_11 (by decide) ?_
    refine M_icmp_ge (pc := 14) (tgt := 43) dX11_putBytes_14 (by decide) (fun hc2 => ?_) (fun hc2 => ?_)
    · have h := (if_pos hc2).symm.trans h
      refine M_iinc (pc := 43) (v := (x2 + (-8 : Int32))) (ls' := [some (.ref 1), some (.int x1), some (.int (x2 + (-8 : Int32)))]) dX11_putBytes_43 rfl rfl (by decide) rfl ?_
      refine M_goto (pc := 46) (tgt := 3) dX11_putBytes_46 (by decide) ?_
      exact ih (x2 + (-8 : Int32)) I _ h
    · have h := (if_neg hc2).symm.trans h
      refine M_aload_n (pc := 17) dX11_putBytes_17 rfl ?_
      refine M_getR (pc := 18) dX11_putBytes_18 f_X11_9 at_10 (gr_10_0 hp at_10).1 ?_
      refine M_aload_n (pc := 21) dX11_putBytes_21 rfl ?_
      refine M_getI (pc := 22) dX11_putBytes_22 f_X11_13 at_10 ?_
      refine M_iload_n (pc := 25) dX11_putBytes_25 rfl ?_
      refine M_iload_n (pc := 26) dX11_putBytes_26 rfl ?_
      refine M_iushr (pc := 27) dX11_putBytes_27 ?_
      refine M_sipush (pc := 28) (v := 255) dX11_putBytes_28 (by decide) ?_
      refine M_iand (pc := 31) dX11_putBytes_31 ?_
      obtain ⟨hb3, h⟩ := chk h
      refine M_iast (pc := 32) dX11_putBytes_32 (gr_10_0 hp at_10).2 (inB_in hb3) ?_
      refine M_aload_n (pc := 33) dX11_putBytes_33 rfl ?_
      refine M_dup (pc := 34) dX11_putBytes_34 rfl ?_
      refine M_getI (pc := 35) dX11_putBytes_35 f_X11_13 at_10 ?_
      refine M_iconst (pc := 38) (v := 1) dX11_putBytes_38 (by decide) ?_
      refine M_iadd (pc := 39) dX11_putBytes_39 ?_
      refine M_putI (pc := 40) dX11_putBytes_40 f_X11_13 at_10 rfl ⟨rfl, rfl⟩ ?_
      refine M_iinc (pc := 43) (v := (x2 + (-8 : Int32))) (ls' := [some (.ref 1), some (.int x1), some (.int (x2 + (-8 : Int32)))]) dX11_putBytes_43 rfl rfl (by decide) rfl ?_
      refine M_goto (pc := 46) (tgt := 3) dX11_putBytes_46 (by decide) ?_
      exact ih (x2 + (-8 : Int32)) (up2 (up2 I 2 ((I 1 1)).toNatClampNeg (((x1).toUInt32 >>> ((x2).toUInt32 &&& Int32.toUInt32 31)).toInt32 &&& (255 : Int32))) 1 1 (((up2 I 2 ((I 1 1)).toNatClampNeg (((x1).toUInt32 >>> ((x2).toUInt32 &&& Int32.toUInt32 31)).toInt32 &&& (255 : Int32))) 1 1) + (1 : Int32))) _ h
set_option maxRecDepth 4000 in
set_option maxHeartbeats 4000000 in
theorem C_X11_putBytes {g : gX} {d : Nat} {P : Nat → Nat → Option Nat} {I : HI} {x1 : Int32} {J : HJ} (hp : Wp P) {r : HI} (h : F_X11_putBytes I x1 = some r) : Cm g mX11_putBytes (d + 0) [.ref 1, .int x1] (NT, I, J, P) none (NT, r, J, P) := by
  unfold F_X11_putBytes at h
  refine Cm.of (by decide) (by simp [Value.category]) (Nat.le_of_ble_eq_true rfl) (Nat.le_refl _) (ls := [some (.ref 1), some (.int x1), none]) rfl ?_
  refine M_bipush (pc := 0) (v := 24) dX11_putBytes_0 (by decide) ?_
  refine M_istore_n (pc := 2) (ls' := [some (.ref 1), some (.int x1), some (.int (24 : Int32))]) dX11_putBytes_2 (by decide) rfl ?_
  exact LC_X11_putBytes_3 (P := P) hp (24 : Int32) I _ h
def F_X11_end (I : HI) (x1 : Int32) : Option (Int32 × HI) :=
  if x1 < 0 then some ((0 : Int32), I) else if x1 ≤ (I 1 1) then some ((1 : Int32), (up2 I 1 1 x1)) else some ((0 : Int32), I)
set_option maxRecDepth 4000 in
set_option maxHeartbeats 4000000 in
theorem C_X11_end {g : gX} {d : Nat} {P : Nat → Nat → Option Nat} {I : HI} {x1 : Int32} {J : HJ} (hp : Wp P) {r : Int32 × HI} (h : F_X11_end I x1 = some r) : Cm g mX11_end (d + 0) [.ref 1, .int x1] (NT, I, J, P) (some (.int r.1)) (NT, r.2, J, P) := by
  unfold F_X11_end at h
  refine Cm.of (by decide) (by simp [Value.category]) (Nat.le_of_ble_eq_true rfl) (Nat.le_refl _) (ls := [some (.ref 1), some (.int x1)]) rfl ?_
  refine M_iload_n (pc := 0) dX11_end_0 rfl ?_
  refine M_if_lt (pc := 1) (tgt := 12) dX11_end_1 (by decide) (fun hc1 => ?_) (fun hc1 => ?_)
  · have h := (if_pos hc1).symm.trans h
    refine M_iconst (pc := 12) (v := 0) dX11_end_12 (by decide) ?_
    obtain rfl := Option.some.inj h
    exact M_iret (pc := 13) dX11_end_13 rfl rfl rfl rfl
  · have h := (if_neg hc1).symm.trans h
    refine M_iload_n (pc := 4) dX11_end_4 rfl ?_
    refine M_aload_n (pc := 5) dX11_end_5 rfl ?_
    refine M_getI (pc := 6) dX11_end_6 f_X11_13 at_10 ?_
    refine M_icmp_le (pc := 9) (tgt := 14) dX11_end_9 (by decide) (fun hc2 => ?_) (fun hc2 => ?_)
    · have h := (if_pos hc2).symm.trans h
      refine M_aload_n (pc := 14) dX11_end_14 rfl ?_
      refine M_iload_n (pc := 15) dX11_end_15 rfl ?_
      refine M_putI (pc := 16) dX11_end_16 f_X11_13 at_10 rfl ⟨rfl, rfl⟩ ?_
      refine M_iconst (pc := 19) (v := 1) dX11_end_19 (by decide) ?_
      obtain rfl := Option.some.inj h
      exact M_iret (pc := 20) dX11_end_20 rfl rfl rfl rfl
    · have h := (if_neg hc2).symm.trans h
      refine M_iconst (pc := 12) (v := 0) dX11_end_12 (by decide) ?_
      obtain rfl := Option.some.inj h
      exact M_iret (pc := 13) dX11_end_13 rfl rfl rfl rfl
def F_X11_takeTape (I : HI) : Option (Int32 × HI) :=
  some ((I 1 1), (up2 I 1 1 (0 : Int32)))
set_option maxRecDepth 4000 in
set_option maxHeartbeats 4000000 in
theorem C_X11_takeTape {g : gX} {d : Nat} {P : Nat → Nat → Option Nat} {I : HI} {J : HJ} (hp : Wp P) {r : Int32 × HI} (h : F_X11_takeTape I = some r) : Cm g mX11_takeTape (d + 0) [.ref 1] (NT, I, J, P) (some (.int r.1)) (NT, r.2, J, P) := by
  unfold F_X11_takeTape at h
  refine Cm.of (by decide) (by simp [Value.category]) (Nat.le_of_ble_eq_true rfl) (Nat.le_refl _) (ls := [some (.ref 1), none]) rfl ?_
  refine M_aload_n (pc := 0) dX11_takeTape_0 rfl ?_
  refine M_getI (pc := 1) dX11_takeTape_1 f_X11_13 at_10 ?_
  refine M_istore_n (pc := 4) (ls' := [some (.ref 1), some (.int (I 1 1))]) dX11_takeTape_4 (by decide) rfl ?_
  refine M_aload_n (pc := 5) dX11_takeTape_5 rfl ?_
  refine M_iconst (pc := 6) (v := 0) dX11_takeTape_6 (by decide) ?_
  refine M_putI (pc := 7) dX11_takeTape_7 f_X11_13 at_10 rfl ⟨rfl, rfl⟩ ?_
  refine M_iload_n (pc := 10) dX11_takeTape_10 rfl ?_
  obtain rfl := Option.some.inj h
  exact M_iret (pc := 11) dX11_takeTape_11 rfl rfl rfl rfl
def L_X11_toldAtMost_2 (I : HI) (x1 : Int32) (x2 : Int32) (x3 : Int32) : Option (Int32) :=
  if x1 ≤ x3 then some (1 : Int32) else if (400 : Int32) ≤ x3 then some (1 : Int32) else (ald 400 (I 2) x3) >>= fun v3 => if v3 ≤ x2 then L_X11_toldAtMost_2 I x1 x2 (x3 + (1 : Int32)) else some (0 : Int32)
partial_fixpoint
def F_X11_toldAtMost (I : HI) (x1 : Int32) (x2 : Int32) : Option (Int32) :=
  L_X11_toldAtMost_2 I x1 x2 (0 : Int32)
set_option maxRecDepth 4000 in
set_option maxHeartbeats 4000000 in
theorem LC_X11_toldAtMost_2 {g : gX} {d : Nat} {P : Nat → Nat → Option Nat} {J : HJ} {I : HI} {x1 : Int32} {x2 : Int32} (hp : Wp P) : ∀ (x3 : Int32) (r : Int32), L_X11_toldAtMost_2 I x1 x2 x3 = some r → M g mX11_toldAtMost (d + 0) (NT, NT, 0) ((.inl (some (.int r))), (NT, I, J, P)) 2 [some (.ref 1), some (.int x1), some (.int x2), some (.int x3)] [] (NT, I, J, P) := by
  refine L_X11_toldAtMost_2.partial_correctness I x1 x2 (fun x3 r => M g mX11_toldAtMost (d + 0) (NT, NT, 0) ((.inl (some (.int r))), (NT, I, J, P)) 2 [some (.ref 1), some (.int x1), some (.int x2), some (.int x3)] [] (NT, I, J, P)) ?_
  intro f ih x3 r h
  refine M_iload_n (pc := 2) dX11_toldAtMost_2 rfl ?_
  refine M_iload_n (pc := 3) dX11_toldAtMost_3 rfl ?_
  refine M_icmp_ge (pc := 4) (tgt := 32) dX11_toldAtMost_4 (by decide) (fun hc1 => ?_) (fun hc1 => ?_)
  · have h := (if_pos hc1).symm.trans h
    refine M_iconst (pc := 32) (v := 1) dX11_toldAtMost_32 (by decide) ?_
    obtain rfl := Option.some.inj h
    exact M_iret (pc := 33) dX11_toldAtMost_33 rfl rfl rfl rfl
  · have h := (if_neg hc1).symm.trans h
    refine M_iload_n (pc := 7) dX11_toldAtMost_7 rfl ?_
    refine M_sipush (pc := 8) (v := 400) dX11_toldAtMost_8 (by decide) ?_
    refine M_icmp_ge (pc := 11) (tgt := 32) dX11_toldAtMost_11 (by decide) (fun hc2 => ?_) (fun hc2 => ?_)
    · have h := (if_pos hc2).symm.trans h
      refine M_iconst (pc := 32) (v := 1) dX11_toldAtMost_32 (by decide) ?_
      obtain rfl := Option.some.inj h
      exact M_iret (pc := 33) dX11_toldAtMost_33 rfl rfl rfl rfl
    · have h := (if_neg hc2).symm.trans h
      refine M_aload_n (pc := 14) dX11_toldAtMost_14 rfl ?_
      refine M_getR (pc := 15) dX11_toldAtMost_15 f_X11_9 at_10 (gr_10_0 hp at_10).1 ?_
      refine M_iload_n (pc := 18) dX11_toldAtMost_18 rfl ?_
      obtain ⟨v3, hv4, h⟩ := bnd h
      refine M_aldI (pc := 19) dX11_toldAtMost_19 (gr_10_0 hp at_10).2 hv4 ?_
      refine M_iload_n (pc := 20) dX11_toldAtMost_20 rfl ?_
      refine M_icmp_le (pc := 21) (tgt := 26) dX11_toldAtMost_21 (by decide) (fun hc5 => ?_) (fun hc5 => ?_)
      · have h := (if_pos hc5).symm.trans h
        refine M_iinc (pc := 26) (v := (x3 + (1 : Int32))) (ls' := [some (.ref 1), some (.int x1), some (.int x2), some (.int (x3 + (1 : Int32)))]) dX11_toldAtMost_26 rfl rfl (by decide) rfl ?_
        refine M_goto (pc := 29) (tgt := 2) dX11_toldAtMost_29 (by decide) ?_
        exact ih (x3 + (1 : Int32)) _ h
      · have h := (if_neg hc5).symm.trans h
        refine M_iconst (pc := 24) (v := 0) dX11_toldAtMost_24 (by decide) ?_
        obtain rfl := Option.some.inj h
        exact M_iret (pc := 25) dX11_toldAtMost_25 rfl rfl rfl rfl
set_option maxRecDepth 4000 in
set_option maxHeartbeats 4000000 in
theorem C_X11_toldAtMost {g : gX} {d : Nat} {P : Nat → Nat → Option Nat} {I : HI} {x1 : Int32} {x2 : Int32} {J : HJ} (hp : Wp P) {r : Int32} (h : F_X11_toldAtMost I x1 x2 = some r) : Cm g mX11_toldAtMost (d + 0) [.ref 1, .int x1, .int x2] (NT, I, J, P) (some (.int r)) (NT, I, J, P) := by
  unfold F_X11_toldAtMost at h
  refine Cm.of (by decide) (by simp [Value.category]) (Nat.le_of_ble_eq_true rfl) (Nat.le_refl _) (ls := [some (.ref 1), some (.int x1), some (.int x2), none]) rfl ?_
  refine M_iconst (pc := 0) (v := 0) dX11_toldAtMost_0 (by decide) ?_
  refine M_istore_n (pc := 1) (ls' := [some (.ref 1), some (.int x1), some (.int x2), some (.int (0 : Int32))]) dX11_toldAtMost_1 (by decide) rfl ?_
  exact LC_X11_toldAtMost_2 (P := P) hp (0 : Int32) _ h
def F_X11_fault (I : HI) : Option (Int32) :=
  some (I 1 2)
set_option maxRecDepth 4000 in
set_option maxHeartbeats 4000000 in
theorem C_X11_fault {g : gX} {d : Nat} {P : Nat → Nat → Option Nat} {I : HI} {J : HJ} (hp : Wp P) {r : Int32} (h : F_X11_fault I = some r) : Cm g mX11_fault (d + 0) [.ref 1] (NT, I, J, P) (some (.int r)) (NT, I, J, P) := by
  unfold F_X11_fault at h
  refine Cm.of (by decide) (by simp [Value.category]) (Nat.le_of_ble_eq_true rfl) (Nat.le_refl _) (ls := [some (.ref 1)]) rfl ?_
  refine M_aload_n (pc := 0) dX11_fault_0 rfl ?_
  refine M_getI (pc := 1) dX11_fault_1 f_X11_17 at_10 ?_
  obtain rfl := Option.some.inj h
  exact M_iret (pc := 4) dX11_fault_4 rfl rfl rfl rfl
def F_X11_isPlace (I : HI) (x0 : Int32) : Option (Int32) :=
  if x0 < 0 then some (0 : Int32) else if (7 : Int32) < x0 then some (0 : Int32) else some (1 : Int32)
set_option maxRecDepth 4000 in
set_option maxHeartbeats 4000000 in
theorem C_X11_isPlace {g : gX} {d : Nat} {P : Nat → Nat → Option Nat} {I : HI} {x0 : Int32} {J : HJ} (hp : Wp P) {r : Int32} (h : F_X11_isPlace I x0 = some r) : Cm g mX11_isPlace (d + 0) [.int x0] (NT, I, J, P) (some (.int r)) (NT, I, J, P) := by
  unfold F_X11_isPlace at h
  refine Cm.of (by decide) (by simp [Value.category]) (Nat.le_of_ble_eq_true rfl) (Nat.le_refl _) (ls := [some (.int x0)]) rfl ?_
  refine M_iload_n (pc := 0) dX11_isPlace_0 rfl ?_
  refine M_if_lt (pc := 1) (tgt := 14) dX11_isPlace_1 (by decide) (fun hc1 => ?_) (fun hc1 => ?_)
  · have h := (if_pos hc1).symm.trans h
    refine M_iconst (pc := 14) (v := 0) dX11_isPlace_14 (by decide) ?_
    obtain rfl := Option.some.inj h
    exact M_iret (pc := 15) dX11_isPlace_15 rfl rfl rfl rfl
  · have h := (if_neg hc1).symm.trans h
    refine M_iload_n (pc := 4) dX11_isPlace_4 rfl ?_
    refine M_bipush (pc := 5) (v := 7) dX11_isPlace_5 (by decide) ?_
    refine M_icmp_gt (pc := 7) (tgt := 14) dX11_isPlace_7 (by decide) (fun hc2 => ?_) (fun hc2 => ?_)
    · have h := (if_pos hc2).symm.trans h
      refine M_iconst (pc := 14) (v := 0) dX11_isPlace_14 (by decide) ?_
      obtain rfl := Option.some.inj h
      exact M_iret (pc := 15) dX11_isPlace_15 rfl rfl rfl rfl
    · have h := (if_neg hc2).symm.trans h
      refine M_iconst (pc := 10) (v := 1) dX11_isPlace_10 (by decide) ?_
      refine M_goto (pc := 11) (tgt := 15) dX11_isPlace_11 (by decide) ?_
      obtain rfl := Option.some.inj h
      exact M_iret (pc := 15) dX11_isPlace_15 rfl rfl rfl rfl
def L_X11_arePairs_2 (I : HI) (x1 : Int32) (x2 : Int32) : Option (Int32) :=
  if x1 ≤ x2 then some (1 : Int32) else if (400 : Int32) ≤ (x2 + (1 : Int32)) then some (1 : Int32) else (ald 400 (I 2) x2) >>= fun v3 => if (99 : Int32) < v3 then some (0 : Int32) else (ald 400 (I 2) (x2 + (1 : Int32))) >>= fun v6 => (F_X11_isPlace I v6) >>= fun r8 => if r8 = 0 then some (0 : Int32) else L_X11_arePairs_2 I x1 (x2 + (2 : Int32))
partial_fixpoint
def F_X11_arePairs (I : HI) (x1 : Int32) : Option (Int32) :=
  L_X11_arePairs_2 I x1 (0 : Int32)
set_option maxRecDepth 4000 in
set_option maxHeartbeats 4000000 in
theorem LC_X11_arePairs_2 {g : gX} {d : Nat} {P : Nat → Nat → Option Nat} {J : HJ} {I : HI} {x1 : Int32} (hp : Wp P) : ∀ (x2 : Int32) (r : Int32), L_X11_arePairs_2 I x1 x2 = some r → M g mX11_arePairs (d + 1) (NT, NT, 0) ((.inl (some (.int r))), (NT, I, J, P)) 2 [some (.ref 1), some (.int x1), some (.int x2)] [] (NT, I, J, P) := by
  refine L_X11_arePairs_2.partial_correctness I x1 (fun x2 r => M g mX11_arePairs (d + 1) (NT, NT, 0) ((.inl (some (.int r))), (NT, I, J, P)) 2 [some (.ref 1), some (.int x1), some (.int x2)] [] (NT, I, J, P)) ?_
  intro f ih x2 r h
  refine M_iload_n (pc := 2) dX11_arePairs_2 rfl ?_
  refine M_iload_n (pc := 3) dX11_arePairs_3 rfl ?_
  refine M_icmp_ge (pc := 4) (tgt := 49) dX11_arePairs_4 (by decide) (fun hc1 => ?_) (fun hc1 => ?_)
  · have h := (if_pos hc1).symm.trans h
    refine M_iconst (pc := 49) (v := 1) dX11_arePairs_49 (by decide) ?_
    obtain rfl := Option.some.inj h
    exact M_iret (pc := 50) dX11_arePairs_50 rfl rfl rfl rfl
  · have h := (if_neg hc1).symm.trans h
    refine M_iload_n (pc := 7) dX11_arePairs_7 rfl ?_
    refine M_iconst (pc := 8) (v := 1) dX11_arePairs_8 (by decide) ?_
    refine M_iadd (pc := 9) dX11_arePairs_9 ?_
    refine M_sipush (pc := 10) (v := 400) dX11_arePairs_10 (by decide) ?_
    refine M_icmp_ge (pc := 13) (tgt := 49) dX11_arePairs_13 (by decide) (fun hc2 => ?_) (fun hc2 => ?_)
    · have h := (if_pos hc2).symm.trans h
      refine M_iconst (pc := 49) (v := 1) dX11_arePairs_49 (by decide) ?_
      obtain rfl := Option.some.inj h
      exact M_iret (pc := 50) dX11_arePairs_50 rfl rfl rfl rfl
    · have h := (if_neg hc2).symm.trans h
      refine M_aload_n (pc := 16) dX11_arePairs_16 rfl ?_
      refine M_getR (pc := 17) dX11_arePairs_17 f_X11_9 at_10 (gr_10_0 hp at_10).1 ?_
      refine M_iload_n (pc := 20) dX11_arePairs_20 rfl ?_
      obtain ⟨v3, hv4, h⟩ := bnd h
      refine M_aldI (pc := 21) dX11_arePairs_21 (gr_10_0 hp at_10).2 hv4 ?_
      refine M_bipush (pc := 22) (v := 99) dX11_arePairs_22 (by decide) ?_
      refine M_icmp_gt (pc := 24) (tgt := 41) dX11_arePairs_24 (by decide) (fun hc5 => ?_) (fun hc5 => ?_)
      · have h := (if_pos hc5).symm.trans h
        refine M_iconst (pc := 41) (v := 0) dX11_arePairs_41 (by decide) ?_
        obtain rfl := Option.some.inj h
        exact M_iret (pc := 42) dX11_arePairs_42 rfl rfl rfl rfl
      · have h := (if_neg hc5).symm.trans h
        refine M_aload_n (pc := 27) dX11_arePairs_27 rfl ?_
        refine M_getR (pc := 28) dX11_arePairs_28 f_X11_9 at_10 (gr_10_0 hp at_10).1 ?_
        refine M_iload_n (pc := 31) dX11_arePairs_31 rfl ?_
        refine M_iconst (pc := 32) (v := 1) dX11_arePairs_32 (by decide) ?_
        refine M_iadd (pc := 33) dX11_arePairs_33 ?_
        obtain ⟨v6, hv7, h⟩ := bnd h
        refine M_aldI (pc := 34) dX11_arePairs_34 (gr_10_0 hp at_10).2 hv7 ?_
        obtain ⟨r8, hr9, h⟩ := bnd h
        refine M_callSi (pc := 35) dX11_arePairs_35 s_X11_255 rfl rfl (Nat.le_of_ble_eq_true rfl) (C_X11_isPlace (d := d + 0) hp hr9) (Nat.le_refl _) ?_
        refine M_if_ne (pc := 38) (tgt := 43) dX11_arePairs_38 (by decide) (fun hc10 => ?_) (fun hc10 => ?_)
        · have h := (if_neg hc10).symm.trans h
          refine M_iinc (pc := 43) (v := (x2 + (2 : Int32))) (ls' := [some (.ref 1), some (.int x1), some (.int (x2 + (2 : Int32)))]) dX11_arePairs_43 rfl rfl (by decide) rfl ?_
          refine M_goto (pc := 46) (tgt := 2) dX11_arePairs_46 (by decide) ?_
          exact ih (x2 + (2 : Int32)) _ h
        · have h := (if_pos hc10).symm.trans h
          refine M_iconst (pc := 41) (v := 0) dX11_arePairs_41 (by decide) ?_
          obtain rfl := Option.some.inj h
          exact M_iret (pc := 42) dX11_arePairs_42 rfl rfl rfl rfl
set_option maxRecDepth 4000 in
set_option maxHeartbeats 4000000 in
theorem C_X11_arePairs {g : gX} {d : Nat} {P : Nat → Nat → Option Nat} {I : HI} {x1 : Int32} {J : HJ} (hp : Wp P) {r : Int32} (h : F_X11_arePairs I x1 = some r) : Cm g mX11_arePairs (d + 1) [.ref 1, .int x1] (NT, I, J, P) (some (.int r)) (NT, I, J, P) := by
  unfold F_X11_arePairs at h
  refine Cm.of (by decide) (by simp [Value.category]) (Nat.le_of_ble_eq_true rfl) (Nat.le_refl _) (ls := [some (.ref 1), some (.int x1), none]) rfl ?_
  refine M_iconst (pc := 0) (v := 0) dX11_arePairs_0 (by decide) ?_
  refine M_istore_n (pc := 1) (ls' := [some (.ref 1), some (.int x1), some (.int (0 : Int32))]) dX11_arePairs_1 (by decide) rfl ?_
  exact LC_X11_arePairs_2 (P := P) hp (0 : Int32) _ h
def L_X11_dated_18 (I : HI) (x2 : Int32) (x3 : Int32) (x4 : Int32) : Option (Int32) :=
  if (I 4 0) ≤ x4 then some x3 else if ((x2 >>> (x4 &&& 31)) &&& (1 : Int32)) = 0 then L_X11_dated_18 I x2 x3 (x4 + (1 : Int32)) else (F_X1_isHad I 4 x4) >>= fun r5 => if r5 = 0 then some (-1 : Int32) else (ald 12 (I 6) x4) >>= fun v8 => L_X11_dated_18 I x2 (if x3 < v8 then v8 else x3) (x4 + (1 : Int32))
partial_fixpoint
def F_X11_dated (I : HI) (x1 : Int32) : Option (Int32) :=
  (F_X1_all I 4) >>= fun r1 => L_X11_dated_18 I (x1 &&& r1) (-1 : Int32) (0 : Int32)
set_option maxRecDepth 4000 in
set_option maxHeartbeats 4000000 in
theorem LC_X11_dated_18 {g : gX} {d : Nat} {P : Nat → Nat → Option Nat} {J : HJ} {I : HI} {x2 : Int32} (hp : Wp P) : ∀ (x3 : Int32) (x4 : Int32) (r : Int32), L_X11_dated_18 I x2 x3 x4 = some r → M g mX11_dated (d + 2) (NT, NT, 0) ((.inl (some (.int r))), (NT, I, J, P)) 18 [some (.ref 1), none, some (.int x2), some (.int x3), some (.int x4)] [] (NT, I, J, P) := by
  refine L_X11_dated_18.partial_correctness I x2 (fun x3 x4 r => M g mX11_dated (d + 2) (NT, NT, 0) ((.inl (some (.int r))), (NT, I, J, P)) 18 [some (.ref 1), none, some (.int x2), some (.int x3), some (.int x4)] [] (NT, I, J, P)) ?_
  intro f ih x3 x4 r h
  refine M_iload (pc := 18) dX11_dated_18 rfl ?_
  refine M_aload_n (pc := 20) dX11_dated_20 rfl ?_
  refine M_getR (pc := 21) dX11_dated_21 f_X11_23 at_10 (gr_10_3 hp at_10).1 ?_
  refine M_getR (pc := 24) dX11_dated_24 f_X11_148 (gr_10_3 hp at_10).2 (gr_3_0 hp (gr_10_3 hp at_10).2).1 ?_
  refine M_getI (pc := 27) dX11_dated_27 f_X11_211 (gr_3_0 hp (gr_10_3 hp at_10).2).2 ?_
  refine M_icmp_ge (pc := 30) (tgt := 83) dX11_dated_30 (by decide) (fun hc3 => ?_) (fun hc3 => ?_)
  · have h := (if_pos hc3).symm.trans h
    refine M_iload_n (pc := 83) dX11_dated_83 rfl ?_
    obtain rfl := Option.some.inj h
    exact M_iret (pc := 84) dX11_dated_84 rfl rfl rfl rfl
  · have h := (if_neg hc3).symm.trans h
    refine M_iload_n (pc := 33) dX11_dated_33 rfl ?_
    refine M_iload (pc := 34) dX11_dated_34 rfl ?_
    refine M_ishr (pc := 36) dX11_dated_36 ?_
    refine M_iconst (pc := 37) (v := 1) dX11_dated_37 (by decide) ?_
    refine M_iand (pc := 38) dX11_dated_38 ?_
    refine M_if_eq (pc := 39) (tgt := 77) dX11_dated_39 (by decide) (fun hc4 => ?_) (fun hc4 => ?_)
    · have h := (if_pos hc4).symm.trans h
      refine M_iinc (pc := 77) (v := (x4 + (1 : Int32))) (ls' := [some (.ref 1), none, some (.int x2), some (.int x3), some (.int (x4 + (1 : Int32)))]) dX11_dated_77 rfl rfl (by decide) rfl ?_
      refine M_goto (pc := 80) (tgt := 18) dX11_dated_80 (by decide) ?_
      exact ih x3 (x4 + (1 : Int32)) _ h
    · have h := (if_neg hc4).symm.trans h
      refine M_aload_n (pc := 42) dX11_dated_42 rfl ?_
      refine M_getR (pc := 43) dX11_dated_43 f_X11_23 at_10 (gr_10_3 hp at_10).1 ?_
      refine M_getR (pc := 46) dX11_dated_46 f_X11_148 (gr_10_3 hp at_10).2 (gr_3_0 hp (gr_10_3 hp at_10).2).1 ?_
      refine M_iload (pc := 49) dX11_dated_49 rfl ?_
      obtain ⟨r5, hr6, h⟩ := bnd h
      refine M_callVi (pc := 51) dX11_dated_51 v_X11_265 rfl rfl (gr_3_0 hp (gr_10_3 hp at_10).2).2 (Nat.le_of_ble_eq_true rfl) (C_X1_isHad (d := d + 0) hp (gr_3_0 hp (gr_10_3 hp at_10).2).2 hr6) (Nat.le_refl _) ?_
      refine M_if_ne (pc := 54) (tgt := 59) dX11_dated_54 (by decide) (fun hc7 => ?_) (fun hc7 => ?_)
      · have h := (if_neg hc7).symm.trans h
        refine M_iload_n (pc := 59) dX11_dated_59 rfl ?_
        refine M_aload_n (pc := 60) dX11_dated_60 rfl ?_
        refine M_getR (pc := 61) dX11_dated_61 f_X11_23 at_10 (gr_10_3 hp at_10).1 ?_
        refine M_getR (pc := 64) dX11_dated_64 f_X11_148 (gr_10_3 hp at_10).2 (gr_3_0 hp (gr_10_3 hp at_10).2).1 ?_
        refine M_getR (pc := 67) dX11_dated_67 f_X11_171 (gr_3_0 hp (gr_10_3 hp at_10).2).2 (gr_1_2 hp (gr_3_0 hp (gr_10_3 hp at_10).2).2).1 ?_
        refine M_iload (pc := 70) dX11_dated_70 rfl ?_
        obtain ⟨v8, hv9, h⟩ := bnd h
        refine M_aldI (pc := 72) dX11_dated_72 (gr_1_2 hp (gr_3_0 hp (gr_10_3 hp at_10).2).2).2 hv9 ?_
        refine M_mmax (pc := 73) dX11_dated_73 mm_X11_350.1 mm_X11_350.2.1 mm_X11_350.2.2.1 mm_X11_350.2.2.2 (Nat.le_of_ble_eq_true rfl) ?_
        refine M_istore_n (pc := 76) (ls' := [some (.ref 1), none, some (.int x2), some (.int (if x3 < v8 then v8 else x3)), some (.int x4)]) dX11_dated_76 (by decide) rfl ?_
        refine M_iinc (pc := 77) (v := (x4 + (1 : Int32))) (ls' := [some (.ref 1), none, some (.int x2), some (.int (if x3 < v8 then v8 else x3)), some (.int (x4 + (1 : Int32)))]) dX11_dated_77 rfl rfl (by decide) rfl ?_
        refine M_goto (pc := 80) (tgt := 18) dX11_dated_80 (by decide) ?_
        exact ih (if x3 < v8 then v8 else x3) (x4 + (1 : Int32)) _ h
      · have h := (if_pos hc7).symm.trans h
        refine M_iconst (pc := 57) (v := -1) dX11_dated_57 (by decide) ?_
        obtain rfl := Option.some.inj h
        exact M_iret (pc := 58) dX11_dated_58 rfl rfl rfl rfl
set_option maxRecDepth 4000 in
set_option maxHeartbeats 4000000 in
theorem C_X11_dated {g : gX} {d : Nat} {P : Nat → Nat → Option Nat} {I : HI} {x1 : Int32} {J : HJ} (hp : Wp P) {r : Int32} (h : F_X11_dated I x1 = some r) : Cm g mX11_dated (d + 2) [.ref 1, .int x1] (NT, I, J, P) (some (.int r)) (NT, I, J, P) := by
  unfold F_X11_dated at h
  refine Cm.of (by decide) (by simp [Value.category]) (Nat.le_of_ble_eq_true rfl) (Nat.le_refl _) (ls := [some (.ref 1), some (.int x1), none, none, none]) rfl ?_
  refine M_iload_n (pc := 0) dX11_dated_0 rfl ?_
  refine M_aload_n (pc := 1) dX11_dated_1 rfl ?_
  refine M_getR (pc := 2) dX11_dated_2 f_X11_23 at_10 (gr_10_3 hp at_10).1 ?_
  refine M_getR (pc := 5) dX11_dated_5 f_X11_148 (gr_10_3 hp at_10).2 (gr_3_0 hp (gr_10_3 hp at_10).2).1 ?_
  obtain ⟨r1, hr2, h⟩ := bnd h
  refine M_callVi (pc := 8) dX11_dated_8 v_X11_214 rfl rfl (gr_3_0 hp (gr_10_3 hp at_10).2).2 (Nat.le_of_ble_eq_true rfl) (C_X1_all (d := d + 1) hp (gr_3_0 hp (gr_10_3 hp at_10).2).2 hr2) (Nat.le_refl _) ?_
  refine M_iand (pc := 11) dX11_dated_11 ?_
  refine M_istore_n (pc := 12) (ls' := [some (.ref 1), some (.int x1), some (.int (x1 &&& r1)), none, none]) dX11_dated_12 (by decide) rfl ?_
  refine M_iconst (pc := 13) (v := -1) dX11_dated_13 (by decide) ?_
  refine M_istore_n (pc := 14) (ls' := [some (.ref 1), some (.int x1), some (.int (x1 &&& r1)), some (.int (-1 : Int32)), none]) dX11_dated_14 (by decide) rfl ?_
  refine M_iconst (pc := 15) (v := 0) dX11_dated_15 (by decide) ?_
  refine M_istore (pc := 16) (ls' := [some (.ref 1), some (.int x1), some (.int (x1 &&& r1)), some (.int (-1 : Int32)), some (.int (0 : Int32))]) dX11_dated_16 (by decide) rfl ?_
  refine M_mask (pc := 18) [true, false, true, true, true] rfl ?_
  exact LC_X11_dated_18 (P := P) hp (-1 : Int32) (0 : Int32) _ h
def L_X11_gap_4 (I : HI) (x1 : Int32) (x2 : Int32) : Option (Int32) :=
  if (I 4 0) ≤ x2 then some x1 else (F_X1_isHad I 4 x2) >>= fun r2 => if r2 = 0 then L_X11_gap_4 I x1 (x2 + (1 : Int32)) else (ald 12 (I 6) x2) >>= fun v5 => (F_X1_earliestBehind I 4 v5) >>= fun r7 => if r7 = (-1 : Int32) then L_X11_gap_4 I x1 (x2 + (1 : Int32)) else (ald 12 (I 6) r7) >>= fun v10 => (ald 12 (I 6) x2) >>= fun v12 => L_X11_gap_4 I (if x1 < (v10 - v12) then (v10 - v12) else x1) (x2 + (1 : Int32))
partial_fixpoint
def F_X11_gap (I : HI) : Option (Int32) :=
  L_X11_gap_4 I (0 : Int32) (0 : Int32)
set_option maxRecDepth 4000 in
set_option maxHeartbeats 4000000 in
theorem LC_X11_gap_4 {g : gX} {d : Nat} {P : Nat → Nat → Option Nat} {J : HJ} {I : HI} (hp : Wp P) : ∀ (x1 : Int32) (x2 : Int32) (r : Int32), L_X11_gap_4 I x1 x2 = some r → M g mX11_gap (d + 2) (NT, NT, 0) ((.inl (some (.int r))), (NT, I, J, P)) 4 [some (.ref 1), some (.int x1), some (.int x2), none] [] (NT, I, J, P) := by
  refine L_X11_gap_4.partial_correctness I (fun x1 x2 r => M g mX11_gap (d + 2) (NT, NT, 0) ((.inl (some (.int r))), (NT, I, J, P)) 4 [some (.ref 1), some (.int x1), some (.int x2), none] [] (NT, I, J, P)) ?_
  intro f ih x1 x2 r h
  refine M_iload_n (pc := 4) dX11_gap_4 rfl ?_
  refine M_aload_n (pc := 5) dX11_gap_5 rfl ?_
  refine M_getR (pc := 6) dX11_gap_6 f_X11_23 at_10 (gr_10_3 hp at_10).1 ?_
  refine M_getR (pc := 9) dX11_gap_9 f_X11_148 (gr_10_3 hp at_10).2 (gr_3_0 hp (gr_10_3 hp at_10).2).1 ?_
  refine M_getI (pc := 12) dX11_gap_12 f_X11_211 (gr_3_0 hp (gr_10_3 hp at_10).2).2 ?_
  refine M_icmp_ge (pc := 15) (tgt := 96) dX11_gap_15 (by decide) (fun hc1 => ?_) (fun hc1 => ?_)
  · have h := (if_pos hc1).symm.trans h
    refine M_iload_n (pc := 96) dX11_gap_96 rfl ?_
    obtain rfl := Option.some.inj h
    exact M_iret (pc := 97) dX11_gap_97 rfl rfl rfl rfl
  · have h := (if_neg hc1).symm.trans h
    refine M_aload_n (pc := 18) dX11_gap_18 rfl ?_
    refine M_getR (pc := 19) dX11_gap_19 f_X11_23 at_10 (gr_10_3 hp at_10).1 ?_
    refine M_getR (pc := 22) dX11_gap_22 f_X11_148 (gr_10_3 hp at_10).2 (gr_3_0 hp (gr_10_3 hp at_10).2).1 ?_
    refine M_iload_n (pc := 25) dX11_gap_25 rfl ?_
    obtain ⟨r2, hr3, h⟩ := bnd h
    refine M_callVi (pc := 26) dX11_gap_26 v_X11_265 rfl rfl (gr_3_0 hp (gr_10_3 hp at_10).2).2 (Nat.le_of_ble_eq_true rfl) (C_X1_isHad (d := d + 0) hp (gr_3_0 hp (gr_10_3 hp at_10).2).2 hr3) (Nat.le_refl _) ?_
    refine M_if_eq (pc := 29) (tgt := 90) dX11_gap_29 (by decide) (fun hc4 => ?_) (fun hc4 => ?_)
    · have h := (if_pos hc4).symm.trans h
      refine M_iinc (pc := 90) (v := (x2 + (1 : Int32))) (ls' := [some (.ref 1), some (.int x1), some (.int (x2 + (1 : Int32))), none]) dX11_gap_90 rfl rfl (by decide) rfl ?_
      refine M_goto (pc := 93) (tgt := 4) dX11_gap_93 (by decide) ?_
      exact ih x1 (x2 + (1 : Int32)) _ h
    · have h := (if_neg hc4).symm.trans h
      refine M_aload_n (pc := 32) dX11_gap_32 rfl ?_
      refine M_getR (pc := 33) dX11_gap_33 f_X11_23 at_10 (gr_10_3 hp at_10).1 ?_
      refine M_getR (pc := 36) dX11_gap_36 f_X11_148 (gr_10_3 hp at_10).2 (gr_3_0 hp (gr_10_3 hp at_10).2).1 ?_
      refine M_aload_n (pc := 39) dX11_gap_39 rfl ?_
      refine M_getR (pc := 40) dX11_gap_40 f_X11_23 at_10 (gr_10_3 hp at_10).1 ?_
      refine M_getR (pc := 43) dX11_gap_43 f_X11_148 (gr_10_3 hp at_10).2 (gr_3_0 hp (gr_10_3 hp at_10).2).1 ?_
      refine M_getR (pc := 46) dX11_gap_46 f_X11_171 (gr_3_0 hp (gr_10_3 hp at_10).2).2 (gr_1_2 hp (gr_3_0 hp (gr_10_3 hp at_10).2).2).1 ?_
      refine M_iload_n (pc := 49) dX11_gap_49 rfl ?_
      obtain ⟨v5, hv6, h⟩ := bnd h
      refine M_aldI (pc := 50) dX11_gap_50 (gr_1_2 hp (gr_3_0 hp (gr_10_3 hp at_10).2).2).2 hv6 ?_
      obtain ⟨r7, hr8, h⟩ := bnd h
      refine M_callVi (pc := 51) dX11_gap_51 v_X11_365 rfl rfl (gr_3_0 hp (gr_10_3 hp at_10).2).2 (Nat.le_of_ble_eq_true rfl) (C_X1_earliestBehind (d := d + 1) hp (gr_3_0 hp (gr_10_3 hp at_10).2).2 hr8) (Nat.le_refl _) ?_
      refine M_istore_n (pc := 54) (ls' := [some (.ref 1), some (.int x1), some (.int x2), some (.int r7)]) dX11_gap_54 (by decide) rfl ?_
      refine M_iload_n (pc := 55) dX11_gap_55 rfl ?_
      refine M_iconst (pc := 56) (v := -1) dX11_gap_56 (by decide) ?_
      refine M_icmp_eq (pc := 57) (tgt := 90) dX11_gap_57 (by decide) (fun hc9 => ?_) (fun hc9 => ?_)
      · have h := (if_pos hc9).symm.trans h
        refine M_iinc (pc := 90) (v := (x2 + (1 : Int32))) (ls' := [some (.ref 1), some (.int x1), some (.int (x2 + (1 : Int32))), some (.int r7)]) dX11_gap_90 rfl rfl (by decide) rfl ?_
        refine M_goto (pc := 93) (tgt := 4) dX11_gap_93 (by decide) ?_
        refine M_mask (pc := 4) [true, true, true, false] rfl ?_
        exact ih x1 (x2 + (1 : Int32)) _ h
      · have h := (if_neg hc9).symm.trans h
        refine M_iload_n (pc := 60) dX11_gap_60 rfl ?_
        refine M_aload_n (pc := 61) dX11_gap_61 rfl ?_
        refine M_getR (pc := 62) dX11_gap_62 f_X11_23 at_10 (gr_10_3 hp at_10).1 ?_
        refine M_getR (pc := 65) dX11_gap_65 f_X11_148 (gr_10_3 hp at_10).2 (gr_3_0 hp (gr_10_3 hp at_10).2).1 ?_
        refine M_getR (pc := 68) dX11_gap_68 f_X11_171 (gr_3_0 hp (gr_10_3 hp at_10).2).2 (gr_1_2 hp (gr_3_0 hp (gr_10_3 hp at_10).2).2).1 ?_
        refine M_iload_n (pc := 71) dX11_gap_71 rfl ?_
        obtain ⟨v10, hv11, h⟩ := bnd h
        refine M_aldI (pc := 72) dX11_gap_72 (gr_1_2 hp (gr_3_0 hp (gr_10_3 hp at_10).2).2).2 hv11 ?_
        refine M_aload_n (pc := 73) dX11_gap_73 rfl ?_
        refine M_getR (pc := 74) dX11_gap_74 f_X11_23 at_10 (gr_10_3 hp at_10).1 ?_
        refine M_getR (pc := 77) dX11_gap_77 f_X11_148 (gr_10_3 hp at_10).2 (gr_3_0 hp (gr_10_3 hp at_10).2).1 ?_
        refine M_getR (pc := 80) dX11_gap_80 f_X11_171 (gr_3_0 hp (gr_10_3 hp at_10).2).2 (gr_1_2 hp (gr_3_0 hp (gr_10_3 hp at_10).2).2).1 ?_
        refine M_iload_n (pc := 83) dX11_gap_83 rfl ?_
        obtain ⟨v12, hv13, h⟩ := bnd h
        refine M_aldI (pc := 84) dX11_gap_84 (gr_1_2 hp (gr_3_0 hp (gr_10_3 hp at_10).2).2).2 hv13 ?_
        refine M_isub (pc := 85) dX11_gap_85 ?_
        refine M_mmax (pc := 86) dX11_gap_86 mm_X11_350.1 mm_X11_350.2.1 mm_X11_350.2.2.1 mm_X11_350.2.2.2 (Nat.le_of_ble_eq_true rfl) ?_
        refine M_istore_n (pc := 89) (ls' := [some (.ref 1), some (.int (if x1 < (v10 - v12) then (v10 - v12) else x1)), some (.int x2), some (.int r7)]) dX11_gap_89 (by decide) rfl ?_
        refine M_iinc (pc := 90) (v := (x2 + (1 : Int32))) (ls' := [some (.ref 1), some (.int (if x1 < (v10 - v12) then (v10 - v12) else x1)), some (.int (x2 + (1 : Int32))), some (.int r7)]) dX11_gap_90 rfl rfl (by decide) rfl ?_
        refine M_goto (pc := 93) (tgt := 4) dX11_gap_93 (by decide) ?_
        refine M_mask (pc := 4) [true, true, true, false] rfl ?_
        exact ih (if x1 < (v10 - v12) then (v10 - v12) else x1) (x2 + (1 : Int32)) _ h
set_option maxRecDepth 4000 in
set_option maxHeartbeats 4000000 in
theorem C_X11_gap {g : gX} {d : Nat} {P : Nat → Nat → Option Nat} {I : HI} {J : HJ} (hp : Wp P) {r : Int32} (h : F_X11_gap I = some r) : Cm g mX11_gap (d + 2) [.ref 1] (NT, I, J, P) (some (.int r)) (NT, I, J, P) := by
  unfold F_X11_gap at h
  refine Cm.of (by decide) (by simp [Value.category]) (Nat.le_of_ble_eq_true rfl) (Nat.le_refl _) (ls := [some (.ref 1), none, none, none]) rfl ?_
  refine M_iconst (pc := 0) (v := 0) dX11_gap_0 (by decide) ?_
  refine M_istore_n (pc := 1) (ls' := [some (.ref 1), some (.int (0 : Int32)), none, none]) dX11_gap_1 (by decide) rfl ?_
  refine M_iconst (pc := 2) (v := 0) dX11_gap_2 (by decide) ?_
  refine M_istore_n (pc := 3) (ls' := [some (.ref 1), some (.int (0 : Int32)), some (.int (0 : Int32)), none]) dX11_gap_3 (by decide) rfl ?_
  exact LC_X11_gap_4 (P := P) hp (0 : Int32) (0 : Int32) _ h
def F_X11_oldest (I : HI) : Option (Int32) :=
  (F_X1_earliestBehind I 4 (-1 : Int32)) >>= fun r1 => some r1
set_option maxRecDepth 4000 in
set_option maxHeartbeats 4000000 in
theorem C_X11_oldest {g : gX} {d : Nat} {P : Nat → Nat → Option Nat} {I : HI} {J : HJ} (hp : Wp P) {r : Int32} (h : F_X11_oldest I = some r) : Cm g mX11_oldest (d + 1) [.ref 1] (NT, I, J, P) (some (.int r)) (NT, I, J, P) := by
  unfold F_X11_oldest at h
  refine Cm.of (by decide) (by simp [Value.category]) (Nat.le_of_ble_eq_true rfl) (Nat.le_refl _) (ls := [some (.ref 1)]) rfl ?_
  refine M_aload_n (pc := 0) dX11_oldest_0 rfl ?_
  refine M_getR (pc := 1) dX11_oldest_1 f_X11_23 at_10 (gr_10_3 hp at_10).1 ?_
  refine M_getR (pc := 4) dX11_oldest_4 f_X11_148 (gr_10_3 hp at_10).2 (gr_3_0 hp (gr_10_3 hp at_10).2).1 ?_
  refine M_iconst (pc := 7) (v := -1) dX11_oldest_7 (by decide) ?_
  obtain ⟨r1, hr2, h⟩ := bnd h
  refine M_callVi (pc := 8) dX11_oldest_8 v_X11_365 rfl rfl (gr_3_0 hp (gr_10_3 hp at_10).2).2 (Nat.le_of_ble_eq_true rfl) (C_X1_earliestBehind (d := d + 0) hp (gr_3_0 hp (gr_10_3 hp at_10).2).2 hr2) (Nat.le_refl _) ?_
  obtain rfl := Option.some.inj h
  exact M_iret (pc := 11) dX11_oldest_11 rfl rfl rfl rfl
def L_X11_twins_22 (I : HI) (x2 : Int32) (x1 : Int32) (x3 : Int32) : Option (Int32 × Int32) :=
  if (I 4 0) ≤ x3 then some (x1, x3) else (F_X1_distance I 4 x2 x3) >>= fun r3 => if r3 = 0 then L_X11_twins_22 I x2 (x1 + (1 : Int32)) (x3 + (1 : Int32)) else L_X11_twins_22 I x2 x1 (x3 + (1 : Int32))
partial_fixpoint
def L_X11_twins_4 (I : HI) (x1 : Int32) (x2 : Int32) : Option (Int32) :=
  if (I 4 0) ≤ x2 then some x1 else (L_X11_twins_22 I x2 x1 (x2 + (1 : Int32))) >>= fun r6 => L_X11_twins_4 I r6.1 (x2 + (1 : Int32))
partial_fixpoint
def F_X11_twins (I : HI) : Option (Int32) :=
  L_X11_twins_4 I (0 : Int32) (0 : Int32)
set_option maxRecDepth 4000 in
set_option maxHeartbeats 4000000 in
theorem LC_X11_twins_22 {g : gX} {d : Nat} {R : rX} {P : Nat → Nat → Option Nat} {J : HJ} {I : HI} {x2 : Int32} (hp : Wp P) : ∀ (x1 : Int32) (x3 : Int32) (r : Int32 × Int32), L_X11_twins_22 I x2 x1 x3 = some r → M g mX11_twins (d + 1) (NT, NT, 0) R 60 [some (.ref 1), some (.int r.1), some (.int x2), some (.int r.2)] [] (NT, I, J, P) → M g mX11_twins (d + 1) (NT, NT, 0) R 22 [some (.ref 1), some (.int x1), some (.int x2), some (.int x3)] [] (NT, I, J, P) := by
  refine L_X11_twins_22.partial_correctness I x2 (fun x1 x3 r => M g mX11_twins (d + 1) (NT, NT, 0) R 60 [some (.ref 1), some (.int r.1), some (.int x2), some (.int r.2)] [] (NT, I, J, P) → M g mX11_twins (d + 1) (NT, NT, 0) R 22 [some (.ref 1), some (.int x1), some (.int x2), some (.int x3)] [] (NT, I, J, P)) ?_
  intro f ih x1 x3 r h hk
  refine M_iload_n (pc := 22) dX11_twins_22 rfl ?_
  refine M_aload_n (pc := 23) dX11_twins_23 rfl ?_
  refine M_getR (pc := 24) dX11_twins_24 f_X11_23 at_10 (gr_10_3 hp at_10).1 ?_
  refine M_getR (pc := 27) dX11_twins_27 f_X11_148 (gr_10_3 hp at_10).2 (gr_3_0 hp (gr_10_3 hp at_10).2).1 ?_
  refine M_getI (pc := 30) dX11_twins_30 f_X11_211 (gr_3_0 hp (gr_10_3 hp at_10).2).2 ?_
  refine M_icmp_ge (pc := 33) (tgt := 60) dX11_twins_33 (by decide) (fun hc2 => ?_) (fun hc2 => ?_)
  · have h := (if_pos hc2).symm.trans h
    obtain rfl := Option.some.inj h
    exact hk
  · have h := (if_neg hc2).symm.trans h
    refine M_aload_n (pc := 36) dX11_twins_36 rfl ?_
    refine M_getR (pc := 37) dX11_twins_37 f_X11_23 at_10 (gr_10_3 hp at_10).1 ?_
    refine M_getR (pc := 40) dX11_twins_40 f_X11_148 (gr_10_3 hp at_10).2 (gr_3_0 hp (gr_10_3 hp at_10).2).1 ?_
    refine M_iload_n (pc := 43) dX11_twins_43 rfl ?_
    refine M_iload_n (pc := 44) dX11_twins_44 rfl ?_
    obtain ⟨r3, hr4, h⟩ := bnd h
    refine M_callVi (pc := 45) dX11_twins_45 v_X11_208 rfl rfl (gr_3_0 hp (gr_10_3 hp at_10).2).2 (Nat.le_of_ble_eq_true rfl) (C_X1_distance (d := d + 0) hp (gr_3_0 hp (gr_10_3 hp at_10).2).2 hr4) (Nat.le_refl _) ?_
    refine M_if_ne (pc := 48) (tgt := 54) dX11_twins_48 (by decide) (fun hc5 => ?_) (fun hc5 => ?_)
    · have h := (if_neg hc5).symm.trans h
      refine M_iinc (pc := 54) (v := (x3 + (1 : Int32))) (ls' := [some (.ref 1), some (.int x1), some (.int x2), some (.int (x3 + (1 : Int32)))]) dX11_twins_54 rfl rfl (by decide) rfl ?_
      refine M_goto (pc := 57) (tgt := 22) dX11_twins_57 (by decide) ?_
      exact ih x1 (x3 + (1 : Int32)) _ h hk
    · have h := (if_pos hc5).symm.trans h
      refine M_iinc (pc := 51) (v := (x1 + (1 : Int32))) (ls' := [some (.ref 1), some (.int (x1 + (1 : Int32))), some (.int x2), some (.int x3)]) dX11_twins_51 rfl rfl (by decide) rfl ?_
      refine M_iinc (pc := 54) (v := (x3 + (1 : Int32))) (ls' := [some (.ref 1), some (.int (x1 + (1 : Int32))), some (.int x2), some (.int (x3 + (1 : Int32)))]) dX11_twins_54 rfl rfl (by decide) rfl ?_
      refine M_goto (pc := 57) (tgt := 22) dX11_twins_57 (by decide) ?_
      exact ih (x1 + (1 : Int32)) (x3 + (1 : Int32)) _ h hk
set_option maxRecDepth 4000 in
set_option maxHeartbeats 4000000 in
theorem LC_X11_twins_4 {g : gX} {d : Nat} {P : Nat → Nat → Option Nat} {J : HJ} {I : HI} (hp : Wp P) : ∀ (x1 : Int32) (x2 : Int32) (r : Int32), L_X11_twins_4 I x1 x2 = some r → M g mX11_twins (d + 1) (NT, NT, 0) ((.inl (some (.int r))), (NT, I, J, P)) 4 [some (.ref 1), some (.int x1), some (.int x2), none] [] (NT, I, J, P) := by
  refine L_X11_twins_4.partial_correctness I (fun x1 x2 r => M g mX11_twins (d + 1) (NT, NT, 0) ((.inl (some (.int r))), (NT, I, J, P)) 4 [some (.ref 1), some (.int x1), some (.int x2), none] [] (NT, I, J, P)) ?_
  intro f ih x1 x2 r h
  refine M_iload_n (pc := 4) dX11_twins_4 rfl ?_
  refine M_aload_n (pc := 5) dX11_twins_5 rfl ?_
  refine M_getR (pc := 6) dX11_twins_6 f_X11_23 at_10 (gr_10_3 hp at_10).1 ?_
  refine M_getR (pc := 9) dX11_twins_9 f_X11_148 (gr_10_3 hp at_10).2 (gr_3_0 hp (gr_10_3 hp at_10).2).1 ?_
  refine M_getI (pc := 12) dX11_twins_12 f_X11_211 (gr_3_0 hp (gr_10_3 hp at_10).2).2 ?_
  refine M_icmp_ge (pc := 15) (tgt := 66) dX11_twins_15 (by decide) (fun hc1 => ?_) (fun hc1 => ?_)
  · have h := (if_pos hc1).symm.trans h
    refine M_iload_n (pc := 66) dX11_twins_66 rfl ?_
    obtain rfl := Option.some.inj h
    exact M_iret (pc := 67) dX11_twins_67 rfl rfl rfl rfl
  · have h := (if_neg hc1).symm.trans h
    refine M_iload_n (pc := 18) dX11_twins_18 rfl ?_
    refine M_iconst (pc := 19) (v := 1) dX11_twins_19 (by decide) ?_
    refine M_iadd (pc := 20) dX11_twins_20 ?_
    refine M_istore_n (pc := 21) (ls' := [some (.ref 1), some (.int x1), some (.int x2), some (.int (x2 + (1 : Int32)))]) dX11_twins_21 (by decide) rfl ?_
    obtain ⟨r6, hr7, h⟩ := bnd h
    refine LC_X11_twins_22 (P := P) hp x1 (x2 + (1 : Int32)) _ hr7 ?_
    refine M_iinc (pc := 60) (v := (x2 + (1 : Int32))) (ls' := [some (.ref 1), some (.int r6.1), some (.int (x2 + (1 : Int32))), some (.int r6.2)]) dX11_twins_60 rfl rfl (by decide) rfl ?_
    refine M_goto (pc := 63) (tgt := 4) dX11_twins_63 (by decide) ?_
    refine M_mask (pc := 4) [true, true, true, false] rfl ?_
    exact ih r6.1 (x2 + (1 : Int32)) _ h
set_option maxRecDepth 4000 in
set_option maxHeartbeats 4000000 in
theorem C_X11_twins {g : gX} {d : Nat} {P : Nat → Nat → Option Nat} {I : HI} {J : HJ} (hp : Wp P) {r : Int32} (h : F_X11_twins I = some r) : Cm g mX11_twins (d + 1) [.ref 1] (NT, I, J, P) (some (.int r)) (NT, I, J, P) := by
  unfold F_X11_twins at h
  refine Cm.of (by decide) (by simp [Value.category]) (Nat.le_of_ble_eq_true rfl) (Nat.le_refl _) (ls := [some (.ref 1), none, none, none]) rfl ?_
  refine M_iconst (pc := 0) (v := 0) dX11_twins_0 (by decide) ?_
  refine M_istore_n (pc := 1) (ls' := [some (.ref 1), some (.int (0 : Int32)), none, none]) dX11_twins_1 (by decide) rfl ?_
  refine M_iconst (pc := 2) (v := 0) dX11_twins_2 (by decide) ?_
  refine M_istore_n (pc := 3) (ls' := [some (.ref 1), some (.int (0 : Int32)), some (.int (0 : Int32)), none]) dX11_twins_3 (by decide) rfl ?_
  exact LC_X11_twins_4 (P := P) hp (0 : Int32) (0 : Int32) _ h
def F_X11_next (I : HI) : Option (Int32) :=
  (F_X1_earliestBehind I 4 (I 3 3)) >>= fun r1 => some r1
set_option maxRecDepth 4000 in
set_option maxHeartbeats 4000000 in
theorem C_X11_next {g : gX} {d : Nat} {P : Nat → Nat → Option Nat} {I : HI} {J : HJ} (hp : Wp P) {r : Int32} (h : F_X11_next I = some r) : Cm g mX11_next (d + 1) [.ref 1] (NT, I, J, P) (some (.int r)) (NT, I, J, P) := by
  unfold F_X11_next at h
  refine Cm.of (by decide) (by simp [Value.category]) (Nat.le_of_ble_eq_true rfl) (Nat.le_refl _) (ls := [some (.ref 1)]) rfl ?_
  refine M_aload_n (pc := 0) dX11_next_0 rfl ?_
  refine M_getR (pc := 1) dX11_next_1 f_X11_23 at_10 (gr_10_3 hp at_10).1 ?_
  refine M_getR (pc := 4) dX11_next_4 f_X11_148 (gr_10_3 hp at_10).2 (gr_3_0 hp (gr_10_3 hp at_10).2).1 ?_
  refine M_aload_n (pc := 7) dX11_next_7 rfl ?_
  refine M_getR (pc := 8) dX11_next_8 f_X11_23 at_10 (gr_10_3 hp at_10).1 ?_
  refine M_getI (pc := 11) dX11_next_11 f_X11_242 (gr_10_3 hp at_10).2 ?_
  obtain ⟨r1, hr2, h⟩ := bnd h
  refine M_callVi (pc := 14) dX11_next_14 v_X11_365 rfl rfl (gr_3_0 hp (gr_10_3 hp at_10).2).2 (Nat.le_of_ble_eq_true rfl) (C_X1_earliestBehind (d := d + 0) hp (gr_3_0 hp (gr_10_3 hp at_10).2).2 hr2) (Nat.le_refl _) ?_
  obtain rfl := Option.some.inj h
  exact M_iret (pc := 17) dX11_next_17 rfl rfl rfl rfl
def F_X11_warlike (I : HI) : Option (Int32) :=
  (F_X1_firstIn I 4 (I 3 8) (I 3 9)) >>= fun r1 => some r1
set_option maxRecDepth 4000 in
set_option maxHeartbeats 4000000 in
theorem C_X11_warlike {g : gX} {d : Nat} {P : Nat → Nat → Option Nat} {I : HI} {J : HJ} (hp : Wp P) {r : Int32} (h : F_X11_warlike I = some r) : Cm g mX11_warlike (d + 1) [.ref 1] (NT, I, J, P) (some (.int r)) (NT, I, J, P) := by
  unfold F_X11_warlike at h
  refine Cm.of (by decide) (by simp [Value.category]) (Nat.le_of_ble_eq_true rfl) (Nat.le_refl _) (ls := [some (.ref 1)]) rfl ?_
  refine M_aload_n (pc := 0) dX11_warlike_0 rfl ?_
  refine M_getR (pc := 1) dX11_warlike_1 f_X11_23 at_10 (gr_10_3 hp at_10).1 ?_
  refine M_getR (pc := 4) dX11_warlike_4 f_X11_148 (gr_10_3 hp at_10).2 (gr_3_0 hp (gr_10_3 hp at_10).2).1 ?_
  refine M_aload_n (pc := 7) dX11_warlike_7 rfl ?_
  refine M_getR (pc := 8) dX11_warlike_8 f_X11_23 at_10 (gr_10_3 hp at_10).1 ?_
  refine M_getI (pc := 11) dX11_warlike_11 f_X11_373 (gr_10_3 hp at_10).2 ?_
  refine M_aload_n (pc := 14) dX11_warlike_14 rfl ?_
  refine M_getR (pc := 15) dX11_warlike_15 f_X11_23 at_10 (gr_10_3 hp at_10).1 ?_
  refine M_getI (pc := 18) dX11_warlike_18 f_X11_376 (gr_10_3 hp at_10).2 ?_
  obtain ⟨r1, hr2, h⟩ := bnd h
  refine M_callVi (pc := 21) dX11_warlike_21 v_X11_347 rfl rfl (gr_3_0 hp (gr_10_3 hp at_10).2).2 (Nat.le_of_ble_eq_true rfl) (C_X1_firstIn (d := d + 0) hp (gr_3_0 hp (gr_10_3 hp at_10).2).2 hr2) (Nat.le_refl _) ?_
  obtain rfl := Option.some.inj h
  exact M_iret (pc := 24) dX11_warlike_24 rfl rfl rfl rfl
def F_X11_seed (I : HI) (x1 : Int32) : Option (Int32 × HI) :=
  some ((I 3 14), (up2 I 3 14 x1))
set_option maxRecDepth 4000 in
set_option maxHeartbeats 4000000 in
theorem C_X11_seed {g : gX} {d : Nat} {P : Nat → Nat → Option Nat} {I : HI} {x1 : Int32} {J : HJ} (hp : Wp P) {r : Int32 × HI} (h : F_X11_seed I x1 = some r) : Cm g mX11_seed (d + 0) [.ref 1, .int x1] (NT, I, J, P) (some (.int r.1)) (NT, r.2, J, P) := by
  unfold F_X11_seed at h
  refine Cm.of (by decide) (by simp [Value.category]) (Nat.le_of_ble_eq_true rfl) (Nat.le_refl _) (ls := [some (.ref 1), some (.int x1), none]) rfl ?_
  refine M_aload_n (pc := 0) dX11_seed_0 rfl ?_
  refine M_getR (pc := 1) dX11_seed_1 f_X11_23 at_10 (gr_10_3 hp at_10).1 ?_
  refine M_getI (pc := 4) dX11_seed_4 f_X11_389 (gr_10_3 hp at_10).2 ?_
  refine M_istore_n (pc := 7) (ls' := [some (.ref 1), some (.int x1), some (.int (I 3 14))]) dX11_seed_7 (by decide) rfl ?_
  refine M_aload_n (pc := 8) dX11_seed_8 rfl ?_
  refine M_getR (pc := 9) dX11_seed_9 f_X11_23 at_10 (gr_10_3 hp at_10).1 ?_
  refine M_iload_n (pc := 12) dX11_seed_12 rfl ?_
  refine M_putI (pc := 13) dX11_seed_13 f_X11_389 (gr_10_3 hp at_10).2 rfl ⟨rfl, rfl⟩ ?_
  refine M_iload_n (pc := 16) dX11_seed_16 rfl ?_
  obtain rfl := Option.some.inj h
  exact M_iret (pc := 17) dX11_seed_17 rfl rfl rfl rfl
def F_X11_image (I : HI) : Option (HI) :=
  (F_X3_copy I 116 3) >>= fun r1 => (F_X4_copy r1 122 9) >>= fun r3 => (F_X7_copy r3 128 15) >>= fun r5 => some (up2 r5 1 10 (1 : Int32))
set_option maxRecDepth 4000 in
set_option maxHeartbeats 4000000 in
theorem C_X11_image {g : gX} {d : Nat} {P : Nat → Nat → Option Nat} {I : HI} {J : HJ} (hp : Wp P) {r : HI} (h : F_X11_image I = some r) : Cm g mX11_image (d + 3) [.ref 1] (NT, I, J, P) none (NT, r, J, P) := by
  unfold F_X11_image at h
  refine Cm.of (by decide) (by simp [Value.category]) (Nat.le_of_ble_eq_true rfl) (Nat.le_refl _) (ls := [some (.ref 1)]) rfl ?_
  refine M_aload_n (pc := 0) dX11_image_0 rfl ?_
  refine M_getR (pc := 1) dX11_image_1 f_X11_48 at_10 (gr_10_7 hp at_10).1 ?_
  refine M_aload_n (pc := 4) dX11_image_4 rfl ?_
  refine M_getR (pc := 5) dX11_image_5 f_X11_23 at_10 (gr_10_3 hp at_10).1 ?_
  obtain ⟨r1, hr2, h⟩ := bnd h
  refine M_callVv (pc := 8) dX11_image_8 v_X11_106 rfl rfl (gr_10_7 hp at_10).2 (Nat.le_of_ble_eq_true rfl) (C_X3_copy (d := d + 0) hp (gr_10_7 hp at_10).2 (gr_10_3 hp at_10).2 hr2) (Nat.le_refl _) ?_
  refine M_aload_n (pc := 11) dX11_image_11 rfl ?_
  refine M_getR (pc := 12) dX11_image_12 f_X11_51 at_10 (gr_10_8 hp at_10).1 ?_
  refine M_aload_n (pc := 15) dX11_image_15 rfl ?_
  refine M_getR (pc := 16) dX11_image_16 f_X11_30 at_10 (gr_10_4 hp at_10).1 ?_
  obtain ⟨r3, hr4, h⟩ := bnd h
  refine M_callVv (pc := 19) dX11_image_19 v_X11_142 rfl rfl (gr_10_8 hp at_10).2 (Nat.le_of_ble_eq_true rfl) (C_X4_copy (d := d + 1) hp (gr_10_8 hp at_10).2 (gr_10_4 hp at_10).2 hr4) (Nat.le_refl _) ?_
  refine M_aload_n (pc := 22) dX11_image_22 rfl ?_
  refine M_getR (pc := 23) dX11_image_23 f_X11_54 at_10 (gr_10_9 hp at_10).1 ?_
  refine M_aload_n (pc := 26) dX11_image_26 rfl ?_
  refine M_getR (pc := 27) dX11_image_27 f_X11_37 at_10 (gr_10_5 hp at_10).1 ?_
  obtain ⟨r5, hr6, h⟩ := bnd h
  refine M_callVv (pc := 30) dX11_image_30 v_X11_417 rfl rfl (gr_10_9 hp at_10).2 (Nat.le_of_ble_eq_true rfl) (C_X7_copy (d := d + 1) hp (gr_10_9 hp at_10).2 (gr_10_5 hp at_10).2 hr6) (Nat.le_refl _) ?_
  refine M_aload_n (pc := 33) dX11_image_33 rfl ?_
  refine M_iconst (pc := 34) (v := 1) dX11_image_34 (by decide) ?_
  refine M_putI (pc := 35) dX11_image_35 f_X11_57 at_10 rfl ⟨rfl, rfl⟩ ?_
  obtain rfl := Option.some.inj h
  exact M_vret (pc := 38) dX11_image_38 rfl rfl rfl
def F_X11_back (I : HI) : Option (Int32 × HI) :=
  if (I 1 10) = 0 then some ((0 : Int32), I) else (F_X3_copy I 3 116) >>= fun r2 => (F_X4_copy r2 9 122) >>= fun r4 => (F_X7_copy r4 15 128) >>= fun r6 => (F_X0_clear r6) >>= fun r8 => some ((1 : Int32), r8)
set_option maxRecDepth 4000 in
set_option maxHeartbeats 4000000 in
theorem C_X11_back {g : gX} {d : Nat} {P : Nat → Nat → Option Nat} {I : HI} {J : HJ} (hp : Wp P) {r : Int32 × HI} (h : F_X11_back I = some r) : Cm g mX11_back (d + 3) [.ref 1] (NT, I, J, P) (some (.int r.1)) (NT, r.2, J, P) := by
  unfold F_X11_back at h
  refine Cm.of (by decide) (by simp [Value.category]) (Nat.le_of_ble_eq_true rfl) (Nat.le_refl _) (ls := [some (.ref 1)]) rfl ?_
  refine M_aload_n (pc := 0) dX11_back_0 rfl ?_
  refine M_getI (pc := 1) dX11_back_1 f_X11_57 at_10 ?_
  refine M_if_ne (pc := 4) (tgt := 9) dX11_back_4 (by decide) (fun hc1 => ?_) (fun hc1 => ?_)
  · have h := (if_neg hc1).symm.trans h
    refine M_aload_n (pc := 9) dX11_back_9 rfl ?_
    refine M_getR (pc := 10) dX11_back_10 f_X11_23 at_10 (gr_10_3 hp at_10).1 ?_
    refine M_aload_n (pc := 13) dX11_back_13 rfl ?_
    refine M_getR (pc := 14) dX11_back_14 f_X11_48 at_10 (gr_10_7 hp at_10).1 ?_
    obtain ⟨r2, hr3, h⟩ := bnd h
    refine M_callVv (pc := 17) dX11_back_17 v_X11_106 rfl rfl (gr_10_3 hp at_10).2 (Nat.le_of_ble_eq_true rfl) (C_X3_copy (d := d + 0) hp (gr_10_3 hp at_10).2 (gr_10_7 hp at_10).2 hr3) (Nat.le_refl _) ?_
    refine M_aload_n (pc := 20) dX11_back_20 rfl ?_
    refine M_getR (pc := 21) dX11_back_21 f_X11_30 at_10 (gr_10_4 hp at_10).1 ?_
    refine M_aload_n (pc := 24) dX11_back_24 rfl ?_
    refine M_getR (pc := 25) dX11_back_25 f_X11_51 at_10 (gr_10_8 hp at_10).1 ?_
    obtain ⟨r4, hr5, h⟩ := bnd h
    refine M_callVv (pc := 28) dX11_back_28 v_X11_142 rfl rfl (gr_10_4 hp at_10).2 (Nat.le_of_ble_eq_true rfl) (C_X4_copy (d := d + 1) hp (gr_10_4 hp at_10).2 (gr_10_8 hp at_10).2 hr5) (Nat.le_refl _) ?_
    refine M_aload_n (pc := 31) dX11_back_31 rfl ?_
    refine M_getR (pc := 32) dX11_back_32 f_X11_37 at_10 (gr_10_5 hp at_10).1 ?_
    refine M_aload_n (pc := 35) dX11_back_35 rfl ?_
    refine M_getR (pc := 36) dX11_back_36 f_X11_54 at_10 (gr_10_9 hp at_10).1 ?_
    obtain ⟨r6, hr7, h⟩ := bnd h
    refine M_callVv (pc := 39) dX11_back_39 v_X11_417 rfl rfl (gr_10_5 hp at_10).2 (Nat.le_of_ble_eq_true rfl) (C_X7_copy (d := d + 1) hp (gr_10_5 hp at_10).2 (gr_10_9 hp at_10).2 hr7) (Nat.le_refl _) ?_
    refine M_aload_n (pc := 42) dX11_back_42 rfl ?_
    refine M_getR (pc := 43) dX11_back_43 f_X11_44 at_10 (gr_10_6 hp at_10).1 ?_
    obtain ⟨r8, hr9, h⟩ := bnd h
    refine M_callVv (pc := 46) dX11_back_46 v_X11_133 rfl rfl (gr_10_6 hp at_10).2 (Nat.le_of_ble_eq_true rfl) (C_X0_clear (d := d + 2) hp hr9) (Nat.le_refl _) ?_
    refine M_iconst (pc := 49) (v := 1) dX11_back_49 (by decide) ?_
    obtain rfl := Option.some.inj h
    exact M_iret (pc := 50) dX11_back_50 rfl rfl rfl rfl
  · have h := (if_pos hc1).symm.trans h
    refine M_iconst (pc := 7) (v := 0) dX11_back_7 (by decide) ?_
    obtain rfl := Option.some.inj h
    exact M_iret (pc := 8) dX11_back_8 rfl rfl rfl rfl
def F_X11_count (I : HI) (x1 : Int32) : Option (Int32) :=
  if x1 = (0 : Int32) then some (I 4 0) else if x1 = (1 : Int32) then some (I 3 1) else if x1 = (2 : Int32) then some (I 9 0) else if x1 = (3 : Int32) then some (I 3 2) else if x1 = (4 : Int32) then some (I 3 3) else if x1 = (5 : Int32) then some (I 3 4) else if x1 = (6 : Int32) then some (I 3 5) else if x1 = (7 : Int32) then some (I 3 6) else if x1 = (8 : Int32) then some (I 3 7) else if x1 = (9 : Int32) then some (I 3 8) else if x1 = (10 : Int32) then some (I 3 9) else if x1 = (11 : Int32) then some (I 3 10) else if x1 = (12 : Int32) then some (I 3 11) else if x1 = (13 : Int32) then some (I 3 12) else if x1 = (14 : Int32) then some (I 3 13) else if x1 = (15 : Int32) then some (I 15 0) else if x1 = (16 : Int32) then some (I 17 0) else some (-1 : Int32)
set_option maxRecDepth 4000 in
set_option maxHeartbeats 4000000 in
theorem C_X11_count {g : gX} {d : Nat} {P : Nat → Nat → Option Nat} {I : HI} {x1 : Int32} {J : HJ} (hp : Wp P) {r : Int32} (h : F_X11_count I x1 = some r) : Cm g mX11_count (d + 0) [.ref 1, .int x1] (NT, I, J, P) (some (.int r)) (NT, I, J, P) := by
  unfold F_X11_count at h
  refine Cm.of (by decide) (by simp [Value.category]) (Nat.le_of_ble_eq_true rfl) (Nat.le_refl _) (ls := [some (.ref 1), some (.int x1)]) rfl ?_
  refine M_iload_n (pc := 0) dX11_count_0 rfl ?_
  by_cases hc1 : x1 = (0 : Int32)
  · have h := (if_pos hc1).symm.trans h
    refine M_tableIn (pc := 1) (x := x1) (tgt := 84) dX11_count_1 (by rw [hc1]; decide) (by rw [hc1]; decide) (by rw [hc1]; rfl) (by decide) ?_
    refine M_aload_n (pc := 84) dX11_count_84 rfl ?_
    refine M_getR (pc := 85) dX11_count_85 f_X11_23 at_10 (gr_10_3 hp at_10).1 ?_
    refine M_getR (pc := 88) dX11_count_88 f_X11_148 (gr_10_3 hp at_10).2 (gr_3_0 hp (gr_10_3 hp at_10).2).1 ?_
    refine M_getI (pc := 91) dX11_count_91 f_X11_211 (gr_3_0 hp (gr_10_3 hp at_10).2).2 ?_
    obtain rfl := Option.some.inj h
    exact M_iret (pc := 94) dX11_count_94 rfl rfl rfl rfl
  have h := (if_neg hc1).symm.trans h
  by_cases hc2 : x1 = (1 : Int32)
  · have h := (if_pos hc2).symm.trans h
    refine M_tableIn (pc := 1) (x := x1) (tgt := 95) dX11_count_1 (by rw [hc2]; decide) (by rw [hc2]; decide) (by rw [hc2]; rfl) (by decide) ?_
    refine M_aload_n (pc := 95) dX11_count_95 rfl ?_
    refine M_getR (pc := 96) dX11_count_96 f_X11_23 at_10 (gr_10_3 hp at_10).1 ?_
    refine M_getI (pc := 99) dX11_count_99 f_X11_125 (gr_10_3 hp at_10).2 ?_
    obtain rfl := Option.some.inj h
    exact M_iret (pc := 102) dX11_count_102 rfl rfl rfl rfl
  have h := (if_neg hc2).symm.trans h
  by_cases hc3 : x1 = (2 : Int32)
  · have h := (if_pos hc3).symm.trans h
    refine M_tableIn (pc := 1) (x := x1) (tgt := 103) dX11_count_1 (by rw [hc3]; decide) (by rw [hc3]; decide) (by rw [hc3]; rfl) (by decide) ?_
    refine M_aload_n (pc := 103) dX11_count_103 rfl ?_
    refine M_getR (pc := 104) dX11_count_104 f_X11_30 at_10 (gr_10_4 hp at_10).1 ?_
    refine M_getI (pc := 107) dX11_count_107 f_X11_145 (gr_10_4 hp at_10).2 ?_
    obtain rfl := Option.some.inj h
    exact M_iret (pc := 110) dX11_count_110 rfl rfl rfl rfl
  have h := (if_neg hc3).symm.trans h
  by_cases hc4 : x1 = (3 : Int32)
  · have h := (if_pos hc4).symm.trans h
    refine M_tableIn (pc := 1) (x := x1) (tgt := 111) dX11_count_1 (by rw [hc4]; decide) (by rw [hc4]; decide) (by rw [hc4]; rfl) (by decide) ?_
    refine M_aload_n (pc := 111) dX11_count_111 rfl ?_
    refine M_getR (pc := 112) dX11_count_112 f_X11_23 at_10 (gr_10_3 hp at_10).1 ?_
    refine M_getI (pc := 115) dX11_count_115 f_X11_252 (gr_10_3 hp at_10).2 ?_
    obtain rfl := Option.some.inj h
    exact M_iret (pc := 118) dX11_count_118 rfl rfl rfl rfl
  have h := (if_neg hc4).symm.trans h
  by_cases hc5 : x1 = (4 : Int32)
  · have h := (if_pos hc5).symm.trans h
    refine M_tableIn (pc := 1) (x := x1) (tgt := 119) dX11_count_1 (by rw [hc5]; decide) (by rw [hc5]; decide) (by rw [hc5]; rfl) (by decide) ?_
    refine M_aload_n (pc := 119) dX11_count_119 rfl ?_
    refine M_getR (pc := 120) dX11_count_120 f_X11_23 at_10 (gr_10_3 hp at_10).1 ?_
    refine M_getI (pc := 123) dX11_count_123 f_X11_242 (gr_10_3 hp at_10).2 ?_
    obtain rfl := Option.some.inj h
    exact M_iret (pc := 126) dX11_count_126 rfl rfl rfl rfl
  have h := (if_neg hc5).symm.trans h
  by_cases hc6 : x1 = (5 : Int32)
  · have h := (if_pos hc6).symm.trans h
    refine M_tableIn (pc := 1) (x := x1) (tgt := 127) dX11_count_1 (by rw [hc6]; decide) (by rw [hc6]; decide) (by rw [hc6]; rfl) (by decide) ?_
    refine M_aload_n (pc := 127) dX11_count_127 rfl ?_
    refine M_getR (pc := 128) dX11_count_128 f_X11_23 at_10 (gr_10_3 hp at_10).1 ?_
    refine M_getI (pc := 131) dX11_count_131 f_X11_220 (gr_10_3 hp at_10).2 ?_
    obtain rfl := Option.some.inj h
    exact M_iret (pc := 134) dX11_count_134 rfl rfl rfl rfl
  have h := (if_neg hc6).symm.trans h
  by_cases hc7 : x1 = (6 : Int32)
  · have h := (if_pos hc7).symm.trans h
    refine M_tableIn (pc := 1) (x := x1) (tgt := 135) dX11_count_1 (by rw [hc7]; decide) (by rw [hc7]; decide) (by rw [hc7]; rfl) (by decide) ?_
    refine M_aload_n (pc := 135) dX11_count_135 rfl ?_
    refine M_getR (pc := 136) dX11_count_136 f_X11_23 at_10 (gr_10_3 hp at_10).1 ?_
    refine M_getI (pc := 139) dX11_count_139 f_X11_420 (gr_10_3 hp at_10).2 ?_
    obtain rfl := Option.some.inj h
    exact M_iret (pc := 142) dX11_count_142 rfl rfl rfl rfl
  have h := (if_neg hc7).symm.trans h
  by_cases hc8 : x1 = (7 : Int32)
  · have h := (if_pos hc8).symm.trans h
    refine M_tableIn (pc := 1) (x := x1) (tgt := 143) dX11_count_1 (by rw [hc8]; decide) (by rw [hc8]; decide) (by rw [hc8]; rfl) (by decide) ?_
    refine M_aload_n (pc := 143) dX11_count_143 rfl ?_
    refine M_getR (pc := 144) dX11_count_144 f_X11_23 at_10 (gr_10_3 hp at_10).1 ?_
    refine M_getI (pc := 147) dX11_count_147 f_X11_236 (gr_10_3 hp at_10).2 ?_
    obtain rfl := Option.some.inj h
    exact M_iret (pc := 150) dX11_count_150 rfl rfl rfl rfl
  have h := (if_neg hc8).symm.trans h
  by_cases hc9 : x1 = (8 : Int32)
  · have h := (if_pos hc9).symm.trans h
    refine M_tableIn (pc := 1) (x := x1) (tgt := 151) dX11_count_1 (by rw [hc9]; decide) (by rw [hc9]; decide) (by rw [hc9]; rfl) (by decide) ?_
    refine M_aload_n (pc := 151) dX11_count_151 rfl ?_
    refine M_getR (pc := 152) dX11_count_152 f_X11_23 at_10 (gr_10_3 hp at_10).1 ?_
    refine M_getI (pc := 155) dX11_count_155 f_X11_180 (gr_10_3 hp at_10).2 ?_
    obtain rfl := Option.some.inj h
    exact M_iret (pc := 158) dX11_count_158 rfl rfl rfl rfl
  have h := (if_neg hc9).symm.trans h
  by_cases hc10 : x1 = (9 : Int32)
  · have h := (if_pos hc10).symm.trans h
    refine M_tableIn (pc := 1) (x := x1) (tgt := 159) dX11_count_1 (by rw [hc10]; decide) (by rw [hc10]; decide) (by rw [hc10]; rfl) (by decide) ?_
    refine M_aload_n (pc := 159) dX11_count_159 rfl ?_
    refine M_getR (pc := 160) dX11_count_160 f_X11_23 at_10 (gr_10_3 hp at_10).1 ?_
    refine M_getI (pc := 163) dX11_count_163 f_X11_373 (gr_10_3 hp at_10).2 ?_
    obtain rfl := Option.some.inj h
    exact M_iret (pc := 166) dX11_count_166 rfl rfl rfl rfl
  have h := (if_neg hc10).symm.trans h
  by_cases hc11 : x1 = (10 : Int32)
  · have h := (if_pos hc11).symm.trans h
    refine M_tableIn (pc := 1) (x := x1) (tgt := 167) dX11_count_1 (by rw [hc11]; decide) (by rw [hc11]; decide) (by rw [hc11]; rfl) (by decide) ?_
    refine M_aload_n (pc := 167) dX11_count_167 rfl ?_
    refine M_getR (pc := 168) dX11_count_168 f_X11_23 at_10 (gr_10_3 hp at_10).1 ?_
    refine M_getI (pc := 171) dX11_count_171 f_X11_376 (gr_10_3 hp at_10).2 ?_
    obtain rfl := Option.some.inj h
    exact M_iret (pc := 174) dX11_count_174 rfl rfl rfl rfl
  have h := (if_neg hc11).symm.trans h
  by_cases hc12 : x1 = (11 : Int32)
  · have h := (if_pos hc12).symm.trans h
    refine M_tableIn (pc := 1) (x := x1) (tgt := 175) dX11_count_1 (by rw [hc12]; decide) (by rw [hc12]; decide) (by rw [hc12]; rfl) (by decide) ?_
    refine M_aload_n (pc := 175) dX11_count_175 rfl ?_
    refine M_getR (pc := 176) dX11_count_176 f_X11_23 at_10 (gr_10_3 hp at_10).1 ?_
    refine M_getI (pc := 179) dX11_count_179 f_X11_280 (gr_10_3 hp at_10).2 ?_
    obtain rfl := Option.some.inj h
    exact M_iret (pc := 182) dX11_count_182 rfl rfl rfl rfl
  have h := (if_neg hc12).symm.trans h
  by_cases hc13 : x1 = (12 : Int32)
  · have h := (if_pos hc13).symm.trans h
    refine M_tableIn (pc := 1) (x := x1) (tgt := 183) dX11_count_1 (by rw [hc13]; decide) (by rw [hc13]; decide) (by rw [hc13]; rfl) (by decide) ?_
    refine M_aload_n (pc := 183) dX11_count_183 rfl ?_
    refine M_getR (pc := 184) dX11_count_184 f_X11_23 at_10 (gr_10_3 hp at_10).1 ?_
    refine M_getI (pc := 187) dX11_count_187 f_X11_274 (gr_10_3 hp at_10).2 ?_
    obtain rfl := Option.some.inj h
    exact M_iret (pc := 190) dX11_count_190 rfl rfl rfl rfl
  have h := (if_neg hc13).symm.trans h
  by_cases hc14 : x1 = (13 : Int32)
  · have h := (if_pos hc14).symm.trans h
    refine M_tableIn (pc := 1) (x := x1) (tgt := 191) dX11_count_1 (by rw [hc14]; decide) (by rw [hc14]; decide) (by rw [hc14]; rfl) (by decide) ?_
    refine M_aload_n (pc := 191) dX11_count_191 rfl ?_
    refine M_getR (pc := 192) dX11_count_192 f_X11_23 at_10 (gr_10_3 hp at_10).1 ?_
    refine M_getI (pc := 195) dX11_count_195 f_X11_423 (gr_10_3 hp at_10).2 ?_
    obtain rfl := Option.some.inj h
    exact M_iret (pc := 198) dX11_count_198 rfl rfl rfl rfl
  have h := (if_neg hc14).symm.trans h
  by_cases hc15 : x1 = (14 : Int32)
  · have h := (if_pos hc15).symm.trans h
    refine M_tableIn (pc := 1) (x := x1) (tgt := 199) dX11_count_1 (by rw [hc15]; decide) (by rw [hc15]; decide) (by rw [hc15]; rfl) (by decide) ?_
    refine M_aload_n (pc := 199) dX11_count_199 rfl ?_
    refine M_getR (pc := 200) dX11_count_200 f_X11_23 at_10 (gr_10_3 hp at_10).1 ?_
    refine M_getI (pc := 203) dX11_count_203 f_X11_396 (gr_10_3 hp at_10).2 ?_
    obtain rfl := Option.some.inj h
    exact M_iret (pc := 206) dX11_count_206 rfl rfl rfl rfl
  have h := (if_neg hc15).symm.trans h
  by_cases hc16 : x1 = (15 : Int32)
  · have h := (if_pos hc16).symm.trans h
    refine M_tableIn (pc := 1) (x := x1) (tgt := 207) dX11_count_1 (by rw [hc16]; decide) (by rw [hc16]; decide) (by rw [hc16]; rfl) (by decide) ?_
    refine M_aload_n (pc := 207) dX11_count_207 rfl ?_
    refine M_getR (pc := 208) dX11_count_208 f_X11_37 at_10 (gr_10_5 hp at_10).1 ?_
    refine M_getI (pc := 211) dX11_count_211 f_X11_426 (gr_10_5 hp at_10).2 ?_
    obtain rfl := Option.some.inj h
    exact M_iret (pc := 214) dX11_count_214 rfl rfl rfl rfl
  have h := (if_neg hc16).symm.trans h
  by_cases hc17 : x1 = (16 : Int32)
  · have h := (if_pos hc17).symm.trans h
    refine M_tableIn (pc := 1) (x := x1) (tgt := 215) dX11_count_1 (by rw [hc17]; decide) (by rw [hc17]; decide) (by rw [hc17]; rfl) (by decide) ?_
    refine M_aload_n (pc := 215) dX11_count_215 rfl ?_
    refine M_getR (pc := 216) dX11_count_216 f_X11_44 at_10 (gr_10_6 hp at_10).1 ?_
    refine M_getI (pc := 219) dX11_count_219 f_X11_429 (gr_10_6 hp at_10).2 ?_
    obtain rfl := Option.some.inj h
    exact M_iret (pc := 222) dX11_count_222 rfl rfl rfl rfl
  have h := (if_neg hc17).symm.trans h
  refine M_tableOut (pc := 1) (x := x1) (tgt := 223) dX11_count_1 (sw_out 17 (by decide) (fun j hj => match j, hj with
    | 0, _ => sw_ne hc1 (by decide)
    | 1, _ => sw_ne hc2 (by decide)
    | 2, _ => sw_ne hc3 (by decide)
    | 3, _ => sw_ne hc4 (by decide)
    | 4, _ => sw_ne hc5 (by decide)
    | 5, _ => sw_ne hc6 (by decide)
    | 6, _ => sw_ne hc7 (by decide)
    | 7, _ => sw_ne hc8 (by decide)
    | 8, _ => sw_ne hc9 (by decide)
    | 9, _ => sw_ne hc10 (by decide)
    | 10, _ => sw_ne hc11 (by decide)
    | 11, _ => sw_ne hc12 (by decide)
    | 12, _ => sw_ne hc13 (by decide)
    | 13, _ => sw_ne hc14 (by decide)
    | 14, _ => sw_ne hc15 (by decide)
    | 15, _ => sw_ne hc16 (by decide)
    | 16, _ => sw_ne hc17 (by decide)
    | j + 17, hj => absurd hj (by omega))) (by decide) ?_
  refine M_iconst (pc := 223) (v := -1) dX11_count_223 (by decide) ?_
  obtain rfl := Option.some.inj h
  exact M_iret (pc := 224) dX11_count_224 rfl rfl rfl rfl
def F_X11_feed (I : HI) (x1 : Int32) (x2 : Int32) (x3 : Int32) (x4 : Int32) (x5 : Int32) : Option (Int32 × HI) :=
  if (I 1 1) ≤ (380 : Int32) then (F_X11_putBytes I x1) >>= fun r2 => (F_X11_putBytes r2 x2) >>= fun r4 => (F_X11_putBytes r4 x3) >>= fun r6 => (F_X11_putBytes r6 x4) >>= fun r8 => (F_X11_putBytes r8 x5) >>= fun r10 => some ((r10 1 1), r10) else some ((-1 : Int32), I)
set_option maxRecDepth 4000 in
set_option maxHeartbeats 4000000 in
theorem C_X11_feed {g : gX} {d : Nat} {P : Nat → Nat → Option Nat} {I : HI} {x1 : Int32} {x2 : Int32} {x3 : Int32} {x4 : Int32} {x5 : Int32} {J : HJ} (hp : Wp P) {r : Int32 × HI} (h : F_X11_feed I x1 x2 x3 x4 x5 = some r) : Cm g mX11_feed (d + 1) [.ref 1, .int x1, .int x2, .int x3, .int x4, .int x5] (NT, I, J, P) (some (.int r.1)) (NT, r.2, J, P) := by
  unfold F_X11_feed at h
  refine Cm.of (by decide) (by simp [Value.category]) (Nat.le_of_ble_eq_true rfl) (Nat.le_refl _) (ls := [some (.ref 1), some (.int x1), some (.int x2), some (.int x3), some (.int x4), some (.int x5)]) rfl ?_
  refine M_aload_n (pc := 0) dX11_feed_0 rfl ?_
  refine M_getI (pc := 1) dX11_feed_1 f_X11_13 at_10 ?_
  refine M_sipush (pc := 4) (v := 380) dX11_feed_4 (by decide) ?_
  refine M_icmp_le (pc := 7) (tgt := 12) dX11_feed_7 (by decide) (fun hc1 => ?_) (fun hc1 => ?_)
  · have h := (if_pos hc1).symm.trans h
    refine M_aload_n (pc := 12) dX11_feed_12 rfl ?_
    refine M_iload_n (pc := 13) dX11_feed_13 rfl ?_
    obtain ⟨r2, hr3, h⟩ := bnd h
    refine M_callVv (pc := 14) dX11_feed_14 v_X11_99 rfl rfl at_10 (Nat.le_of_ble_eq_true rfl) (C_X11_putBytes (d := d + 0) hp hr3) (Nat.le_refl _) ?_
    refine M_aload_n (pc := 17) dX11_feed_17 rfl ?_
    refine M_iload_n (pc := 18) dX11_feed_18 rfl ?_
    obtain ⟨r4, hr5, h⟩ := bnd h
    refine M_callVv (pc := 19) dX11_feed_19 v_X11_99 rfl rfl at_10 (Nat.le_of_ble_eq_true rfl) (C_X11_putBytes (d := d + 0) hp hr5) (Nat.le_refl _) ?_
    refine M_aload_n (pc := 22) dX11_feed_22 rfl ?_
    refine M_iload_n (pc := 23) dX11_feed_23 rfl ?_
    obtain ⟨r6, hr7, h⟩ := bnd h
    refine M_callVv (pc := 24) dX11_feed_24 v_X11_99 rfl rfl at_10 (Nat.le_of_ble_eq_true rfl) (C_X11_putBytes (d := d + 0) hp hr7) (Nat.le_refl _) ?_
    refine M_aload_n (pc := 27) dX11_feed_27 rfl ?_
    refine M_iload (pc := 28) dX11_feed_28 rfl ?_
    obtain ⟨r8, hr9, h⟩ := bnd h
    refine M_callVv (pc := 30) dX11_feed_30 v_X11_99 rfl rfl at_10 (Nat.le_of_ble_eq_true rfl) (C_X11_putBytes (d := d + 0) hp hr9) (Nat.le_refl _) ?_
    refine M_aload_n (pc := 33) dX11_feed_33 rfl ?_
    refine M_iload (pc := 34) dX11_feed_34 rfl ?_
    obtain ⟨r10, hr11, h⟩ := bnd h
    refine M_callVv (pc := 36) dX11_feed_36 v_X11_99 rfl rfl at_10 (Nat.le_of_ble_eq_true rfl) (C_X11_putBytes (d := d + 0) hp hr11) (Nat.le_refl _) ?_
    refine M_aload_n (pc := 39) dX11_feed_39 rfl ?_
    refine M_getI (pc := 40) dX11_feed_40 f_X11_13 at_10 ?_
    obtain rfl := Option.some.inj h
    exact M_iret (pc := 43) dX11_feed_43 rfl rfl rfl rfl
  · have h := (if_neg hc1).symm.trans h
    refine M_iconst (pc := 10) (v := -1) dX11_feed_10 (by decide) ?_
    obtain rfl := Option.some.inj h
    exact M_iret (pc := 11) dX11_feed_11 rfl rfl rfl rfl
def F_X11_left (I : HI) : Option (Int32) :=
  (F_X1_all I 4) >>= fun r1 => (F_X1_allHad I 4) >>= fun r3 => some (r1 &&& (r3 ^^^ (-1 : Int32)))
set_option maxRecDepth 4000 in
set_option maxHeartbeats 4000000 in
theorem C_X11_left {g : gX} {d : Nat} {P : Nat → Nat → Option Nat} {I : HI} {J : HJ} (hp : Wp P) {r : Int32} (h : F_X11_left I = some r) : Cm g mX11_left (d + 2) [.ref 1] (NT, I, J, P) (some (.int r)) (NT, I, J, P) := by
  unfold F_X11_left at h
  refine Cm.of (by decide) (by simp [Value.category]) (Nat.le_of_ble_eq_true rfl) (Nat.le_refl _) (ls := [some (.ref 1)]) rfl ?_
  refine M_aload_n (pc := 0) dX11_left_0 rfl ?_
  refine M_getR (pc := 1) dX11_left_1 f_X11_23 at_10 (gr_10_3 hp at_10).1 ?_
  refine M_getR (pc := 4) dX11_left_4 f_X11_148 (gr_10_3 hp at_10).2 (gr_3_0 hp (gr_10_3 hp at_10).2).1 ?_
  obtain ⟨r1, hr2, h⟩ := bnd h
  refine M_callVi (pc := 7) dX11_left_7 v_X11_214 rfl rfl (gr_3_0 hp (gr_10_3 hp at_10).2).2 (Nat.le_of_ble_eq_true rfl) (C_X1_all (d := d + 1) hp (gr_3_0 hp (gr_10_3 hp at_10).2).2 hr2) (Nat.le_refl _) ?_
  refine M_aload_n (pc := 10) dX11_left_10 rfl ?_
  refine M_getR (pc := 11) dX11_left_11 f_X11_23 at_10 (gr_10_3 hp at_10).1 ?_
  refine M_getR (pc := 14) dX11_left_14 f_X11_148 (gr_10_3 hp at_10).2 (gr_3_0 hp (gr_10_3 hp at_10).2).1 ?_
  obtain ⟨r3, hr4, h⟩ := bnd h
  refine M_callVi (pc := 17) dX11_left_17 v_X11_217 rfl rfl (gr_3_0 hp (gr_10_3 hp at_10).2).2 (Nat.le_of_ble_eq_true rfl) (C_X1_allHad (d := d + 0) hp (gr_3_0 hp (gr_10_3 hp at_10).2).2 hr4) (Nat.le_refl _) ?_
  refine M_iconst (pc := 20) (v := -1) dX11_left_20 (by decide) ?_
  refine M_ixor (pc := 21) dX11_left_21 ?_
  refine M_iand (pc := 22) dX11_left_22 ?_
  obtain rfl := Option.some.inj h
  exact M_iret (pc := 23) dX11_left_23 rfl rfl rfl rfl
def F_X11_crust (I : HI) : Option (Int32 × HI) :=
  (F_X0_remember I 3 15) >>= fun r1 => (F_X3_comeBack r1 3) >>= fun r3 => some ((r3 3 2), r3)
set_option maxRecDepth 4000 in
set_option maxHeartbeats 4000000 in
theorem C_X11_crust {g : gX} {d : Nat} {P : Nat → Nat → Option Nat} {I : HI} {J : HJ} (hp : Wp P) {r : Int32 × HI} (h : F_X11_crust I = some r) : Cm g mX11_crust (d + 4) [.ref 1] (NT, I, J, P) (some (.int r.1)) (NT, r.2, J, P) := by
  unfold F_X11_crust at h
  refine Cm.of (by decide) (by simp [Value.category]) (Nat.le_of_ble_eq_true rfl) (Nat.le_refl _) (ls := [some (.ref 1)]) rfl ?_
  refine M_aload_n (pc := 0) dX11_crust_0 rfl ?_
  refine M_getR (pc := 1) dX11_crust_1 f_X11_44 at_10 (gr_10_6 hp at_10).1 ?_
  refine M_aload_n (pc := 4) dX11_crust_4 rfl ?_
  refine M_getR (pc := 5) dX11_crust_5 f_X11_23 at_10 (gr_10_3 hp at_10).1 ?_
  refine M_aload_n (pc := 8) dX11_crust_8 rfl ?_
  refine M_getR (pc := 9) dX11_crust_9 f_X11_37 at_10 (gr_10_5 hp at_10).1 ?_
  obtain ⟨r1, hr2, h⟩ := bnd h
  refine M_callVv (pc := 12) dX11_crust_12 v_X11_228 rfl rfl (gr_10_6 hp at_10).2 (Nat.le_of_ble_eq_true rfl) (C_X0_remember (d := d + 0) hp (gr_10_3 hp at_10).2 (gr_10_5 hp at_10).2 hr2) (Nat.le_refl _) ?_
  refine M_aload_n (pc := 15) dX11_crust_15 rfl ?_
  refine M_getR (pc := 16) dX11_crust_16 f_X11_23 at_10 (gr_10_3 hp at_10).1 ?_
  obtain ⟨r3, hr4, h⟩ := bnd h
  refine M_callVv (pc := 19) dX11_crust_19 v_X11_249 rfl rfl (gr_10_3 hp at_10).2 (Nat.le_of_ble_eq_true rfl) (C_X3_comeBack (d := d + 2) hp (gr_10_3 hp at_10).2 hr4) (Nat.le_refl _) ?_
  refine M_aload_n (pc := 22) dX11_crust_22 rfl ?_
  refine M_getR (pc := 23) dX11_crust_23 f_X11_23 at_10 (gr_10_3 hp at_10).1 ?_
  refine M_getI (pc := 26) dX11_crust_26 f_X11_252 (gr_10_3 hp at_10).2 ?_
  obtain rfl := Option.some.inj h
  exact M_iret (pc := 29) dX11_crust_29 rfl rfl rfl rfl
def F_X11_look (I : HI) : Option (Int32 × HI) :=
  (F_X0_remember I 3 15) >>= fun r1 => (F_X3_draw r1 3) >>= fun r3 => if (r3.2 3 10) ≤ (r3.1 - r3.1 / (100 : Int32) * (100 : Int32)) then some ((((r3.2 3 3) / (10 : Int32)) + (0 : Int32)), r3.2) else some ((((r3.2 3 3) / (10 : Int32)) + (1 : Int32)), r3.2)
set_option maxRecDepth 4000 in
set_option maxHeartbeats 4000000 in
theorem C_X11_look {g : gX} {d : Nat} {P : Nat → Nat → Option Nat} {I : HI} {J : HJ} (hp : Wp P) {r : Int32 × HI} (h : F_X11_look I = some r) : Cm g mX11_look (d + 4) [.ref 1] (NT, I, J, P) (some (.int r.1)) (NT, r.2, J, P) := by
  unfold F_X11_look at h
  refine Cm.of (by decide) (by simp [Value.category]) (Nat.le_of_ble_eq_true rfl) (Nat.le_refl _) (ls := [some (.ref 1), none]) rfl ?_
  refine M_aload_n (pc := 0) dX11_look_0 rfl ?_
  refine M_getR (pc := 1) dX11_look_1 f_X11_44 at_10 (gr_10_6 hp at_10).1 ?_
  refine M_aload_n (pc := 4) dX11_look_4 rfl ?_
  refine M_getR (pc := 5) dX11_look_5 f_X11_23 at_10 (gr_10_3 hp at_10).1 ?_
  refine M_aload_n (pc := 8) dX11_look_8 rfl ?_
  refine M_getR (pc := 9) dX11_look_9 f_X11_37 at_10 (gr_10_5 hp at_10).1 ?_
  obtain ⟨r1, hr2, h⟩ := bnd h
  refine M_callVv (pc := 12) dX11_look_12 v_X11_228 rfl rfl (gr_10_6 hp at_10).2 (Nat.le_of_ble_eq_true rfl) (C_X0_remember (d := d + 0) hp (gr_10_3 hp at_10).2 (gr_10_5 hp at_10).2 hr2) (Nat.le_refl _) ?_
  refine M_aload_n (pc := 15) dX11_look_15 rfl ?_
  refine M_getR (pc := 16) dX11_look_16 f_X11_23 at_10 (gr_10_3 hp at_10).1 ?_
  obtain ⟨r3, hr4, h⟩ := bnd h
  refine M_callVi (pc := 19) dX11_look_19 v_X11_277 rfl rfl (gr_10_3 hp at_10).2 (Nat.le_of_ble_eq_true rfl) (C_X3_draw (d := d + 3) hp (gr_10_3 hp at_10).2 hr4) (Nat.le_refl _) ?_
  refine M_bipush (pc := 22) (v := 100) dX11_look_22 (by decide) ?_
  refine M_irem (pc := 24) dX11_look_24 (by decide) ?_
  refine M_aload_n (pc := 25) dX11_look_25 rfl ?_
  refine M_getR (pc := 26) dX11_look_26 f_X11_23 at_10 (gr_10_3 hp at_10).1 ?_
  refine M_getI (pc := 29) dX11_look_29 f_X11_280 (gr_10_3 hp at_10).2 ?_
  refine M_icmp_ge (pc := 32) (tgt := 39) dX11_look_32 (by decide) (fun hc5 => ?_) (fun hc5 => ?_)
  · have h := (if_pos hc5).symm.trans h
    refine M_iconst (pc := 39) (v := 0) dX11_look_39 (by decide) ?_
    refine M_istore_n (pc := 40) (ls' := [some (.ref 1), some (.int (0 : Int32))]) dX11_look_40 (by decide) rfl ?_
    refine M_aload_n (pc := 41) dX11_look_41 rfl ?_
    refine M_getR (pc := 42) dX11_look_42 f_X11_23 at_10 (gr_10_3 hp at_10).1 ?_
    refine M_getI (pc := 45) dX11_look_45 f_X11_242 (gr_10_3 hp at_10).2 ?_
    refine M_bipush (pc := 48) (v := 10) dX11_look_48 (by decide) ?_
    refine M_idiv (pc := 50) dX11_look_50 (by decide) ?_
    refine M_iload_n (pc := 51) dX11_look_51 rfl ?_
    refine M_iadd (pc := 52) dX11_look_52 ?_
    obtain rfl := Option.some.inj h
    exact M_iret (pc := 53) dX11_look_53 rfl rfl rfl rfl
  · have h := (if_neg hc5).symm.trans h
    refine M_iconst (pc := 35) (v := 1) dX11_look_35 (by decide) ?_
    refine M_goto (pc := 36) (tgt := 40) dX11_look_36 (by decide) ?_
    refine M_istore_n (pc := 40) (ls' := [some (.ref 1), some (.int (1 : Int32))]) dX11_look_40 (by decide) rfl ?_
    refine M_aload_n (pc := 41) dX11_look_41 rfl ?_
    refine M_getR (pc := 42) dX11_look_42 f_X11_23 at_10 (gr_10_3 hp at_10).1 ?_
    refine M_getI (pc := 45) dX11_look_45 f_X11_242 (gr_10_3 hp at_10).2 ?_
    refine M_bipush (pc := 48) (v := 10) dX11_look_48 (by decide) ?_
    refine M_idiv (pc := 50) dX11_look_50 (by decide) ?_
    refine M_iload_n (pc := 51) dX11_look_51 rfl ?_
    refine M_iadd (pc := 52) dX11_look_52 ?_
    obtain rfl := Option.some.inj h
    exact M_iret (pc := 53) dX11_look_53 rfl rfl rfl rfl
def L_X11_fitting_13 (I : HI) (x1 : Int32) (x2 : Int32) (x3 : Int32) : Option (Int32) :=
  if x1 ≤ x3 then some x2 else if (400 : Int32) ≤ x3 then some x2 else (ald 400 (I 2) x3) >>= fun v5 => (F_X1_inDecade I 4 v5) >>= fun r7 => (ald 400 (I 2) x3) >>= fun v9 => (F_X1_inDecade I 4 (v9 - (1 : Int32))) >>= fun r11 => L_X11_fitting_13 I x1 (x2 &&& (r7 ||| r11)) (x3 + (1 : Int32))
partial_fixpoint
def F_X11_fitting (I : HI) (x1 : Int32) : Option (Int32) :=
  (F_X1_allHad I 4) >>= fun r1 => L_X11_fitting_13 I x1 r1 (0 : Int32)
set_option maxRecDepth 4000 in
set_option maxHeartbeats 4000000 in
theorem LC_X11_fitting_13 {g : gX} {d : Nat} {P : Nat → Nat → Option Nat} {J : HJ} {I : HI} {x1 : Int32} (hp : Wp P) : ∀ (x2 : Int32) (x3 : Int32) (r : Int32), L_X11_fitting_13 I x1 x2 x3 = some r → M g mX11_fitting (d + 2) (NT, NT, 0) ((.inl (some (.int r))), (NT, I, J, P)) 13 [some (.ref 1), some (.int x1), some (.int x2), some (.int x3)] [] (NT, I, J, P) := by
  refine L_X11_fitting_13.partial_correctness I x1 (fun x2 x3 r => M g mX11_fitting (d + 2) (NT, NT, 0) ((.inl (some (.int r))), (NT, I, J, P)) 13 [some (.ref 1), some (.int x1), some (.int x2), some (.int x3)] [] (NT, I, J, P)) ?_
  intro f ih x2 x3 r h
  refine M_iload_n (pc := 13) dX11_fitting_13 rfl ?_
  refine M_iload_n (pc := 14) dX11_fitting_14 rfl ?_
  refine M_icmp_ge (pc := 15) (tgt := 69) dX11_fitting_15 (by decide) (fun hc3 => ?_) (fun hc3 => ?_)
  · have h := (if_pos hc3).symm.trans h
    refine M_iload_n (pc := 69) dX11_fitting_69 rfl ?_
    obtain rfl := Option.some.inj h
    exact M_iret (pc := 70) dX11_fitting_70 rfl rfl rfl rfl
  · have h := (if_neg hc3).symm.trans h
    refine M_iload_n (pc := 18) dX11_fitting_18 rfl ?_
    refine M_sipush (pc := 19) (v := 400) dX11_fitting_19 (by decide) ?_
    refine M_icmp_ge (pc := 22) (tgt := 69) dX11_fitting_22 (by decide) (fun hc4 => ?_) (fun hc4 => ?_)
    · have h := (if_pos hc4).symm.trans h
      refine M_iload_n (pc := 69) dX11_fitting_69 rfl ?_
      obtain rfl := Option.some.inj h
      exact M_iret (pc := 70) dX11_fitting_70 rfl rfl rfl rfl
    · have h := (if_neg hc4).symm.trans h
      refine M_iload_n (pc := 25) dX11_fitting_25 rfl ?_
      refine M_aload_n (pc := 26) dX11_fitting_26 rfl ?_
      refine M_getR (pc := 27) dX11_fitting_27 f_X11_23 at_10 (gr_10_3 hp at_10).1 ?_
      refine M_getR (pc := 30) dX11_fitting_30 f_X11_148 (gr_10_3 hp at_10).2 (gr_3_0 hp (gr_10_3 hp at_10).2).1 ?_
      refine M_aload_n (pc := 33) dX11_fitting_33 rfl ?_
      refine M_getR (pc := 34) dX11_fitting_34 f_X11_9 at_10 (gr_10_0 hp at_10).1 ?_
      refine M_iload_n (pc := 37) dX11_fitting_37 rfl ?_
      obtain ⟨v5, hv6, h⟩ := bnd h
      refine M_aldI (pc := 38) dX11_fitting_38 (gr_10_0 hp at_10).2 hv6 ?_
      obtain ⟨r7, hr8, h⟩ := bnd h
      refine M_callVi (pc := 39) dX11_fitting_39 v_X11_341 rfl rfl (gr_3_0 hp (gr_10_3 hp at_10).2).2 (Nat.le_of_ble_eq_true rfl) (C_X1_inDecade (d := d + 0) hp (gr_3_0 hp (gr_10_3 hp at_10).2).2 hr8) (Nat.le_refl _) ?_
      refine M_aload_n (pc := 42) dX11_fitting_42 rfl ?_
      refine M_getR (pc := 43) dX11_fitting_43 f_X11_23 at_10 (gr_10_3 hp at_10).1 ?_
      refine M_getR (pc := 46) dX11_fitting_46 f_X11_148 (gr_10_3 hp at_10).2 (gr_3_0 hp (gr_10_3 hp at_10).2).1 ?_
      refine M_aload_n (pc := 49) dX11_fitting_49 rfl ?_
      refine M_getR (pc := 50) dX11_fitting_50 f_X11_9 at_10 (gr_10_0 hp at_10).1 ?_
      refine M_iload_n (pc := 53) dX11_fitting_53 rfl ?_
      obtain ⟨v9, hv10, h⟩ := bnd h
      refine M_aldI (pc := 54) dX11_fitting_54 (gr_10_0 hp at_10).2 hv10 ?_
      refine M_iconst (pc := 55) (v := 1) dX11_fitting_55 (by decide) ?_
      refine M_isub (pc := 56) dX11_fitting_56 ?_
      obtain ⟨r11, hr12, h⟩ := bnd h
      refine M_callVi (pc := 57) dX11_fitting_57 v_X11_341 rfl rfl (gr_3_0 hp (gr_10_3 hp at_10).2).2 (Nat.le_of_ble_eq_true rfl) (C_X1_inDecade (d := d + 0) hp (gr_3_0 hp (gr_10_3 hp at_10).2).2 hr12) (Nat.le_refl _) ?_
      refine M_ior (pc := 60) dX11_fitting_60 ?_
      refine M_iand (pc := 61) dX11_fitting_61 ?_
      refine M_istore_n (pc := 62) (ls' := [some (.ref 1), some (.int x1), some (.int (x2 &&& (r7 ||| r11))), some (.int x3)]) dX11_fitting_62 (by decide) rfl ?_
      refine M_iinc (pc := 63) (v := (x3 + (1 : Int32))) (ls' := [some (.ref 1), some (.int x1), some (.int (x2 &&& (r7 ||| r11))), some (.int (x3 + (1 : Int32)))]) dX11_fitting_63 rfl rfl (by decide) rfl ?_
      refine M_goto (pc := 66) (tgt := 13) dX11_fitting_66 (by decide) ?_
      exact ih (x2 &&& (r7 ||| r11)) (x3 + (1 : Int32)) _ h
set_option maxRecDepth 4000 in
set_option maxHeartbeats 4000000 in
theorem C_X11_fitting {g : gX} {d : Nat} {P : Nat → Nat → Option Nat} {I : HI} {x1 : Int32} {J : HJ} (hp : Wp P) {r : Int32} (h : F_X11_fitting I x1 = some r) : Cm g mX11_fitting (d + 2) [.ref 1, .int x1] (NT, I, J, P) (some (.int r)) (NT, I, J, P) := by
  unfold F_X11_fitting at h
  refine Cm.of (by decide) (by simp [Value.category]) (Nat.le_of_ble_eq_true rfl) (Nat.le_refl _) (ls := [some (.ref 1), some (.int x1), none, none]) rfl ?_
  refine M_aload_n (pc := 0) dX11_fitting_0 rfl ?_
  refine M_getR (pc := 1) dX11_fitting_1 f_X11_23 at_10 (gr_10_3 hp at_10).1 ?_
  refine M_getR (pc := 4) dX11_fitting_4 f_X11_148 (gr_10_3 hp at_10).2 (gr_3_0 hp (gr_10_3 hp at_10).2).1 ?_
  obtain ⟨r1, hr2, h⟩ := bnd h
  refine M_callVi (pc := 7) dX11_fitting_7 v_X11_217 rfl rfl (gr_3_0 hp (gr_10_3 hp at_10).2).2 (Nat.le_of_ble_eq_true rfl) (C_X1_allHad (d := d + 0) hp (gr_3_0 hp (gr_10_3 hp at_10).2).2 hr2) (Nat.le_refl _) ?_
  refine M_istore_n (pc := 10) (ls' := [some (.ref 1), some (.int x1), some (.int r1), none]) dX11_fitting_10 (by decide) rfl ?_
  refine M_iconst (pc := 11) (v := 0) dX11_fitting_11 (by decide) ?_
  refine M_istore_n (pc := 12) (ls' := [some (.ref 1), some (.int x1), some (.int r1), some (.int (0 : Int32))]) dX11_fitting_12 (by decide) rfl ?_
  exact LC_X11_fitting_13 (P := P) hp r1 (0 : Int32) _ h
def F_X11_greaterPart (I : HI) (x1 : Int32) (x2 : Int32) : Option (Int32) :=
  (ald 12 (I 6) x1) >>= fun v1 => (F_X1_firstIn I 4 (0 : Int32) v1) >>= fun r3 => (F_J6_bitCount_0f7a4 I (x2 &&& r3)) >>= fun r5 => (F_J6_bitCount_0f7a4 I x2) >>= fun r7 => some (if r5 < (r7 - r5) then (r7 - r5) else r5)
set_option maxRecDepth 4000 in
set_option maxHeartbeats 4000000 in
theorem C_X11_greaterPart {g : gX} {d : Nat} {P : Nat → Nat → Option Nat} {I : HI} {x1 : Int32} {x2 : Int32} {J : HJ} (hp : Wp P) {r : Int32} (h : F_X11_greaterPart I x1 x2 = some r) : Cm g mX11_greaterPart (d + 1) [.ref 1, .int x1, .int x2] (NT, I, J, P) (some (.int r)) (NT, I, J, P) := by
  unfold F_X11_greaterPart at h
  refine Cm.of (by decide) (by simp [Value.category]) (Nat.le_of_ble_eq_true rfl) (Nat.le_refl _) (ls := [some (.ref 1), some (.int x1), some (.int x2), none]) rfl ?_
  refine M_iload_n (pc := 0) dX11_greaterPart_0 rfl ?_
  refine M_aload_n (pc := 1) dX11_greaterPart_1 rfl ?_
  refine M_getR (pc := 2) dX11_greaterPart_2 f_X11_23 at_10 (gr_10_3 hp at_10).1 ?_
  refine M_getR (pc := 5) dX11_greaterPart_5 f_X11_148 (gr_10_3 hp at_10).2 (gr_3_0 hp (gr_10_3 hp at_10).2).1 ?_
  refine M_iconst (pc := 8) (v := 0) dX11_greaterPart_8 (by decide) ?_
  refine M_aload_n (pc := 9) dX11_greaterPart_9 rfl ?_
  refine M_getR (pc := 10) dX11_greaterPart_10 f_X11_23 at_10 (gr_10_3 hp at_10).1 ?_
  refine M_getR (pc := 13) dX11_greaterPart_13 f_X11_148 (gr_10_3 hp at_10).2 (gr_3_0 hp (gr_10_3 hp at_10).2).1 ?_
  refine M_getR (pc := 16) dX11_greaterPart_16 f_X11_171 (gr_3_0 hp (gr_10_3 hp at_10).2).2 (gr_1_2 hp (gr_3_0 hp (gr_10_3 hp at_10).2).2).1 ?_
  refine M_iload_n (pc := 19) dX11_greaterPart_19 rfl ?_
  obtain ⟨v1, hv2, h⟩ := bnd h
  refine M_aldI (pc := 20) dX11_greaterPart_20 (gr_1_2 hp (gr_3_0 hp (gr_10_3 hp at_10).2).2).2 hv2 ?_
  obtain ⟨r3, hr4, h⟩ := bnd h
  refine M_callVi (pc := 21) dX11_greaterPart_21 v_X11_347 rfl rfl (gr_3_0 hp (gr_10_3 hp at_10).2).2 (Nat.le_of_ble_eq_true rfl) (C_X1_firstIn (d := d + 0) hp (gr_3_0 hp (gr_10_3 hp at_10).2).2 hr4) (Nat.le_refl _) ?_
  refine M_iand (pc := 24) dX11_greaterPart_24 ?_
  obtain ⟨r5, hr6, h⟩ := bnd h
  refine M_callSi (pc := 25) dX11_greaterPart_25 s_X11_311 rfl rfl (Nat.le_of_ble_eq_true rfl) (C_J6_bitCount_0f7a4 (d := d + 0) hp hr6) (Nat.le_refl _) ?_
  refine M_istore_n (pc := 28) (ls' := [some (.ref 1), some (.int x1), some (.int x2), some (.int r5)]) dX11_greaterPart_28 (by decide) rfl ?_
  refine M_iload_n (pc := 29) dX11_greaterPart_29 rfl ?_
  refine M_iload_n (pc := 30) dX11_greaterPart_30 rfl ?_
  obtain ⟨r7, hr8, h⟩ := bnd h
  refine M_callSi (pc := 31) dX11_greaterPart_31 s_X11_311 rfl rfl (Nat.le_of_ble_eq_true rfl) (C_J6_bitCount_0f7a4 (d := d + 0) hp hr8) (Nat.le_refl _) ?_
  refine M_iload_n (pc := 34) dX11_greaterPart_34 rfl ?_
  refine M_isub (pc := 35) dX11_greaterPart_35 ?_
  refine M_mmax (pc := 36) dX11_greaterPart_36 mm_X11_350.1 mm_X11_350.2.1 mm_X11_350.2.2.1 mm_X11_350.2.2.2 (Nat.le_of_ble_eq_true rfl) ?_
  obtain rfl := Option.some.inj h
  exact M_iret (pc := 39) dX11_greaterPart_39 rfl rfl rfl rfl
def L_X11_lover_6 (I : HI) (x1 : Int32) (x2 : Int32) (x3 : Int32) : Option (Int32) :=
  if (7 : Int32) < x3 then some x1 else (F_X1_hadWith I 4 x3) >>= fun r2 => (F_J6_bitCount_0f7a4 I r2) >>= fun r4 => if r4 ≤ x2 then L_X11_lover_6 I x1 x2 (x3 + (1 : Int32)) else L_X11_lover_6 I x3 r4 (x3 + (1 : Int32))
partial_fixpoint
def F_X11_lover (I : HI) : Option (Int32) :=
  L_X11_lover_6 I (-1 : Int32) (0 : Int32) (0 : Int32)
set_option maxRecDepth 4000 in
set_option maxHeartbeats 4000000 in
theorem LC_X11_lover_6 {g : gX} {d : Nat} {P : Nat → Nat → Option Nat} {J : HJ} {I : HI} (hp : Wp P) : ∀ (x1 : Int32) (x2 : Int32) (x3 : Int32) (r : Int32), L_X11_lover_6 I x1 x2 x3 = some r → M g mX11_lover (d + 1) (NT, NT, 0) ((.inl (some (.int r))), (NT, I, J, P)) 6 [some (.ref 1), some (.int x1), some (.int x2), some (.int x3), none] [] (NT, I, J, P) := by
  refine L_X11_lover_6.partial_correctness I (fun x1 x2 x3 r => M g mX11_lover (d + 1) (NT, NT, 0) ((.inl (some (.int r))), (NT, I, J, P)) 6 [some (.ref 1), some (.int x1), some (.int x2), some (.int x3), none] [] (NT, I, J, P)) ?_
  intro f ih x1 x2 x3 r h
  refine M_iload_n (pc := 6) dX11_lover_6 rfl ?_
  refine M_bipush (pc := 7) (v := 7) dX11_lover_7 (by decide) ?_
  refine M_icmp_gt (pc := 9) (tgt := 45) dX11_lover_9 (by decide) (fun hc1 => ?_) (fun hc1 => ?_)
  · have h := (if_pos hc1).symm.trans h
    refine M_iload_n (pc := 45) dX11_lover_45 rfl ?_
    obtain rfl := Option.some.inj h
    exact M_iret (pc := 46) dX11_lover_46 rfl rfl rfl rfl
  · have h := (if_neg hc1).symm.trans h
    refine M_aload_n (pc := 12) dX11_lover_12 rfl ?_
    refine M_getR (pc := 13) dX11_lover_13 f_X11_23 at_10 (gr_10_3 hp at_10).1 ?_
    refine M_getR (pc := 16) dX11_lover_16 f_X11_148 (gr_10_3 hp at_10).2 (gr_3_0 hp (gr_10_3 hp at_10).2).1 ?_
    refine M_iload_n (pc := 19) dX11_lover_19 rfl ?_
    obtain ⟨r2, hr3, h⟩ := bnd h
    refine M_callVi (pc := 20) dX11_lover_20 v_X11_368 rfl rfl (gr_3_0 hp (gr_10_3 hp at_10).2).2 (Nat.le_of_ble_eq_true rfl) (C_X1_hadWith (d := d + 0) hp (gr_3_0 hp (gr_10_3 hp at_10).2).2 hr3) (Nat.le_refl _) ?_
    obtain ⟨r4, hr5, h⟩ := bnd h
    refine M_callSi (pc := 23) dX11_lover_23 s_X11_311 rfl rfl (Nat.le_of_ble_eq_true rfl) (C_J6_bitCount_0f7a4 (d := d + 0) hp hr5) (Nat.le_refl _) ?_
    refine M_istore (pc := 26) (ls' := [some (.ref 1), some (.int x1), some (.int x2), some (.int x3), some (.int r4)]) dX11_lover_26 (by decide) rfl ?_
    refine M_iload (pc := 28) dX11_lover_28 rfl ?_
    refine M_iload_n (pc := 30) dX11_lover_30 rfl ?_
    refine M_icmp_le (pc := 31) (tgt := 39) dX11_lover_31 (by decide) (fun hc6 => ?_) (fun hc6 => ?_)
    · have h := (if_pos hc6).symm.trans h
      refine M_iinc (pc := 39) (v := (x3 + (1 : Int32))) (ls' := [some (.ref 1), some (.int x1), some (.int x2), some (.int (x3 + (1 : Int32))), some (.int r4)]) dX11_lover_39 rfl rfl (by decide) rfl ?_
      refine M_goto (pc := 42) (tgt := 6) dX11_lover_42 (by decide) ?_
      refine M_mask (pc := 6) [true, true, true, true, false] rfl ?_
      exact ih x1 x2 (x3 + (1 : Int32)) _ h
    · have h := (if_neg hc6).symm.trans h
      refine M_iload (pc := 34) dX11_lover_34 rfl ?_
      refine M_istore_n (pc := 36) (ls' := [some (.ref 1), some (.int x1), some (.int r4), some (.int x3), some (.int r4)]) dX11_lover_36 (by decide) rfl ?_
      refine M_iload_n (pc := 37) dX11_lover_37 rfl ?_
      refine M_istore_n (pc := 38) (ls' := [some (.ref 1), some (.int x3), some (.int r4), some (.int x3), some (.int r4)]) dX11_lover_38 (by decide) rfl ?_
      refine M_iinc (pc := 39) (v := (x3 + (1 : Int32))) (ls' := [some (.ref 1), some (.int x3), some (.int r4), some (.int (x3 + (1 : Int32))), some (.int r4)]) dX11_lover_39 rfl rfl (by decide) rfl ?_
      refine M_goto (pc := 42) (tgt := 6) dX11_lover_42 (by decide) ?_
      refine M_mask (pc := 6) [true, true, true, true, false] rfl ?_
      exact ih x3 r4 (x3 + (1 : Int32)) _ h
set_option maxRecDepth 4000 in
set_option maxHeartbeats 4000000 in
theorem C_X11_lover {g : gX} {d : Nat} {P : Nat → Nat → Option Nat} {I : HI} {J : HJ} (hp : Wp P) {r : Int32} (h : F_X11_lover I = some r) : Cm g mX11_lover (d + 1) [.ref 1] (NT, I, J, P) (some (.int r)) (NT, I, J, P) := by
  unfold F_X11_lover at h
  refine Cm.of (by decide) (by simp [Value.category]) (Nat.le_of_ble_eq_true rfl) (Nat.le_refl _) (ls := [some (.ref 1), none, none, none, none]) rfl ?_
  refine M_iconst (pc := 0) (v := -1) dX11_lover_0 (by decide) ?_
  refine M_istore_n (pc := 1) (ls' := [some (.ref 1), some (.int (-1 : Int32)), none, none, none]) dX11_lover_1 (by decide) rfl ?_
  refine M_iconst (pc := 2) (v := 0) dX11_lover_2 (by decide) ?_
  refine M_istore_n (pc := 3) (ls' := [some (.ref 1), some (.int (-1 : Int32)), some (.int (0 : Int32)), none, none]) dX11_lover_3 (by decide) rfl ?_
  refine M_iconst (pc := 4) (v := 0) dX11_lover_4 (by decide) ?_
  refine M_istore_n (pc := 5) (ls' := [some (.ref 1), some (.int (-1 : Int32)), some (.int (0 : Int32)), some (.int (0 : Int32)), none]) dX11_lover_5 (by decide) rfl ?_
  exact LC_X11_lover_6 (P := P) hp (-1 : Int32) (0 : Int32) (0 : Int32) _ h
def F_X11_undo (I : HI) : Option (Int32 × HI) :=
  (F_X0_recall I 3 15) >>= fun r1 => if r1.1 = 0 ∨ r1.1 = 1 then some (r1.1, r1.2) else none
set_option maxRecDepth 4000 in
set_option maxHeartbeats 4000000 in
theorem C_X11_undo {g : gX} {d : Nat} {P : Nat → Nat → Option Nat} {I : HI} {J : HJ} (hp : Wp P) {r : Int32 × HI} (h : F_X11_undo I = some r) : Cm g mX11_undo (d + 4) [.ref 1] (NT, I, J, P) (some (.int r.1)) (NT, r.2, J, P) := by
  unfold F_X11_undo at h
  refine Cm.of (by decide) (by simp [Value.category]) (Nat.le_of_ble_eq_true rfl) (Nat.le_refl _) (ls := [some (.ref 1)]) rfl ?_
  refine M_aload_n (pc := 0) dX11_undo_0 rfl ?_
  refine M_getR (pc := 1) dX11_undo_1 f_X11_44 at_10 (gr_10_6 hp at_10).1 ?_
  refine M_aload_n (pc := 4) dX11_undo_4 rfl ?_
  refine M_getR (pc := 5) dX11_undo_5 f_X11_23 at_10 (gr_10_3 hp at_10).1 ?_
  refine M_aload_n (pc := 8) dX11_undo_8 rfl ?_
  refine M_getR (pc := 9) dX11_undo_9 f_X11_37 at_10 (gr_10_5 hp at_10).1 ?_
  obtain ⟨r1, hr2, h⟩ := bnd h
  refine M_callVi (pc := 12) dX11_undo_12 v_X11_413 rfl rfl (gr_10_6 hp at_10).2 (Nat.le_of_ble_eq_true rfl) (C_X0_recall (d := d + 0) hp (gr_10_3 hp at_10).2 (gr_10_5 hp at_10).2 hr2) (Nat.le_refl _) ?_
  obtain ⟨hb3, h⟩ := chk h
  obtain rfl := Option.some.inj h
  exact M_iret (pc := 15) dX11_undo_15 rfl (by rcases hb3 with q | q <;> rw [q] <;> rfl) rfl rfl
def F_X11_turnsNow (I : HI) (x1 : Int32) : Option (Int32 × HI) :=
  (F_X9_put I 3 x1) >>= fun r1 => (F_X4_weigh r1 9) >>= fun r3 => some ((r3 136 1), r3)
set_option maxRecDepth 4000 in
set_option maxHeartbeats 4000000 in
theorem C_X11_turnsNow {g : gX} {d : Nat} {P : Nat → Nat → Option Nat} {I : HI} {x1 : Int32} {J : HJ} (hp : Wp P) {r : Int32 × HI} (h : F_X11_turnsNow I x1 = some r) : Cm g mX11_turnsNow (d + 4) [.ref 1, .int x1] (NT, I, J, P) (some (.int r.1)) (NT, r.2, J, P) := by
  unfold F_X11_turnsNow at h
  refine Cm.of (by decide) (by simp [Value.category]) (Nat.le_of_ble_eq_true rfl) (Nat.le_refl _) (ls := [some (.ref 1), some (.int x1)]) rfl ?_
  refine M_aload_n (pc := 0) dX11_turnsNow_0 rfl ?_
  refine M_getR (pc := 1) dX11_turnsNow_1 f_X11_67 at_10 (gr_10_12 hp at_10).1 ?_
  refine M_aload_n (pc := 4) dX11_turnsNow_4 rfl ?_
  refine M_getR (pc := 5) dX11_turnsNow_5 f_X11_23 at_10 (gr_10_3 hp at_10).1 ?_
  refine M_iload_n (pc := 8) dX11_turnsNow_8 rfl ?_
  obtain ⟨r1, hr2, h⟩ := bnd h
  refine M_callVv (pc := 9) dX11_turnsNow_9 v_X11_194 rfl rfl (gr_10_12 hp at_10).2 (Nat.le_of_ble_eq_true rfl) (C_X9_put (d := d + 0) hp (gr_10_3 hp at_10).2 hr2) (Nat.le_refl _) ?_
  refine M_aload_n (pc := 12) dX11_turnsNow_12 rfl ?_
  refine M_getR (pc := 13) dX11_turnsNow_13 f_X11_30 at_10 (gr_10_4 hp at_10).1 ?_
  refine M_aload_n (pc := 16) dX11_turnsNow_16 rfl ?_
  refine M_getR (pc := 17) dX11_turnsNow_17 f_X11_67 at_10 (gr_10_12 hp at_10).1 ?_
  obtain ⟨r3, hr4, h⟩ := bnd h
  refine M_callVv (pc := 20) dX11_turnsNow_20 v_X11_198 rfl rfl (gr_10_4 hp at_10).2 (Nat.le_of_ble_eq_true rfl) (C_X4_weigh (d := d + 0) hp (gr_10_4 hp at_10).2 hr4) (Nat.le_refl _) ?_
  refine M_aload_n (pc := 23) dX11_turnsNow_23 rfl ?_
  refine M_getR (pc := 24) dX11_turnsNow_24 f_X11_67 at_10 (gr_10_12 hp at_10).1 ?_
  refine M_getI (pc := 27) dX11_turnsNow_27 f_X11_202 (gr_10_12 hp at_10).2 ?_
  obtain rfl := Option.some.inj h
  exact M_iret (pc := 30) dX11_turnsNow_30 rfl rfl rfl rfl
def F_X11_paysNow (I : HI) (x1 : Int32) : Option (Int32 × HI) :=
  (F_X9_put I 3 x1) >>= fun r1 => (F_X4_weigh r1 9) >>= fun r3 => some ((r3 136 2), r3)
set_option maxRecDepth 4000 in
set_option maxHeartbeats 4000000 in
theorem C_X11_paysNow {g : gX} {d : Nat} {P : Nat → Nat → Option Nat} {I : HI} {x1 : Int32} {J : HJ} (hp : Wp P) {r : Int32 × HI} (h : F_X11_paysNow I x1 = some r) : Cm g mX11_paysNow (d + 4) [.ref 1, .int x1] (NT, I, J, P) (some (.int r.1)) (NT, r.2, J, P) := by
  unfold F_X11_paysNow at h
  refine Cm.of (by decide) (by simp [Value.category]) (Nat.le_of_ble_eq_true rfl) (Nat.le_refl _) (ls := [some (.ref 1), some (.int x1)]) rfl ?_
  refine M_aload_n (pc := 0) dX11_paysNow_0 rfl ?_
  refine M_getR (pc := 1) dX11_paysNow_1 f_X11_67 at_10 (gr_10_12 hp at_10).1 ?_
  refine M_aload_n (pc := 4) dX11_paysNow_4 rfl ?_
  refine M_getR (pc := 5) dX11_paysNow_5 f_X11_23 at_10 (gr_10_3 hp at_10).1 ?_
  refine M_iload_n (pc := 8) dX11_paysNow_8 rfl ?_
  obtain ⟨r1, hr2, h⟩ := bnd h
  refine M_callVv (pc := 9) dX11_paysNow_9 v_X11_194 rfl rfl (gr_10_12 hp at_10).2 (Nat.le_of_ble_eq_true rfl) (C_X9_put (d := d + 0) hp (gr_10_3 hp at_10).2 hr2) (Nat.le_refl _) ?_
  refine M_aload_n (pc := 12) dX11_paysNow_12 rfl ?_
  refine M_getR (pc := 13) dX11_paysNow_13 f_X11_30 at_10 (gr_10_4 hp at_10).1 ?_
  refine M_aload_n (pc := 16) dX11_paysNow_16 rfl ?_
  refine M_getR (pc := 17) dX11_paysNow_17 f_X11_67 at_10 (gr_10_12 hp at_10).1 ?_
  obtain ⟨r3, hr4, h⟩ := bnd h
  refine M_callVv (pc := 20) dX11_paysNow_20 v_X11_198 rfl rfl (gr_10_4 hp at_10).2 (Nat.le_of_ble_eq_true rfl) (C_X4_weigh (d := d + 0) hp (gr_10_4 hp at_10).2 hr4) (Nat.le_refl _) ?_
  refine M_aload_n (pc := 23) dX11_paysNow_23 rfl ?_
  refine M_getR (pc := 24) dX11_paysNow_24 f_X11_67 at_10 (gr_10_12 hp at_10).1 ?_
  refine M_getI (pc := 27) dX11_paysNow_27 f_X11_205 (gr_10_12 hp at_10).2 ?_
  obtain rfl := Option.some.inj h
  exact M_iret (pc := 30) dX11_paysNow_30 rfl rfl rfl rfl
def L_X11_sad_6 (x1 : Int32) (x2 : Int32) (x3 : Int32) (I : HI) : Option (Int32 × HI) :=
  if (I 4 0) ≤ x3 then some (x1, I) else (F_X11_turnsNow I x3) >>= fun r2 => if x1 = (-1 : Int32) then L_X11_sad_6 x3 r2.1 (x3 + (1 : Int32)) r2.2 else if r2.1 ≤ x2 then L_X11_sad_6 x1 x2 (x3 + (1 : Int32)) r2.2 else L_X11_sad_6 x3 r2.1 (x3 + (1 : Int32)) r2.2
partial_fixpoint
def F_X11_sad (I : HI) : Option (Int32 × HI) :=
  L_X11_sad_6 (-1 : Int32) (0 : Int32) (0 : Int32) I
set_option maxRecDepth 4000 in
set_option maxHeartbeats 4000000 in
theorem LC_X11_sad_6 {g : gX} {d : Nat} {P : Nat → Nat → Option Nat} {J : HJ}  (hp : Wp P) : ∀ (x1 : Int32) (x2 : Int32) (x3 : Int32) (I : HI) (r : Int32 × HI), L_X11_sad_6  x1 x2 x3 I = some r → M g mX11_sad (d + 5) (NT, NT, 0) ((.inl (some (.int r.1))), (NT, r.2, J, P)) 6 [some (.ref 1), some (.int x1), some (.int x2), some (.int x3), none] [] (NT, I, J, P) := by
  refine L_X11_sad_6.partial_correctness  (fun x1 x2 x3 I r => M g mX11_sad (d + 5) (NT, NT, 0) ((.inl (some (.int r.1))), (NT, r.2, J, P)) 6 [some (.ref 1), some (.int x1), some (.int x2), some (.int x3), none] [] (NT, I, J, P)) ?_
  intro f ih x1 x2 x3 I r h
  refine M_iload_n (pc := 6) dX11_sad_6 rfl ?_
  refine M_aload_n (pc := 7) dX11_sad_7 rfl ?_
  refine M_getR (pc := 8) dX11_sad_8 f_X11_23 at_10 (gr_10_3 hp at_10).1 ?_
  refine M_getR (pc := 11) dX11_sad_11 f_X11_148 (gr_10_3 hp at_10).2 (gr_3_0 hp (gr_10_3 hp at_10).2).1 ?_
  refine M_getI (pc := 14) dX11_sad_14 f_X11_211 (gr_3_0 hp (gr_10_3 hp at_10).2).2 ?_
  refine M_icmp_ge (pc := 17) (tgt := 49) dX11_sad_17 (by decide) (fun hc1 => ?_) (fun hc1 => ?_)
  · have h := (if_pos hc1).symm.trans h
    refine M_iload_n (pc := 49) dX11_sad_49 rfl ?_
    obtain rfl := Option.some.inj h
    exact M_iret (pc := 50) dX11_sad_50 rfl rfl rfl rfl
  · have h := (if_neg hc1).symm.trans h
    refine M_aload_n (pc := 20) dX11_sad_20 rfl ?_
    refine M_iload_n (pc := 21) dX11_sad_21 rfl ?_
    obtain ⟨r2, hr3, h⟩ := bnd h
    refine M_callVi (pc := 22) dX11_sad_22 v_X11_187 rfl rfl at_10 (Nat.le_of_ble_eq_true rfl) (C_X11_turnsNow (d := d + 0) hp hr3) (Nat.le_refl _) ?_
    refine M_istore (pc := 25) (ls' := [some (.ref 1), some (.int x1), some (.int x2), some (.int x3), some (.int r2.1)]) dX11_sad_25 (by decide) rfl ?_
    refine M_iload_n (pc := 27) dX11_sad_27 rfl ?_
    refine M_iconst (pc := 28) (v := -1) dX11_sad_28 (by decide) ?_
    refine M_icmp_eq (pc := 29) (tgt := 38) dX11_sad_29 (by decide) (fun hc4 => ?_) (fun hc4 => ?_)
    · have h := (if_pos hc4).symm.trans h
      refine M_iload (pc := 38) dX11_sad_38 rfl ?_
      refine M_istore_n (pc := 40) (ls' := [some (.ref 1), some (.int x1), some (.int r2.1), some (.int x3), some (.int r2.1)]) dX11_sad_40 (by decide) rfl ?_
      refine M_iload_n (pc := 41) dX11_sad_41 rfl ?_
      refine M_istore_n (pc := 42) (ls' := [some (.ref 1), some (.int x3), some (.int r2.1), some (.int x3), some (.int r2.1)]) dX11_sad_42 (by decide) rfl ?_
      refine M_iinc (pc := 43) (v := (x3 + (1 : Int32))) (ls' := [some (.ref 1), some (.int x3), some (.int r2.1), some (.int (x3 + (1 : Int32))), some (.int r2.1)]) dX11_sad_43 rfl rfl (by decide) rfl ?_
      refine M_goto (pc := 46) (tgt := 6) dX11_sad_46 (by decide) ?_
      refine M_mask (pc := 6) [true, true, true, true, false] rfl ?_
      exact ih x3 r2.1 (x3 + (1 : Int32)) r2.2 _ h
    · have h := (if_neg hc4).symm.trans h
      refine M_iload (pc := 32) dX11_sad_32 rfl ?_
      refine M_iload_n (pc := 34) dX11_sad_34 rfl ?_
      refine M_icmp_le (pc := 35) (tgt := 43) dX11_sad_35 (by decide) (fun hc5 => ?_) (fun hc5 => ?_)
      · have h := (if_pos hc5).symm.trans h
        refine M_iinc (pc := 43) (v := (x3 + (1 : Int32))) (ls' := [some (.ref 1), some (.int x1), some (.int x2), some (.int (x3 + (1 : Int32))), some (.int r2.1)]) dX11_sad_43 rfl rfl (by decide) rfl ?_
        refine M_goto (pc := 46) (tgt := 6) dX11_sad_46 (by decide) ?_
        refine M_mask (pc := 6) [true, true, true, true, false] rfl ?_
        exact ih x1 x2 (x3 + (1 : Int32)) r2.2 _ h
      · have h := (if_neg hc5).symm.trans h
        refine M_iload (pc := 38) dX11_sad_38 rfl ?_
        refine M_istore_n (pc := 40) (ls' := [some (.ref 1), some (.int x1), some (.int r2.1), some (.int x3), some (.int r2.1)]) dX11_sad_40 (by decide) rfl ?_
        refine M_iload_n (pc := 41) dX11_sad_41 rfl ?_
        refine M_istore_n (pc := 42) (ls' := [some (.ref 1), some (.int x3), some (.int r2.1), some (.int x3), some (.int r2.1)]) dX11_sad_42 (by decide) rfl ?_
        refine M_iinc (pc := 43) (v := (x3 + (1 : Int32))) (ls' := [some (.ref 1), some (.int x3), some (.int r2.1), some (.int (x3 + (1 : Int32))), some (.int r2.1)]) dX11_sad_43 rfl rfl (by decide) rfl ?_
        refine M_goto (pc := 46) (tgt := 6) dX11_sad_46 (by decide) ?_
        refine M_mask (pc := 6) [true, true, true, true, false] rfl ?_
        exact ih x3 r2.1 (x3 + (1 : Int32)) r2.2 _ h
set_option maxRecDepth 4000 in
set_option maxHeartbeats 4000000 in
theorem C_X11_sad {g : gX} {d : Nat} {P : Nat → Nat → Option Nat} {I : HI} {J : HJ} (hp : Wp P) {r : Int32 × HI} (h : F_X11_sad I = some r) : Cm g mX11_sad (d + 5) [.ref 1] (NT, I, J, P) (some (.int r.1)) (NT, r.2, J, P) := by
  unfold F_X11_sad at h
  refine Cm.of (by decide) (by simp [Value.category]) (Nat.le_of_ble_eq_true rfl) (Nat.le_refl _) (ls := [some (.ref 1), none, none, none, none]) rfl ?_
  refine M_iconst (pc := 0) (v := -1) dX11_sad_0 (by decide) ?_
  refine M_istore_n (pc := 1) (ls' := [some (.ref 1), some (.int (-1 : Int32)), none, none, none]) dX11_sad_1 (by decide) rfl ?_
  refine M_iconst (pc := 2) (v := 0) dX11_sad_2 (by decide) ?_
  refine M_istore_n (pc := 3) (ls' := [some (.ref 1), some (.int (-1 : Int32)), some (.int (0 : Int32)), none, none]) dX11_sad_3 (by decide) rfl ?_
  refine M_iconst (pc := 4) (v := 0) dX11_sad_4 (by decide) ?_
  refine M_istore_n (pc := 5) (ls' := [some (.ref 1), some (.int (-1 : Int32)), some (.int (0 : Int32)), some (.int (0 : Int32)), none]) dX11_sad_5 (by decide) rfl ?_
  exact LC_X11_sad_6 (P := P) hp (-1 : Int32) (0 : Int32) (0 : Int32) I _ h
def L_X11_passEvening_11 (b1 : Nat) (x2 : Int32) (x4 : Int32) (x3 : Int32) (x5 : Int32) (I : HI) : Option (Int32 × HI) :=
  if x4 ≤ x5 then (F_X3_comeBack I b1) >>= fun r4 => some (x3, r4) else (F_X3_drawDish I b1) >>= fun r6 => (F_X3_takes r6.2 b1 r6.1) >>= fun r8 => if r8 = 0 then L_X11_passEvening_11 b1 x2 x4 x3 (x5 + (1 : Int32)) r6.2 else (F_X3_bite r6.2 b1 r6.1 9) >>= fun r11 => if x2 = 0 then L_X11_passEvening_11 b1 x2 x4 (x3 + (1 : Int32)) (x5 + (1 : Int32)) r11 else (F_X7_write r11 15 (r11 b1 6) r6.1 (r11 136 0) (r11 b1 3)) >>= fun r14 => L_X11_passEvening_11 b1 x2 x4 (x3 + (1 : Int32)) (x5 + (1 : Int32)) r14
partial_fixpoint
def F_X11_passEvening (I : HI) (b1 : Nat) (x2 : Int32) : Option (Int32 × HI) :=
  (F_X3_drawSpoons I b1) >>= fun r1 => L_X11_passEvening_11 b1 x2 r1.1 (0 : Int32) (0 : Int32) r1.2
set_option maxRecDepth 4000 in
set_option maxHeartbeats 4000000 in
theorem LC_X11_passEvening_11 {g : gX} {d : Nat} {P : Nat → Nat → Option Nat} {J : HJ} {b1 : Nat} {x2 : Int32} {x4 : Int32} (hp : Wp P) (hb1 : OB NT b1 3) : ∀ (x3 : Int32) (x5 : Int32) (I : HI) (r : Int32 × HI), L_X11_passEvening_11 b1 x2 x4 x3 x5 I = some r → M g mX11_passEvening (d + 5) (NT, NT, 0) ((.inl (some (.int r.1))), (NT, r.2, J, P)) 11 [some (.ref 1), some (.ref b1), some (.int x2), some (.int x3), some (.int x4), some (.int x5), none] [] (NT, I, J, P) := by
  refine L_X11_passEvening_11.partial_correctness b1 x2 x4 (fun x3 x5 I r => M g mX11_passEvening (d + 5) (NT, NT, 0) ((.inl (some (.int r.1))), (NT, r.2, J, P)) 11 [some (.ref 1), some (.ref b1), some (.int x2), some (.int x3), some (.int x4), some (.int x5), none] [] (NT, I, J, P)) ?_
  intro f ih x3 x5 I r h
  refine M_iload (pc := 11) dX11_passEvening_11 rfl ?_
  refine M_iload (pc := 13) dX11_passEvening_13 rfl ?_
  refine M_icmp_ge (pc := 15) (tgt := 84) dX11_passEvening_15 (by decide) (fun hc3 => ?_) (fun hc3 => ?_)
  · have h := (if_pos hc3).symm.trans h
    refine M_aload_n (pc := 84) dX11_passEvening_84 rfl ?_
    obtain ⟨r4, hr5, h⟩ := bnd h
    refine M_callVv (pc := 85) dX11_passEvening_85 v_X11_249 rfl rfl hb1 (Nat.le_of_ble_eq_true rfl) (C_X3_comeBack (d := d + 3) hp hb1 hr5) (Nat.le_refl _) ?_
    refine M_iload_n (pc := 88) dX11_passEvening_88 rfl ?_
    obtain rfl := Option.some.inj h
    exact M_iret (pc := 89) dX11_passEvening_89 rfl rfl rfl rfl
  · have h := (if_neg hc3).symm.trans h
    refine M_aload_n (pc := 18) dX11_passEvening_18 rfl ?_
    obtain ⟨r6, hr7, h⟩ := bnd h
    refine M_callVi (pc := 19) dX11_passEvening_19 v_X11_292 rfl rfl hb1 (Nat.le_of_ble_eq_true rfl) (C_X3_drawDish (d := d + 3) hp hb1 hr7) (Nat.le_refl _) ?_
    refine M_istore (pc := 22) (ls' := [some (.ref 1), some (.ref b1), some (.int x2), some (.int x3), some (.int x4), some (.int x5), some (.int r6.1)]) dX11_passEvening_22 (by decide) rfl ?_
    refine M_aload_n (pc := 24) dX11_passEvening_24 rfl ?_
    refine M_iload (pc := 25) dX11_passEvening_25 rfl ?_
    obtain ⟨r8, hr9, h⟩ := bnd h
    refine M_callVi (pc := 27) dX11_passEvening_27 v_X11_295 rfl rfl hb1 (Nat.le_of_ble_eq_true rfl) (C_X3_takes (d := d + 3) hp hb1 hr9) (Nat.le_refl _) ?_
    refine M_if_eq (pc := 30) (tgt := 78) dX11_passEvening_30 (by decide) (fun hc10 => ?_) (fun hc10 => ?_)
    · have h := (if_pos hc10).symm.trans h
      refine M_iinc (pc := 78) (v := (x5 + (1 : Int32))) (ls' := [some (.ref 1), some (.ref b1), some (.int x2), some (.int x3), some (.int x4), some (.int (x5 + (1 : Int32))), some (.int r6.1)]) dX11_passEvening_78 rfl rfl (by decide) rfl ?_
      refine M_goto (pc := 81) (tgt := 11) dX11_passEvening_81 (by decide) ?_
      refine M_mask (pc := 11) [true, true, true, true, true, true, false] rfl ?_
      exact ih x3 (x5 + (1 : Int32)) r6.2 _ h
    · have h := (if_neg hc10).symm.trans h
      refine M_aload_n (pc := 33) dX11_passEvening_33 rfl ?_
      refine M_iload (pc := 34) dX11_passEvening_34 rfl ?_
      refine M_aload_n (pc := 36) dX11_passEvening_36 rfl ?_
      refine M_getR (pc := 37) dX11_passEvening_37 f_X11_30 at_10 (gr_10_4 hp at_10).1 ?_
      refine M_aload_n (pc := 40) dX11_passEvening_40 rfl ?_
      refine M_getR (pc := 41) dX11_passEvening_41 f_X11_67 at_10 (gr_10_12 hp at_10).1 ?_
      obtain ⟨r11, hr12, h⟩ := bnd h
      refine M_callVv (pc := 44) dX11_passEvening_44 v_X11_232 rfl rfl hb1 (Nat.le_of_ble_eq_true rfl) (C_X3_bite (d := d + 0) hp hb1 (gr_10_4 hp at_10).2 hr12) (Nat.le_refl _) ?_
      refine M_iinc (pc := 47) (v := (x3 + (1 : Int32))) (ls' := [some (.ref 1), some (.ref b1), some (.int x2), some (.int (x3 + (1 : Int32))), some (.int x4), some (.int x5), some (.int r6.1)]) dX11_passEvening_47 rfl rfl (by decide) rfl ?_
      refine M_iload_n (pc := 50) dX11_passEvening_50 rfl ?_
      refine M_if_eq (pc := 51) (tgt := 78) dX11_passEvening_51 (by decide) (fun hc13 => ?_) (fun hc13 => ?_)
      · have h := (if_pos hc13).symm.trans h
        refine M_iinc (pc := 78) (v := (x5 + (1 : Int32))) (ls' := [some (.ref 1), some (.ref b1), some (.int x2), some (.int (x3 + (1 : Int32))), some (.int x4), some (.int (x5 + (1 : Int32))), some (.int r6.1)]) dX11_passEvening_78 rfl rfl (by decide) rfl ?_
        refine M_goto (pc := 81) (tgt := 11) dX11_passEvening_81 (by decide) ?_
        refine M_mask (pc := 11) [true, true, true, true, true, true, false] rfl ?_
        exact ih (x3 + (1 : Int32)) (x5 + (1 : Int32)) r11 _ h
      · have h := (if_neg hc13).symm.trans h
        refine M_aload_n (pc := 54) dX11_passEvening_54 rfl ?_
        refine M_getR (pc := 55) dX11_passEvening_55 f_X11_37 at_10 (gr_10_5 hp at_10).1 ?_
        refine M_aload_n (pc := 58) dX11_passEvening_58 rfl ?_
        refine M_getI (pc := 59) dX11_passEvening_59 f_X11_236 hb1 ?_
        refine M_iload (pc := 62) dX11_passEvening_62 rfl ?_
        refine M_aload_n (pc := 64) dX11_passEvening_64 rfl ?_
        refine M_getR (pc := 65) dX11_passEvening_65 f_X11_67 at_10 (gr_10_12 hp at_10).1 ?_
        refine M_getI (pc := 68) dX11_passEvening_68 f_X11_239 (gr_10_12 hp at_10).2 ?_
        refine M_aload_n (pc := 71) dX11_passEvening_71 rfl ?_
        refine M_getI (pc := 72) dX11_passEvening_72 f_X11_242 hb1 ?_
        obtain ⟨r14, hr15, h⟩ := bnd h
        refine M_callVv (pc := 75) dX11_passEvening_75 v_X11_245 rfl rfl (gr_10_5 hp at_10).2 (Nat.le_of_ble_eq_true rfl) (C_X7_write (d := d + 3) hp (gr_10_5 hp at_10).2 hr15) (Nat.le_refl _) ?_
        refine M_iinc (pc := 78) (v := (x5 + (1 : Int32))) (ls' := [some (.ref 1), some (.ref b1), some (.int x2), some (.int (x3 + (1 : Int32))), some (.int x4), some (.int (x5 + (1 : Int32))), some (.int r6.1)]) dX11_passEvening_78 rfl rfl (by decide) rfl ?_
        refine M_goto (pc := 81) (tgt := 11) dX11_passEvening_81 (by decide) ?_
        refine M_mask (pc := 11) [true, true, true, true, true, true, false] rfl ?_
        exact ih (x3 + (1 : Int32)) (x5 + (1 : Int32)) r14 _ h
set_option maxRecDepth 4000 in
set_option maxHeartbeats 4000000 in
theorem C_X11_passEvening {g : gX} {d : Nat} {P : Nat → Nat → Option Nat} {I : HI} {b1 : Nat} {x2 : Int32} {J : HJ} (hp : Wp P) (hb1 : OB NT b1 3) {r : Int32 × HI} (h : F_X11_passEvening I b1 x2 = some r) : Cm g mX11_passEvening (d + 5) [.ref 1, .ref b1, .int x2] (NT, I, J, P) (some (.int r.1)) (NT, r.2, J, P) := by
  unfold F_X11_passEvening at h
  refine Cm.of (by decide) (by simp [Value.category]) (Nat.le_of_ble_eq_true rfl) (Nat.le_refl _) (ls := [some (.ref 1), some (.ref b1), some (.int x2), none, none, none, none]) rfl ?_
  refine M_iconst (pc := 0) (v := 0) dX11_passEvening_0 (by decide) ?_
  refine M_istore_n (pc := 1) (ls' := [some (.ref 1), some (.ref b1), some (.int x2), some (.int (0 : Int32)), none, none, none]) dX11_passEvening_1 (by decide) rfl ?_
  refine M_aload_n (pc := 2) dX11_passEvening_2 rfl ?_
  obtain ⟨r1, hr2, h⟩ := bnd h
  refine M_callVi (pc := 3) dX11_passEvening_3 v_X11_289 rfl rfl hb1 (Nat.le_of_ble_eq_true rfl) (C_X3_drawSpoons (d := d + 3) hp hb1 hr2) (Nat.le_refl _) ?_
  refine M_istore (pc := 6) (ls' := [some (.ref 1), some (.ref b1), some (.int x2), some (.int (0 : Int32)), some (.int r1.1), none, none]) dX11_passEvening_6 (by decide) rfl ?_
  refine M_iconst (pc := 8) (v := 0) dX11_passEvening_8 (by decide) ?_
  refine M_istore (pc := 9) (ls' := [some (.ref 1), some (.ref b1), some (.int x2), some (.int (0 : Int32)), some (.int r1.1), some (.int (0 : Int32)), none]) dX11_passEvening_9 (by decide) rfl ?_
  exact LC_X11_passEvening_11 (P := P) hp hb1 (0 : Int32) (0 : Int32) r1.2 _ h
def L_X11_tryEvenings_21 (x1 : Int32) (x3 : Int32) (I : HI) : Option (HI) :=
  if x1 ≤ x3 then some I else (F_X11_passEvening I 130 (0 : Int32)) >>= fun r4 => L_X11_tryEvenings_21 x1 (x3 + (1 : Int32)) r4.2
partial_fixpoint
def F_X11_tryEvenings (I : HI) (x1 : Int32) (x2 : Int32) : Option (HI) :=
  (F_X3_copy I 130 3) >>= fun r1 => L_X11_tryEvenings_21 x1 (0 : Int32) (up2 r1 130 14 x2)
set_option maxRecDepth 4000 in
set_option maxHeartbeats 4000000 in
theorem LC_X11_tryEvenings_21 {g : gX} {d : Nat} {P : Nat → Nat → Option Nat} {J : HJ} {x1 : Int32} (hp : Wp P) : ∀ (x3 : Int32) (I : HI) (r : HI), L_X11_tryEvenings_21 x1 x3 I = some r → M g mX11_tryEvenings (d + 6) (NT, NT, 0) ((.inl none), (NT, r, J, P)) 21 [some (.ref 1), some (.int x1), none, some (.int x3)] [] (NT, I, J, P) := by
  refine L_X11_tryEvenings_21.partial_correctness x1 (fun x3 I r => M g mX11_tryEvenings (d + 6) (NT, NT, 0) ((.inl none), (NT, r, J, P)) 21 [some (.ref 1), some (.int x1), none, some (.int x3)] [] (NT, I, J, P)) ?_
  intro f ih x3 I r h
  refine M_iload_n (pc := 21) dX11_tryEvenings_21 rfl ?_
  refine M_iload_n (pc := 22) dX11_tryEvenings_22 rfl ?_
  refine M_icmp_ge (pc := 23) (tgt := 42) dX11_tryEvenings_23 (by decide) (fun hc3 => ?_) (fun hc3 => ?_)
  · have h := (if_pos hc3).symm.trans h
    obtain rfl := Option.some.inj h
    exact M_vret (pc := 42) dX11_tryEvenings_42 rfl rfl rfl
  · have h := (if_neg hc3).symm.trans h
    refine M_aload_n (pc := 26) dX11_tryEvenings_26 rfl ?_
    refine M_aload_n (pc := 27) dX11_tryEvenings_27 rfl ?_
    refine M_getR (pc := 28) dX11_tryEvenings_28 f_X11_61 at_10 (gr_10_11 hp at_10).1 ?_
    refine M_iconst (pc := 31) (v := 0) dX11_tryEvenings_31 (by decide) ?_
    obtain ⟨r4, hr5, h⟩ := bnd h
    refine M_callVi (pc := 32) dX11_tryEvenings_32 v_X11_285 rfl rfl at_10 (Nat.le_of_ble_eq_true rfl) (C_X11_passEvening (d := d + 0) hp (gr_10_11 hp at_10).2 hr5) (Nat.le_refl _) ?_
    refine M_pop (pc := 35) dX11_tryEvenings_35 rfl ?_
    refine M_iinc (pc := 36) (v := (x3 + (1 : Int32))) (ls' := [some (.ref 1), some (.int x1), none, some (.int (x3 + (1 : Int32)))]) dX11_tryEvenings_36 rfl rfl (by decide) rfl ?_
    refine M_goto (pc := 39) (tgt := 21) dX11_tryEvenings_39 (by decide) ?_
    exact ih (x3 + (1 : Int32)) r4.2 _ h
set_option maxRecDepth 4000 in
set_option maxHeartbeats 4000000 in
theorem C_X11_tryEvenings {g : gX} {d : Nat} {P : Nat → Nat → Option Nat} {I : HI} {x1 : Int32} {x2 : Int32} {J : HJ} (hp : Wp P) {r : HI} (h : F_X11_tryEvenings I x1 x2 = some r) : Cm g mX11_tryEvenings (d + 6) [.ref 1, .int x1, .int x2] (NT, I, J, P) none (NT, r, J, P) := by
  unfold F_X11_tryEvenings at h
  refine Cm.of (by decide) (by simp [Value.category]) (Nat.le_of_ble_eq_true rfl) (Nat.le_refl _) (ls := [some (.ref 1), some (.int x1), some (.int x2), none]) rfl ?_
  refine M_aload_n (pc := 0) dX11_tryEvenings_0 rfl ?_
  refine M_getR (pc := 1) dX11_tryEvenings_1 f_X11_61 at_10 (gr_10_11 hp at_10).1 ?_
  refine M_aload_n (pc := 4) dX11_tryEvenings_4 rfl ?_
  refine M_getR (pc := 5) dX11_tryEvenings_5 f_X11_23 at_10 (gr_10_3 hp at_10).1 ?_
  obtain ⟨r1, hr2, h⟩ := bnd h
  refine M_callVv (pc := 8) dX11_tryEvenings_8 v_X11_106 rfl rfl (gr_10_11 hp at_10).2 (Nat.le_of_ble_eq_true rfl) (C_X3_copy (d := d + 3) hp (gr_10_11 hp at_10).2 (gr_10_3 hp at_10).2 hr2) (Nat.le_refl _) ?_
  refine M_aload_n (pc := 11) dX11_tryEvenings_11 rfl ?_
  refine M_getR (pc := 12) dX11_tryEvenings_12 f_X11_61 at_10 (gr_10_11 hp at_10).1 ?_
  refine M_iload_n (pc := 15) dX11_tryEvenings_15 rfl ?_
  refine M_putI (pc := 16) dX11_tryEvenings_16 f_X11_389 (gr_10_11 hp at_10).2 rfl ⟨rfl, rfl⟩ ?_
  refine M_iconst (pc := 19) (v := 0) dX11_tryEvenings_19 (by decide) ?_
  refine M_istore_n (pc := 20) (ls' := [some (.ref 1), some (.int x1), some (.int x2), some (.int (0 : Int32))]) dX11_tryEvenings_20 (by decide) rfl ?_
  refine M_mask (pc := 21) [true, true, false, true] rfl ?_
  exact LC_X11_tryEvenings_21 (P := P) hp (0 : Int32) (up2 r1 130 14 x2) _ h
