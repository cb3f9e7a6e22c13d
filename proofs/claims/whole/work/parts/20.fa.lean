def F_X0_clear (I : HI) : Option (HI) :=
  some (up2 I 17 0 (0 : Int32))
set_option maxRecDepth 4000 in
set_option maxHeartbeats 4000000 in
theorem C_X0_clear {g : gX} {d : Nat} {P : Nat → Nat → Option Nat} {I : HI} {J : HJ} (hp : Wp P) {r : HI} (h : F_X0_clear I = some r) : Cm g mX0_clear (d + 0) [.ref 17] (NT, I, J, P) none (NT, r, J, P) := by
  unfold F_X0_clear at h
  refine Cm.of (by decide) (by simp [Value.category]) (Nat.le_of_ble_eq_true rfl) (Nat.le_refl _) (ls := [some (.ref 17)]) rfl ?_
  refine M_aload_n (pc := 0) dX0_clear_0 rfl ?_
  refine M_iconst (pc := 1) (v := 0) dX0_clear_1 (by decide) ?_
  refine M_putI (pc := 2) dX0_clear_2 f_X0_7 at_0 rfl ⟨rfl, rfl⟩ ?_
  obtain rfl := Option.some.inj h
  exact M_vret (pc := 5) dX0_clear_5 rfl rfl rfl
def F_X1_has (I : HI) (a : Nat) (x1 : Int32) : Option (Int32) :=
  if x1 < 0 then some (0 : Int32) else if (I a 0) ≤ x1 then some (0 : Int32) else some (1 : Int32)
set_option maxRecDepth 4000 in
set_option maxHeartbeats 4000000 in
theorem C_X1_has {g : gX} {d : Nat} {P : Nat → Nat → Option Nat} {I : HI} {a : Nat} {x1 : Int32} {J : HJ} (hp : Wp P) (ha : OB NT a 1) {r : Int32} (h : F_X1_has I a x1 = some r) : Cm g mX1_has (d + 0) [.ref a, .int x1] (NT, I, J, P) (some (.int r)) (NT, I, J, P) := by
  unfold F_X1_has at h
  refine Cm.of (by decide) (by simp [Value.category]) (Nat.le_of_ble_eq_true rfl) (Nat.le_refl _) (ls := [some (.ref a), some (.int x1)]) rfl ?_
  refine M_iload_n (pc := 0) dX1_has_0 rfl ?_
  refine M_if_lt (pc := 1) (tgt := 16) dX1_has_1 (by decide) (fun hc1 => ?_) (fun hc1 => ?_)
  · have h := (if_pos hc1).symm.trans h
    refine M_iconst (pc := 16) (v := 0) dX1_has_16 (by decide) ?_
    obtain rfl := Option.some.inj h
    exact M_iret (pc := 17) dX1_has_17 rfl rfl rfl rfl
  · have h := (if_neg hc1).symm.trans h
    refine M_iload_n (pc := 4) dX1_has_4 rfl ?_
    refine M_aload_n (pc := 5) dX1_has_5 rfl ?_
    refine M_getI (pc := 6) dX1_has_6 f_X1_9 ha ?_
    refine M_icmp_ge (pc := 9) (tgt := 16) dX1_has_9 (by decide) (fun hc2 => ?_) (fun hc2 => ?_)
    · have h := (if_pos hc2).symm.trans h
      refine M_iconst (pc := 16) (v := 0) dX1_has_16 (by decide) ?_
      obtain rfl := Option.some.inj h
      exact M_iret (pc := 17) dX1_has_17 rfl rfl rfl rfl
    · have h := (if_neg hc2).symm.trans h
      refine M_iconst (pc := 12) (v := 1) dX1_has_12 (by decide) ?_
      refine M_goto (pc := 13) (tgt := 17) dX1_has_13 (by decide) ?_
      obtain rfl := Option.some.inj h
      exact M_iret (pc := 17) dX1_has_17 rfl rfl rfl rfl
def F_X1_isHad (I : HI) (a : Nat) (x1 : Int32) : Option (Int32) :=
  (F_X1_has I a x1) >>= fun r1 => if r1 = 0 then some (0 : Int32) else (ald 12 (I (a + 2)) x1) >>= fun v4 => if v4 = (-1 : Int32) then some (0 : Int32) else some (1 : Int32)
set_option maxRecDepth 4000 in
set_option maxHeartbeats 4000000 in
theorem C_X1_isHad {g : gX} {d : Nat} {P : Nat → Nat → Option Nat} {I : HI} {a : Nat} {x1 : Int32} {J : HJ} (hp : Wp P) (ha : OB NT a 1) {r : Int32} (h : F_X1_isHad I a x1 = some r) : Cm g mX1_isHad (d + 1) [.ref a, .int x1] (NT, I, J, P) (some (.int r)) (NT, I, J, P) := by
  unfold F_X1_isHad at h
  refine Cm.of (by decide) (by simp [Value.category]) (Nat.le_of_ble_eq_true rfl) (Nat.le_refl _) (ls := [some (.ref a), some (.int x1)]) rfl ?_
  refine M_aload_n (pc := 0) dX1_isHad_0 rfl ?_
  refine M_iload_n (pc := 1) dX1_isHad_1 rfl ?_
  obtain ⟨r1, hr2, h⟩ := bnd h
  refine M_callVi (pc := 2) dX1_isHad_2 v_X1_28 rfl rfl ha (Nat.le_of_ble_eq_true rfl) (C_X1_has (d := d + 0) hp ha hr2) (Nat.le_refl _) ?_
  refine M_if_eq (pc := 5) (tgt := 22) dX1_isHad_5 (by decide) (fun hc3 => ?_) (fun hc3 => ?_)
  · have h := (if_pos hc3).symm.trans h
    refine M_iconst (pc := 22) (v := 0) dX1_isHad_22 (by decide) ?_
    obtain rfl := Option.some.inj h
    exact M_iret (pc := 23) dX1_isHad_23 rfl rfl rfl rfl
  · have h := (if_neg hc3).symm.trans h
    refine M_aload_n (pc := 8) dX1_isHad_8 rfl ?_
    refine M_getR (pc := 9) dX1_isHad_9 f_X1_19 ha (gr_1_2 hp ha).1 ?_
    refine M_iload_n (pc := 12) dX1_isHad_12 rfl ?_
    obtain ⟨v4, hv5, h⟩ := bnd h
    refine M_aldI (pc := 13) dX1_isHad_13 (gr_1_2 hp ha).2 hv5 ?_
    refine M_iconst (pc := 14) (v := -1) dX1_isHad_14 (by decide) ?_
    refine M_icmp_eq (pc := 15) (tgt := 22) dX1_isHad_15 (by decide) (fun hc6 => ?_) (fun hc6 => ?_)
    · have h := (if_pos hc6).symm.trans h
      refine M_iconst (pc := 22) (v := 0) dX1_isHad_22 (by decide) ?_
      obtain rfl := Option.some.inj h
      exact M_iret (pc := 23) dX1_isHad_23 rfl rfl rfl rfl
    · have h := (if_neg hc6).symm.trans h
      refine M_iconst (pc := 18) (v := 1) dX1_isHad_18 (by decide) ?_
      refine M_goto (pc := 19) (tgt := 23) dX1_isHad_19 (by decide) ?_
      obtain rfl := Option.some.inj h
      exact M_iret (pc := 23) dX1_isHad_23 rfl rfl rfl rfl
def F_X1_all (I : HI) (a : Nat) : Option (Int32) :=
  some (((1 : Int32) <<< ((I a 0) &&& 31)) - (1 : Int32))
set_option maxRecDepth 4000 in
set_option maxHeartbeats 4000000 in
theorem C_X1_all {g : gX} {d : Nat} {P : Nat → Nat → Option Nat} {I : HI} {a : Nat} {J : HJ} (hp : Wp P) (ha : OB NT a 1) {r : Int32} (h : F_X1_all I a = some r) : Cm g mX1_all (d + 0) [.ref a] (NT, I, J, P) (some (.int r)) (NT, I, J, P) := by
  unfold F_X1_all at h
  refine Cm.of (by decide) (by simp [Value.category]) (Nat.le_of_ble_eq_true rfl) (Nat.le_refl _) (ls := [some (.ref a)]) rfl ?_
  refine M_iconst (pc := 0) (v := 1) dX1_all_0 (by decide) ?_
  refine M_aload_n (pc := 1) dX1_all_1 rfl ?_
  refine M_getI (pc := 2) dX1_all_2 f_X1_9 ha ?_
  refine M_ishl (pc := 5) dX1_all_5 ?_
  refine M_iconst (pc := 6) (v := 1) dX1_all_6 (by decide) ?_
  refine M_isub (pc := 7) dX1_all_7 ?_
  obtain rfl := Option.some.inj h
  exact M_iret (pc := 8) dX1_all_8 rfl rfl rfl rfl
def L_X1_distance_5 (I : HI) (a : Nat) (x1 : Int32) (x2 : Int32) (x3 : Int32) (x4 : Int32) : Option (Int32) :=
  if (5 : Int32) ≤ x4 then some x3 else (ald 60 (I (a + 1)) ((x1 * (5 : Int32)) + x4)) >>= fun v2 => (ald 60 (I (a + 1)) ((x2 * (5 : Int32)) + x4)) >>= fun v4 => if 0 ≤ (v2 - v4) then L_X1_distance_5 I a x1 x2 (x3 + (v2 - v4)) (x4 + (1 : Int32)) else L_X1_distance_5 I a x1 x2 (x3 + (-(v2 - v4))) (x4 + (1 : Int32))
partial_fixpoint
def F_X1_distance (I : HI) (a : Nat) (x1 : Int32) (x2 : Int32) : Option (Int32) :=
  L_X1_distance_5 I a x1 x2 (0 : Int32) (0 : Int32)
set_option maxRecDepth 4000 in
set_option maxHeartbeats 4000000 in
theorem LC_X1_distance_5 {g : gX} {d : Nat} {P : Nat → Nat → Option Nat} {J : HJ} {I : HI} {a : Nat} {x1 : Int32} {x2 : Int32} (hp : Wp P) (ha : OB NT a 1) : ∀ (x3 : Int32) (x4 : Int32) (r : Int32), L_X1_distance_5 I a x1 x2 x3 x4 = some r → M g mX1_distance (d + 0) (NT, NT, 0) ((.inl (some (.int r))), (NT, I, J, P)) 5 [some (.ref a), some (.int x1), some (.int x2), some (.int x3), some (.int x4), none] [] (NT, I, J, P) := by
  refine L_X1_distance_5.partial_correctness I a x1 x2 (fun x3 x4 r => M g mX1_distance (d + 0) (NT, NT, 0) ((.inl (some (.int r))), (NT, I, J, P)) 5 [some (.ref a), some (.int x1), some (.int x2), some (.int x3), some (.int x4), none] [] (NT, I, J, P)) ?_
  intro f ih x3 x4 r h
  refine M_iload (pc := 5) dX1_distance_5 rfl ?_
  refine M_iconst (pc := 7) (v := 5) dX1_distance_7 (by decide) ?_
  refine M_icmp_ge (pc := 8) (tgt := 58) dX1_distance_8 (by decide) (fun hc1 => ?_) (fun hc1 => ?_)
  · have h := (if_pos hc1).symm.trans h
    refine M_iload_n (pc := 58) dX1_distance_58 rfl ?_
    obtain rfl := Option.some.inj h
    exact M_iret (pc := 59) dX1_distance_59 rfl rfl rfl rfl
  · have h := (if_neg hc1).symm.trans h
    refine M_aload_n (pc := 11) dX1_distance_11 rfl ?_
    refine M_getR (pc := 12) dX1_distance_12 f_X1_15 ha (gr_1_1 hp ha).1 ?_
    refine M_iload_n (pc := 15) dX1_distance_15 rfl ?_
    refine M_iconst (pc := 16) (v := 5) dX1_distance_16 (by decide) ?_
    refine M_imul (pc := 17) dX1_distance_17 ?_
    refine M_iload (pc := 18) dX1_distance_18 rfl ?_
    refine M_iadd (pc := 20) dX1_distance_20 ?_
    obtain ⟨v2, hv3, h⟩ := bnd h
    refine M_aldI (pc := 21) dX1_distance_21 (gr_1_1 hp ha).2 hv3 ?_
    refine M_aload_n (pc := 22) dX1_distance_22 rfl ?_
    refine M_getR (pc := 23) dX1_distance_23 f_X1_15 ha (gr_1_1 hp ha).1 ?_
    refine M_iload_n (pc := 26) dX1_distance_26 rfl ?_
    refine M_iconst (pc := 27) (v := 5) dX1_distance_27 (by decide) ?_
    refine M_imul (pc := 28) dX1_distance_28 ?_
    refine M_iload (pc := 29) dX1_distance_29 rfl ?_
    refine M_iadd (pc := 31) dX1_distance_31 ?_
    obtain ⟨v4, hv5, h⟩ := bnd h
    refine M_aldI (pc := 32) dX1_distance_32 (gr_1_1 hp ha).2 hv5 ?_
    refine M_isub (pc := 33) dX1_distance_33 ?_
    refine M_istore (pc := 34) (ls' := [some (.ref a), some (.int x1), some (.int x2), some (.int x3), some (.int x4), some (.int (v2 - v4))]) dX1_distance_34 (by decide) rfl ?_
    refine M_iload_n (pc := 36) dX1_distance_36 rfl ?_
    refine M_iload (pc := 37) dX1_distance_37 rfl ?_
    refine M_if_ge (pc := 39) (tgt := 48) dX1_distance_39 (by decide) (fun hc6 => ?_) (fun hc6 => ?_)
    · have h := (if_pos hc6).symm.trans h
      refine M_iload (pc := 48) dX1_distance_48 rfl ?_
      refine M_iadd (pc := 50) dX1_distance_50 ?_
      refine M_istore_n (pc := 51) (ls' := [some (.ref a), some (.int x1), some (.int x2), some (.int (x3 + (v2 - v4))), some (.int x4), some (.int (v2 - v4))]) dX1_distance_51 (by decide) rfl ?_
      refine M_iinc (pc := 52) (v := (x4 + (1 : Int32))) (ls' := [some (.ref a), some (.int x1), some (.int x2), some (.int (x3 + (v2 - v4))), some (.int (x4 + (1 : Int32))), some (.int (v2 - v4))]) dX1_distance_52 rfl rfl (by decide) rfl ?_
      refine M_goto (pc := 55) (tgt := 5) dX1_distance_55 (by decide) ?_
      refine M_mask (pc := 5) [true, true, true, true, true, false] rfl ?_
      exact ih (x3 + (v2 - v4)) (x4 + (1 : Int32)) _ h
    · have h := (if_neg hc6).symm.trans h
      refine M_iload (pc := 42) dX1_distance_42 rfl ?_
      refine M_ineg (pc := 44) dX1_distance_44 ?_
      refine M_goto (pc := 45) (tgt := 50) dX1_distance_45 (by decide) ?_
      refine M_iadd (pc := 50) dX1_distance_50 ?_
      refine M_istore_n (pc := 51) (ls' := [some (.ref a), some (.int x1), some (.int x2), some (.int (x3 + (-(v2 - v4)))), some (.int x4), some (.int (v2 - v4))]) dX1_distance_51 (by decide) rfl ?_
      refine M_iinc (pc := 52) (v := (x4 + (1 : Int32))) (ls' := [some (.ref a), some (.int x1), some (.int x2), some (.int (x3 + (-(v2 - v4)))), some (.int (x4 + (1 : Int32))), some (.int (v2 - v4))]) dX1_distance_52 rfl rfl (by decide) rfl ?_
      refine M_goto (pc := 55) (tgt := 5) dX1_distance_55 (by decide) ?_
      refine M_mask (pc := 5) [true, true, true, true, true, false] rfl ?_
      exact ih (x3 + (-(v2 - v4))) (x4 + (1 : Int32)) _ h
set_option maxRecDepth 4000 in
set_option maxHeartbeats 4000000 in
theorem C_X1_distance {g : gX} {d : Nat} {P : Nat → Nat → Option Nat} {I : HI} {a : Nat} {x1 : Int32} {x2 : Int32} {J : HJ} (hp : Wp P) (ha : OB NT a 1) {r : Int32} (h : F_X1_distance I a x1 x2 = some r) : Cm g mX1_distance (d + 0) [.ref a, .int x1, .int x2] (NT, I, J, P) (some (.int r)) (NT, I, J, P) := by
  unfold F_X1_distance at h
  refine Cm.of (by decide) (by simp [Value.category]) (Nat.le_of_ble_eq_true rfl) (Nat.le_refl _) (ls := [some (.ref a), some (.int x1), some (.int x2), none, none, none]) rfl ?_
  refine M_iconst (pc := 0) (v := 0) dX1_distance_0 (by decide) ?_
  refine M_istore_n (pc := 1) (ls' := [some (.ref a), some (.int x1), some (.int x2), some (.int (0 : Int32)), none, none]) dX1_distance_1 (by decide) rfl ?_
  refine M_iconst (pc := 2) (v := 0) dX1_distance_2 (by decide) ?_
  refine M_istore (pc := 3) (ls' := [some (.ref a), some (.int x1), some (.int x2), some (.int (0 : Int32)), some (.int (0 : Int32)), none]) dX1_distance_3 (by decide) rfl ?_
  exact LC_X1_distance_5 (P := P) hp ha (0 : Int32) (0 : Int32) _ h
def L_X1_calledUp_20 (I : HI) (a : Nat) (x1 : Int32) (x3 : Int32) (x4 : Int32) (x5 : Int32) : Option (Int32) :=
  if (I a 0) ≤ x5 then some x3 else (ald 12 (I (a + 2)) x5) >>= fun v5 => if v5 = (-1 : Int32) then L_X1_calledUp_20 I a x1 x3 x4 (x5 + (1 : Int32)) else (F_X1_distance I a x1 x5) >>= fun r8 => if x4 ≤ r8 then L_X1_calledUp_20 I a x1 x3 x4 (x5 + (1 : Int32)) else L_X1_calledUp_20 I a x1 x5 r8 (x5 + (1 : Int32))
partial_fixpoint
def F_X1_calledUp (I : HI) (a : Nat) (x1 : Int32) (x2 : Int32) : Option (Int32) :=
  (F_X1_isHad I a x1) >>= fun r1 => if r1 = 0 then L_X1_calledUp_20 I a x1 (-1 : Int32) (x2 + (1 : Int32)) (0 : Int32) else some x1
set_option maxRecDepth 4000 in
set_option maxHeartbeats 4000000 in
theorem LC_X1_calledUp_20 {g : gX} {d : Nat} {P : Nat → Nat → Option Nat} {J : HJ} {I : HI} {a : Nat} {x1 : Int32} (hp : Wp P) (ha : OB NT a 1) : ∀ (x3 : Int32) (x4 : Int32) (x5 : Int32) (r : Int32), L_X1_calledUp_20 I a x1 x3 x4 x5 = some r → M g mX1_calledUp (d + 2) (NT, NT, 0) ((.inl (some (.int r))), (NT, I, J, P)) 20 [some (.ref a), some (.int x1), none, some (.int x3), some (.int x4), some (.int x5), none] [] (NT, I, J, P) := by
  refine L_X1_calledUp_20.partial_correctness I a x1 (fun x3 x4 x5 r => M g mX1_calledUp (d + 2) (NT, NT, 0) ((.inl (some (.int r))), (NT, I, J, P)) 20 [some (.ref a), some (.int x1), none, some (.int x3), some (.int x4), some (.int x5), none] [] (NT, I, J, P)) ?_
  intro f ih x3 x4 x5 r h
  refine M_iload (pc := 20) dX1_calledUp_20 rfl ?_
  refine M_aload_n (pc := 22) dX1_calledUp_22 rfl ?_
  refine M_getI (pc := 23) dX1_calledUp_23 f_X1_9 ha ?_
  refine M_icmp_ge (pc := 26) (tgt := 69) dX1_calledUp_26 (by decide) (fun hc4 => ?_) (fun hc4 => ?_)
  · have h := (if_pos hc4).symm.trans h
    refine M_iload_n (pc := 69) dX1_calledUp_69 rfl ?_
    obtain rfl := Option.some.inj h
    exact M_iret (pc := 70) dX1_calledUp_70 rfl rfl rfl rfl
  · have h := (if_neg hc4).symm.trans h
    refine M_aload_n (pc := 29) dX1_calledUp_29 rfl ?_
    refine M_getR (pc := 30) dX1_calledUp_30 f_X1_19 ha (gr_1_2 hp ha).1 ?_
    refine M_iload (pc := 33) dX1_calledUp_33 rfl ?_
    obtain ⟨v5, hv6, h⟩ := bnd h
    refine M_aldI (pc := 35) dX1_calledUp_35 (gr_1_2 hp ha).2 hv6 ?_
    refine M_iconst (pc := 36) (v := -1) dX1_calledUp_36 (by decide) ?_
    refine M_icmp_eq (pc := 37) (tgt := 63) dX1_calledUp_37 (by decide) (fun hc7 => ?_) (fun hc7 => ?_)
    · have h := (if_pos hc7).symm.trans h
      refine M_iinc (pc := 63) (v := (x5 + (1 : Int32))) (ls' := [some (.ref a), some (.int x1), none, some (.int x3), some (.int x4), some (.int (x5 + (1 : Int32))), none]) dX1_calledUp_63 rfl rfl (by decide) rfl ?_
      refine M_goto (pc := 66) (tgt := 20) dX1_calledUp_66 (by decide) ?_
      exact ih x3 x4 (x5 + (1 : Int32)) _ h
    · have h := (if_neg hc7).symm.trans h
      refine M_aload_n (pc := 40) dX1_calledUp_40 rfl ?_
      refine M_iload_n (pc := 41) dX1_calledUp_41 rfl ?_
      refine M_iload (pc := 42) dX1_calledUp_42 rfl ?_
      obtain ⟨r8, hr9, h⟩ := bnd h
      refine M_callVi (pc := 44) dX1_calledUp_44 v_X1_39 rfl rfl ha (Nat.le_of_ble_eq_true rfl) (C_X1_distance (d := d + 1) hp ha hr9) (Nat.le_refl _) ?_
      refine M_istore (pc := 47) (ls' := [some (.ref a), some (.int x1), none, some (.int x3), some (.int x4), some (.int x5), some (.int r8)]) dX1_calledUp_47 (by decide) rfl ?_
      refine M_iload (pc := 49) dX1_calledUp_49 rfl ?_
      refine M_iload (pc := 51) dX1_calledUp_51 rfl ?_
      refine M_icmp_ge (pc := 53) (tgt := 63) dX1_calledUp_53 (by decide) (fun hc10 => ?_) (fun hc10 => ?_)
      · have h := (if_pos hc10).symm.trans h
        refine M_iinc (pc := 63) (v := (x5 + (1 : Int32))) (ls' := [some (.ref a), some (.int x1), none, some (.int x3), some (.int x4), some (.int (x5 + (1 : Int32))), some (.int r8)]) dX1_calledUp_63 rfl rfl (by decide) rfl ?_
        refine M_goto (pc := 66) (tgt := 20) dX1_calledUp_66 (by decide) ?_
        refine M_mask (pc := 20) [true, true, false, true, true, true, false] rfl ?_
        exact ih x3 x4 (x5 + (1 : Int32)) _ h
      · have h := (if_neg hc10).symm.trans h
        refine M_iload (pc := 56) dX1_calledUp_56 rfl ?_
        refine M_istore (pc := 58) (ls' := [some (.ref a), some (.int x1), none, some (.int x3), some (.int r8), some (.int x5), some (.int r8)]) dX1_calledUp_58 (by decide) rfl ?_
        refine M_iload (pc := 60) dX1_calledUp_60 rfl ?_
        refine M_istore_n (pc := 62) (ls' := [some (.ref a), some (.int x1), none, some (.int x5), some (.int r8), some (.int x5), some (.int r8)]) dX1_calledUp_62 (by decide) rfl ?_
        refine M_iinc (pc := 63) (v := (x5 + (1 : Int32))) (ls' := [some (.ref a), some (.int x1), none, some (.int x5), some (.int r8), some (.int (x5 + (1 : Int32))), some (.int r8)]) dX1_calledUp_63 rfl rfl (by decide) rfl ?_
        refine M_goto (pc := 66) (tgt := 20) dX1_calledUp_66 (by decide) ?_
        refine M_mask (pc := 20) [true, true, false, true, true, true, false] rfl ?_
        exact ih x5 r8 (x5 + (1 : Int32)) _ h
set_option maxRecDepth 4000 in
set_option maxHeartbeats 4000000 in
theorem C_X1_calledUp {g : gX} {d : Nat} {P : Nat → Nat → Option Nat} {I : HI} {a : Nat} {x1 : Int32} {x2 : Int32} {J : HJ} (hp : Wp P) (ha : OB NT a 1) {r : Int32} (h : F_X1_calledUp I a x1 x2 = some r) : Cm g mX1_calledUp (d + 2) [.ref a, .int x1, .int x2] (NT, I, J, P) (some (.int r)) (NT, I, J, P) := by
  unfold F_X1_calledUp at h
  refine Cm.of (by decide) (by simp [Value.category]) (Nat.le_of_ble_eq_true rfl) (Nat.le_refl _) (ls := [some (.ref a), some (.int x1), some (.int x2), none, none, none, none]) rfl ?_
  refine M_aload_n (pc := 0) dX1_calledUp_0 rfl ?_
  refine M_iload_n (pc := 1) dX1_calledUp_1 rfl ?_
  obtain ⟨r1, hr2, h⟩ := bnd h
  refine M_callVi (pc := 2) dX1_calledUp_2 v_X1_36 rfl rfl ha (Nat.le_of_ble_eq_true rfl) (C_X1_isHad (d := d + 0) hp ha hr2) (Nat.le_refl _) ?_
  refine M_if_eq (pc := 5) (tgt := 10) dX1_calledUp_5 (by decide) (fun hc3 => ?_) (fun hc3 => ?_)
  · have h := (if_pos hc3).symm.trans h
    refine M_iconst (pc := 10) (v := -1) dX1_calledUp_10 (by decide) ?_
    refine M_istore_n (pc := 11) (ls' := [some (.ref a), some (.int x1), some (.int x2), some (.int (-1 : Int32)), none, none, none]) dX1_calledUp_11 (by decide) rfl ?_
    refine M_iload_n (pc := 12) dX1_calledUp_12 rfl ?_
    refine M_iconst (pc := 13) (v := 1) dX1_calledUp_13 (by decide) ?_
    refine M_iadd (pc := 14) dX1_calledUp_14 ?_
    refine M_istore (pc := 15) (ls' := [some (.ref a), some (.int x1), some (.int x2), some (.int (-1 : Int32)), some (.int (x2 + (1 : Int32))), none, none]) dX1_calledUp_15 (by decide) rfl ?_
    refine M_iconst (pc := 17) (v := 0) dX1_calledUp_17 (by decide) ?_
    refine M_istore (pc := 18) (ls' := [some (.ref a), some (.int x1), some (.int x2), some (.int (-1 : Int32)), some (.int (x2 + (1 : Int32))), some (.int (0 : Int32)), none]) dX1_calledUp_18 (by decide) rfl ?_
    refine M_mask (pc := 20) [true, true, false, true, true, true, false] rfl ?_
    exact LC_X1_calledUp_20 (P := P) hp ha (-1 : Int32) (x2 + (1 : Int32)) (0 : Int32) _ h
  · have h := (if_neg hc3).symm.trans h
    refine M_iload_n (pc := 8) dX1_calledUp_8 rfl ?_
    obtain rfl := Option.some.inj h
    exact M_iret (pc := 9) dX1_calledUp_9 rfl rfl rfl rfl
def L_X1_earliestBehind_4 (I : HI) (a : Nat) (x1 : Int32) (x2 : Int32) (x3 : Int32) : Option (Int32) :=
  if (I a 0) ≤ x3 then some x2 else (ald 12 (I (a + 2)) x3) >>= fun v2 => if v2 ≤ x1 then L_X1_earliestBehind_4 I a x1 x2 (x3 + (1 : Int32)) else if x2 = (-1 : Int32) then L_X1_earliestBehind_4 I a x1 x3 (x3 + (1 : Int32)) else (ald 12 (I (a + 2)) x3) >>= fun v6 => (ald 12 (I (a + 2)) x2) >>= fun v8 => if v8 ≤ v6 then L_X1_earliestBehind_4 I a x1 x2 (x3 + (1 : Int32)) else L_X1_earliestBehind_4 I a x1 x3 (x3 + (1 : Int32))
partial_fixpoint
def F_X1_earliestBehind (I : HI) (a : Nat) (x1 : Int32) : Option (Int32) :=
  L_X1_earliestBehind_4 I a x1 (-1 : Int32) (0 : Int32)
set_option maxRecDepth 4000 in
set_option maxHeartbeats 4000000 in
theorem LC_X1_earliestBehind_4 {g : gX} {d : Nat} {P : Nat → Nat → Option Nat} {J : HJ} {I : HI} {a : Nat} {x1 : Int32} (hp : Wp P) (ha : OB NT a 1) : ∀ (x2 : Int32) (x3 : Int32) (r : Int32), L_X1_earliestBehind_4 I a x1 x2 x3 = some r → M g mX1_earliestBehind (d + 0) (NT, NT, 0) ((.inl (some (.int r))), (NT, I, J, P)) 4 [some (.ref a), some (.int x1), some (.int x2), some (.int x3)] [] (NT, I, J, P) := by
  refine L_X1_earliestBehind_4.partial_correctness I a x1 (fun x2 x3 r => M g mX1_earliestBehind (d + 0) (NT, NT, 0) ((.inl (some (.int r))), (NT, I, J, P)) 4 [some (.ref a), some (.int x1), some (.int x2), some (.int x3)] [] (NT, I, J, P)) ?_
  intro f ih x2 x3 r h
  refine M_iload_n (pc := 4) dX1_earliestBehind_4 rfl ?_
  refine M_aload_n (pc := 5) dX1_earliestBehind_5 rfl ?_
  refine M_getI (pc := 6) dX1_earliestBehind_6 f_X1_9 ha ?_
  refine M_icmp_ge (pc := 9) (tgt := 50) dX1_earliestBehind_9 (by decide) (fun hc1 => ?_) (fun hc1 => ?_)
  · have h := (if_pos hc1).symm.trans h
    refine M_iload_n (pc := 50) dX1_earliestBehind_50 rfl ?_
    obtain rfl := Option.some.inj h
    exact M_iret (pc := 51) dX1_earliestBehind_51 rfl rfl rfl rfl
  · have h := (if_neg hc1).symm.trans h
    refine M_aload_n (pc := 12) dX1_earliestBehind_12 rfl ?_
    refine M_getR (pc := 13) dX1_earliestBehind_13 f_X1_19 ha (gr_1_2 hp ha).1 ?_
    refine M_iload_n (pc := 16) dX1_earliestBehind_16 rfl ?_
    obtain ⟨v2, hv3, h⟩ := bnd h
    refine M_aldI (pc := 17) dX1_earliestBehind_17 (gr_1_2 hp ha).2 hv3 ?_
    refine M_iload_n (pc := 18) dX1_earliestBehind_18 rfl ?_
    refine M_icmp_le (pc := 19) (tgt := 44) dX1_earliestBehind_19 (by decide) (fun hc4 => ?_) (fun hc4 => ?_)
    · have h := (if_pos hc4).symm.trans h
      refine M_iinc (pc := 44) (v := (x3 + (1 : Int32))) (ls' := [some (.ref a), some (.int x1), some (.int x2), some (.int (x3 + (1 : Int32)))]) dX1_earliestBehind_44 rfl rfl (by decide) rfl ?_
      refine M_goto (pc := 47) (tgt := 4) dX1_earliestBehind_47 (by decide) ?_
      exact ih x2 (x3 + (1 : Int32)) _ h
    · have h := (if_neg hc4).symm.trans h
      refine M_iload_n (pc := 22) dX1_earliestBehind_22 rfl ?_
      refine M_iconst (pc := 23) (v := -1) dX1_earliestBehind_23 (by decide) ?_
      refine M_icmp_eq (pc := 24) (tgt := 42) dX1_earliestBehind_24 (by decide) (fun hc5 => ?_) (fun hc5 => ?_)
      · have h := (if_pos hc5).symm.trans h
        refine M_iload_n (pc := 42) dX1_earliestBehind_42 rfl ?_
        refine M_istore_n (pc := 43) (ls' := [some (.ref a), some (.int x1), some (.int x3), some (.int x3)]) dX1_earliestBehind_43 (by decide) rfl ?_
        refine M_iinc (pc := 44) (v := (x3 + (1 : Int32))) (ls' := [some (.ref a), some (.int x1), some (.int x3), some (.int (x3 + (1 : Int32)))]) dX1_earliestBehind_44 rfl rfl (by decide) rfl ?_
        refine M_goto (pc := 47) (tgt := 4) dX1_earliestBehind_47 (by decide) ?_
        exact ih x3 (x3 + (1 : Int32)) _ h
      · have h := (if_neg hc5).symm.trans h
        refine M_aload_n (pc := 27) dX1_earliestBehind_27 rfl ?_
        refine M_getR (pc := 28) dX1_earliestBehind_28 f_X1_19 ha (gr_1_2 hp ha).1 ?_
        refine M_iload_n (pc := 31) dX1_earliestBehind_31 rfl ?_
        obtain ⟨v6, hv7, h⟩ := bnd h
        refine M_aldI (pc := 32) dX1_earliestBehind_32 (gr_1_2 hp ha).2 hv7 ?_
        refine M_aload_n (pc := 33) dX1_earliestBehind_33 rfl ?_
        refine M_getR (pc := 34) dX1_earliestBehind_34 f_X1_19 ha (gr_1_2 hp ha).1 ?_
        refine M_iload_n (pc := 37) dX1_earliestBehind_37 rfl ?_
        obtain ⟨v8, hv9, h⟩ := bnd h
        refine M_aldI (pc := 38) dX1_earliestBehind_38 (gr_1_2 hp ha).2 hv9 ?_
        refine M_icmp_ge (pc := 39) (tgt := 44) dX1_earliestBehind_39 (by decide) (fun hc10 => ?_) (fun hc10 => ?_)
        · have h := (if_pos hc10).symm.trans h
          refine M_iinc (pc := 44) (v := (x3 + (1 : Int32))) (ls' := [some (.ref a), some (.int x1), some (.int x2), some (.int (x3 + (1 : Int32)))]) dX1_earliestBehind_44 rfl rfl (by decide) rfl ?_
          refine M_goto (pc := 47) (tgt := 4) dX1_earliestBehind_47 (by decide) ?_
          exact ih x2 (x3 + (1 : Int32)) _ h
        · have h := (if_neg hc10).symm.trans h
          refine M_iload_n (pc := 42) dX1_earliestBehind_42 rfl ?_
          refine M_istore_n (pc := 43) (ls' := [some (.ref a), some (.int x1), some (.int x3), some (.int x3)]) dX1_earliestBehind_43 (by decide) rfl ?_
          refine M_iinc (pc := 44) (v := (x3 + (1 : Int32))) (ls' := [some (.ref a), some (.int x1), some (.int x3), some (.int (x3 + (1 : Int32)))]) dX1_earliestBehind_44 rfl rfl (by decide) rfl ?_
          refine M_goto (pc := 47) (tgt := 4) dX1_earliestBehind_47 (by decide) ?_
          exact ih x3 (x3 + (1 : Int32)) _ h
set_option maxRecDepth 4000 in
set_option maxHeartbeats 4000000 in
theorem C_X1_earliestBehind {g : gX} {d : Nat} {P : Nat → Nat → Option Nat} {I : HI} {a : Nat} {x1 : Int32} {J : HJ} (hp : Wp P) (ha : OB NT a 1) {r : Int32} (h : F_X1_earliestBehind I a x1 = some r) : Cm g mX1_earliestBehind (d + 0) [.ref a, .int x1] (NT, I, J, P) (some (.int r)) (NT, I, J, P) := by
  unfold F_X1_earliestBehind at h
  refine Cm.of (by decide) (by simp [Value.category]) (Nat.le_of_ble_eq_true rfl) (Nat.le_refl _) (ls := [some (.ref a), some (.int x1), none, none]) rfl ?_
  refine M_iconst (pc := 0) (v := -1) dX1_earliestBehind_0 (by decide) ?_
  refine M_istore_n (pc := 1) (ls' := [some (.ref a), some (.int x1), some (.int (-1 : Int32)), none]) dX1_earliestBehind_1 (by decide) rfl ?_
  refine M_iconst (pc := 2) (v := 0) dX1_earliestBehind_2 (by decide) ?_
  refine M_istore_n (pc := 3) (ls' := [some (.ref a), some (.int x1), some (.int (-1 : Int32)), some (.int (0 : Int32))]) dX1_earliestBehind_3 (by decide) rfl ?_
  exact LC_X1_earliestBehind_4 (P := P) hp ha (-1 : Int32) (0 : Int32) _ h
def L_X1_firstIn_5 (I : HI) (a : Nat) (x1 : Int32) (x2 : Int32) (x3 : Int32) (x4 : Int32) : Option (Int32) :=
  if (I a 0) ≤ x4 then some x3 else (ald 12 (I (a + 2)) x4) >>= fun v2 => if v2 = (-1 : Int32) then L_X1_firstIn_5 I a x1 x2 x3 (x4 + (1 : Int32)) else (ald 12 (I (a + 2)) x4) >>= fun v5 => if v5 < x1 then L_X1_firstIn_5 I a x1 x2 x3 (x4 + (1 : Int32)) else (ald 12 (I (a + 2)) x4) >>= fun v8 => if x2 < v8 then L_X1_firstIn_5 I a x1 x2 x3 (x4 + (1 : Int32)) else L_X1_firstIn_5 I a x1 x2 (x3 ||| ((1 : Int32) <<< (x4 &&& 31))) (x4 + (1 : Int32))
partial_fixpoint
def F_X1_firstIn (I : HI) (a : Nat) (x1 : Int32) (x2 : Int32) : Option (Int32) :=
  L_X1_firstIn_5 I a x1 x2 (0 : Int32) (0 : Int32)
set_option maxRecDepth 4000 in
set_option maxHeartbeats 4000000 in
theorem LC_X1_firstIn_5 {g : gX} {d : Nat} {P : Nat → Nat → Option Nat} {J : HJ} {I : HI} {a : Nat} {x1 : Int32} {x2 : Int32} (hp : Wp P) (ha : OB NT a 1) : ∀ (x3 : Int32) (x4 : Int32) (r : Int32), L_X1_firstIn_5 I a x1 x2 x3 x4 = some r → M g mX1_firstIn (d + 0) (NT, NT, 0) ((.inl (some (.int r))), (NT, I, J, P)) 5 [some (.ref a), some (.int x1), some (.int x2), some (.int x3), some (.int x4)] [] (NT, I, J, P) := by
  refine L_X1_firstIn_5.partial_correctness I a x1 x2 (fun x3 x4 r => M g mX1_firstIn (d + 0) (NT, NT, 0) ((.inl (some (.int r))), (NT, I, J, P)) 5 [some (.ref a), some (.int x1), some (.int x2), some (.int x3), some (.int x4)] [] (NT, I, J, P)) ?_
  intro f ih x3 x4 r h
  refine M_iload (pc := 5) dX1_firstIn_5 rfl ?_
  refine M_aload_n (pc := 7) dX1_firstIn_7 rfl ?_
  refine M_getI (pc := 8) dX1_firstIn_8 f_X1_9 ha ?_
  refine M_icmp_ge (pc := 11) (tgt := 60) dX1_firstIn_11 (by decide) (fun hc1 => ?_) (fun hc1 => ?_)
  · have h := (if_pos hc1).symm.trans h
    refine M_iload_n (pc := 60) dX1_firstIn_60 rfl ?_
    obtain rfl := Option.some.inj h
    exact M_iret (pc := 61) dX1_firstIn_61 rfl rfl rfl rfl
  · have h := (if_neg hc1).symm.trans h
    refine M_aload_n (pc := 14) dX1_firstIn_14 rfl ?_
    refine M_getR (pc := 15) dX1_firstIn_15 f_X1_19 ha (gr_1_2 hp ha).1 ?_
    refine M_iload (pc := 18) dX1_firstIn_18 rfl ?_
    obtain ⟨v2, hv3, h⟩ := bnd h
    refine M_aldI (pc := 20) dX1_firstIn_20 (gr_1_2 hp ha).2 hv3 ?_
    refine M_iconst (pc := 21) (v := -1) dX1_firstIn_21 (by decide) ?_
    refine M_icmp_eq (pc := 22) (tgt := 54) dX1_firstIn_22 (by decide) (fun hc4 => ?_) (fun hc4 => ?_)
    · have h := (if_pos hc4).symm.trans h
      refine M_iinc (pc := 54) (v := (x4 + (1 : Int32))) (ls' := [some (.ref a), some (.int x1), some (.int x2), some (.int x3), some (.int (x4 + (1 : Int32)))]) dX1_firstIn_54 rfl rfl (by decide) rfl ?_
      refine M_goto (pc := 57) (tgt := 5) dX1_firstIn_57 (by decide) ?_
      exact ih x3 (x4 + (1 : Int32)) _ h
    · have h := (if_neg hc4).symm.trans h
      refine M_aload_n (pc := 25) dX1_firstIn_25 rfl ?_
      refine M_getR (pc := 26) dX1_firstIn_26 f_X1_19 ha (gr_1_2 hp ha).1 ?_
      refine M_iload (pc := 29) dX1_firstIn_29 rfl ?_
      obtain ⟨v5, hv6, h⟩ := bnd h
      refine M_aldI (pc := 31) dX1_firstIn_31 (gr_1_2 hp ha).2 hv6 ?_
      refine M_iload_n (pc := 32) dX1_firstIn_32 rfl ?_
      refine M_icmp_lt (pc := 33) (tgt := 54) dX1_firstIn_33 (by decide) (fun hc7 => ?_) (fun hc7 => ?_)
      · have h := (if_pos hc7).symm.trans h
        refine M_iinc (pc := 54) (v := (x4 + (1 : Int32))) (ls' := [some (.ref a), some (.int x1), some (.int x2), some (.int x3), some (.int (x4 + (1 : Int32)))]) dX1_firstIn_54 rfl rfl (by decide) rfl ?_
        refine M_goto (pc := 57) (tgt := 5) dX1_firstIn_57 (by decide) ?_
        exact ih x3 (x4 + (1 : Int32)) _ h
      · have h := (if_neg hc7).symm.trans h
        refine M_aload_n (pc := 36) dX1_firstIn_36 rfl ?_
        refine M_getR (pc := 37) dX1_firstIn_37 f_X1_19 ha (gr_1_2 hp ha).1 ?_
        refine M_iload (pc := 40) dX1_firstIn_40 rfl ?_
        obtain ⟨v8, hv9, h⟩ := bnd h
        refine M_aldI (pc := 42) dX1_firstIn_42 (gr_1_2 hp ha).2 hv9 ?_
        refine M_iload_n (pc := 43) dX1_firstIn_43 rfl ?_
        refine M_icmp_gt (pc := 44) (tgt := 54) dX1_firstIn_44 (by decide) (fun hc10 => ?_) (fun hc10 => ?_)
        · have h := (if_pos hc10).symm.trans h
          refine M_iinc (pc := 54) (v := (x4 + (1 : Int32))) (ls' := [some (.ref a), some (.int x1), some (.int x2), some (.int x3), some (.int (x4 + (1 : Int32)))]) dX1_firstIn_54 rfl rfl (by decide) rfl ?_
          refine M_goto (pc := 57) (tgt := 5) dX1_firstIn_57 (by decide) ?_
          exact ih x3 (x4 + (1 : Int32)) _ h
        · have h := (if_neg hc10).symm.trans h
          refine M_iload_n (pc := 47) dX1_firstIn_47 rfl ?_
          refine M_iconst (pc := 48) (v := 1) dX1_firstIn_48 (by decide) ?_
          refine M_iload (pc := 49) dX1_firstIn_49 rfl ?_
          refine M_ishl (pc := 51) dX1_firstIn_51 ?_
          refine M_ior (pc := 52) dX1_firstIn_52 ?_
          refine M_istore_n (pc := 53) (ls' := [some (.ref a), some (.int x1), some (.int x2), some (.int (x3 ||| ((1 : Int32) <<< (x4 &&& 31)))), some (.int x4)]) dX1_firstIn_53 (by decide) rfl ?_
          refine M_iinc (pc := 54) (v := (x4 + (1 : Int32))) (ls' := [some (.ref a), some (.int x1), some (.int x2), some (.int (x3 ||| ((1 : Int32) <<< (x4 &&& 31)))), some (.int (x4 + (1 : Int32)))]) dX1_firstIn_54 rfl rfl (by decide) rfl ?_
          refine M_goto (pc := 57) (tgt := 5) dX1_firstIn_57 (by decide) ?_
          exact ih (x3 ||| ((1 : Int32) <<< (x4 &&& 31))) (x4 + (1 : Int32)) _ h
set_option maxRecDepth 4000 in
set_option maxHeartbeats 4000000 in
theorem C_X1_firstIn {g : gX} {d : Nat} {P : Nat → Nat → Option Nat} {I : HI} {a : Nat} {x1 : Int32} {x2 : Int32} {J : HJ} (hp : Wp P) (ha : OB NT a 1) {r : Int32} (h : F_X1_firstIn I a x1 x2 = some r) : Cm g mX1_firstIn (d + 0) [.ref a, .int x1, .int x2] (NT, I, J, P) (some (.int r)) (NT, I, J, P) := by
  unfold F_X1_firstIn at h
  refine Cm.of (by decide) (by simp [Value.category]) (Nat.le_of_ble_eq_true rfl) (Nat.le_refl _) (ls := [some (.ref a), some (.int x1), some (.int x2), none, none]) rfl ?_
  refine M_iconst (pc := 0) (v := 0) dX1_firstIn_0 (by decide) ?_
  refine M_istore_n (pc := 1) (ls' := [some (.ref a), some (.int x1), some (.int x2), some (.int (0 : Int32)), none]) dX1_firstIn_1 (by decide) rfl ?_
  refine M_iconst (pc := 2) (v := 0) dX1_firstIn_2 (by decide) ?_
  refine M_istore (pc := 3) (ls' := [some (.ref a), some (.int x1), some (.int x2), some (.int (0 : Int32)), some (.int (0 : Int32))]) dX1_firstIn_3 (by decide) rfl ?_
  exact LC_X1_firstIn_5 (P := P) hp ha (0 : Int32) (0 : Int32) _ h
def F_X1_inDecade (I : HI) (a : Nat) (x1 : Int32) : Option (Int32) :=
  if 0 ≤ x1 then (F_X1_firstIn I a (x1 * (10 : Int32)) ((x1 * (10 : Int32)) + (9 : Int32))) >>= fun r2 => some r2 else some (0 : Int32)
set_option maxRecDepth 4000 in
set_option maxHeartbeats 4000000 in
theorem C_X1_inDecade {g : gX} {d : Nat} {P : Nat → Nat → Option Nat} {I : HI} {a : Nat} {x1 : Int32} {J : HJ} (hp : Wp P) (ha : OB NT a 1) {r : Int32} (h : F_X1_inDecade I a x1 = some r) : Cm g mX1_inDecade (d + 1) [.ref a, .int x1] (NT, I, J, P) (some (.int r)) (NT, I, J, P) := by
  unfold F_X1_inDecade at h
  refine Cm.of (by decide) (by simp [Value.category]) (Nat.le_of_ble_eq_true rfl) (Nat.le_refl _) (ls := [some (.ref a), some (.int x1)]) rfl ?_
  refine M_iload_n (pc := 0) dX1_inDecade_0 rfl ?_
  refine M_if_ge (pc := 1) (tgt := 8) dX1_inDecade_1 (by decide) (fun hc1 => ?_) (fun hc1 => ?_)
  · have h := (if_pos hc1).symm.trans h
    refine M_aload_n (pc := 8) dX1_inDecade_8 rfl ?_
    refine M_iload_n (pc := 9) dX1_inDecade_9 rfl ?_
    refine M_bipush (pc := 10) (v := 10) dX1_inDecade_10 (by decide) ?_
    refine M_imul (pc := 12) dX1_inDecade_12 ?_
    refine M_iload_n (pc := 13) dX1_inDecade_13 rfl ?_
    refine M_bipush (pc := 14) (v := 10) dX1_inDecade_14 (by decide) ?_
    refine M_imul (pc := 16) dX1_inDecade_16 ?_
    refine M_bipush (pc := 17) (v := 9) dX1_inDecade_17 (by decide) ?_
    refine M_iadd (pc := 19) dX1_inDecade_19 ?_
    obtain ⟨r2, hr3, h⟩ := bnd h
    refine M_callVi (pc := 20) dX1_inDecade_20 v_X1_32 rfl rfl ha (Nat.le_of_ble_eq_true rfl) (C_X1_firstIn (d := d + 0) hp ha hr3) (Nat.le_refl _) ?_
    obtain rfl := Option.some.inj h
    exact M_iret (pc := 23) dX1_inDecade_23 rfl rfl rfl rfl
  · have h := (if_neg hc1).symm.trans h
    refine M_iconst (pc := 4) (v := 0) dX1_inDecade_4 (by decide) ?_
    refine M_goto (pc := 5) (tgt := 23) dX1_inDecade_5 (by decide) ?_
    obtain rfl := Option.some.inj h
    exact M_iret (pc := 23) dX1_inDecade_23 rfl rfl rfl rfl
def F_X1_inAge (I : HI) (a : Nat) (x1 : Int32) : Option (Int32) :=
  (F_X1_firstIn I a (x1 * (100 : Int32)) ((x1 * (100 : Int32)) + (99 : Int32))) >>= fun r1 => some r1
set_option maxRecDepth 4000 in
set_option maxHeartbeats 4000000 in
theorem C_X1_inAge {g : gX} {d : Nat} {P : Nat → Nat → Option Nat} {I : HI} {a : Nat} {x1 : Int32} {J : HJ} (hp : Wp P) (ha : OB NT a 1) {r : Int32} (h : F_X1_inAge I a x1 = some r) : Cm g mX1_inAge (d + 1) [.ref a, .int x1] (NT, I, J, P) (some (.int r)) (NT, I, J, P) := by
  unfold F_X1_inAge at h
  refine Cm.of (by decide) (by simp [Value.category]) (Nat.le_of_ble_eq_true rfl) (Nat.le_refl _) (ls := [some (.ref a), some (.int x1)]) rfl ?_
  refine M_aload_n (pc := 0) dX1_inAge_0 rfl ?_
  refine M_iload_n (pc := 1) dX1_inAge_1 rfl ?_
  refine M_bipush (pc := 2) (v := 100) dX1_inAge_2 (by decide) ?_
  refine M_imul (pc := 4) dX1_inAge_4 ?_
  refine M_iload_n (pc := 5) dX1_inAge_5 rfl ?_
  refine M_bipush (pc := 6) (v := 100) dX1_inAge_6 (by decide) ?_
  refine M_imul (pc := 8) dX1_inAge_8 ?_
  refine M_bipush (pc := 9) (v := 99) dX1_inAge_9 (by decide) ?_
  refine M_iadd (pc := 11) dX1_inAge_11 ?_
  obtain ⟨r1, hr2, h⟩ := bnd h
  refine M_callVi (pc := 12) dX1_inAge_12 v_X1_32 rfl rfl ha (Nat.le_of_ble_eq_true rfl) (C_X1_firstIn (d := d + 0) hp ha hr2) (Nat.le_refl _) ?_
  obtain rfl := Option.some.inj h
  exact M_iret (pc := 15) dX1_inAge_15 rfl rfl rfl rfl
def L_X1_leastOfAge_8 (I : HI) (a : Nat) (x2 : Int32) (x3 : Int32) : Option (Int32) :=
  if (I a 0) ≤ x3 then some (-1 : Int32) else if ((x2 >>> (x3 &&& 31)) &&& (1 : Int32)) = 0 then L_X1_leastOfAge_8 I a x2 (x3 + (1 : Int32)) else some x3
partial_fixpoint
def F_X1_leastOfAge (I : HI) (a : Nat) (x1 : Int32) : Option (Int32) :=
  (F_X1_inAge I a x1) >>= fun r1 => L_X1_leastOfAge_8 I a r1 (0 : Int32)
set_option maxRecDepth 4000 in
set_option maxHeartbeats 4000000 in
theorem LC_X1_leastOfAge_8 {g : gX} {d : Nat} {P : Nat → Nat → Option Nat} {J : HJ} {I : HI} {a : Nat} {x2 : Int32} (hp : Wp P) (ha : OB NT a 1) : ∀ (x3 : Int32) (r : Int32), L_X1_leastOfAge_8 I a x2 x3 = some r → M g mX1_leastOfAge (d + 2) (NT, NT, 0) ((.inl (some (.int r))), (NT, I, J, P)) 8 [some (.ref a), none, some (.int x2), some (.int x3)] [] (NT, I, J, P) := by
  refine L_X1_leastOfAge_8.partial_correctness I a x2 (fun x3 r => M g mX1_leastOfAge (d + 2) (NT, NT, 0) ((.inl (some (.int r))), (NT, I, J, P)) 8 [some (.ref a), none, some (.int x2), some (.int x3)] [] (NT, I, J, P)) ?_
  intro f ih x3 r h
  refine M_iload_n (pc := 8) dX1_leastOfAge_8 rfl ?_
  refine M_aload_n (pc := 9) dX1_leastOfAge_9 rfl ?_
  refine M_getI (pc := 10) dX1_leastOfAge_10 f_X1_9 ha ?_
  refine M_icmp_ge (pc := 13) (tgt := 32) dX1_leastOfAge_13 (by decide) (fun hc3 => ?_) (fun hc3 => ?_)
  · have h := (if_pos hc3).symm.trans h
    refine M_iconst (pc := 32) (v := -1) dX1_leastOfAge_32 (by decide) ?_
    obtain rfl := Option.some.inj h
    exact M_iret (pc := 33) dX1_leastOfAge_33 rfl rfl rfl rfl
  · have h := (if_neg hc3).symm.trans h
    refine M_iload_n (pc := 16) dX1_leastOfAge_16 rfl ?_
    refine M_iload_n (pc := 17) dX1_leastOfAge_17 rfl ?_
    refine M_ishr (pc := 18) dX1_leastOfAge_18 ?_
    refine M_iconst (pc := 19) (v := 1) dX1_leastOfAge_19 (by decide) ?_
    refine M_iand (pc := 20) dX1_leastOfAge_20 ?_
    refine M_if_eq (pc := 21) (tgt := 26) dX1_leastOfAge_21 (by decide) (fun hc4 => ?_) (fun hc4 => ?_)
    · have h := (if_pos hc4).symm.trans h
      refine M_iinc (pc := 26) (v := (x3 + (1 : Int32))) (ls' := [some (.ref a), none, some (.int x2), some (.int (x3 + (1 : Int32)))]) dX1_leastOfAge_26 rfl rfl (by decide) rfl ?_
      refine M_goto (pc := 29) (tgt := 8) dX1_leastOfAge_29 (by decide) ?_
      exact ih (x3 + (1 : Int32)) _ h
    · have h := (if_neg hc4).symm.trans h
      refine M_iload_n (pc := 24) dX1_leastOfAge_24 rfl ?_
      obtain rfl := Option.some.inj h
      exact M_iret (pc := 25) dX1_leastOfAge_25 rfl rfl rfl rfl
set_option maxRecDepth 4000 in
set_option maxHeartbeats 4000000 in
theorem C_X1_leastOfAge {g : gX} {d : Nat} {P : Nat → Nat → Option Nat} {I : HI} {a : Nat} {x1 : Int32} {J : HJ} (hp : Wp P) (ha : OB NT a 1) {r : Int32} (h : F_X1_leastOfAge I a x1 = some r) : Cm g mX1_leastOfAge (d + 2) [.ref a, .int x1] (NT, I, J, P) (some (.int r)) (NT, I, J, P) := by
  unfold F_X1_leastOfAge at h
  refine Cm.of (by decide) (by simp [Value.category]) (Nat.le_of_ble_eq_true rfl) (Nat.le_refl _) (ls := [some (.ref a), some (.int x1), none, none]) rfl ?_
  refine M_aload_n (pc := 0) dX1_leastOfAge_0 rfl ?_
  refine M_iload_n (pc := 1) dX1_leastOfAge_1 rfl ?_
  obtain ⟨r1, hr2, h⟩ := bnd h
  refine M_callVi (pc := 2) dX1_leastOfAge_2 v_X1_42 rfl rfl ha (Nat.le_of_ble_eq_true rfl) (C_X1_inAge (d := d + 0) hp ha hr2) (Nat.le_refl _) ?_
  refine M_istore_n (pc := 5) (ls' := [some (.ref a), some (.int x1), some (.int r1), none]) dX1_leastOfAge_5 (by decide) rfl ?_
  refine M_iconst (pc := 6) (v := 0) dX1_leastOfAge_6 (by decide) ?_
  refine M_istore_n (pc := 7) (ls' := [some (.ref a), some (.int x1), some (.int r1), some (.int (0 : Int32))]) dX1_leastOfAge_7 (by decide) rfl ?_
  refine M_mask (pc := 8) [true, false, true, true] rfl ?_
  exact LC_X1_leastOfAge_8 (P := P) hp ha (0 : Int32) _ h
def L_X1_hadAt_4 (I : HI) (a : Nat) (x1 : Int32) (x2 : Int32) (x3 : Int32) : Option (Int32) :=
  if (I a 0) ≤ x3 then some x2 else (ald 12 (I (a + 2)) x3) >>= fun v2 => if v2 = (-1 : Int32) then L_X1_hadAt_4 I a x1 x2 (x3 + (1 : Int32)) else (ald 12 (I (a + 3)) x3) >>= fun v5 => if v5 = x1 then L_X1_hadAt_4 I a x1 (x2 ||| ((1 : Int32) <<< (x3 &&& 31))) (x3 + (1 : Int32)) else L_X1_hadAt_4 I a x1 x2 (x3 + (1 : Int32))
partial_fixpoint
def F_X1_hadAt (I : HI) (a : Nat) (x1 : Int32) : Option (Int32) :=
  L_X1_hadAt_4 I a x1 (0 : Int32) (0 : Int32)
set_option maxRecDepth 4000 in
set_option maxHeartbeats 4000000 in
theorem LC_X1_hadAt_4 {g : gX} {d : Nat} {P : Nat → Nat → Option Nat} {J : HJ} {I : HI} {a : Nat} {x1 : Int32} (hp : Wp P) (ha : OB NT a 1) : ∀ (x2 : Int32) (x3 : Int32) (r : Int32), L_X1_hadAt_4 I a x1 x2 x3 = some r → M g mX1_hadAt (d + 0) (NT, NT, 0) ((.inl (some (.int r))), (NT, I, J, P)) 4 [some (.ref a), some (.int x1), some (.int x2), some (.int x3)] [] (NT, I, J, P) := by
  refine L_X1_hadAt_4.partial_correctness I a x1 (fun x2 x3 r => M g mX1_hadAt (d + 0) (NT, NT, 0) ((.inl (some (.int r))), (NT, I, J, P)) 4 [some (.ref a), some (.int x1), some (.int x2), some (.int x3)] [] (NT, I, J, P)) ?_
  intro f ih x2 x3 r h
  refine M_iload_n (pc := 4) dX1_hadAt_4 rfl ?_
  refine M_aload_n (pc := 5) dX1_hadAt_5 rfl ?_
  refine M_getI (pc := 6) dX1_hadAt_6 f_X1_9 ha ?_
  refine M_icmp_ge (pc := 9) (tgt := 44) dX1_hadAt_9 (by decide) (fun hc1 => ?_) (fun hc1 => ?_)
  · have h := (if_pos hc1).symm.trans h
    refine M_iload_n (pc := 44) dX1_hadAt_44 rfl ?_
    obtain rfl := Option.some.inj h
    exact M_iret (pc := 45) dX1_hadAt_45 rfl rfl rfl rfl
  · have h := (if_neg hc1).symm.trans h
    refine M_aload_n (pc := 12) dX1_hadAt_12 rfl ?_
    refine M_getR (pc := 13) dX1_hadAt_13 f_X1_19 ha (gr_1_2 hp ha).1 ?_
    refine M_iload_n (pc := 16) dX1_hadAt_16 rfl ?_
    obtain ⟨v2, hv3, h⟩ := bnd h
    refine M_aldI (pc := 17) dX1_hadAt_17 (gr_1_2 hp ha).2 hv3 ?_
    refine M_iconst (pc := 18) (v := -1) dX1_hadAt_18 (by decide) ?_
    refine M_icmp_eq (pc := 19) (tgt := 38) dX1_hadAt_19 (by decide) (fun hc4 => ?_) (fun hc4 => ?_)
    · have h := (if_pos hc4).symm.trans h
      refine M_iinc (pc := 38) (v := (x3 + (1 : Int32))) (ls' := [some (.ref a), some (.int x1), some (.int x2), some (.int (x3 + (1 : Int32)))]) dX1_hadAt_38 rfl rfl (by decide) rfl ?_
      refine M_goto (pc := 41) (tgt := 4) dX1_hadAt_41 (by decide) ?_
      exact ih x2 (x3 + (1 : Int32)) _ h
    · have h := (if_neg hc4).symm.trans h
      refine M_aload_n (pc := 22) dX1_hadAt_22 rfl ?_
      refine M_getR (pc := 23) dX1_hadAt_23 f_X1_22 ha (gr_1_3 hp ha).1 ?_
      refine M_iload_n (pc := 26) dX1_hadAt_26 rfl ?_
      obtain ⟨v5, hv6, h⟩ := bnd h
      refine M_aldI (pc := 27) dX1_hadAt_27 (gr_1_3 hp ha).2 hv6 ?_
      refine M_iload_n (pc := 28) dX1_hadAt_28 rfl ?_
      refine M_icmp_ne (pc := 29) (tgt := 38) dX1_hadAt_29 (by decide) (fun hc7 => ?_) (fun hc7 => ?_)
      · have h := (if_neg hc7).symm.trans h
        refine M_iinc (pc := 38) (v := (x3 + (1 : Int32))) (ls' := [some (.ref a), some (.int x1), some (.int x2), some (.int (x3 + (1 : Int32)))]) dX1_hadAt_38 rfl rfl (by decide) rfl ?_
        refine M_goto (pc := 41) (tgt := 4) dX1_hadAt_41 (by decide) ?_
        exact ih x2 (x3 + (1 : Int32)) _ h
      · have h := (if_pos hc7).symm.trans h
        refine M_iload_n (pc := 32) dX1_hadAt_32 rfl ?_
        refine M_iconst (pc := 33) (v := 1) dX1_hadAt_33 (by decide) ?_
        refine M_iload_n (pc := 34) dX1_hadAt_34 rfl ?_
        refine M_ishl (pc := 35) dX1_hadAt_35 ?_
        refine M_ior (pc := 36) dX1_hadAt_36 ?_
        refine M_istore_n (pc := 37) (ls' := [some (.ref a), some (.int x1), some (.int (x2 ||| ((1 : Int32) <<< (x3 &&& 31)))), some (.int x3)]) dX1_hadAt_37 (by decide) rfl ?_
        refine M_iinc (pc := 38) (v := (x3 + (1 : Int32))) (ls' := [some (.ref a), some (.int x1), some (.int (x2 ||| ((1 : Int32) <<< (x3 &&& 31)))), some (.int (x3 + (1 : Int32)))]) dX1_hadAt_38 rfl rfl (by decide) rfl ?_
        refine M_goto (pc := 41) (tgt := 4) dX1_hadAt_41 (by decide) ?_
        exact ih (x2 ||| ((1 : Int32) <<< (x3 &&& 31))) (x3 + (1 : Int32)) _ h
set_option maxRecDepth 4000 in
set_option maxHeartbeats 4000000 in
theorem C_X1_hadAt {g : gX} {d : Nat} {P : Nat → Nat → Option Nat} {I : HI} {a : Nat} {x1 : Int32} {J : HJ} (hp : Wp P) (ha : OB NT a 1) {r : Int32} (h : F_X1_hadAt I a x1 = some r) : Cm g mX1_hadAt (d + 0) [.ref a, .int x1] (NT, I, J, P) (some (.int r)) (NT, I, J, P) := by
  unfold F_X1_hadAt at h
  refine Cm.of (by decide) (by simp [Value.category]) (Nat.le_of_ble_eq_true rfl) (Nat.le_refl _) (ls := [some (.ref a), some (.int x1), none, none]) rfl ?_
  refine M_iconst (pc := 0) (v := 0) dX1_hadAt_0 (by decide) ?_
  refine M_istore_n (pc := 1) (ls' := [some (.ref a), some (.int x1), some (.int (0 : Int32)), none]) dX1_hadAt_1 (by decide) rfl ?_
  refine M_iconst (pc := 2) (v := 0) dX1_hadAt_2 (by decide) ?_
  refine M_istore_n (pc := 3) (ls' := [some (.ref a), some (.int x1), some (.int (0 : Int32)), some (.int (0 : Int32))]) dX1_hadAt_3 (by decide) rfl ?_
  exact LC_X1_hadAt_4 (P := P) hp ha (0 : Int32) (0 : Int32) _ h
def L_X1_hadWith_4 (I : HI) (a : Nat) (x1 : Int32) (x2 : Int32) (x3 : Int32) : Option (Int32) :=
  if (I a 0) ≤ x3 then some x2 else (ald 12 (I (a + 2)) x3) >>= fun v2 => if v2 = (-1 : Int32) then L_X1_hadWith_4 I a x1 x2 (x3 + (1 : Int32)) else (ald 12 (I (a + 4)) x3) >>= fun v5 => if v5 = x1 then L_X1_hadWith_4 I a x1 (x2 ||| ((1 : Int32) <<< (x3 &&& 31))) (x3 + (1 : Int32)) else L_X1_hadWith_4 I a x1 x2 (x3 + (1 : Int32))
partial_fixpoint
def F_X1_hadWith (I : HI) (a : Nat) (x1 : Int32) : Option (Int32) :=
  L_X1_hadWith_4 I a x1 (0 : Int32) (0 : Int32)
set_option maxRecDepth 4000 in
set_option maxHeartbeats 4000000 in
theorem LC_X1_hadWith_4 {g : gX} {d : Nat} {P : Nat → Nat → Option Nat} {J : HJ} {I : HI} {a : Nat} {x1 : Int32} (hp : Wp P) (ha : OB NT a 1) : ∀ (x2 : Int32) (x3 : Int32) (r : Int32), L_X1_hadWith_4 I a x1 x2 x3 = some r → M g mX1_hadWith (d + 0) (NT, NT, 0) ((.inl (some (.int r))), (NT, I, J, P)) 4 [some (.ref a), some (.int x1), some (.int x2), some (.int x3)] [] (NT, I, J, P) := by
  refine L_X1_hadWith_4.partial_correctness I a x1 (fun x2 x3 r => M g mX1_hadWith (d + 0) (NT, NT, 0) ((.inl (some (.int r))), (NT, I, J, P)) 4 [some (.ref a), some (.int x1), some (.int x2), some (.int x3)] [] (NT, I, J, P)) ?_
  intro f ih x2 x3 r h
  refine M_iload_n (pc := 4) dX1_hadWith_4 rfl ?_
  refine M_aload_n (pc := 5) dX1_hadWith_5 rfl ?_
  refine M_getI (pc := 6) dX1_hadWith_6 f_X1_9 ha ?_
  refine M_icmp_ge (pc := 9) (tgt := 44) dX1_hadWith_9 (by decide) (fun hc1 => ?_) (fun hc1 => ?_)
  · have h := (if_pos hc1).symm.trans h
    refine M_iload_n (pc := 44) dX1_hadWith_44 rfl ?_
    obtain rfl := Option.some.inj h
    exact M_iret (pc := 45) dX1_hadWith_45 rfl rfl rfl rfl
  · have h := (if_neg hc1).symm.trans h
    refine M_aload_n (pc := 12) dX1_hadWith_12 rfl ?_
    refine M_getR (pc := 13) dX1_hadWith_13 f_X1_19 ha (gr_1_2 hp ha).1 ?_
    refine M_iload_n (pc := 16) dX1_hadWith_16 rfl ?_
    obtain ⟨v2, hv3, h⟩ := bnd h
    refine M_aldI (pc := 17) dX1_hadWith_17 (gr_1_2 hp ha).2 hv3 ?_
    refine M_iconst (pc := 18) (v := -1) dX1_hadWith_18 (by decide) ?_
    refine M_icmp_eq (pc := 19) (tgt := 38) dX1_hadWith_19 (by decide) (fun hc4 => ?_) (fun hc4 => ?_)
    · have h := (if_pos hc4).symm.trans h
      refine M_iinc (pc := 38) (v := (x3 + (1 : Int32))) (ls' := [some (.ref a), some (.int x1), some (.int x2), some (.int (x3 + (1 : Int32)))]) dX1_hadWith_38 rfl rfl (by decide) rfl ?_
      refine M_goto (pc := 41) (tgt := 4) dX1_hadWith_41 (by decide) ?_
      exact ih x2 (x3 + (1 : Int32)) _ h
    · have h := (if_neg hc4).symm.trans h
      refine M_aload_n (pc := 22) dX1_hadWith_22 rfl ?_
      refine M_getR (pc := 23) dX1_hadWith_23 f_X1_25 ha (gr_1_4 hp ha).1 ?_
      refine M_iload_n (pc := 26) dX1_hadWith_26 rfl ?_
      obtain ⟨v5, hv6, h⟩ := bnd h
      refine M_aldI (pc := 27) dX1_hadWith_27 (gr_1_4 hp ha).2 hv6 ?_
      refine M_iload_n (pc := 28) dX1_hadWith_28 rfl ?_
      refine M_icmp_ne (pc := 29) (tgt := 38) dX1_hadWith_29 (by decide) (fun hc7 => ?_) (fun hc7 => ?_)
      · have h := (if_neg hc7).symm.trans h
        refine M_iinc (pc := 38) (v := (x3 + (1 : Int32))) (ls' := [some (.ref a), some (.int x1), some (.int x2), some (.int (x3 + (1 : Int32)))]) dX1_hadWith_38 rfl rfl (by decide) rfl ?_
        refine M_goto (pc := 41) (tgt := 4) dX1_hadWith_41 (by decide) ?_
        exact ih x2 (x3 + (1 : Int32)) _ h
      · have h := (if_pos hc7).symm.trans h
        refine M_iload_n (pc := 32) dX1_hadWith_32 rfl ?_
        refine M_iconst (pc := 33) (v := 1) dX1_hadWith_33 (by decide) ?_
        refine M_iload_n (pc := 34) dX1_hadWith_34 rfl ?_
        refine M_ishl (pc := 35) dX1_hadWith_35 ?_
        refine M_ior (pc := 36) dX1_hadWith_36 ?_
        refine M_istore_n (pc := 37) (ls' := [some (.ref a), some (.int x1), some (.int (x2 ||| ((1 : Int32) <<< (x3 &&& 31)))), some (.int x3)]) dX1_hadWith_37 (by decide) rfl ?_
        refine M_iinc (pc := 38) (v := (x3 + (1 : Int32))) (ls' := [some (.ref a), some (.int x1), some (.int (x2 ||| ((1 : Int32) <<< (x3 &&& 31)))), some (.int (x3 + (1 : Int32)))]) dX1_hadWith_38 rfl rfl (by decide) rfl ?_
        refine M_goto (pc := 41) (tgt := 4) dX1_hadWith_41 (by decide) ?_
        exact ih (x2 ||| ((1 : Int32) <<< (x3 &&& 31))) (x3 + (1 : Int32)) _ h
set_option maxRecDepth 4000 in
set_option maxHeartbeats 4000000 in
theorem C_X1_hadWith {g : gX} {d : Nat} {P : Nat → Nat → Option Nat} {I : HI} {a : Nat} {x1 : Int32} {J : HJ} (hp : Wp P) (ha : OB NT a 1) {r : Int32} (h : F_X1_hadWith I a x1 = some r) : Cm g mX1_hadWith (d + 0) [.ref a, .int x1] (NT, I, J, P) (some (.int r)) (NT, I, J, P) := by
  unfold F_X1_hadWith at h
  refine Cm.of (by decide) (by simp [Value.category]) (Nat.le_of_ble_eq_true rfl) (Nat.le_refl _) (ls := [some (.ref a), some (.int x1), none, none]) rfl ?_
  refine M_iconst (pc := 0) (v := 0) dX1_hadWith_0 (by decide) ?_
  refine M_istore_n (pc := 1) (ls' := [some (.ref a), some (.int x1), some (.int (0 : Int32)), none]) dX1_hadWith_1 (by decide) rfl ?_
  refine M_iconst (pc := 2) (v := 0) dX1_hadWith_2 (by decide) ?_
  refine M_istore_n (pc := 3) (ls' := [some (.ref a), some (.int x1), some (.int (0 : Int32)), some (.int (0 : Int32))]) dX1_hadWith_3 (by decide) rfl ?_
  exact LC_X1_hadWith_4 (P := P) hp ha (0 : Int32) (0 : Int32) _ h
def L_X1_companyIn_18 (I : HI) (a : Nat) (x3 : Int32) (x4 : Int32) (x5 : Int32) : Option (Int32) :=
  if (I a 0) ≤ x5 then some x4 else if ((x3 >>> (x5 &&& 31)) &&& (1 : Int32)) = 0 then L_X1_companyIn_18 I a x3 x4 (x5 + (1 : Int32)) else (ald 12 (I (a + 4)) x5) >>= fun v7 => if v7 = (-1 : Int32) then L_X1_companyIn_18 I a x3 x4 (x5 + (1 : Int32)) else (ald 12 (I (a + 4)) x5) >>= fun v10 => L_X1_companyIn_18 I a x3 (x4 ||| ((1 : Int32) <<< (v10 &&& 31))) (x5 + (1 : Int32))
partial_fixpoint
def F_X1_companyIn (I : HI) (a : Nat) (x1 : Int32) (x2 : Int32) : Option (Int32) :=
  (F_X1_inAge I a x1) >>= fun r1 => (F_X1_hadAt I a x2) >>= fun r3 => L_X1_companyIn_18 I a (r1 &&& r3) (0 : Int32) (0 : Int32)
set_option maxRecDepth 4000 in
set_option maxHeartbeats 4000000 in
theorem LC_X1_companyIn_18 {g : gX} {d : Nat} {P : Nat → Nat → Option Nat} {J : HJ} {I : HI} {a : Nat} {x3 : Int32} (hp : Wp P) (ha : OB NT a 1) : ∀ (x4 : Int32) (x5 : Int32) (r : Int32), L_X1_companyIn_18 I a x3 x4 x5 = some r → M g mX1_companyIn (d + 2) (NT, NT, 0) ((.inl (some (.int r))), (NT, I, J, P)) 18 [some (.ref a), none, none, some (.int x3), some (.int x4), some (.int x5)] [] (NT, I, J, P) := by
  refine L_X1_companyIn_18.partial_correctness I a x3 (fun x4 x5 r => M g mX1_companyIn (d + 2) (NT, NT, 0) ((.inl (some (.int r))), (NT, I, J, P)) 18 [some (.ref a), none, none, some (.int x3), some (.int x4), some (.int x5)] [] (NT, I, J, P)) ?_
  intro f ih x4 x5 r h
  refine M_iload (pc := 18) dX1_companyIn_18 rfl ?_
  refine M_aload_n (pc := 20) dX1_companyIn_20 rfl ?_
  refine M_getI (pc := 21) dX1_companyIn_21 f_X1_9 ha ?_
  refine M_icmp_ge (pc := 24) (tgt := 67) dX1_companyIn_24 (by decide) (fun hc5 => ?_) (fun hc5 => ?_)
  · have h := (if_pos hc5).symm.trans h
    refine M_iload (pc := 67) dX1_companyIn_67 rfl ?_
    obtain rfl := Option.some.inj h
    exact M_iret (pc := 69) dX1_companyIn_69 rfl rfl rfl rfl
  · have h := (if_neg hc5).symm.trans h
    refine M_iload_n (pc := 27) dX1_companyIn_27 rfl ?_
    refine M_iload (pc := 28) dX1_companyIn_28 rfl ?_
    refine M_ishr (pc := 30) dX1_companyIn_30 ?_
    refine M_iconst (pc := 31) (v := 1) dX1_companyIn_31 (by decide) ?_
    refine M_iand (pc := 32) dX1_companyIn_32 ?_
    refine M_if_eq (pc := 33) (tgt := 61) dX1_companyIn_33 (by decide) (fun hc6 => ?_) (fun hc6 => ?_)
    · have h := (if_pos hc6).symm.trans h
      refine M_iinc (pc := 61) (v := (x5 + (1 : Int32))) (ls' := [some (.ref a), none, none, some (.int x3), some (.int x4), some (.int (x5 + (1 : Int32)))]) dX1_companyIn_61 rfl rfl (by decide) rfl ?_
      refine M_goto (pc := 64) (tgt := 18) dX1_companyIn_64 (by decide) ?_
      exact ih x4 (x5 + (1 : Int32)) _ h
    · have h := (if_neg hc6).symm.trans h
      refine M_aload_n (pc := 36) dX1_companyIn_36 rfl ?_
      refine M_getR (pc := 37) dX1_companyIn_37 f_X1_25 ha (gr_1_4 hp ha).1 ?_
      refine M_iload (pc := 40) dX1_companyIn_40 rfl ?_
      obtain ⟨v7, hv8, h⟩ := bnd h
      refine M_aldI (pc := 42) dX1_companyIn_42 (gr_1_4 hp ha).2 hv8 ?_
      refine M_iconst (pc := 43) (v := -1) dX1_companyIn_43 (by decide) ?_
      refine M_icmp_eq (pc := 44) (tgt := 61) dX1_companyIn_44 (by decide) (fun hc9 => ?_) (fun hc9 => ?_)
      · have h := (if_pos hc9).symm.trans h
        refine M_iinc (pc := 61) (v := (x5 + (1 : Int32))) (ls' := [some (.ref a), none, none, some (.int x3), some (.int x4), some (.int (x5 + (1 : Int32)))]) dX1_companyIn_61 rfl rfl (by decide) rfl ?_
        refine M_goto (pc := 64) (tgt := 18) dX1_companyIn_64 (by decide) ?_
        exact ih x4 (x5 + (1 : Int32)) _ h
      · have h := (if_neg hc9).symm.trans h
        refine M_iload (pc := 47) dX1_companyIn_47 rfl ?_
        refine M_iconst (pc := 49) (v := 1) dX1_companyIn_49 (by decide) ?_
        refine M_aload_n (pc := 50) dX1_companyIn_50 rfl ?_
        refine M_getR (pc := 51) dX1_companyIn_51 f_X1_25 ha (gr_1_4 hp ha).1 ?_
        refine M_iload (pc := 54) dX1_companyIn_54 rfl ?_
        obtain ⟨v10, hv11, h⟩ := bnd h
        refine M_aldI (pc := 56) dX1_companyIn_56 (gr_1_4 hp ha).2 hv11 ?_
        refine M_ishl (pc := 57) dX1_companyIn_57 ?_
        refine M_ior (pc := 58) dX1_companyIn_58 ?_
        refine M_istore (pc := 59) (ls' := [some (.ref a), none, none, some (.int x3), some (.int (x4 ||| ((1 : Int32) <<< (v10 &&& 31)))), some (.int x5)]) dX1_companyIn_59 (by decide) rfl ?_
        refine M_iinc (pc := 61) (v := (x5 + (1 : Int32))) (ls' := [some (.ref a), none, none, some (.int x3), some (.int (x4 ||| ((1 : Int32) <<< (v10 &&& 31)))), some (.int (x5 + (1 : Int32)))]) dX1_companyIn_61 rfl rfl (by decide) rfl ?_
        refine M_goto (pc := 64) (tgt := 18) dX1_companyIn_64 (by decide) ?_
        exact ih (x4 ||| ((1 : Int32) <<< (v10 &&& 31))) (x5 + (1 : Int32)) _ h
set_option maxRecDepth 4000 in
set_option maxHeartbeats 4000000 in
theorem C_X1_companyIn {g : gX} {d : Nat} {P : Nat → Nat → Option Nat} {I : HI} {a : Nat} {x1 : Int32} {x2 : Int32} {J : HJ} (hp : Wp P) (ha : OB NT a 1) {r : Int32} (h : F_X1_companyIn I a x1 x2 = some r) : Cm g mX1_companyIn (d + 2) [.ref a, .int x1, .int x2] (NT, I, J, P) (some (.int r)) (NT, I, J, P) := by
  unfold F_X1_companyIn at h
  refine Cm.of (by decide) (by simp [Value.category]) (Nat.le_of_ble_eq_true rfl) (Nat.le_refl _) (ls := [some (.ref a), some (.int x1), some (.int x2), none, none, none]) rfl ?_
  refine M_aload_n (pc := 0) dX1_companyIn_0 rfl ?_
  refine M_iload_n (pc := 1) dX1_companyIn_1 rfl ?_
  obtain ⟨r1, hr2, h⟩ := bnd h
  refine M_callVi (pc := 2) dX1_companyIn_2 v_X1_42 rfl rfl ha (Nat.le_of_ble_eq_true rfl) (C_X1_inAge (d := d + 0) hp ha hr2) (Nat.le_refl _) ?_
  refine M_aload_n (pc := 5) dX1_companyIn_5 rfl ?_
  refine M_iload_n (pc := 6) dX1_companyIn_6 rfl ?_
  obtain ⟨r3, hr4, h⟩ := bnd h
  refine M_callVi (pc := 7) dX1_companyIn_7 v_X1_46 rfl rfl ha (Nat.le_of_ble_eq_true rfl) (C_X1_hadAt (d := d + 1) hp ha hr4) (Nat.le_refl _) ?_
  refine M_iand (pc := 10) dX1_companyIn_10 ?_
  refine M_istore_n (pc := 11) (ls' := [some (.ref a), some (.int x1), some (.int x2), some (.int (r1 &&& r3)), none, none]) dX1_companyIn_11 (by decide) rfl ?_
  refine M_iconst (pc := 12) (v := 0) dX1_companyIn_12 (by decide) ?_
  refine M_istore (pc := 13) (ls' := [some (.ref a), some (.int x1), some (.int x2), some (.int (r1 &&& r3)), some (.int (0 : Int32)), none]) dX1_companyIn_13 (by decide) rfl ?_
  refine M_iconst (pc := 15) (v := 0) dX1_companyIn_15 (by decide) ?_
  refine M_istore (pc := 16) (ls' := [some (.ref a), some (.int x1), some (.int x2), some (.int (r1 &&& r3)), some (.int (0 : Int32)), some (.int (0 : Int32))]) dX1_companyIn_16 (by decide) rfl ?_
  refine M_mask (pc := 18) [true, false, false, true, true, true] rfl ?_
  exact LC_X1_companyIn_18 (P := P) hp ha (0 : Int32) (0 : Int32) _ h
def F_X1_tell (I : HI) (a : Nat) (x1 : Int32) (x2 : Int32) (x3 : Int32) (x4 : Int32) : Option (HI) :=
  (F_X1_has I a x1) >>= fun r1 => if r1 = 0 then some I else if inB x1 12 = true then if inB x1 12 = true then if inB x1 12 = true then some (up2 (up2 (up2 I (a + 2) (x1).toNatClampNeg x2) (a + 3) (x1).toNatClampNeg x3) (a + 4) (x1).toNatClampNeg x4) else none else none else none
set_option maxRecDepth 4000 in
set_option maxHeartbeats 4000000 in
theorem C_X1_tell {g : gX} {d : Nat} {P : Nat → Nat → Option Nat} {I : HI} {a : Nat} {x1 : Int32} {x2 : Int32} {x3 : Int32} {x4 : Int32} {J : HJ} (hp : Wp P) (ha : OB NT a 1) {r : HI} (h : F_X1_tell I a x1 x2 x3 x4 = some r) : Cm g mX1_tell (d + 1) [.ref a, .int x1, .int x2, .int x3, .int x4] (NT, I, J, P) none (NT, r, J, P) := by
  unfold F_X1_tell at h
  refine Cm.of (by decide) (by simp [Value.category]) (Nat.le_of_ble_eq_true rfl) (Nat.le_refl _) (ls := [some (.ref a), some (.int x1), some (.int x2), some (.int x3), some (.int x4)]) rfl ?_
  refine M_aload_n (pc := 0) dX1_tell_0 rfl ?_
  refine M_iload_n (pc := 1) dX1_tell_1 rfl ?_
  obtain ⟨r1, hr2, h⟩ := bnd h
  refine M_callVi (pc := 2) dX1_tell_2 v_X1_28 rfl rfl ha (Nat.le_of_ble_eq_true rfl) (C_X1_has (d := d + 0) hp ha hr2) (Nat.le_refl _) ?_
  refine M_if_eq (pc := 5) (tgt := 30) dX1_tell_5 (by decide) (fun hc3 => ?_) (fun hc3 => ?_)
  · have h := (if_pos hc3).symm.trans h
    obtain rfl := Option.some.inj h
    exact M_vret (pc := 30) dX1_tell_30 rfl rfl rfl
  · have h := (if_neg hc3).symm.trans h
    refine M_aload_n (pc := 8) dX1_tell_8 rfl ?_
    refine M_getR (pc := 9) dX1_tell_9 f_X1_19 ha (gr_1_2 hp ha).1 ?_
    refine M_iload_n (pc := 12) dX1_tell_12 rfl ?_
    refine M_iload_n (pc := 13) dX1_tell_13 rfl ?_
    obtain ⟨hb4, h⟩ := chk h
    refine M_iast (pc := 14) dX1_tell_14 (gr_1_2 hp ha).2 (inB_in hb4) ?_
    refine M_aload_n (pc := 15) dX1_tell_15 rfl ?_
    refine M_getR (pc := 16) dX1_tell_16 f_X1_22 ha (gr_1_3 hp ha).1 ?_
    refine M_iload_n (pc := 19) dX1_tell_19 rfl ?_
    refine M_iload_n (pc := 20) dX1_tell_20 rfl ?_
    obtain ⟨hb5, h⟩ := chk h
    refine M_iast (pc := 21) dX1_tell_21 (gr_1_3 hp ha).2 (inB_in hb5) ?_
    refine M_aload_n (pc := 22) dX1_tell_22 rfl ?_
    refine M_getR (pc := 23) dX1_tell_23 f_X1_25 ha (gr_1_4 hp ha).1 ?_
    refine M_iload_n (pc := 26) dX1_tell_26 rfl ?_
    refine M_iload (pc := 27) dX1_tell_27 rfl ?_
    obtain ⟨hb6, h⟩ := chk h
    refine M_iast (pc := 29) dX1_tell_29 (gr_1_4 hp ha).2 (inB_in hb6) ?_
    obtain rfl := Option.some.inj h
    exact M_vret (pc := 30) dX1_tell_30 rfl rfl rfl
def F_X1_add (I : HI) (a : Nat) (x1 : Int32) (x2 : Int32) (x3 : Int32) : Option (HI) :=
  if (12 : Int32) ≤ (I a 0) then some I else (F_X1_tell (up2 I a 0 ((I a 0) + (1 : Int32))) a (((up2 I a 0 ((I a 0) + (1 : Int32))) a 0) - (1 : Int32)) x1 x2 x3) >>= fun r2 => some r2
set_option maxRecDepth 4000 in
set_option maxHeartbeats 4000000 in
theorem C_X1_add {g : gX} {d : Nat} {P : Nat → Nat → Option Nat} {I : HI} {a : Nat} {x1 : Int32} {x2 : Int32} {x3 : Int32} {J : HJ} (hp : Wp P) (ha : OB NT a 1) {r : HI} (h : F_X1_add I a x1 x2 x3 = some r) : Cm g mX1_add (d + 2) [.ref a, .int x1, .int x2, .int x3] (NT, I, J, P) none (NT, r, J, P) := by
  unfold F_X1_add at h
  refine Cm.of (by decide) (by simp [Value.category]) (Nat.le_of_ble_eq_true rfl) (Nat.le_refl _) (ls := [some (.ref a), some (.int x1), some (.int x2), some (.int x3)]) rfl ?_
  refine M_aload_n (pc := 0) dX1_add_0 rfl ?_
  refine M_getI (pc := 1) dX1_add_1 f_X1_9 ha ?_
  refine M_bipush (pc := 4) (v := 12) dX1_add_4 (by decide) ?_
  refine M_icmp_ge (pc := 6) (tgt := 32) dX1_add_6 (by decide) (fun hc1 => ?_) (fun hc1 => ?_)
  · have h := (if_pos hc1).symm.trans h
    obtain rfl := Option.some.inj h
    exact M_vret (pc := 32) dX1_add_32 rfl rfl rfl
  · have h := (if_neg hc1).symm.trans h
    refine M_aload_n (pc := 9) dX1_add_9 rfl ?_
    refine M_dup (pc := 10) dX1_add_10 rfl ?_
    refine M_getI (pc := 11) dX1_add_11 f_X1_9 ha ?_
    refine M_iconst (pc := 14) (v := 1) dX1_add_14 (by decide) ?_
    refine M_iadd (pc := 15) dX1_add_15 ?_
    refine M_putI (pc := 16) dX1_add_16 f_X1_9 ha rfl ⟨rfl, rfl⟩ ?_
    refine M_aload_n (pc := 19) dX1_add_19 rfl ?_
    refine M_aload_n (pc := 20) dX1_add_20 rfl ?_
    refine M_getI (pc := 21) dX1_add_21 f_X1_9 ha ?_
    refine M_iconst (pc := 24) (v := 1) dX1_add_24 (by decide) ?_
    refine M_isub (pc := 25) dX1_add_25 ?_
    refine M_iload_n (pc := 26) dX1_add_26 rfl ?_
    refine M_iload_n (pc := 27) dX1_add_27 rfl ?_
    refine M_iload_n (pc := 28) dX1_add_28 rfl ?_
    obtain ⟨r2, hr3, h⟩ := bnd h
    refine M_callVv (pc := 29) dX1_add_29 v_X1_49 rfl rfl ha (Nat.le_of_ble_eq_true rfl) (C_X1_tell (d := d + 0) hp ha hr3) (Nat.le_refl _) ?_
    obtain rfl := Option.some.inj h
    exact M_vret (pc := 32) dX1_add_32 rfl rfl rfl
def F_X1_copy (I : HI) (a : Nat) (b1 : Nat) : Option (HI) :=
  some (up1 (up1 (up1 (up1 (up2 I a 0 (I b1 0)) (a + 1) (va_cpy ((up2 I a 0 (I b1 0)) (b1 + 1)) ((up2 I a 0 (I b1 0)) (a + 1)) 0 0 60)) (a + 2) (va_cpy ((up1 (up2 I a 0 (I b1 0)) (a + 1) (va_cpy ((up2 I a 0 (I b1 0)) (b1 + 1)) ((up2 I a 0 (I b1 0)) (a + 1)) 0 0 60)) (b1 + 2)) ((up1 (up2 I a 0 (I b1 0)) (a + 1) (va_cpy ((up2 I a 0 (I b1 0)) (b1 + 1)) ((up2 I a 0 (I b1 0)) (a + 1)) 0 0 60)) (a + 2)) 0 0 12)) (a + 3) (va_cpy ((up1 (up1 (up2 I a 0 (I b1 0)) (a + 1) (va_cpy ((up2 I a 0 (I b1 0)) (b1 + 1)) ((up2 I a 0 (I b1 0)) (a + 1)) 0 0 60)) (a + 2) (va_cpy ((up1 (up2 I a 0 (I b1 0)) (a + 1) (va_cpy ((up2 I a 0 (I b1 0)) (b1 + 1)) ((up2 I a 0 (I b1 0)) (a + 1)) 0 0 60)) (b1 + 2)) ((up1 (up2 I a 0 (I b1 0)) (a + 1) (va_cpy ((up2 I a 0 (I b1 0)) (b1 + 1)) ((up2 I a 0 (I b1 0)) (a + 1)) 0 0 60)) (a + 2)) 0 0 12)) (b1 + 3)) ((up1 (up1 (up2 I a 0 (I b1 0)) (a + 1) (va_cpy ((up2 I a 0 (I b1 0)) (b1 + 1)) ((up2 I a 0 (I b1 0)) (a + 1)) 0 0 60)) (a + 2) (va_cpy ((up1 (up2 I a 0 (I b1 0)) (a + 1) (va_cpy ((up2 I a 0 (I b1 0)) (b1 + 1)) ((up2 I a 0 (I b1 0)) (a + 1)) 0 0 60)) (b1 + 2)) ((up1 (up2 I a 0 (I b1 0)) (a + 1) (va_cpy ((up2 I a 0 (I b1 0)) (b1 + 1)) ((up2 I a 0 (I b1 0)) (a + 1)) 0 0 60)) (a + 2)) 0 0 12)) (a + 3)) 0 0 12)) (a + 4) (va_cpy ((up1 (up1 (up1 (up2 I a 0 (I b1 0)) (a + 1) (va_cpy ((up2 I a 0 (I b1 0)) (b1 + 1)) ((up2 I a 0 (I b1 0)) (a + 1)) 0 0 60)) (a + 2) (va_cpy ((up1 (up2 I a 0 (I b1 0)) (a + 1) (va_cpy ((up2 I a 0 (I b1 0)) (b1 + 1)) ((up2 I a 0 (I b1 0)) (a + 1)) 0 0 60)) (b1 + 2)) ((up1 (up2 I a 0 (I b1 0)) (a + 1) (va_cpy ((up2 I a 0 (I b1 0)) (b1 + 1)) ((up2 I a 0 (I b1 0)) (a + 1)) 0 0 60)) (a + 2)) 0 0 12)) (a + 3) (va_cpy ((up1 (up1 (up2 I a 0 (I b1 0)) (a + 1) (va_cpy ((up2 I a 0 (I b1 0)) (b1 + 1)) ((up2 I a 0 (I b1 0)) (a + 1)) 0 0 60)) (a + 2) (va_cpy ((up1 (up2 I a 0 (I b1 0)) (a + 1) (va_cpy ((up2 I a 0 (I b1 0)) (b1 + 1)) ((up2 I a 0 (I b1 0)) (a + 1)) 0 0 60)) (b1 + 2)) ((up1 (up2 I a 0 (I b1 0)) (a + 1) (va_cpy ((up2 I a 0 (I b1 0)) (b1 + 1)) ((up2 I a 0 (I b1 0)) (a + 1)) 0 0 60)) (a + 2)) 0 0 12)) (b1 + 3)) ((up1 (up1 (up2 I a 0 (I b1 0)) (a + 1) (va_cpy ((up2 I a 0 (I b1 0)) (b1 + 1)) ((up2 I a 0 (I b1 0)) (a + 1)) 0 0 60)) (a + 2) (va_cpy ((up1 (up2 I a 0 (I b1 0)) (a + 1) (va_cpy ((up2 I a 0 (I b1 0)) (b1 + 1)) ((up2 I a 0 (I b1 0)) (a + 1)) 0 0 60)) (b1 + 2)) ((up1 (up2 I a 0 (I b1 0)) (a + 1) (va_cpy ((up2 I a 0 (I b1 0)) (b1 + 1)) ((up2 I a 0 (I b1 0)) (a + 1)) 0 0 60)) (a + 2)) 0 0 12)) (a + 3)) 0 0 12)) (b1 + 4)) ((up1 (up1 (up1 (up2 I a 0 (I b1 0)) (a + 1) (va_cpy ((up2 I a 0 (I b1 0)) (b1 + 1)) ((up2 I a 0 (I b1 0)) (a + 1)) 0 0 60)) (a + 2) (va_cpy ((up1 (up2 I a 0 (I b1 0)) (a + 1) (va_cpy ((up2 I a 0 (I b1 0)) (b1 + 1)) ((up2 I a 0 (I b1 0)) (a + 1)) 0 0 60)) (b1 + 2)) ((up1 (up2 I a 0 (I b1 0)) (a + 1) (va_cpy ((up2 I a 0 (I b1 0)) (b1 + 1)) ((up2 I a 0 (I b1 0)) (a + 1)) 0 0 60)) (a + 2)) 0 0 12)) (a + 3) (va_cpy ((up1 (up1 (up2 I a 0 (I b1 0)) (a + 1) (va_cpy ((up2 I a 0 (I b1 0)) (b1 + 1)) ((up2 I a 0 (I b1 0)) (a + 1)) 0 0 60)) (a + 2) (va_cpy ((up1 (up2 I a 0 (I b1 0)) (a + 1) (va_cpy ((up2 I a 0 (I b1 0)) (b1 + 1)) ((up2 I a 0 (I b1 0)) (a + 1)) 0 0 60)) (b1 + 2)) ((up1 (up2 I a 0 (I b1 0)) (a + 1) (va_cpy ((up2 I a 0 (I b1 0)) (b1 + 1)) ((up2 I a 0 (I b1 0)) (a + 1)) 0 0 60)) (a + 2)) 0 0 12)) (b1 + 3)) ((up1 (up1 (up2 I a 0 (I b1 0)) (a + 1) (va_cpy ((up2 I a 0 (I b1 0)) (b1 + 1)) ((up2 I a 0 (I b1 0)) (a + 1)) 0 0 60)) (a + 2) (va_cpy ((up1 (up2 I a 0 (I b1 0)) (a + 1) (va_cpy ((up2 I a 0 (I b1 0)) (b1 + 1)) ((up2 I a 0 (I b1 0)) (a + 1)) 0 0 60)) (b1 + 2)) ((up1 (up2 I a 0 (I b1 0)) (a + 1) (va_cpy ((up2 I a 0 (I b1 0)) (b1 + 1)) ((up2 I a 0 (I b1 0)) (a + 1)) 0 0 60)) (a + 2)) 0 0 12)) (a + 3)) 0 0 12)) (a + 4)) 0 0 12))
set_option maxRecDepth 4000 in
set_option maxHeartbeats 4000000 in
theorem C_X1_copy {g : gX} {d : Nat} {P : Nat → Nat → Option Nat} {I : HI} {a : Nat} {b1 : Nat} {J : HJ} (hp : Wp P) (ha : OB NT a 1) (hb1 : OB NT b1 1) {r : HI} (h : F_X1_copy I a b1 = some r) : Cm g mX1_copy (d + 1) [.ref a, .ref b1] (NT, I, J, P) none (NT, r, J, P) := by
  unfold F_X1_copy at h
  refine Cm.of (by decide) (by simp [Value.category]) (Nat.le_of_ble_eq_true rfl) (Nat.le_refl _) (ls := [some (.ref a), some (.ref b1)]) rfl ?_
  refine M_aload_n (pc := 0) dX1_copy_0 rfl ?_
  refine M_aload_n (pc := 1) dX1_copy_1 rfl ?_
  refine M_getI (pc := 2) dX1_copy_2 f_X1_9 hb1 ?_
  refine M_putI (pc := 5) dX1_copy_5 f_X1_9 ha rfl ⟨rfl, rfl⟩ ?_
  refine M_aload_n (pc := 8) dX1_copy_8 rfl ?_
  refine M_getR (pc := 9) dX1_copy_9 f_X1_15 hb1 (gr_1_1 hp hb1).1 ?_
  refine M_iconst (pc := 12) (v := 0) dX1_copy_12 (by decide) ?_
  refine M_aload_n (pc := 13) dX1_copy_13 rfl ?_
  refine M_getR (pc := 14) dX1_copy_14 f_X1_15 ha (gr_1_1 hp ha).1 ?_
  refine M_iconst (pc := 17) (v := 0) dX1_copy_17 (by decide) ?_
  refine M_bipush (pc := 18) (v := 60) dX1_copy_18 (by decide) ?_
  refine M_copy0 (pc := 20) (k := 60) dX1_copy_20 w_468 w_470 w_469 w_14 (by omega) (by decide) (gr_1_1 hp ha).2 (gr_1_1 hp hb1).2 (by decide) (by decide) (by decide) (by decide) ?_
  refine M_aload_n (pc := 23) dX1_copy_23 rfl ?_
  refine M_getR (pc := 24) dX1_copy_24 f_X1_19 hb1 (gr_1_2 hp hb1).1 ?_
  refine M_iconst (pc := 27) (v := 0) dX1_copy_27 (by decide) ?_
  refine M_aload_n (pc := 28) dX1_copy_28 rfl ?_
  refine M_getR (pc := 29) dX1_copy_29 f_X1_19 ha (gr_1_2 hp ha).1 ?_
  refine M_iconst (pc := 32) (v := 0) dX1_copy_32 (by decide) ?_
  refine M_bipush (pc := 33) (v := 12) dX1_copy_33 (by decide) ?_
  refine M_copy0 (pc := 35) (k := 12) dX1_copy_35 w_468 w_470 w_469 w_14 (by omega) (by decide) (gr_1_2 hp ha).2 (gr_1_2 hp hb1).2 (by decide) (by decide) (by decide) (by decide) ?_
  refine M_aload_n (pc := 38) dX1_copy_38 rfl ?_
  refine M_getR (pc := 39) dX1_copy_39 f_X1_22 hb1 (gr_1_3 hp hb1).1 ?_
  refine M_iconst (pc := 42) (v := 0) dX1_copy_42 (by decide) ?_
  refine M_aload_n (pc := 43) dX1_copy_43 rfl ?_
  refine M_getR (pc := 44) dX1_copy_44 f_X1_22 ha (gr_1_3 hp ha).1 ?_
  refine M_iconst (pc := 47) (v := 0) dX1_copy_47 (by decide) ?_
  refine M_bipush (pc := 48) (v := 12) dX1_copy_48 (by decide) ?_
  refine M_copy0 (pc := 50) (k := 12) dX1_copy_50 w_468 w_470 w_469 w_14 (by omega) (by decide) (gr_1_3 hp ha).2 (gr_1_3 hp hb1).2 (by decide) (by decide) (by decide) (by decide) ?_
  refine M_aload_n (pc := 53) dX1_copy_53 rfl ?_
  refine M_getR (pc := 54) dX1_copy_54 f_X1_25 hb1 (gr_1_4 hp hb1).1 ?_
  refine M_iconst (pc := 57) (v := 0) dX1_copy_57 (by decide) ?_
  refine M_aload_n (pc := 58) dX1_copy_58 rfl ?_
  refine M_getR (pc := 59) dX1_copy_59 f_X1_25 ha (gr_1_4 hp ha).1 ?_
  refine M_iconst (pc := 62) (v := 0) dX1_copy_62 (by decide) ?_
  refine M_bipush (pc := 63) (v := 12) dX1_copy_63 (by decide) ?_
  refine M_copy0 (pc := 65) (k := 12) dX1_copy_65 w_468 w_470 w_469 w_14 (by omega) (by decide) (gr_1_4 hp ha).2 (gr_1_4 hp hb1).2 (by decide) (by decide) (by decide) (by decide) ?_
  obtain rfl := Option.some.inj h
  exact M_vret (pc := 68) dX1_copy_68 rfl rfl rfl
def L_X2_farFrom_6 (I : HI) (b2 : Nat) (x1 : Int32) (x3 : Int32) (x4 : Int32) (x5 : Int32) : Option (Int32) :=
  if (5 : Int32) ≤ x5 then some x4 else if (400 : Int32) ≤ ((x1 * (5 : Int32)) + x5) then some x4 else (ald 400 (I 2) ((x1 * (5 : Int32)) + x5)) >>= fun v3 => (ald 60 (I (b2 + 1)) ((x3 * (5 : Int32)) + x5)) >>= fun v5 => if 0 ≤ (v3 - v5) then L_X2_farFrom_6 I b2 x1 x3 (x4 + (v3 - v5)) (x5 + (1 : Int32)) else L_X2_farFrom_6 I b2 x1 x3 (x4 + (-(v3 - v5))) (x5 + (1 : Int32))
partial_fixpoint
def F_X2_farFrom (I : HI) (x1 : Int32) (b2 : Nat) (x3 : Int32) : Option (Int32) :=
  L_X2_farFrom_6 I b2 x1 x3 (0 : Int32) (0 : Int32)
set_option maxRecDepth 4000 in
set_option maxHeartbeats 4000000 in
theorem LC_X2_farFrom_6 {g : gX} {d : Nat} {P : Nat → Nat → Option Nat} {J : HJ} {I : HI} {b2 : Nat} {x1 : Int32} {x3 : Int32} (hp : Wp P) (hb2 : OB NT b2 1) : ∀ (x4 : Int32) (x5 : Int32) (r : Int32), L_X2_farFrom_6 I b2 x1 x3 x4 x5 = some r → M g mX2_farFrom (d + 0) (NT, NT, 0) ((.inl (some (.int r))), (NT, I, J, P)) 6 [some (.ref 2), some (.int x1), some (.ref b2), some (.int x3), some (.int x4), some (.int x5), none] [] (NT, I, J, P) := by
  refine L_X2_farFrom_6.partial_correctness I b2 x1 x3 (fun x4 x5 r => M g mX2_farFrom (d + 0) (NT, NT, 0) ((.inl (some (.int r))), (NT, I, J, P)) 6 [some (.ref 2), some (.int x1), some (.ref b2), some (.int x3), some (.int x4), some (.int x5), none] [] (NT, I, J, P)) ?_
  intro f ih x4 x5 r h
  refine M_iload (pc := 6) dX2_farFrom_6 rfl ?_
  refine M_iconst (pc := 8) (v := 5) dX2_farFrom_8 (by decide) ?_
  refine M_icmp_ge (pc := 9) (tgt := 69) dX2_farFrom_9 (by decide) (fun hc1 => ?_) (fun hc1 => ?_)
  · have h := (if_pos hc1).symm.trans h
    refine M_iload (pc := 69) dX2_farFrom_69 rfl ?_
    obtain rfl := Option.some.inj h
    exact M_iret (pc := 71) dX2_farFrom_71 rfl rfl rfl rfl
  · have h := (if_neg hc1).symm.trans h
    refine M_iload_n (pc := 12) dX2_farFrom_12 rfl ?_
    refine M_iconst (pc := 13) (v := 5) dX2_farFrom_13 (by decide) ?_
    refine M_imul (pc := 14) dX2_farFrom_14 ?_
    refine M_iload (pc := 15) dX2_farFrom_15 rfl ?_
    refine M_iadd (pc := 17) dX2_farFrom_17 ?_
    refine M_aload_n (pc := 18) dX2_farFrom_18 rfl ?_
    refine M_alen (pc := 19) (v := 400) (k := 0) dX2_farFrom_19 ar_tape (by decide) ?_
    refine M_icmp_ge (pc := 20) (tgt := 69) dX2_farFrom_20 (by decide) (fun hc2 => ?_) (fun hc2 => ?_)
    · have h := (if_pos hc2).symm.trans h
      refine M_iload (pc := 69) dX2_farFrom_69 rfl ?_
      obtain rfl := Option.some.inj h
      exact M_iret (pc := 71) dX2_farFrom_71 rfl rfl rfl rfl
    · have h := (if_neg hc2).symm.trans h
      refine M_aload_n (pc := 23) dX2_farFrom_23 rfl ?_
      refine M_iload_n (pc := 24) dX2_farFrom_24 rfl ?_
      refine M_iconst (pc := 25) (v := 5) dX2_farFrom_25 (by decide) ?_
      refine M_imul (pc := 26) dX2_farFrom_26 ?_
      refine M_iload (pc := 27) dX2_farFrom_27 rfl ?_
      refine M_iadd (pc := 29) dX2_farFrom_29 ?_
      obtain ⟨v3, hv4, h⟩ := bnd h
      refine M_aldI (pc := 30) dX2_farFrom_30 ar_tape hv4 ?_
      refine M_aload_n (pc := 31) dX2_farFrom_31 rfl ?_
      refine M_getR (pc := 32) dX2_farFrom_32 f_X2_50 hb2 (gr_1_1 hp hb2).1 ?_
      refine M_iload_n (pc := 35) dX2_farFrom_35 rfl ?_
      refine M_iconst (pc := 36) (v := 5) dX2_farFrom_36 (by decide) ?_
      refine M_imul (pc := 37) dX2_farFrom_37 ?_
      refine M_iload (pc := 38) dX2_farFrom_38 rfl ?_
      refine M_iadd (pc := 40) dX2_farFrom_40 ?_
      obtain ⟨v5, hv6, h⟩ := bnd h
      refine M_aldI (pc := 41) dX2_farFrom_41 (gr_1_1 hp hb2).2 hv6 ?_
      refine M_isub (pc := 42) dX2_farFrom_42 ?_
      refine M_istore (pc := 43) (ls' := [some (.ref 2), some (.int x1), some (.ref b2), some (.int x3), some (.int x4), some (.int x5), some (.int (v3 - v5))]) dX2_farFrom_43 (by decide) rfl ?_
      refine M_iload (pc := 45) dX2_farFrom_45 rfl ?_
      refine M_iload (pc := 47) dX2_farFrom_47 rfl ?_
      refine M_if_ge (pc := 49) (tgt := 58) dX2_farFrom_49 (by decide) (fun hc7 => ?_) (fun hc7 => ?_)
      · have h := (if_pos hc7).symm.trans h
        refine M_iload (pc := 58) dX2_farFrom_58 rfl ?_
        refine M_iadd (pc := 60) dX2_farFrom_60 ?_
        refine M_istore (pc := 61) (ls' := [some (.ref 2), some (.int x1), some (.ref b2), some (.int x3), some (.int (x4 + (v3 - v5))), some (.int x5), some (.int (v3 - v5))]) dX2_farFrom_61 (by decide) rfl ?_
        refine M_iinc (pc := 63) (v := (x5 + (1 : Int32))) (ls' := [some (.ref 2), some (.int x1), some (.ref b2), some (.int x3), some (.int (x4 + (v3 - v5))), some (.int (x5 + (1 : Int32))), some (.int (v3 - v5))]) dX2_farFrom_63 rfl rfl (by decide) rfl ?_
        refine M_goto (pc := 66) (tgt := 6) dX2_farFrom_66 (by decide) ?_
        refine M_mask (pc := 6) [true, true, true, true, true, true, false] rfl ?_
        exact ih (x4 + (v3 - v5)) (x5 + (1 : Int32)) _ h
      · have h := (if_neg hc7).symm.trans h
        refine M_iload (pc := 52) dX2_farFrom_52 rfl ?_
        refine M_ineg (pc := 54) dX2_farFrom_54 ?_
        refine M_goto (pc := 55) (tgt := 60) dX2_farFrom_55 (by decide) ?_
        refine M_iadd (pc := 60) dX2_farFrom_60 ?_
        refine M_istore (pc := 61) (ls' := [some (.ref 2), some (.int x1), some (.ref b2), some (.int x3), some (.int (x4 + (-(v3 - v5)))), some (.int x5), some (.int (v3 - v5))]) dX2_farFrom_61 (by decide) rfl ?_
        refine M_iinc (pc := 63) (v := (x5 + (1 : Int32))) (ls' := [some (.ref 2), some (.int x1), some (.ref b2), some (.int x3), some (.int (x4 + (-(v3 - v5)))), some (.int (x5 + (1 : Int32))), some (.int (v3 - v5))]) dX2_farFrom_63 rfl rfl (by decide) rfl ?_
        refine M_goto (pc := 66) (tgt := 6) dX2_farFrom_66 (by decide) ?_
        refine M_mask (pc := 6) [true, true, true, true, true, true, false] rfl ?_
        exact ih (x4 + (-(v3 - v5))) (x5 + (1 : Int32)) _ h
set_option maxRecDepth 4000 in
set_option maxHeartbeats 4000000 in
theorem C_X2_farFrom {g : gX} {d : Nat} {P : Nat → Nat → Option Nat} {I : HI} {x1 : Int32} {b2 : Nat} {x3 : Int32} {J : HJ} (hp : Wp P) (hb2 : OB NT b2 1) {r : Int32} (h : F_X2_farFrom I x1 b2 x3 = some r) : Cm g mX2_farFrom (d + 0) [.ref 2, .int x1, .ref b2, .int x3] (NT, I, J, P) (some (.int r)) (NT, I, J, P) := by
  unfold F_X2_farFrom at h
  refine Cm.of (by decide) (by simp [Value.category]) (Nat.le_of_ble_eq_true rfl) (Nat.le_refl _) (ls := [some (.ref 2), some (.int x1), some (.ref b2), some (.int x3), none, none, none]) rfl ?_
  refine M_iconst (pc := 0) (v := 0) dX2_farFrom_0 (by decide) ?_
  refine M_istore (pc := 1) (ls' := [some (.ref 2), some (.int x1), some (.ref b2), some (.int x3), some (.int (0 : Int32)), none, none]) dX2_farFrom_1 (by decide) rfl ?_
  refine M_iconst (pc := 3) (v := 0) dX2_farFrom_3 (by decide) ?_
  refine M_istore (pc := 4) (ls' := [some (.ref 2), some (.int x1), some (.ref b2), some (.int x3), some (.int (0 : Int32)), some (.int (0 : Int32)), none]) dX2_farFrom_4 (by decide) rfl ?_
  exact LC_X2_farFrom_6 (P := P) hp hb2 (0 : Int32) (0 : Int32) _ h
def L_X2_isWorthwhile_11 (I : HI) (x2 : Int32) (x3 : Int32) (x4 : Int32) (x5 : Int32) : Option (Int32) :=
  if (I 201 2) ≤ x5 then if (I 201 1) ≤ x4 then some (0 : Int32) else some (1 : Int32) else (ald 60 (I 202) (x3 + x5)) >>= fun v3 => (ald 60 (I 202) (x3 + x2)) >>= fun v5 => if (v3 - v5) < 0 then L_X2_isWorthwhile_11 I x2 x3 (x4 + (1 : Int32)) (x5 + (1 : Int32)) else if (v3 - v5) = 0 then if x2 ≤ x5 then L_X2_isWorthwhile_11 I x2 x3 x4 (x5 + (1 : Int32)) else L_X2_isWorthwhile_11 I x2 x3 (x4 + (1 : Int32)) (x5 + (1 : Int32)) else L_X2_isWorthwhile_11 I x2 x3 x4 (x5 + (1 : Int32))
partial_fixpoint
def F_X2_isWorthwhile (I : HI) (x1 : Int32) (x2 : Int32) : Option (Int32) :=
  L_X2_isWorthwhile_11 I x2 (x1 * (12 : Int32)) (0 : Int32) (0 : Int32)
set_option maxRecDepth 4000 in
set_option maxHeartbeats 4000000 in
theorem LC_X2_isWorthwhile_11 {g : gX} {d : Nat} {P : Nat → Nat → Option Nat} {J : HJ} {I : HI} {x2 : Int32} {x3 : Int32} (hp : Wp P) : ∀ (x4 : Int32) (x5 : Int32) (r : Int32), L_X2_isWorthwhile_11 I x2 x3 x4 x5 = some r → M g mX2_isWorthwhile (d + 0) (NT, NT, 0) ((.inl (some (.int r))), (NT, I, J, P)) 11 [some (.ref 201), none, some (.int x2), some (.int x3), some (.int x4), some (.int x5), none] [] (NT, I, J, P) := by
  refine L_X2_isWorthwhile_11.partial_correctness I x2 x3 (fun x4 x5 r => M g mX2_isWorthwhile (d + 0) (NT, NT, 0) ((.inl (some (.int r))), (NT, I, J, P)) 11 [some (.ref 201), none, some (.int x2), some (.int x3), some (.int x4), some (.int x5), none] [] (NT, I, J, P)) ?_
  intro f ih x4 x5 r h
  refine M_iload (pc := 11) dX2_isWorthwhile_11 rfl ?_
  refine M_aload_n (pc := 13) dX2_isWorthwhile_13 rfl ?_
  refine M_getI (pc := 14) dX2_isWorthwhile_14 f_X2_18 at_2 ?_
  refine M_icmp_ge (pc := 17) (tgt := 65) dX2_isWorthwhile_17 (by decide) (fun hc1 => ?_) (fun hc1 => ?_)
  · have h := (if_pos hc1).symm.trans h
    refine M_iload (pc := 65) dX2_isWorthwhile_65 rfl ?_
    refine M_aload_n (pc := 67) dX2_isWorthwhile_67 rfl ?_
    refine M_getI (pc := 68) dX2_isWorthwhile_68 f_X2_15 at_2 ?_
    refine M_icmp_ge (pc := 71) (tgt := 78) dX2_isWorthwhile_71 (by decide) (fun hc2 => ?_) (fun hc2 => ?_)
    · have h := (if_pos hc2).symm.trans h
      refine M_iconst (pc := 78) (v := 0) dX2_isWorthwhile_78 (by decide) ?_
      obtain rfl := Option.some.inj h
      exact M_iret (pc := 79) dX2_isWorthwhile_79 rfl rfl rfl rfl
    · have h := (if_neg hc2).symm.trans h
      refine M_iconst (pc := 74) (v := 1) dX2_isWorthwhile_74 (by decide) ?_
      refine M_goto (pc := 75) (tgt := 79) dX2_isWorthwhile_75 (by decide) ?_
      obtain rfl := Option.some.inj h
      exact M_iret (pc := 79) dX2_isWorthwhile_79 rfl rfl rfl rfl
  · have h := (if_neg hc1).symm.trans h
    refine M_aload_n (pc := 20) dX2_isWorthwhile_20 rfl ?_
    refine M_getR (pc := 21) dX2_isWorthwhile_21 f_X2_21 at_2 (gr_2_3 hp at_2).1 ?_
    refine M_iload_n (pc := 24) dX2_isWorthwhile_24 rfl ?_
    refine M_iload (pc := 25) dX2_isWorthwhile_25 rfl ?_
    refine M_iadd (pc := 27) dX2_isWorthwhile_27 ?_
    obtain ⟨v3, hv4, h⟩ := bnd h
    refine M_aldI (pc := 28) dX2_isWorthwhile_28 (gr_2_3 hp at_2).2 hv4 ?_
    refine M_aload_n (pc := 29) dX2_isWorthwhile_29 rfl ?_
    refine M_getR (pc := 30) dX2_isWorthwhile_30 f_X2_21 at_2 (gr_2_3 hp at_2).1 ?_
    refine M_iload_n (pc := 33) dX2_isWorthwhile_33 rfl ?_
    refine M_iload_n (pc := 34) dX2_isWorthwhile_34 rfl ?_
    refine M_iadd (pc := 35) dX2_isWorthwhile_35 ?_
    obtain ⟨v5, hv6, h⟩ := bnd h
    refine M_aldI (pc := 36) dX2_isWorthwhile_36 (gr_2_3 hp at_2).2 hv6 ?_
    refine M_isub (pc := 37) dX2_isWorthwhile_37 ?_
    refine M_istore (pc := 38) (ls' := [some (.ref 201), none, some (.int x2), some (.int x3), some (.int x4), some (.int x5), some (.int (v3 - v5))]) dX2_isWorthwhile_38 (by decide) rfl ?_
    refine M_iload (pc := 40) dX2_isWorthwhile_40 rfl ?_
    refine M_if_lt (pc := 42) (tgt := 56) dX2_isWorthwhile_42 (by decide) (fun hc7 => ?_) (fun hc7 => ?_)
    · have h := (if_pos hc7).symm.trans h
      refine M_iinc (pc := 56) (v := (x4 + (1 : Int32))) (ls' := [some (.ref 201), none, some (.int x2), some (.int x3), some (.int (x4 + (1 : Int32))), some (.int x5), some (.int (v3 - v5))]) dX2_isWorthwhile_56 rfl rfl (by decide) rfl ?_
      refine M_iinc (pc := 59) (v := (x5 + (1 : Int32))) (ls' := [some (.ref 201), none, some (.int x2), some (.int x3), some (.int (x4 + (1 : Int32))), some (.int (x5 + (1 : Int32))), some (.int (v3 - v5))]) dX2_isWorthwhile_59 rfl rfl (by decide) rfl ?_
      refine M_goto (pc := 62) (tgt := 11) dX2_isWorthwhile_62 (by decide) ?_
      refine M_mask (pc := 11) [true, false, true, true, true, true, false] rfl ?_
      exact ih (x4 + (1 : Int32)) (x5 + (1 : Int32)) _ h
    · have h := (if_neg hc7).symm.trans h
      refine M_iload (pc := 45) dX2_isWorthwhile_45 rfl ?_
      refine M_if_ne (pc := 47) (tgt := 59) dX2_isWorthwhile_47 (by decide) (fun hc8 => ?_) (fun hc8 => ?_)
      · have h := (if_neg hc8).symm.trans h
        refine M_iinc (pc := 59) (v := (x5 + (1 : Int32))) (ls' := [some (.ref 201), none, some (.int x2), some (.int x3), some (.int x4), some (.int (x5 + (1 : Int32))), some (.int (v3 - v5))]) dX2_isWorthwhile_59 rfl rfl (by decide) rfl ?_
        refine M_goto (pc := 62) (tgt := 11) dX2_isWorthwhile_62 (by decide) ?_
        refine M_mask (pc := 11) [true, false, true, true, true, true, false] rfl ?_
        exact ih x4 (x5 + (1 : Int32)) _ h
      · have h := (if_pos hc8).symm.trans h
        refine M_iload (pc := 50) dX2_isWorthwhile_50 rfl ?_
        refine M_iload_n (pc := 52) dX2_isWorthwhile_52 rfl ?_
        refine M_icmp_ge (pc := 53) (tgt := 59) dX2_isWorthwhile_53 (by decide) (fun hc9 => ?_) (fun hc9 => ?_)
        · have h := (if_pos hc9).symm.trans h
          refine M_iinc (pc := 59) (v := (x5 + (1 : Int32))) (ls' := [some (.ref 201), none, some (.int x2), some (.int x3), some (.int x4), some (.int (x5 + (1 : Int32))), some (.int (v3 - v5))]) dX2_isWorthwhile_59 rfl rfl (by decide) rfl ?_
          refine M_goto (pc := 62) (tgt := 11) dX2_isWorthwhile_62 (by decide) ?_
          refine M_mask (pc := 11) [true, false, true, true, true, true, false] rfl ?_
          exact ih x4 (x5 + (1 : Int32)) _ h
        · have h := (if_neg hc9).symm.trans h
          refine M_iinc (pc := 56) (v := (x4 + (1 : Int32))) (ls' := [some (.ref 201), none, some (.int x2), some (.int x3), some (.int (x4 + (1 : Int32))), some (.int x5), some (.int (v3 - v5))]) dX2_isWorthwhile_56 rfl rfl (by decide) rfl ?_
          refine M_iinc (pc := 59) (v := (x5 + (1 : Int32))) (ls' := [some (.ref 201), none, some (.int x2), some (.int x3), some (.int (x4 + (1 : Int32))), some (.int (x5 + (1 : Int32))), some (.int (v3 - v5))]) dX2_isWorthwhile_59 rfl rfl (by decide) rfl ?_
          refine M_goto (pc := 62) (tgt := 11) dX2_isWorthwhile_62 (by decide) ?_
          refine M_mask (pc := 11) [true, false, true, true, true, true, false] rfl ?_
          exact ih (x4 + (1 : Int32)) (x5 + (1 : Int32)) _ h
set_option maxRecDepth 4000 in
set_option maxHeartbeats 4000000 in
theorem C_X2_isWorthwhile {g : gX} {d : Nat} {P : Nat → Nat → Option Nat} {I : HI} {x1 : Int32} {x2 : Int32} {J : HJ} (hp : Wp P) {r : Int32} (h : F_X2_isWorthwhile I x1 x2 = some r) : Cm g mX2_isWorthwhile (d + 0) [.ref 201, .int x1, .int x2] (NT, I, J, P) (some (.int r)) (NT, I, J, P) := by
  unfold F_X2_isWorthwhile at h
  refine Cm.of (by decide) (by simp [Value.category]) (Nat.le_of_ble_eq_true rfl) (Nat.le_refl _) (ls := [some (.ref 201), some (.int x1), some (.int x2), none, none, none, none]) rfl ?_
  refine M_iload_n (pc := 0) dX2_isWorthwhile_0 rfl ?_
  refine M_bipush (pc := 1) (v := 12) dX2_isWorthwhile_1 (by decide) ?_
  refine M_imul (pc := 3) dX2_isWorthwhile_3 ?_
  refine M_istore_n (pc := 4) (ls' := [some (.ref 201), some (.int x1), some (.int x2), some (.int (x1 * (12 : Int32))), none, none, none]) dX2_isWorthwhile_4 (by decide) rfl ?_
  refine M_iconst (pc := 5) (v := 0) dX2_isWorthwhile_5 (by decide) ?_
  refine M_istore (pc := 6) (ls' := [some (.ref 201), some (.int x1), some (.int x2), some (.int (x1 * (12 : Int32))), some (.int (0 : Int32)), none, none]) dX2_isWorthwhile_6 (by decide) rfl ?_
  refine M_iconst (pc := 8) (v := 0) dX2_isWorthwhile_8 (by decide) ?_
  refine M_istore (pc := 9) (ls' := [some (.ref 201), some (.int x1), some (.int x2), some (.int (x1 * (12 : Int32))), some (.int (0 : Int32)), some (.int (0 : Int32)), none]) dX2_isWorthwhile_9 (by decide) rfl ?_
  refine M_mask (pc := 11) [true, false, true, true, true, true, false] rfl ?_
  exact LC_X2_isWorthwhile_11 (P := P) hp (0 : Int32) (0 : Int32) _ h
def F_X2_nth (I : HI) (x1 : Int32) : Option (Int32) :=
  if x1 < 0 then some (-1 : Int32) else if (I 201 1) ≤ x1 then some (-1 : Int32) else (ald 5 (I 204) x1) >>= fun v3 => some v3
set_option maxRecDepth 4000 in
set_option maxHeartbeats 4000000 in
theorem C_X2_nth {g : gX} {d : Nat} {P : Nat → Nat → Option Nat} {I : HI} {x1 : Int32} {J : HJ} (hp : Wp P) {r : Int32} (h : F_X2_nth I x1 = some r) : Cm g mX2_nth (d + 0) [.ref 201, .int x1] (NT, I, J, P) (some (.int r)) (NT, I, J, P) := by
  unfold F_X2_nth at h
  refine Cm.of (by decide) (by simp [Value.category]) (Nat.le_of_ble_eq_true rfl) (Nat.le_refl _) (ls := [some (.ref 201), some (.int x1)]) rfl ?_
  refine M_iload_n (pc := 0) dX2_nth_0 rfl ?_
  refine M_if_lt (pc := 1) (tgt := 21) dX2_nth_1 (by decide) (fun hc1 => ?_) (fun hc1 => ?_)
  · have h := (if_pos hc1).symm.trans h
    refine M_iconst (pc := 21) (v := -1) dX2_nth_21 (by decide) ?_
    obtain rfl := Option.some.inj h
    exact M_iret (pc := 22) dX2_nth_22 rfl rfl rfl rfl
  · have h := (if_neg hc1).symm.trans h
    refine M_iload_n (pc := 4) dX2_nth_4 rfl ?_
    refine M_aload_n (pc := 5) dX2_nth_5 rfl ?_
    refine M_getI (pc := 6) dX2_nth_6 f_X2_15 at_2 ?_
    refine M_icmp_ge (pc := 9) (tgt := 21) dX2_nth_9 (by decide) (fun hc2 => ?_) (fun hc2 => ?_)
    · have h := (if_pos hc2).symm.trans h
      refine M_iconst (pc := 21) (v := -1) dX2_nth_21 (by decide) ?_
      obtain rfl := Option.some.inj h
      exact M_iret (pc := 22) dX2_nth_22 rfl rfl rfl rfl
    · have h := (if_neg hc2).symm.trans h
      refine M_aload_n (pc := 12) dX2_nth_12 rfl ?_
      refine M_getR (pc := 13) dX2_nth_13 f_X2_28 at_2 (gr_2_5 hp at_2).1 ?_
      refine M_iload_n (pc := 16) dX2_nth_16 rfl ?_
      obtain ⟨v3, hv4, h⟩ := bnd h
      refine M_aldI (pc := 17) dX2_nth_17 (gr_2_5 hp at_2).2 hv4 ?_
      refine M_goto (pc := 18) (tgt := 22) dX2_nth_18 (by decide) ?_
      obtain rfl := Option.some.inj h
      exact M_iret (pc := 22) dX2_nth_22 rfl rfl rfl rfl
def F_X3_takes (I : HI) (a : Nat) (x1 : Int32) : Option (Int32) :=
  if (99 : Int32) ≤ (I a 4) then some (0 : Int32) else (F_X1_has I (a + 1) x1) >>= fun r2 => if r2 = 0 then some (0 : Int32) else some (1 : Int32)
set_option maxRecDepth 4000 in
set_option maxHeartbeats 4000000 in
theorem C_X3_takes {g : gX} {d : Nat} {P : Nat → Nat → Option Nat} {I : HI} {a : Nat} {x1 : Int32} {J : HJ} (hp : Wp P) (ha : OB NT a 3) {r : Int32} (h : F_X3_takes I a x1 = some r) : Cm g mX3_takes (d + 1) [.ref a, .int x1] (NT, I, J, P) (some (.int r)) (NT, I, J, P) := by
  unfold F_X3_takes at h
  refine Cm.of (by decide) (by simp [Value.category]) (Nat.le_of_ble_eq_true rfl) (Nat.le_refl _) (ls := [some (.ref a), some (.int x1)]) rfl ?_
  refine M_aload_n (pc := 0) dX3_takes_0 rfl ?_
  refine M_getI (pc := 1) dX3_takes_1 f_X3_28 ha ?_
  refine M_bipush (pc := 4) (v := 99) dX3_takes_4 (by decide) ?_
  refine M_icmp_ge (pc := 6) (tgt := 24) dX3_takes_6 (by decide) (fun hc1 => ?_) (fun hc1 => ?_)
  · have h := (if_pos hc1).symm.trans h
    refine M_iconst (pc := 24) (v := 0) dX3_takes_24 (by decide) ?_
    obtain rfl := Option.some.inj h
    exact M_iret (pc := 25) dX3_takes_25 rfl rfl rfl rfl
  · have h := (if_neg hc1).symm.trans h
    refine M_aload_n (pc := 9) dX3_takes_9 rfl ?_
    refine M_getR (pc := 10) dX3_takes_10 f_X3_12 ha (gr_3_0 hp ha).1 ?_
    refine M_iload_n (pc := 13) dX3_takes_13 rfl ?_
    obtain ⟨r2, hr3, h⟩ := bnd h
    refine M_callVi (pc := 14) dX3_takes_14 v_X3_61 rfl rfl (gr_3_0 hp ha).2 (Nat.le_of_ble_eq_true rfl) (C_X1_has (d := d + 0) hp (gr_3_0 hp ha).2 hr3) (Nat.le_refl _) ?_
    refine M_if_eq (pc := 17) (tgt := 24) dX3_takes_17 (by decide) (fun hc4 => ?_) (fun hc4 => ?_)
    · have h := (if_pos hc4).symm.trans h
      refine M_iconst (pc := 24) (v := 0) dX3_takes_24 (by decide) ?_
      obtain rfl := Option.some.inj h
      exact M_iret (pc := 25) dX3_takes_25 rfl rfl rfl rfl
    · have h := (if_neg hc4).symm.trans h
      refine M_iconst (pc := 20) (v := 1) dX3_takes_20 (by decide) ?_
      refine M_goto (pc := 21) (tgt := 25) dX3_takes_21 (by decide) ?_
      obtain rfl := Option.some.inj h
      exact M_iret (pc := 25) dX3_takes_25 rfl rfl rfl rfl
def F_X3_comeBack (I : HI) (a : Nat) : Option (HI) :=
  some (up2 (up2 (up2 (up2 (up2 I a 2 (if ((I a 2) + (1 : Int32)) < (9999 : Int32) then ((I a 2) + (1 : Int32)) else (9999 : Int32))) a 3 ((up2 I a 2 (if ((I a 2) + (1 : Int32)) < (9999 : Int32) then ((I a 2) + (1 : Int32)) else (9999 : Int32))) a 2)) a 4 (((up2 (up2 I a 2 (if ((I a 2) + (1 : Int32)) < (9999 : Int32) then ((I a 2) + (1 : Int32)) else (9999 : Int32))) a 3 ((up2 I a 2 (if ((I a 2) + (1 : Int32)) < (9999 : Int32) then ((I a 2) + (1 : Int32)) else (9999 : Int32))) a 2)) a 4) / (2 : Int32))) a 5 (0 : Int32)) a 6 (if (((up2 (up2 (up2 (up2 I a 2 (if ((I a 2) + (1 : Int32)) < (9999 : Int32) then ((I a 2) + (1 : Int32)) else (9999 : Int32))) a 3 ((up2 I a 2 (if ((I a 2) + (1 : Int32)) < (9999 : Int32) then ((I a 2) + (1 : Int32)) else (9999 : Int32))) a 2)) a 4 (((up2 (up2 I a 2 (if ((I a 2) + (1 : Int32)) < (9999 : Int32) then ((I a 2) + (1 : Int32)) else (9999 : Int32))) a 3 ((up2 I a 2 (if ((I a 2) + (1 : Int32)) < (9999 : Int32) then ((I a 2) + (1 : Int32)) else (9999 : Int32))) a 2)) a 4) / (2 : Int32))) a 5 (0 : Int32)) a 6) + (1 : Int32)) < (9999 : Int32) then (((up2 (up2 (up2 (up2 I a 2 (if ((I a 2) + (1 : Int32)) < (9999 : Int32) then ((I a 2) + (1 : Int32)) else (9999 : Int32))) a 3 ((up2 I a 2 (if ((I a 2) + (1 : Int32)) < (9999 : Int32) then ((I a 2) + (1 : Int32)) else (9999 : Int32))) a 2)) a 4 (((up2 (up2 I a 2 (if ((I a 2) + (1 : Int32)) < (9999 : Int32) then ((I a 2) + (1 : Int32)) else (9999 : Int32))) a 3 ((up2 I a 2 (if ((I a 2) + (1 : Int32)) < (9999 : Int32) then ((I a 2) + (1 : Int32)) else (9999 : Int32))) a 2)) a 4) / (2 : Int32))) a 5 (0 : Int32)) a 6) + (1 : Int32)) else (9999 : Int32)))
set_option maxRecDepth 4000 in
set_option maxHeartbeats 4000000 in
theorem C_X3_comeBack {g : gX} {d : Nat} {P : Nat → Nat → Option Nat} {I : HI} {a : Nat} {J : HJ} (hp : Wp P) (ha : OB NT a 3) {r : HI} (h : F_X3_comeBack I a = some r) : Cm g mX3_comeBack (d + 1) [.ref a] (NT, I, J, P) none (NT, r, J, P) := by
  unfold F_X3_comeBack at h
  refine Cm.of (by decide) (by simp [Value.category]) (Nat.le_of_ble_eq_true rfl) (Nat.le_refl _) (ls := [some (.ref a)]) rfl ?_
  refine M_aload_n (pc := 0) dX3_comeBack_0 rfl ?_
  refine M_sipush (pc := 1) (v := 9999) dX3_comeBack_1 (by decide) ?_
  refine M_aload_n (pc := 4) dX3_comeBack_4 rfl ?_
  refine M_getI (pc := 5) dX3_comeBack_5 f_X3_22 ha ?_
  refine M_iconst (pc := 8) (v := 1) dX3_comeBack_8 (by decide) ?_
  refine M_iadd (pc := 9) dX3_comeBack_9 ?_
  refine M_mmin (pc := 10) dX3_comeBack_10 mm_X3_80.1 mm_X3_80.2.1 mm_X3_80.2.2.1 mm_X3_80.2.2.2 (Nat.le_of_ble_eq_true rfl) ?_
  refine M_putI (pc := 13) dX3_comeBack_13 f_X3_22 ha rfl ⟨rfl, rfl⟩ ?_
  refine M_aload_n (pc := 16) dX3_comeBack_16 rfl ?_
  refine M_aload_n (pc := 17) dX3_comeBack_17 rfl ?_
  refine M_getI (pc := 18) dX3_comeBack_18 f_X3_22 ha ?_
  refine M_putI (pc := 21) dX3_comeBack_21 f_X3_25 ha rfl ⟨rfl, rfl⟩ ?_
  refine M_aload_n (pc := 24) dX3_comeBack_24 rfl ?_
  refine M_aload_n (pc := 25) dX3_comeBack_25 rfl ?_
  refine M_getI (pc := 26) dX3_comeBack_26 f_X3_28 ha ?_
  refine M_iconst (pc := 29) (v := 2) dX3_comeBack_29 (by decide) ?_
  refine M_idiv (pc := 30) dX3_comeBack_30 (by decide) ?_
  refine M_putI (pc := 31) dX3_comeBack_31 f_X3_28 ha rfl ⟨rfl, rfl⟩ ?_
  refine M_aload_n (pc := 34) dX3_comeBack_34 rfl ?_
  refine M_iconst (pc := 35) (v := 0) dX3_comeBack_35 (by decide) ?_
  refine M_putI (pc := 36) dX3_comeBack_36 f_X3_31 ha rfl ⟨rfl, rfl⟩ ?_
  refine M_aload_n (pc := 39) dX3_comeBack_39 rfl ?_
  refine M_sipush (pc := 40) (v := 9999) dX3_comeBack_40 (by decide) ?_
  refine M_aload_n (pc := 43) dX3_comeBack_43 rfl ?_
  refine M_getI (pc := 44) dX3_comeBack_44 f_X3_34 ha ?_
  refine M_iconst (pc := 47) (v := 1) dX3_comeBack_47 (by decide) ?_
  refine M_iadd (pc := 48) dX3_comeBack_48 ?_
  refine M_mmin (pc := 49) dX3_comeBack_49 mm_X3_80.1 mm_X3_80.2.1 mm_X3_80.2.2.1 mm_X3_80.2.2.2 (Nat.le_of_ble_eq_true rfl) ?_
  refine M_putI (pc := 52) dX3_comeBack_52 f_X3_34 ha rfl ⟨rfl, rfl⟩ ?_
  obtain rfl := Option.some.inj h
  exact M_vret (pc := 55) dX3_comeBack_55 rfl rfl rfl
def F_X3_draw (I : HI) (a : Nat) : Option (Int32 × HI) :=
  some ((((((up2 I a 14 (((1103515245 : Int32) * (I a 14)) + (12345 : Int32))) a 14)).toUInt32 >>> (((16 : Int32)).toUInt32 &&& Int32.toUInt32 31)).toInt32 &&& (32767 : Int32)), (up2 I a 14 (((1103515245 : Int32) * (I a 14)) + (12345 : Int32))))
set_option maxRecDepth 4000 in
set_option maxHeartbeats 4000000 in
theorem C_X3_draw {g : gX} {d : Nat} {P : Nat → Nat → Option Nat} {I : HI} {a : Nat} {J : HJ} (hp : Wp P) (ha : OB NT a 3) {r : Int32 × HI} (h : F_X3_draw I a = some r) : Cm g mX3_draw (d + 0) [.ref a] (NT, I, J, P) (some (.int r.1)) (NT, r.2, J, P) := by
  unfold F_X3_draw at h
  refine Cm.of (by decide) (by simp [Value.category]) (Nat.le_of_ble_eq_true rfl) (Nat.le_refl _) (ls := [some (.ref a)]) rfl ?_
  refine M_aload_n (pc := 0) dX3_draw_0 rfl ?_
  refine M_ldc (pc := 1) (v := 1103515245) dX3_draw_1 w_492 ?_
  refine M_aload_n (pc := 3) dX3_draw_3 rfl ?_
  refine M_getI (pc := 4) dX3_draw_4 f_X3_58 ha ?_
  refine M_imul (pc := 7) dX3_draw_7 ?_
  refine M_sipush (pc := 8) (v := 12345) dX3_draw_8 (by decide) ?_
  refine M_iadd (pc := 11) dX3_draw_11 ?_
  refine M_putI (pc := 12) dX3_draw_12 f_X3_58 ha rfl ⟨rfl, rfl⟩ ?_
  refine M_aload_n (pc := 15) dX3_draw_15 rfl ?_
  refine M_getI (pc := 16) dX3_draw_16 f_X3_58 ha ?_
  refine M_bipush (pc := 19) (v := 16) dX3_draw_19 (by decide) ?_
  refine M_iushr (pc := 21) dX3_draw_21 ?_
  refine M_sipush (pc := 22) (v := 32767) dX3_draw_22 (by decide) ?_
  refine M_iand (pc := 25) dX3_draw_25 ?_
  obtain rfl := Option.some.inj h
  exact M_iret (pc := 26) dX3_draw_26 rfl rfl rfl rfl
def F_X3_drawSpoons (I : HI) (a : Nat) : Option (Int32 × HI) :=
  (F_X3_draw I a) >>= fun r1 => if (r1.2 (a + 1) 0) ≤ 0 then some ((0 : Int32), r1.2) else some (((r1.1 - r1.1 / (4 : Int32) * (4 : Int32)) + (1 : Int32)), r1.2)
set_option maxRecDepth 4000 in
set_option maxHeartbeats 4000000 in
theorem C_X3_drawSpoons {g : gX} {d : Nat} {P : Nat → Nat → Option Nat} {I : HI} {a : Nat} {J : HJ} (hp : Wp P) (ha : OB NT a 3) {r : Int32 × HI} (h : F_X3_drawSpoons I a = some r) : Cm g mX3_drawSpoons (d + 1) [.ref a] (NT, I, J, P) (some (.int r.1)) (NT, r.2, J, P) := by
  unfold F_X3_drawSpoons at h
  refine Cm.of (by decide) (by simp [Value.category]) (Nat.le_of_ble_eq_true rfl) (Nat.le_refl _) (ls := [some (.ref a), none]) rfl ?_
  refine M_aload_n (pc := 0) dX3_drawSpoons_0 rfl ?_
  obtain ⟨r1, hr2, h⟩ := bnd h
  refine M_callVi (pc := 1) dX3_drawSpoons_1 v_X3_104 rfl rfl ha (Nat.le_of_ble_eq_true rfl) (C_X3_draw (d := d + 0) hp ha hr2) (Nat.le_refl _) ?_
  refine M_iconst (pc := 4) (v := 4) dX3_drawSpoons_4 (by decide) ?_
  refine M_irem (pc := 5) dX3_drawSpoons_5 (by decide) ?_
  refine M_iconst (pc := 6) (v := 1) dX3_drawSpoons_6 (by decide) ?_
  refine M_iadd (pc := 7) dX3_drawSpoons_7 ?_
  refine M_istore_n (pc := 8) (ls' := [some (.ref a), some (.int ((r1.1 - r1.1 / (4 : Int32) * (4 : Int32)) + (1 : Int32)))]) dX3_drawSpoons_8 (by decide) rfl ?_
  refine M_aload_n (pc := 9) dX3_drawSpoons_9 rfl ?_
  refine M_getR (pc := 10) dX3_drawSpoons_10 f_X3_12 ha (gr_3_0 hp ha).1 ?_
  refine M_getI (pc := 13) dX3_drawSpoons_13 f_X3_108 (gr_3_0 hp ha).2 ?_
  refine M_if_le (pc := 16) (tgt := 23) dX3_drawSpoons_16 (by decide) (fun hc3 => ?_) (fun hc3 => ?_)
  · have h := (if_pos hc3).symm.trans h
    refine M_iconst (pc := 23) (v := 0) dX3_drawSpoons_23 (by decide) ?_
    obtain rfl := Option.some.inj h
    exact M_iret (pc := 24) dX3_drawSpoons_24 rfl rfl rfl rfl
  · have h := (if_neg hc3).symm.trans h
    refine M_iload_n (pc := 19) dX3_drawSpoons_19 rfl ?_
    refine M_goto (pc := 20) (tgt := 24) dX3_drawSpoons_20 (by decide) ?_
    obtain rfl := Option.some.inj h
    exact M_iret (pc := 24) dX3_drawSpoons_24 rfl rfl rfl rfl
def F_X3_drawDish (I : HI) (a : Nat) : Option (Int32 × HI) :=
  if (I (a + 1) 0) ≤ 0 then some ((-1 : Int32), I) else (F_X3_draw I a) >>= fun r2 => if ¬ (r2.2 (a + 1) 0) = 0 then some ((r2.1 - r2.1 / (r2.2 (a + 1) 0) * (r2.2 (a + 1) 0)), r2.2) else none
set_option maxRecDepth 4000 in
set_option maxHeartbeats 4000000 in
theorem C_X3_drawDish {g : gX} {d : Nat} {P : Nat → Nat → Option Nat} {I : HI} {a : Nat} {J : HJ} (hp : Wp P) (ha : OB NT a 3) {r : Int32 × HI} (h : F_X3_drawDish I a = some r) : Cm g mX3_drawDish (d + 1) [.ref a] (NT, I, J, P) (some (.int r.1)) (NT, r.2, J, P) := by
  unfold F_X3_drawDish at h
  refine Cm.of (by decide) (by simp [Value.category]) (Nat.le_of_ble_eq_true rfl) (Nat.le_refl _) (ls := [some (.ref a)]) rfl ?_
  refine M_aload_n (pc := 0) dX3_drawDish_0 rfl ?_
  refine M_getR (pc := 1) dX3_drawDish_1 f_X3_12 ha (gr_3_0 hp ha).1 ?_
  refine M_getI (pc := 4) dX3_drawDish_4 f_X3_108 (gr_3_0 hp ha).2 ?_
  refine M_if_le (pc := 7) (tgt := 25) dX3_drawDish_7 (by decide) (fun hc1 => ?_) (fun hc1 => ?_)
  · have h := (if_pos hc1).symm.trans h
    refine M_iconst (pc := 25) (v := -1) dX3_drawDish_25 (by decide) ?_
    obtain rfl := Option.some.inj h
    exact M_iret (pc := 26) dX3_drawDish_26 rfl rfl rfl rfl
  · have h := (if_neg hc1).symm.trans h
    refine M_aload_n (pc := 10) dX3_drawDish_10 rfl ?_
    obtain ⟨r2, hr3, h⟩ := bnd h
    refine M_callVi (pc := 11) dX3_drawDish_11 v_X3_104 rfl rfl ha (Nat.le_of_ble_eq_true rfl) (C_X3_draw (d := d + 0) hp ha hr3) (Nat.le_refl _) ?_
    refine M_aload_n (pc := 14) dX3_drawDish_14 rfl ?_
    refine M_getR (pc := 15) dX3_drawDish_15 f_X3_12 ha (gr_3_0 hp ha).1 ?_
    refine M_getI (pc := 18) dX3_drawDish_18 f_X3_108 (gr_3_0 hp ha).2 ?_
    obtain ⟨hz4, h⟩ := chk h
    refine M_irem (pc := 21) dX3_drawDish_21 hz4 ?_
    refine M_goto (pc := 22) (tgt := 26) dX3_drawDish_22 (by decide) ?_
    obtain rfl := Option.some.inj h
    exact M_iret (pc := 26) dX3_drawDish_26 rfl rfl rfl rfl
def F_X3_copy (I : HI) (a : Nat) (b1 : Nat) : Option (HI) :=
  (F_X1_copy I (a + 1) (b1 + 1)) >>= fun r1 => some (up2 (up2 (up2 (up2 (up2 (up2 (up2 (up2 (up2 (up2 (up2 (up2 (up2 (up2 r1 a 1 (r1 b1 1)) a 2 ((up2 r1 a 1 (r1 b1 1)) b1 2)) a 3 ((up2 (up2 r1 a 1 (r1 b1 1)) a 2 ((up2 r1 a 1 (r1 b1 1)) b1 2)) b1 3)) a 4 ((up2 (up2 (up2 r1 a 1 (r1 b1 1)) a 2 ((up2 r1 a 1 (r1 b1 1)) b1 2)) a 3 ((up2 (up2 r1 a 1 (r1 b1 1)) a 2 ((up2 r1 a 1 (r1 b1 1)) b1 2)) b1 3)) b1 4)) a 5 ((up2 (up2 (up2 (up2 r1 a 1 (r1 b1 1)) a 2 ((up2 r1 a 1 (r1 b1 1)) b1 2)) a 3 ((up2 (up2 r1 a 1 (r1 b1 1)) a 2 ((up2 r1 a 1 (r1 b1 1)) b1 2)) b1 3)) a 4 ((up2 (up2 (up2 r1 a 1 (r1 b1 1)) a 2 ((up2 r1 a 1 (r1 b1 1)) b1 2)) a 3 ((up2 (up2 r1 a 1 (r1 b1 1)) a 2 ((up2 r1 a 1 (r1 b1 1)) b1 2)) b1 3)) b1 4)) b1 5)) a 6 ((up2 (up2 (up2 (up2 (up2 r1 a 1 (r1 b1 1)) a 2 ((up2 r1 a 1 (r1 b1 1)) b1 2)) a 3 ((up2 (up2 r1 a 1 (r1 b1 1)) a 2 ((up2 r1 a 1 (r1 b1 1)) b1 2)) b1 3)) a 4 ((up2 (up2 (up2 r1 a 1 (r1 b1 1)) a 2 ((up2 r1 a 1 (r1 b1 1)) b1 2)) a 3 ((up2 (up2 r1 a 1 (r1 b1 1)) a 2 ((up2 r1 a 1 (r1 b1 1)) b1 2)) b1 3)) b1 4)) a 5 ((up2 (up2 (up2 (up2 r1 a 1 (r1 b1 1)) a 2 ((up2 r1 a 1 (r1 b1 1)) b1 2)) a 3 ((up2 (up2 r1 a 1 (r1 b1 1)) a 2 ((up2 r1 a 1 (r1 b1 1)) b1 2)) b1 3)) a 4 ((up2 (up2 (up2 r1 a 1 (r1 b1 1)) a 2 ((up2 r1 a 1 (r1 b1 1)) b1 2)) a 3 ((up2 (up2 r1 a 1 (r1 b1 1)) a 2 ((up2 r1 a 1 (r1 b1 1)) b1 2)) b1 3)) b1 4)) b1 5)) b1 6)) a 7 ((up2 (up2 (up2 (up2 (up2 (up2 r1 a 1 (r1 b1 1)) a 2 ((up2 r1 a 1 (r1 b1 1)) b1 2)) a 3 ((up2 (up2 r1 a 1 (r1 b1 1)) a 2 ((up2 r1 a 1 (r1 b1 1)) b1 2)) b1 3)) a 4 ((up2 (up2 (up2 r1 a 1 (r1 b1 1)) a 2 ((up2 r1 a 1 (r1 b1 1)) b1 2)) a 3 ((up2 (up2 r1 a 1 (r1 b1 1)) a 2 ((up2 r1 a 1 (r1 b1 1)) b1 2)) b1 3)) b1 4)) a 5 ((up2 (up2 (up2 (up2 r1 a 1 (r1 b1 1)) a 2 ((up2 r1 a 1 (r1 b1 1)) b1 2)) a 3 ((up2 (up2 r1 a 1 (r1 b1 1)) a 2 ((up2 r1 a 1 (r1 b1 1)) b1 2)) b1 3)) a 4 ((up2 (up2 (up2 r1 a 1 (r1 b1 1)) a 2 ((up2 r1 a 1 (r1 b1 1)) b1 2)) a 3 ((up2 (up2 r1 a 1 (r1 b1 1)) a 2 ((up2 r1 a 1 (r1 b1 1)) b1 2)) b1 3)) b1 4)) b1 5)) a 6 ((up2 (up2 (up2 (up2 (up2 r1 a 1 (r1 b1 1)) a 2 ((up2 r1 a 1 (r1 b1 1)) b1 2)) a 3 ((up2 (up2 r1 a 1 (r1 b1 1)) a 2 ((up2 r1 a 1 (r1 b1 1)) b1 2)) b1 3)) a 4 ((up2 (up2 (up2 r1 a 1 (r1 b1 1)) a 2 ((up2 r1 a 1 (r1 b1 1)) b1 2)) a 3 ((up2 (up2 r1 a 1 (r1 b1 1)) a 2 ((up2 r1 a 1 (r1 b1 1)) b1 2)) b1 3)) b1 4)) a 5 ((up2 (up2 (up2 (up2 r1 a 1 (r1 b1 1)) a 2 ((up2 r1 a 1 (r1 b1 1)) b1 2)) a 3 ((up2 (up2 r1 a 1 (r1 b1 1)) a 2 ((up2 r1 a 1 (r1 b1 1)) b1 2)) b1 3)) a 4 ((up2 (up2 (up2 r1 a 1 (r1 b1 1)) a 2 ((up2 r1 a 1 (r1 b1 1)) b1 2)) a 3 ((up2 (up2 r1 a 1 (r1 b1 1)) a 2 ((up2 r1 a 1 (r1 b1 1)) b1 2)) b1 3)) b1 4)) b1 5)) b1 6)) b1 7)) a 8 ((up2 (up2 (up2 (up2 (up2 (up2 (up2 r1 a 1 (r1 b1 1)) a 2 ((up2 r1 a 1 (r1 b1 1)) b1 2)) a 3 ((up2 (up2 r1 a 1 (r1 b1 1)) a 2 ((up2 r1 a 1 (r1 b1 1)) b1 2)) b1 3)) a 4 ((up2 (up2 (up2 r1 a 1 (r1 b1 1)) a 2 ((up2 r1 a 1 (r1 b1 1)) b1 2)) a 3 ((up2 (up2 r1 a 1 (r1 b1 1)) a 2 ((up2 r1 a 1 (r1 b1 1)) b1 2)) b1 3)) b1 4)) a 5 ((up2 (up2 (up2 (up2 r1 a 1 (r1 b1 1)) a 2 ((up2 r1 a 1 (r1 b1 1)) b1 2)) a 3 ((up2 (up2 r1 a 1 (r1 b1 1)) a 2 ((up2 r1 a 1 (r1 b1 1)) b1 2)) b1 3)) a 4 ((up2 (up2 (up2 r1 a 1 (r1 b1 1)) a 2 ((up2 r1 a 1 (r1 b1 1)) b1 2)) a 3 ((up2 (up2 r1 a 1 (r1 b1 1)) a 2 ((up2 r1 a 1 (r1 b1 1)) b1 2)) b1 3)) b1 4)) b1 5)) a 6 ((up2 (up2 (up2 (up2 (up2 r1 a 1 (r1 b1 1)) a 2 ((up2 r1 a 1 (r1 b1 1)) b1 2)) a 3 ((up2 (up2 r1 a 1 (r1 b1 1)) a 2 ((up2 r1 a 1 (r1 b1 1)) b1 2)) b1 3)) a 4 ((up2 (up2 (up2 r1 a 1 (r1 b1 1)) a 2 ((up2 r1 a 1 (r1 b1 1)) b1 2)) a 3 ((up2 (up2 r1 a 1 (r1 b1 1)) a 2 ((up2 r1 a 1 (r1 b1 1)) b1 2)) b1 3)) b1 4)) a 5 ((up2 (up2 (up2 (up2 r1 a 1 (r1 b1 1)) a 2 ((up2 r1 a 1 (r1 b1 1)) b1 2)) a 3 ((up2 (up2 r1 a 1 (r1 b1 1)) a 2 ((up2 r1 a 1 (r1 b1 1)) b1 2)) b1 3)) a 4 ((up2 (up2 (up2 r1 a 1 (r1 b1 1)) a 2 ((up2 r1 a 1 (r1 b1 1)) b1 2)) a 3 ((up2 (up2 r1 a 1 (r1 b1 1)) a 2 ((up2 r1 a 1 (r1 b1 1)) b1 2)) b1 3)) b1 4)) b1 5)) b1 6)) a 7 ((up2 (up2 (up2 (up2 (up2 (up2 r1 a 1 (r1 b1 1)) a 2 ((up2 r1 a 1 (r1 b1 1)) b1 2)) a 3 ((up2 (up2 r1 a 1 (r1 b1 1)) a 2 ((up2 r1 a 1 (r1 b1 1)) b1 2)) b1 3)) a 4 ((up2 (up2 (up2 r1 a 1 (r1 b1 1)) a 2 ((up2 r1 a 1 (r1 b1 1)) b1 2)) a 3 ((up2 (up2 r1 a 1 (r1 b1 1)) a 2 ((up2 r1 a 1 (r1 b1 1)) b1 2)) b1 3)) b1 4)) a 5 ((up2 (up2 (up2 (up2 r1 a 1 (r1 b1 1)) a 2 ((up2 r1 a 1 (r1 b1 1)) b1 2)) a 3 ((up2 (up2 r1 a 1 (r1 b1 1)) a 2 ((up2 r1 a 1 (r1 b1 1)) b1 2)) b1 3)) a 4 ((up2 (up2 (up2 r1 a 1 (r1 b1 1)) a 2 ((up2 r1 a 1 (r1 b1 1)) b1 2)) a 3 ((up2 (up2 r1 a 1 (r1 b1 1)) a 2 ((up2 r1 a 1 (r1 b1 1)) b1 2)) b1 3)) b1 4)) b1 5)) a 6 ((up2 (up2 (up2 (up2 (up2 r1 a 1 (r1 b1 1)) a 2 ((up2 r1 a 1 (r1 b1 1)) b1 2)) a 3 ((up2 (up2 r1 a 1 (r1 b1 1)) a 2 ((up2 r1 a 1 (r1 b1 1)) b1 2)) b1 3)) a 4 ((up2 (up2 (up2 r1 a 1 (r1 b1 1)) a 2 ((up2 r1 a 1 (r1 b1 1)) b1 2)) a 3 ((up2 (up2 r1 a 1 (r1 b1 1)) a 2 ((up2 r1 a 1 (r1 b1 1)) b1 2)) b1 3)) b1 4)) a 5 ((up2 (up2 (up2 (up2 r1 a 1 (r1 b1 1)) a 2 ((up2 r1 a 1 (r1 b1 1)) b1 2)) a 3 ((up2 (up2 r1 a 1 (r1 b1 1)) a 2 ((up2 r1 a 1 (r1 b1 1)) b1 2)) b1 3)) a 4 ((up2 (up2 (up2 r1 a 1 (r1 b1 1)) a 2 ((up2 r1 a 1 (r1 b1 1)) b1 2)) a 3 ((up2 (up2 r1 a 1 (r1 b1 1)) a 2 ((up2 r1 a 1 (r1 b1 1)) b1 2)) b1 3)) b1 4)) b1 5)) b1 6)) b1 7)) b1 8)) a 9 ((up2 (up2 (up2 (up2 (up2 (up2 (up2 (up2 r1 a 1 (r1 b1 1)) a 2 ((up2 r1 a 1 (r1 b1 1)) b1 2)) a 3 ((up2 (up2 r1 a 1 (r1 b1 1)) a 2 ((up2 r1 a 1 (r1 b1 1)) b1 2)) b1 3)) a 4 ((up2 (up2 (up2 r1 a 1 (r1 b1 1)) a 2 ((up2 r1 a 1 (r1 b1 1)) b1 2)) a 3 ((up2 (up2 r1 a 1 (r1 b1 1)) a 2 ((up2 r1 a 1 (r1 b1 1)) b1 2)) b1 3)) b1 4)) a 5 ((up2 (up2 (up2 (up2 r1 a 1 (r1 b1 1)) a 2 ((up2 r1 a 1 (r1 b1 1)) b1 2)) a 3 ((up2 (up2 r1 a 1 (r1 b1 1)) a 2 ((up2 r1 a 1 (r1 b1 1)) b1 2)) b1 3)) a 4 ((up2 (up2 (up2 r1 a 1 (r1 b1 1)) a 2 ((up2 r1 a 1 (r1 b1 1)) b1 2)) a 3 ((up2 (up2 r1 a 1 (r1 b1 1)) a 2 ((up2 r1 a 1 (r1 b1 1)) b1 2)) b1 3)) b1 4)) b1 5)) a 6 ((up2 (up2 (up2 (up2 (up2 r1 a 1 (r1 b1 1)) a 2 ((up2 r1 a 1 (r1 b1 1)) b1 2)) a 3 ((up2 (up2 r1 a 1 (r1 b1 1)) a 2 ((up2 r1 a 1 (r1 b1 1)) b1 2)) b1 3)) a 4 ((up2 (up2 (up2 r1 a 1 (r1 b1 1)) a 2 ((up2 r1 a 1 (r1 b1 1)) b1 2)) a 3 ((up2 (up2 r1 a 1 (r1 b1 1)) a 2 ((up2 r1 a 1 (r1 b1 1)) b1 2)) b1 3)) b1 4)) a 5 ((up2 (up2 (up2 (up2 r1 a 1 (r1 b1 1)) a 2 ((up2 r1 a 1 (r1 b1 1)) b1 2)) a 3 ((up2 (up2 r1 a 1 (r1 b1 1)) a 2 ((up2 r1 a 1 (r1 b1 1)) b1 2)) b1 3)) a 4 ((up2 (up2 (up2 r1 a 1 (r1 b1 1)) a 2 ((up2 r1 a 1 (r1 b1 1)) b1 2)) a 3 ((up2 (up2 r1 a 1 (r1 b1 1)) a 2 ((up2 r1 a 1 (r1 b1 1)) b1 2)) b1 3)) b1 4)) b1 5)) b1 6)) a 7 ((up2 (up2 (up2 (up2 (up2 (up2 r1 a 1 (r1 b1 1)) a 2 ((up2 r1 a 1 (r1 b1 1)) b1 2)) a 3 ((up2 (up2 r1 a 1 (r1 b1 1)) a 2 ((up2 r1 a 1 (r1 b1 1)) b1 2)) b1 3)) a 4 ((up2 (up2 (up2 r1 a 1 (r1 b1 1)) a 2 ((up2 r1 a 1 (r1 b1 1)) b1 2)) a 3 ((up2 (up2 r1 a 1 (r1 b1 1)) a 2 ((up2 r1 a 1 (r1 b1 1)) b1 2)) b1 3)) b1 4)) a 5 ((up2 (up2 (up2 (up2 r1 a 1 (r1 b1 1)) a 2 ((up2 r1 a 1 (r1 b1 1)) b1 2)) a 3 ((up2 (up2 r1 a 1 (r1 b1 1)) a 2 ((up2 r1 a 1 (r1 b1 1)) b1 2)) b1 3)) a 4 ((up2 (up2 (up2 r1 a 1 (r1 b1 1)) a 2 ((up2 r1 a 1 (r1 b1 1)) b1 2)) a 3 ((up2 (up2 r1 a 1 (r1 b1 1)) a 2 ((up2 r1 a 1 (r1 b1 1)) b1 2)) b1 3)) b1 4)) b1 5)) a 6 ((up2 (up2 (up2 (up2 (up2 r1 a 1 (r1 b1 1)) a 2 ((up2 r1 a 1 (r1 b1 1)) b1 2)) a 3 ((up2 (up2 r1 a 1 (r1 b1 1)) a 2 ((up2 r1 a 1 (r1 b1 1)) b1 2)) b1 3)) a 4 ((up2 (up2 (up2 r1 a 1 (r1 b1 1)) a 2 ((up2 r1 a 1 (r1 b1 1)) b1 2)) a 3 ((up2 (up2 r1 a 1 (r1 b1 1)) a 2 ((up2 r1 a 1 (r1 b1 1)) b1 2)) b1 3)) b1 4)) a 5 ((up2 (up2 (up2 (up2 r1 a 1 (r1 b1 1)) a 2 ((up2 r1 a 1 (r1 b1 1)) b1 2)) a 3 ((up2 (up2 r1 a 1 (r1 b1 1)) a 2 ((up2 r1 a 1 (r1 b1 1)) b1 2)) b1 3)) a 4 ((up2 (up2 (up2 r1 a 1 (r1 b1 1)) a 2 ((up2 r1 a 1 (r1 b1 1)) b1 2)) a 3 ((up2 (up2 r1 a 1 (r1 b1 1)) a 2 ((up2 r1 a 1 (r1 b1 1)) b1 2)) b1 3)) b1 4)) b1 5)) b1 6)) b1 7)) a 8 ((up2 (up2 (up2 (up2 (up2 (up2 (up2 r1 a 1 (r1 b1 1)) a 2 ((up2 r1 a 1 (r1 b1 1)) b1 2)) a 3 ((up2 (up2 r1 a 1 (r1 b1 1)) a 2 ((up2 r1 a 1 (r1 b1 1)) b1 2)) b1 3)) a 4 ((up2 (up2 (up2 r1 a 1 (r1 b1 1)) a 2 ((up2 r1 a 1 (r1 b1 1)) b1 2)) a 3 ((up2 (up2 r1 a 1 (r1 b1 1)) a 2 ((up2 r1 a 1 (r1 b1 1)) b1 2)) b1 3)) b1 4)) a 5 ((up2 (up2 (up2 (up2 r1 a 1 (r1 b1 1)) a 2 ((up2 r1 a 1 (r1 b1 1)) b1 2)) a 3 ((up2 (up2 r1 a 1 (r1 b1 1)) a 2 ((up2 r1 a 1 (r1 b1 1)) b1 2)) b1 3)) a 4 ((up2 (up2 (up2 r1 a 1 (r1 b1 1)) a 2 ((up2 r1 a 1 (r1 b1 1)) b1 2)) a 3 ((up2 (up2 r1 a 1 (r1 b1 1)) a 2 ((up2 r1 a 1 (r1 b1 1)) b1 2)) b1 3)) b1 4)) b1 5)) a 6 ((up2 (up2 (up2 (up2 (up2 r1 a 1 (r1 b1 1)) a 2 ((up2 r1 a 1 (r1 b1 1)) b1 2)) a 3 ((up2 (up2 r1 a 1 (r1 b1 1)) a 2 ((up2 r1 a 1 (r1 b1 1)) b1 2)) b1 3)) a 4 ((up2 (up2 (up2 r1 a 1 (r1 b1 1)) a 2 ((up2 r1 a 1 (r1 b1 1)) b1 2)) a 3 ((up2 (up2 r1 a 1 (r1 b1 1)) a 2 ((up2 r1 a 1 (r1 b1 1)) b1 2)) b1 3)) b1 4)) a 5 ((up2 (up2 (up2 (up2 r1 a 1 (r1 b1 1)) a 2 ((up2 r1 a 1 (r1 b1 1)) b1 2)) a 3 ((up2 (up2 r1 a 1 (r1 b1 1)) a 2 ((up2 r1 a 1 (r1 b1 1)) b1 2)) b1 3)) a 4 ((up2 (up2 (up2 r1 a 1 (r1 b1 1)) a 2 ((up2 r1 a 1 (r1 b1 1)) b1 2)) a 3 ((up2 (up2 r1 a 1 (r1 b1 1)) a 2 ((up2 r1 a 1 (r1 b1 1)) b1 2)) b1 3)) b1 4)) b1 5)) b1 6)) a 7 ((up2 (up2 (up2 (up2 (up2 (up2 r1 a 1 (r1 b1 1)) a 2 ((up2 r1 a 1 (r1 b1 1)) b1 2)) a 3 ((up2 (up2 r1 a 1 (r1 b1 1)) a 2 ((up2 r1 a 1 (r1 b1 1)) b1 2)) b1 3)) a 4 ((up2 (up2 (up2 r1 a 1 (r1 b1 1)) a 2 ((up2 r1 a 1 (r1 b1 1)) b1 2)) a 3 ((up2 (up2 r1 a 1 (r1 b1 1)) a 2 ((up2 r1 a 1 (r1 b1 1)) b1 2)) b1 3)) b1 4)) a 5 ((up2 (up2 (up2 (up2 r1 a 1 (r1 b1 1)) a 2 ((up2 r1 a 1 (r1 b1 1)) b1 2)) a 3 ((up2 (up2 r1 a 1 (r1 b1 1)) a 2 ((up2 r1 a 1 (r1 b1 1)) b1 2)) b1 3)) a 4 ((up2 (up2 (up2 r1 a 1 (r1 b1 1)) a 2 ((up2 r1 a 1 (r1 b1 1)) b1 2)) a 3 ((up2 (up2 r1 a 1 (r1 b1 1)) a 2 ((up2 r1 a 1 (r1 b1 1)) b1 2)) b1 3)) b1 4)) b1 5)) a 6 ((up2 (up2 (up2 (up2 (up2 r1 a 1 (r1 b1 1)) a 2 ((up2 r1 a 1 (r1 b1 1)) b1 2)) a 3 ((up2 (up2 r1 a 1 (r1 b1 1)) a 2 ((up2 r1 a 1 (r1 b1 1)) b1 2)) b1 3)) a 4 ((up2 (up2 (up2 r1 a 1 (r1 b1 1)) a 2 ((up2 r1 a 1 (r1 b1 1)) b1 2)) a 3 ((up2 (up2 r1 a 1 (r1 b1 1)) a 2 ((up2 r1 a 1 (r1 b1 1)) b1 2)) b1 3)) b1 4)) a 5 ((up2 (up2 (up2 (up2 r1 a 1 (r1 b1 1)) a 2 ((up2 r1 a 1 (r1 b1 1)) b1 2)) a 3 ((up2 (up2 r1 a 1 (r1 b1 1)) a 2 ((up2 r1 a 1 (r1 b1 1)) b1 2)) b1 3)) a 4 ((up2 (up2 (up2 r1 a 1 (r1 b1 1)) a 2 ((up2 r1 a 1 (r1 b1 1)) b1 2)) a 3 ((up2 (up2 r1 a 1 (r1 b1 1)) a 2 ((up2 r1 a 1 (r1 b1 1)) b1 2)) b1 3)) b1 4)) b1 5)) b1 6)) b1 7)) b1 8)) b1 9)) a 10 ((up2 (up2 (up2 (up2 (up2 (up2 (up2 (up2 (up2 r1 a 1 (r1 b1 1)) a 2 ((up2 r1 a 1 (r1 b1 1)) b1 2)) a 3 ((up2 (up2 r1 a 1 (r1 b1 1)) a 2 ((up2 r1 a 1 (r1 b1 1)) b1 2)) b1 3)) a 4 ((up2 (up2 (up2 r1 a 1 (r1 b1 1)) a 2 ((up2 r1 a 1 (r1 b1 1)) b1 2)) a 3 ((up2 (up2 r1 a 1 (r1 b1 1)) a 2 ((up2 r1 a 1 (r1 b1 1)) b1 2)) b1 3)) b1 4)) a 5 ((up2 (up2 (up2 (up2 r1 a 1 (r1 b1 1)) a 2 ((up2 r1 a 1 (r1 b1 1)) b1 2)) a 3 ((up2 (up2 r1 a 1 (r1 b1 1)) a 2 ((up2 r1 a 1 (r1 b1 1)) b1 2)) b1 3)) a 4 ((up2 (up2 (up2 r1 a 1 (r1 b1 1)) a 2 ((up2 r1 a 1 (r1 b1 1)) b1 2)) a 3 ((up2 (up2 r1 a 1 (r1 b1 1)) a 2 ((up2 r1 a 1 (r1 b1 1)) b1 2)) b1 3)) b1 4)) b1 5)) a 6 ((up2 (up2 (up2 (up2 (up2 r1 a 1 (r1 b1 1)) a 2 ((up2 r1 a 1 (r1 b1 1)) b1 2)) a 3 ((up2 (up2 r1 a 1 (r1 b1 1)) a 2 ((up2 r1 a 1 (r1 b1 1)) b1 2)) b1 3)) a 4 ((up2 (up2 (up2 r1 a 1 (r1 b1 1)) a 2 ((up2 r1 a 1 (r1 b1 1)) b1 2)) a 3 ((up2 (up2 r1 a 1 (r1 b1 1)) a 2 ((up2 r1 a 1 (r1 b1 1)) b1 2)) b1 3)) b1 4)) a 5 ((up2 (up2 (up2 (up2 r1 a 1 (r1 b1 1)) a 2 ((up2 r1 a 1 (r1 b1 1)) b1 2)) a 3 ((up2 (up2 r1 a 1 (r1 b1 1)) a 2 ((up2 r1 a 1 (r1 b1 1)) b1 2)) b1 3)) a 4 ((up2 (up2 (up2 r1 a 1 (r1 b1 1)) a 2 ((up2 r1 a 1 (r1 b1 1)) b1 2)) a 3 ((up2 (up2 r1 a 1 (r1 b1 1)) a 2 ((up2 r1 a 1 (r1 b1 1)) b1 2)) b1 3)) b1 4)) b1 5)) b1 6)) a 7 ((up2 (up2 (up2 (up2 (up2 (up2 r1 a 1 (r1 b1 1)) a 2 ((up2 r1 a 1 (r1 b1 1)) b1 2)) a 3 ((up2 (up2 r1 a 1 (r1 b1 1)) a 2 ((up2 r1 a 1 (r1 b1 1)) b1 2)) b1 3)) a 4 ((up2 (up2 (up2 r1 a 1 (r1 b1 1)) a 2 ((up2 r1 a 1 (r1 b1 1)) b1 2)) a 3 ((up2 (up2 r1 a 1 (r1 b1 1)) a 2 ((up2 r1 a 1 (r1 b1 1)) b1 2)) b1 3)) b1 4)) a 5 ((up2 (up2 (up2 (up2 r1 a 1 (r1 b1 1)) a 2 ((up2 r1 a 1 (r1 b1 1)) b1 2)) a 3 ((up2 (up2 r1 a 1 (r1 b1 1)) a 2 ((up2 r1 a 1 (r1 b1 1)) b1 2)) b1 3)) a 4 ((up2 (up2 (up2 r1 a 1 (r1 b1 1)) a 2 ((up2 r1 a 1 (r1 b1 1)) b1 2)) a 3 ((up2 (up2 r1 a 1 (r1 b1 1)) a 2 ((up2 r1 a 1 (r1 b1 1)) b1 2)) b1 3)) b1 4)) b1 5)) a 6 ((up2 (up2 (up2 (up2 (up2 r1 a 1 (r1 b1 1)) a 2 ((up2 r1 a 1 (r1 b1 1)) b1 2)) a 3 ((up2 (up2 r1 a 1 (r1 b1 1)) a 2 ((up2 r1 a 1 (r1 b1 1)) b1 2)) b1 3)) a 4 ((up2 (up2 (up2 r1 a 1 (r1 b1 1)) a 2 ((up2 r1 a 1 (r1 b1 1)) b1 2)) a 3 ((up2 (up2 r1 a 1 (r1 b1 1)) a 2 ((up2 r1 a 1 (r1 b1 1)) b1 2)) b1 3)) b1 4)) a 5 ((up2 (up2 (up2 (up2 r1 a 1 (r1 b1 1)) a 2 ((up2 r1 a 1 (r1 b1 1)) b1 2)) a 3 ((up2 (up2 r1 a 1 (r1 b1 1)) a 2 ((up2 r1 a 1 (r1 b1 1)) b1 2)) b1 3)) a 4 ((up2 (up2 (up2 r1 a 1 (r1 b1 1)) a 2 ((up2 r1 a 1 (r1 b1 1)) b1 2)) a 3 ((up2 (up2 r1 a 1 (r1 b1 1)) a 2 ((up2 r1 a 1 (r1 b1 1)) b1 2)) b1 3)) b1 4)) b1 5)) b1 6)) b1 7)) a 8 ((up2 (up2 (up2 (up2 (up2 (up2 (up2 r1 a 1 (r1 b1 1)) a 2 ((up2 r1 a 1 (r1 b1 1)) b1 2)) a 3 ((up2 (up2 r1 a 1 (r1 b1 1)) a 2 ((up2 r1 a 1 (r1 b1 1)) b1 2)) b1 3)) a 4 ((up2 (up2 (up2 r1 a 1 (r1 b1 1)) a 2 ((up2 r1 a 1 (r1 b1 1)) b1 2)) a 3 ((up2 (up2 r1 a 1 (r1 b1 1)) a 2 ((up2 r1 a 1 (r1 b1 1)) b1 2)) b1 3)) b1 4)) a 5 ((up2 (up2 (up2 (up2 r1 a 1 (r1 b1 1)) a 2 ((up2 r1 a 1 (r1 b1 1)) b1 2)) a 3 ((up2 (up2 r1 a 1 (r1 b1 1)) a 2 ((up2 r1 a 1 (r1 b1 1)) b1 2)) b1 3)) a 4 ((up2 (up2 (up2 r1 a 1 (r1 b1 1)) a 2 ((up2 r1 a 1 (r1 b1 1)) b1 2)) a 3 ((up2 (up2 r1 a 1 (r1 b1 1)) a 2 ((up2 r1 a 1 (r1 b1 1)) b1 2)) b1 3)) b1 4)) b1 5)) a 6 ((up2 (up2 (up2 (up2 (up2 r1 a 1 (r1 b1 1)) a 2 ((up2 r1 a 1 (r1 b1 1)) b1 2)) a 3 ((up2 (up2 r1 a 1 (r1 b1 1)) a 2 ((up2 r1 a 1 (r1 b1 1)) b1 2)) b1 3)) a 4 ((up2 (up2 (up2 r1 a 1 (r1 b1 1)) a 2 ((up2 r1 a 1 (r1 b1 1)) b1 2)) a 3 ((up2 (up2 r1 a 1 (r1 b1 1)) a 2 ((up2 r1 a 1 (r1 b1 1)) b1 2)) b1 3)) b1 4)) a 5 ((up2 (up2 (up2 (up2 r1 a 1 (r1 b1 1)) a 2 ((up2 r1 a 1 (r1 b1 1)) b1 2)) a 3 ((up2 (up2 r1 a 1 (r1 b1 1)) a 2 ((up2 r1 a 1 (r1 b1 1)) b1 2)) b1 3)) a 4 ((up2 (up2 (up2 r1 a 1 (r1 b1 1)) a 2 ((up2 r1 a 1 (r1 b1 1)) b1 2)) a 3 ((up2 (up2 r1 a 1 (r1 b1 1)) a 2 ((up2 r1 a 1 (r1 b1 1)) b1 2)) b1 3)) b1 4)) b1 5)) b1 6)) a 7 ((up2 (up2 (up2 (up2 (up2 (up2 r1 a 1 (r1 b1 1)) a 2 ((up2 r1 a 1 (r1 b1 1)) b1 2)) a 3 ((up2 (up2 r1 a 1 (r1 b1 1)) a 2 ((up2 r1 a 1 (r1 b1 1)) b1 2)) b1 3)) a 4 ((up2 (up2 (up2 r1 a 1 (r1 b1 1)) a 2 ((up2 r1 a 1 (r1 b1 1)) b1 2)) a 3 ((up2 (up2 r1 a 1 (r1 b1 1)) a 2 ((up2 r1 a 1 (r1 b1 1)) b1 2)) b1 3)) b1 4)) a 5 ((up2 (up2 (up2 (up2 r1 a 1 (r1 b1 1)) a 2 ((up2 r1 a 1 (r1 b1 1)) b1 2)) a 3 ((up2 (up2 r1 a 1 (r1 b1 1)) a 2 ((up2 r1 a 1 (r1 b1 1)) b1 2)) b1 3)) a 4 ((up2 (up2 (up2 r1 a 1 (r1 b1 1)) a 2 ((up2 r1 a 1 (r1 b1 1)) b1 2)) a 3 ((up2 (up2 r1 a 1 (r1 b1 1)) a 2 ((up2 r1 a 1 (r1 b1 1)) b1 2)) b1 3)) b1 4)) b1 5)) a 6 ((up2 (up2 (up2 (up2 (up2 r1 a 1 (r1 b1 1)) a 2 ((up2 r1 a 1 (r1 b1 1)) b1 2)) a 3 ((up2 (up2 r1 a 1 (r1 b1 1)) a 2 ((up2 r1 a 1 (r1 b1 1)) b1 2)) b1 3)) a 4 ((up2 (up2 (up2 r1 a 1 (r1 b1 1)) a 2 ((up2 r1 a 1 (r1 b1 1)) b1 2)) a 3 ((up2 (up2 r1 a 1 (r1 b1 1)) a 2 ((up2 r1 a 1 (r1 b1 1)) b1 2)) b1 3)) b1 4)) a 5 ((up2 (up2 (up2 (up2 r1 a 1 (r1 b1 1)) a 2 ((up2 r1 a 1 (r1 b1 1)) b1 2)) a 3 ((up2 (up2 r1 a 1 (r1 b1 1)) a 2 ((up2 r1 a 1 (r1 b1 1)) b1 2)) b1 3)) a 4 ((up2 (up2 (up2 r1 a 1 (r1 b1 1)) a 2 ((up2 r1 a 1 (r1 b1 1)) b1 2)) a 3 ((up2 (up2 r1 a 1 (r1 b1 1)) a 2 ((up2 r1 a 1 (r1 b1 1)) b1 2)) b1 3)) b1 4)) b1 5)) b1 6)) b1 7)) b1 8)) a 9 ((up2 (up2 (up2 (up2 (up2 (up2 (up2 (up2 r1 a 1 (r1 b1 1)) a 2 ((up2 r1 a 1 (r1 b1 1)) b1 2)) a 3 ((up2 (up2 r1 a 1 (r1 b1 1)) a 2 ((up2 r1 a 1 (r1 b1 1)) b1 2)) b1 3)) a 4 ((up2 (up2 (up2 r1 a 1 (r1 b1 1)) a 2 ((up2 r1 a 1 (r1 b1 1)) b1 2)) a 3 ((up2 (up2 r1 a 1 (r1 b1 1)) a 2 ((up2 r1 a 1 (r1 b1 1)) b1 2)) b1 3)) b1 4)) a 5 ((up2 (up2 (up2 (up2 r1 a 1 (r1 b1 1)) a 2 ((up2 r1 a 1 (r1 b1 1)) b1 2)) a 3 ((up2 (up2 r1 a 1 (r1 b1 1)) a 2 ((up2 r1 a 1 (r1 b1 1)) b1 2)) b1 3)) a 4 ((up2 (up2 (up2 r1 a 1 (r1 b1 1)) a 2 ((up2 r1 a 1 (r1 b1 1)) b1 2)) a 3 ((up2 (up2 r1 a 1 (r1 b1 1)) a 2 ((up2 r1 a 1 (r1 b1 1)) b1 2)) b1 3)) b1 4)) b1 5)) a 6 ((up2 (up2 (up2 (up2 (up2 r1 a 1 (r1 b1 1)) a 2 ((up2 r1 a 1 (r1 b1 1)) b1 2)) a 3 ((up2 (up2 r1 a 1 (r1 b1 1)) a 2 ((up2 r1 a 1 (r1 b1 1)) b1 2)) b1 3)) a 4 ((up2 (up2 (up2 r1 a 1 (r1 b1 1)) a 2 ((up2 r1 a 1 (r1 b1 1)) b1 2)) a 3 ((up2 (up2 r1 a 1 (r1 b1 1)) a 2 ((up2 r1 a 1 (r1 b1 1)) b1 2)) b1 3)) b1 4)) a 5 ((up2 (up2 (up2 (up2 r1 a 1 (r1 b1 1)) a 2 ((up2 r1 a 1 (r1 b1 1)) b1 2)) a 3 ((up2 (up2 r1 a 1 (r1 b1 1)) a 2 ((up2 r1 a 1 (r1 b1 1)) b1 2)) b1 3)) a 4 ((up2 (up2 (up2 r1 a 1 (r1 b1 1)) a 2 ((up2 r1 a 1 (r1 b1 1)) b1 2)) a 3 ((up2 (up2 r1 a 1 (r1 b1 1)) a 2 ((up2 r1 a 1 (r1 b1 1)) b1 2)) b1 3)) b1 4)) b1 5)) b1 6)) a 7 ((up2 (up2 (up2 (up2 (up2 (up2 r1 a 1 (r1 b1 1)) a 2 ((up2 r1 a 1 (r1 b1 1)) b1 2)) a 3 ((up2 (up2 r1 a 1 (r1 b1 1)) a 2 ((up2 r1 a 1 (r1 b1 1)) b1 2)) b1 3)) a 4 ((up2 (up2 (up2 r1 a 1 (r1 b1 1)) a 2 ((up2 r1 a 1 (r1 b1 1)) b1 2)) a 3 ((up2 (up2 r1 a 1 (r1 b1 1)) a 2 ((up2 r1 a 1 (r1 b1 1)) b1 2)) b1 3)) b1 4)) a 5 ((up2 (up2 (up2 (up2 r1 a 1 (r1 b1 1)) a 2 ((up2 r1 a 1 (r1 b1 1)) b1 2)) a 3 ((up2 (up2 r1 a 1 (r1 b1 1)) a 2 ((up2 r1 a 1 (r1 b1 1)) b1 2)) b1 3)) a 4 ((up2 (up2 (up2 r1 a 1 (r1 b1 1)) a 2 ((up2 r1 a 1 (r1 b1 1)) b1 2)) a 3 ((up2 (up2 r1 a 1 (r1 b1 1)) a 2 ((up2 r1 a 1 (r1 b1 1)) b1 2)) b1 3)) b1 4)) b1 5)) a 6 ((up2 (up2 (up2 (up2 (up2 r1 a 1 (r1 b1 1)) a 2 ((up2 r1 a 1 (r1 b1 1)) b1 2)) a 3 ((up2 (up2 r1 a 1 (r1 b1 1)) a 2 ((up2 r1 a 1 (r1 b1 1)) b1 2)) b1 3)) a 4 ((up2 (up2 (up2 r1 a 1 (r1 b1 1)) a 2 ((up2 r1 a 1 (r1 b1 1)) b1 2)) a 3 ((up2 (up2 r1 a 1 (r1 b1 1)) a 2 ((up2 r1 a 1 (r1 b1 1)) b1 2)) b1 3)) b1 4)) a 5 ((up2 (up2 (up2 (up2 r1 a 1 (r1 b1 1)) a 2 ((up2 r1 a 1 (r1 b1 1)) b1 2)) a 3 ((up2 (up2 r1 a 1 (r1 b1 1)) a 2 ((up2 r1 a 1 (r1 b1 1)) b1 2)) b1 3)) a 4 ((up2 (up2 (up2 r1 a 1 (r1 b1 1)) a 2 ((up2 r1 a 1 (r1 b1 1)) b1 2)) a 3 ((up2 (up2 r1 a 1 (r1 b1 1)) a 2 ((up2 r1 a 1 (r1 b1 1)) b1 2)) b1 3)) b1 4)) b1 5)) b1 6)) b1 7)) a 8 ((up2 (up2 (up2 (up2 (up2 (up2 (up2 r1 a 1 (r1 b1 1)) a 2 ((up2 r1 a 1 (r1 b1 1)) b1 2)) a 3 ((up2 (up2 r1 a 1 (r1 b1 1)) a 2 ((up2 r1 a 1 (r1 b1 1)) b1 2)) b1 3)) a 4 ((up2 (up2 (up2 r1 a 1 (r1 b1 1)) a 2 ((up2 r1 a 1 (r1 b1 1)) b1 2)) a 3 ((up2 (up2 r1 a 1 (r1 b1 1)) a 2 ((up2 r1 a 1 (r1 b1 1)) b1 2)) b1 3)) b1 4)) a 5 ((up2 (up2 (up2 (up2 r1 a 1 (r1 b1 1)) a 2 ((up2 r1 a 1 (r1 b1 1)) b1 2)) a 3 ((up2 (up2 r1 a 1 (r1 b1 1)) a 2 ((up2 r1 a 1 (r1 b1 1)) b1 2)) b1 3)) a 4 ((up2 (up2 (up2 r1 a 1 (r1 b1 1)) a 2 ((up2 r1 a 1 (r1 b1 1)) b1 2)) a 3 ((up2 (up2 r1 a 1 (r1 b1 1)) a 2 ((up2 r1 a 1 (r1 b1 1)) b1 2)) b1 3)) b1 4)) b1 5)) a 6 ((up2 (up2 (up2 (up2 (up2 r1 a 1 (r1 b1 1)) a 2 ((up2 r1 a 1 (r1 b1 1)) b1 2)) a 3 ((up2 (up2 r1 a 1 (r1 b1 1)) a 2 ((up2 r1 a 1 (r1 b1 1)) b1 2)) b1 3)) a 4 ((up2 (up2 (up2 r1 a 1 (r1 b1 1)) a 2 ((up2 r1 a 1 (r1 b1 1)) b1 2)) a 3 ((up2 (up2 r1 a 1 (r1 b1 1)) a 2 ((up2 r1 a 1 (r1 b1 1)) b1 2)) b1 3)) b1 4)) a 5 ((up2 (up2 (up2 (up2 r1 a 1 (r1 b1 1)) a 2 ((up2 r1 a 1 (r1 b1 1)) b1 2)) a 3 ((up2 (up2 r1 a 1 (r1 b1 1)) a 2 ((up2 r1 a 1 (r1 b1 1)) b1 2)) b1 3)) a 4 ((up2 (up2 (up2 r1 a 1 (r1 b1 1)) a 2 ((up2 r1 a 1 (r1 b1 1)) b1 2)) a 3 ((up2 (up2 r1 a 1 (r1 b1 1)) a 2 ((up2 r1 a 1 (r1 b1 1)) b1 2)) b1 3)) b1 4)) b1 5)) b1 6)) a 7 ((up2 (up2 (up2 (up2 (up2 (up2 r1 a 1 (r1 b1 1)) a 2 ((up2 r1 a 1 (r1 b1 1)) b1 2)) a 3 ((up2 (up2 r1 a 1 (r1 b1 1)) a 2 ((up2 r1 a 1 (r1 b1 1)) b1 2)) b1 3)) a 4 ((up2 (up2 (up2 r1 a 1 (r1 b1 1)) a 2 ((up2 r1 a 1 (r1 b1 1)) b1 2)) a 3 ((up2 (up2 r1 a 1 (r1 b1 1)) a 2 ((up2 r1 a 1 (r1 b1 1)) b1 2)) b1 3)) b1 4)) a 5 ((up2 (up2 (up2 (up2 r1 a 1 (r1 b1 1)) a 2 ((up2 r1 a 1 (r1 b1 1)) b1 2)) a 3 ((up2 (up2 r1 a 1 (r1 b1 1)) a 2 ((up2 r1 a 1 (r1 b1 1)) b1 2)) b1 3)) a 4 ((up2 (up2 (up2 r1 a 1 (r1 b1 1)) a 2 ((up2 r1 a 1 (r1 b1 1)) b1 2)) a 3 ((up2 (up2 r1 a 1 (r1 b1 1)) a 2 ((up2 r1 a 1 (r1 b1 1)) b1 2)) b1 3)) b1 4)) b1 5)) a 6 ((up2 (up2 (up2 (up2 (up2 r1 a 1 (r1 b1 1)) a 2 ((up2 r1 a 1 (r1 b1 1)) b1 2)) a 3 ((up2 (up2 r1 a 1 (r1 b1 1)) a 2 ((up2 r1 a 1 (r1 b1 1)) b1 2)) b1 3)) a 4 ((up2 (up2 (up2 r1 a 1 (r1 b1 1)) a 2 ((up2 r1 a 1 (r1 b1 1)) b1 2)) a 3 ((up2 (up2 r1 a 1 (r1 b1 1)) a 2 ((up2 r1 a 1 (r1 b1 1)) b1 2)) b1 3)) b1 4)) a 5 ((up2 (up2 (up2 (up2 r1 a 1 (r1 b1 1)) a 2 ((up2 r1 a 1 (r1 b1 1)) b1 2)) a 3 ((up2 (up2 r1 a 1 (r1 b1 1)) a 2 ((up2 r1 a 1 (r1 b1 1)) b1 2)) b1 3)) a 4 ((up2 (up2 (up2 r1 a 1 (r1 b1 1)) a 2 ((up2 r1 a 1 (r1 b1 1)) b1 2)) a 3 ((up2 (up2 r1 a 1 (r1 b1 1)) a 2 ((up2 r1 a 1 (r1 b1 1)) b1 2)) b1 3)) b1 4)) b1 5)) b1 6)) b1 7)) b1 8)) b1 9)) b1 10)) a 11 ((up2 (up2 (up2 (up2 (up2 (up2 (up2 (up2 (up2 (up2 r1 a 1 (r1 b1 1)) a 2 ((up2 r1 a 1 (r1 b1 1)) b1 2)) a 3 ((up2 (up2 r1 a 1 (r1 b1 1)) a 2 ((up2 r1 a 1 (r1 b1 1)) b1 2)) b1 3)) a 4 ((up2 (up2 (up2 r1 a 1 (r1 b1 1)) a 2 ((up2 r1 a 1 (r1 b1 1)) b1 2)) a 3 ((up2 (up2 r1 a 1 (r1 b1 1)) a 2 ((up2 r1 a 1 (r1 b1 1)) b1 2)) b1 3)) b1 4)) a 5 ((up2 (up2 (up2 (up2 r1 a 1 (r1 b1 1)) a 2 ((up2 r1 a 1 (r1 b1 1)) b1 2)) a 3 ((up2 (up2 r1 a 1 (r1 b1 1)) a 2 ((up2 r1 a 1 (r1 b1 1)) b1 2)) b1 3)) a 4 ((up2 (up2 (up2 r1 a 1 (r1 b1 1)) a 2 ((up2 r1 a 1 (r1 b1 1)) b1 2)) a 3 ((up2 (up2 r1 a 1 (r1 b1 1)) a 2 ((up2 r1 a 1 (r1 b1 1)) b1 2)) b1 3)) b1 4)) b1 5)) a 6 ((up2 (up2 (up2 (up2 (up2 r1 a 1 (r1 b1 1)) a 2 ((up2 r1 a 1 (r1 b1 1)) b1 2)) a 3 ((up2 (up2 r1 a 1 (r1 b1 1)) a 2 ((up2 r1 a 1 (r1 b1 1)) b1 2)) b1 3)) a 4 ((up2 (up2 (up2 r1 a 1 (r1 b1 1)) a 2 ((up2 r1 a 1 (r1 b1 1)) b1 2)) a 3 ((up2 (up2 r1 a 1 (r1 b1 1)) a 2 ((up2 r1 a 1 (r1 b1 1)) b1 2)) b1 3)) b1 4)) a 5 ((up2 (up2 (up2 (up2 r1 a 1 (r1 b1 1)) a 2 ((up2 r1 a 1 (r1 b1 1)) b1 2)) a 3 ((up2 (up2 r1 a 1 (r1 b1 1)) a 2 ((up2 r1 a 1 (r1 b1 1)) b1 2)) b1 3)) a 4 ((up2 (up2 (up2 r1 a 1 (r1 b1 1)) a 2 ((up2 r1 a 1 (r1 b1 1)) b1 2)) a 3 ((up2 (up2 r1 a 1 (r1 b1 1)) a 2 ((up2 r1 a 1 (r1 b1 1)) b1 2)) b1 3)) b1 4)) b1 5)) b1 6)) a 7 ((up2 (up2 (up2 (up2 (up2 (up2 r1 a 1 (r1 b1 1)) a 2 ((up2 r1 a 1 (r1 b1 1)) b1 2)) a 3 ((up2 (up2 r1 a 1 (r1 b1 1)) a 2 ((up2 r1 a 1 (r1 b1 1)) b1 2)) b1 3)) a 4 ((up2 (up2 (up2 r1 a 1 (r1 b1 1)) a 2 ((up2 r1 a 1 (r1 b1 1)) b1 2)) a 3 ((up2 (up2 r1 a 1 (r1 b1 1)) a 2 ((up2 r1 a 1 (r1 b1 1)) b1 2)) b1 3)) b1 4)) a 5 ((up2 (up2 (up2 (up2 r1 a 1 (r1 b1 1)) a 2 ((up2 r1 a 1 (r1 b1 1)) b1 2)) a 3 ((up2 (up2 r1 a 1 (r1 b1 1)) a 2 ((up2 r1 a 1 (r1 b1 1)) b1 2)) b1 3)) a 4 ((up2 (up2 (up2 r1 a 1 (r1 b1 1)) a 2 ((up2 r1 a 1 (r1 b1 1)) b1 2)) a 3 ((up2 (up2 r1 a 1 (r1 b1 1)) a 2 ((up2 r1 a 1 (r1 b1 1)) b1 2)) b1 3)) b1 4)) b1 5)) a 6 ((up2 (up2 (up2 (up2 (up2 r1 a 1 (r1 b1 1)) a 2 ((up2 r1 a 1 (r1 b1 1)) b1 2)) a 3 ((up2 (up2 r1 a 1 (r1 b1 1)) a 2 ((up2 r1 a 1 (r1 b1 1)) b1 2)) b1 3)) a 4 ((up2 (up2 (up2 r1 a 1 (r1 b1 1)) a 2 ((up2 r1 a 1 (r1 b1 1)) b1 2)) a 3 ((up2 (up2 r1 a 1 (r1 b1 1)) a 2 ((up2 r1 a 1 (r1 b1 1)) b1 2)) b1 3)) b1 4)) a 5 ((up2 (up2 (up2 (up2 r1 a 1 (r1 b1 1)) a 2 ((up2 r1 a 1 (r1 b1 1)) b1 2)) a 3 ((up2 (up2 r1 a 1 (r1 b1 1)) a 2 ((up2 r1 a 1 (r1 b1 1)) b1 2)) b1 3)) a 4 ((up2 (up2 (up2 r1 a 1 (r1 b1 1)) a 2 ((up2 r1 a 1 (r1 b1 1)) b1 2)) a 3 ((up2 (up2 r1 a 1 (r1 b1 1)) a 2 ((up2 r1 a 1 (r1 b1 1)) b1 2)) b1 3)) b1 4)) b1 5)) b1 6)) b1 7)) a 8 ((up2 (up2 (up2 (up2 (up2 (up2 (up2 r1 a 1 (r1 b1 1)) a 2 ((up2 r1 a 1 (r1 b1 1)) b1 2)) a 3 ((up2 (up2 r1 a 1 (r1 b1 1)) a 2 ((up2 r1 a 1 (r1 b1 1)) b1 2)) b1 3)) a 4 ((up2 (up2 (up2 r1 a 1 (r1 b1 1)) a 2 ((up2 r1 a 1 (r1 b1 1)) b1 2)) a 3 ((up2 (up2 r1 a 1 (r1 b1 1)) a 2 ((up2 r1 a 1 (r1 b1 1)) b1 2)) b1 3)) b1 4)) a 5 ((up2 (up2 (up2 (up2 r1 a 1 (r1 b1 1)) a 2 ((up2 r1 a 1 (r1 b1 1)) b1 2)) a 3 ((up2 (up2 r1 a 1 (r1 b1 1)) a 2 ((up2 r1 a 1 (r1 b1 1)) b1 2)) b1 3)) a 4 ((up2 (up2 (up2 r1 a 1 (r1 b1 1)) a 2 ((up2 r1 a 1 (r1 b1 1)) b1 2)) a 3 ((up2 (up2 r1 a 1 (r1 b1 1)) a 2 ((up2 r1 a 1 (r1 b1 1)) b1 2)) b1 3)) b1 4)) b1 5)) a 6 ((up2 (up2 (up2 (up2 (up2 r1 a 1 (r1 b1 1)) a 2 ((up2 r1 a 1 (r1 b1 1)) b1 2)) a 3 ((up2 (up2 r1 a 1 (r1 b1 1)) a 2 ((up2 r1 a 1 (r1 b1 1)) b1 2)) b1 3)) a 4 ((up2 (up2 (up2 r1 a 1 (r1 b1 1)) a 2 ((up2 r1 a 1 (r1 b1 1)) b1 2)) a 3 ((up2 (up2 r1 a 1 (r1 b1 1)) a 2 ((up2 r1 a 1 (r1 b1 1)) b1 2)) b1 3)) b1 4)) a 5 ((up2 (up2 (up2 (up2 r1 a 1 (r1 b1 1)) a 2 ((up2 r1 a 1 (r1 b1 1)) b1 2)) a 3 ((up2 (up2 r1 a 1 (r1 b1 1)) a 2 ((up2 r1 a 1 (r1 b1 1)) b1 2)) b1 3)) a 4 ((up2 (up2 (up2 r1 a 1 (r1 b1 1)) a 2 ((up2 r1 a 1 (r1 b1 1)) b1 2)) a 3 ((up2 (up2 r1 a 1 (r1 b1 1)) a 2 ((up2 r1 a 1 (r1 b1 1)) b1 2)) b1 3)) b1 4)) b1 5)) b1 6)) a 7 ((up2 (up2 (up2 (up2 (up2 (up2 r1 a 1 (r1 b1 1)) a 2 ((up2 r1 a 1 (r1 b1 1)) b1 2)) a 3 ((up2 (up2 r1 a 1 (r1 b1 1)) a 2 ((up2 r1 a 1 (r1 b1 1)) b1 2)) b1 3)) a 4 ((up2 (up2 (up2 r1 a 1 (r1 b1 1)) a 2 ((up2 r1 a 1 (r1 b1 1)) b1 2)) a 3 ((up2 (up2 r1 a 1 (r1 b1 1)) a 2 ((up2 r1 a 1 (r1 b1 1)) b1 2)) b1 3)) b1 4)) a 5 ((up2 (up2 (up2 (up2 r1 a 1 (r1 b1 1)) a 2 ((up2 r1 a 1 (r1 b1 1)) b1 2)) a 3 ((up2 (up2 r1 a 1 (r1 b1 1)) a 2 ((up2 r1 a 1 (r1 b1 1)) b1 2)) b1 3)) a 4 ((up2 (up2 (up2 r1 a 1 (r1 b1 1)) a 2 ((up2 r1 a 1 (r1 b1 1)) b1 2)) a 3 ((up2 (up2 r1 a 1 (r1 b1 1)) a 2 ((up2 r1 a 1 (r1 b1 1)) b1 2)) b1 3)) b1 4)) b1 5)) a 6 ((up2 (up2 (up2 (up2 (up2 r1 a 1 (r1 b1 1)) a 2 ((up2 r1 a 1 (r1 b1 1)) b1 2)) a 3 ((up2 (up2 r1 a 1 (r1 b1 1)) a 2 ((up2 r1 a 1 (r1 b1 1)) b1 2)) b1 3)) a 4 ((up2 (up2 (up2 r1 a 1 (r1 b1 1)) a 2 ((up2 r1 a 1 (r1 b1 1)) b1 2)) a 3 ((up2 (up2 r1 a 1 (r1 b1 1)) a 2 ((up2 r1 a 1 (r1 b1 1)) b1 2)) b1 3)) b1 4)) a 5 ((up2 (up2 (up2 (up2 r1 a 1 (r1 b1 1)) a 2 ((up2 r1 a 1 (r1 b1 1)) b1 2)) a 3 ((up2 (up2 r1 a 1 (r1 b1 1)) a 2 ((up2 r1 a 1 (r1 b1 1)) b1 2)) b1 3)) a 4 ((up2 (up2 (up2 r1 a 1 (r1 b1 1)) a 2 ((up2 r1 a 1 (r1 b1 1)) b1 2)) a 3 ((up2 (up2 r1 a 1 (r1 b1 1)) a 2 ((up2 r1 a 1 (r1 b1 1)) b1 2)) b1 3)) b1 4)) b1 5)) b1 6)) b1 7)) b1 8)) a 9 ((up2 (up2 (up2 (up2 (up2 (up2 (up2 (up2 r1 a 1 (r1 b1 1)) a 2 ((up2 r1 a 1 (r1 b1 1)) b1 2)) a 3 ((up2 (up2 r1 a 1 (r1 b1 1)) a 2 ((up2 r1 a 1 (r1 b1 1)) b1 2)) b1 3)) a 4 ((up2 (up2 (up2 r1 a 1 (r1 b1 1)) a 2 ((up2 r1 a 1 (r1 b1 1)) b1 2)) a 3 ((up2 (up2 r1 a 1 (r1 b1 1)) a 2 ((up2 r1 a 1 (r1 b1 1)) b1 2)) b1 3)) b1 4)) a 5 ((up2 (up2 (up2 (up2 r1 a 1 (r1 b1 1)) a 2 ((up2 r1 a 1 (r1 b1 1)) b1 2)) a 3 ((up2 (up2 r1 a 1 (r1 b1 1)) a 2 ((up2 r1 a 1 (r1 b1 1)) b1 2)) b1 3)) a 4 ((up2 (up2 (up2 r1 a 1 (r1 b1 1)) a 2 ((up2 r1 a 1 (r1 b1 1)) b1 2)) a 3 ((up2 (up2 r1 a 1 (r1 b1 1)) a 2 ((up2 r1 a 1 (r1 b1 1)) b1 2)) b1 3)) b1 4)) b1 5)) a 6 ((up2 (up2 (up2 (up2 (up2 r1 a 1 (r1 b1 1)) a 2 ((up2 r1 a 1 (r1 b1 1)) b1 2)) a 3 ((up2 (up2 r1 a 1 (r1 b1 1)) a 2 ((up2 r1 a 1 (r1 b1 1)) b1 2)) b1 3)) a 4 ((up2 (up2 (up2 r1 a 1 (r1 b1 1)) a 2 ((up2 r1 a 1 (r1 b1 1)) b1 2)) a 3 ((up2 (up2 r1 a 1 (r1 b1 1)) a 2 ((up2 r1 a 1 (r1 b1 1)) b1 2)) b1 3)) b1 4)) a 5 ((up2 (up2 (up2 (up2 r1 a 1 (r1 b1 1)) a 2 ((up2 r1 a 1 (r1 b1 1)) b1 2)) a 3 ((up2 (up2 r1 a 1 (r1 b1 1)) a 2 ((up2 r1 a 1 (r1 b1 1)) b1 2)) b1 3)) a 4 ((up2 (up2 (up2 r1 a 1 (r1 b1 1)) a 2 ((up2 r1 a 1 (r1 b1 1)) b1 2)) a 3 ((up2 (up2 r1 a 1 (r1 b1 1)) a 2 ((up2 r1 a 1 (r1 b1 1)) b1 2)) b1 3)) b1 4)) b1 5)) b1 6)) a 7 ((up2 (up2 (up2 (up2 (up2 (up2 r1 a 1 (r1 b1 1)) a 2 ((up2 r1 a 1 (r1 b1 1)) b1 2)) a 3 ((up2 (up2 r1 a 1 (r1 b1 1)) a 2 ((up2 r1 a 1 (r1 b1 1)) b1 2)) b1 3)) a 4 ((up2 (up2 (up2 r1 a 1 (r1 b1 1)) a 2 ((up2 r1 a 1 (r1 b1 1)) b1 2)) a 3 ((up2 (up2 r1 a 1 (r1 b1 1)) a 2 ((up2 r1 a 1 (r1 b1 1)) b1 2)) b1 3)) b1 4)) a 5 ((up2 (up2 (up2 (up2 r1 a 1 (r1 b1 1)) a 2 ((up2 r1 a 1 (r1 b1 1)) b1 2)) a 3 ((up2 (up2 r1 a 1 (r1 b1 1)) a 2 ((up2 r1 a 1 (r1 b1 1)) b1 2)) b1 3)) a 4 ((up2 (up2 (up2 r1 a 1 (r1 b1 1)) a 2 ((up2 r1 a 1 (r1 b1 1)) b1 2)) a 3 ((up2 (up2 r1 a 1 (r1 b1 1)) a 2 ((up2 r1 a 1 (r1 b1 1)) b1 2)) b1 3)) b1 4)) b1 5)) a 6 ((up2 (up2 (up2 (up2 (up2 r1 a 1 (r1 b1 1)) a 2 ((up2 r1 a 1 (r1 b1 1)) b1 2)) a 3 ((up2 (up2 r1 a 1 (r1 b1 1)) a 2 ((up2 r1 a 1 (r1 b1 1)) b1 2)) b1 3)) a 4 ((up2 (up2 (up2 r1 a 1 (r1 b1 1)) a 2 ((up2 r1 a 1 (r1 b1 1)) b1 2)) a 3 ((up2 (up2 r1 a 1 (r1 b1 1)) a 2 ((up2 r1 a 1 (r1 b1 1)) b1 2)) b1 3)) b1 4)) a 5 ((up2 (up2 (up2 (up2 r1 a 1 (r1 b1 1)) a 2 ((up2 r1 a 1 (r1 b1 1)) b1 2)) a 3 ((up2 (up2 r1 a 1 (r1 b1 1)) a 2 ((up2 r1 a 1 (r1 b1 1)) b1 2)) b1 3)) a 4 ((up2 (up2 (up2 r1 a 1 (r1 b1 1)) a 2 ((up2 r1 a 1 (r1 b1 1)) b1 2)) a 3 ((up2 (up2 r1 a 1 (r1 b1 1)) a 2 ((up2 r1 a 1 (r1 b1 1)) b1 2)) b1 3)) b1 4)) b1 5)) b1 6)) b1 7)) a 8 ((up2 (up2 (up2 (up2 (up2 (up2 (up2 r1 a 1 (r1 b1 1)) a 2 ((up2 r1 a 1 (r1 b1 1)) b1 2)) a 3 ((up2 (up2 r1 a 1 (r1 b1 1)) a 2 ((up2 r1 a 1 (r1 b1 1)) b1 2)) b1 3)) a 4 ((up2 (up2 (up2 r1 a 1 (r1 b1 1)) a 2 ((up2 r1 a 1 (r1 b1 1)) b1 2)) a 3 ((up2 (up2 r1 a 1 (r1 b1 1)) a 2 ((up2 r1 a 1 (r1 b1 1)) b1 2)) b1 3)) b1 4)) a 5 ((up2 (up2 (up2 (up2 r1 a 1 (r1 b1 1)) a 2 ((up2 r1 a 1 (r1 b1 1)) b1 2)) a 3 ((up2 (up2 r1 a 1 (r1 b1 1)) a 2 ((up2 r1 a 1 (r1 b1 1)) b1 2)) b1 3)) a 4 ((up2 (up2 (up2 r1 a 1 (r1 b1 1)) a 2 ((up2 r1 a 1 (r1 b1 1)) b1 2)) a 3 ((up2 (up2 r1 a 1 (r1 b1 1)) a 2 ((up2 r1 a 1 (r1 b1 1)) b1 2)) b1 3)) b1 4)) b1 5)) a 6 ((up2 (up2 (up2 (up2 (up2 r1 a 1 (r1 b1 1)) a 2 ((up2 r1 a 1 (r1 b1 1)) b1 2)) a 3 ((up2 (up2 r1 a 1 (r1 b1 1)) a 2 ((up2 r1 a 1 (r1 b1 1)) b1 2)) b1 3)) a 4 ((up2 (up2 (up2 r1 a 1 (r1 b1 1)) a 2 ((up2 r1 a 1 (r1 b1 1)) b1 2)) a 3 ((up2 (up2 r1 a 1 (r1 b1 1)) a 2 ((up2 r1 a 1 (r1 b1 1)) b1 2)) b1 3)) b1 4)) a 5 ((up2 (up2 (up2 (up2 r1 a 1 (r1 b1 1)) a 2 ((up2 r1 a 1 (r1 b1 1)) b1 2)) a 3 ((up2 (up2 r1 a 1 (r1 b1 1)) a 2 ((up2 r1 a 1 (r1 b1 1)) b1 2)) b1 3)) a 4 ((up2 (up2 (up2 r1 a 1 (r1 b1 1)) a 2 ((up2 r1 a 1 (r1 b1 1)) b1 2)) a 3 ((up2 (up2 r1 a 1 (r1 b1 1)) a 2 ((up2 r1 a 1 (r1 b1 1)) b1 2)) b1 3)) b1 4)) b1 5)) b1 6)) a 7 ((up2 (up2 (up2 (up2 (up2 (up2 r1 a 1 (r1 b1 1)) a 2 ((up2 r1 a 1 (r1 b1 1)) b1 2)) a 3 ((up2 (up2 r1 a 1 (r1 b1 1)) a 2 ((up2 r1 a 1 (r1 b1 1)) b1 2)) b1 3)) a 4 ((up2 (up2 (up2 r1 a 1 (r1 b1 1)) a 2 ((up2 r1 a 1 (r1 b1 1)) b1 2)) a 3 ((up2 (up2 r1 a 1 (r1 b1 1)) a 2 ((up2 r1 a 1 (r1 b1 1)) b1 2)) b1 3)) b1 4)) a 5 ((up2 (up2 (up2 (up2 r1 a 1 (r1 b1 1)) a 2 ((up2 r1 a 1 (r1 b1 1)) b1 2)) a 3 ((up2 (up2 r1 a 1 (r1 b1 1)) a 2 ((up2 r1 a 1 (r1 b1 1)) b1 2)) b1 3)) a 4 ((up2 (up2 (up2 r1 a 1 (r1 b1 1)) a 2 ((up2 r1 a 1 (r1 b1 1)) b1 2)) a 3 ((up2 (up2 r1 a 1 (r1 b1 1)) a 2 ((up2 r1 a 1 (r1 b1 1)) b1 2)) b1 3)) b1 4)) b1 5)) a 6 ((up2 (up2 (up2 (up2 (up2 r1 a 1 (r1 b1 1)) a 2 ((up2 r1 a 1 (r1 b1 1)) b1 2)) a 3 ((up2 (up2 r1 a 1 (r1 b1 1)) a 2 ((up2 r1 a 1 (r1 b1 1)) b1 2)) b1 3)) a 4 ((up2 (up2 (up2 r1 a 1 (r1 b1 1)) a 2 ((up2 r1 a 1 (r1 b1 1)) b1 2)) a 3 ((up2 (up2 r1 a 1 (r1 b1 1)) a 2 ((up2 r1 a 1 (r1 b1 1)) b1 2)) b1 3)) b1 4)) a 5 ((up2 (up2 (up2 (up2 r1 a 1 (r1 b1 1)) a 2 ((up2 r1 a 1 (r1 b1 1)) b1 2)) a 3 ((up2 (up2 r1 a 1 (r1 b1 1)) a 2 ((up2 r1 a 1 (r1 b1 1)) b1 2)) b1 3)) a 4 ((up2 (up2 (up2 r1 a 1 (r1 b1 1)) a 2 ((up2 r1 a 1 (r1 b1 1)) b1 2)) a 3 ((up2 (up2 r1 a 1 (r1 b1 1)) a 2 ((up2 r1 a 1 (r1 b1 1)) b1 2)) b1 3)) b1 4)) b1 5)) b1 6)) b1 7)) b1 8)) b1 9)) a 10 ((up2 (up2 (up2 (up2 (up2 (up2 (up2 (up2 (up2 r1 a 1 (r1 b1 1)) a 2 ((up2 r1 a 1 (r1 b1 1)) b1 2)) a 3 ((up2 (up2 r1 a 1 (r1 b1 1)) a 2 ((up2 r1 a 1 (r1 b1 1)) b1 2)) b1 3)) a 4 ((up2 (up2 (up2 r1 a 1 (r1 b1 1)) a 2 ((up2 r1 a 1 (r1 b1 1)) b1 2)) a 3 ((up2 (up2 r1 a 1 (r1 b1 1)) a 2 ((up2 r1 a 1 (r1 b1 1)) b1 2)) b1 3)) b1 4)) a 5 ((up2 (up2 (up2 (up2 r1 a 1 (r1 b1 1)) a 2 ((up2 r1 a 1 (r1 b1 1)) b1 2)) a 3 ((up2 (up2 r1 a 1 (r1 b1 1)) a 2 ((up2 r1 a 1 (r1 b1 1)) b1 2)) b1 3)) a 4 ((up2 (up2 (up2 r1 a 1 (r1 b1 1)) a 2 ((up2 r1 a 1 (r1 b1 1)) b1 2)) a 3 ((up2 (up2 r1 a 1 (r1 b1 1)) a 2 ((up2 r1 a 1 (r1 b1 1)) b1 2)) b1 3)) b1 4)) b1 5)) a 6 ((up2 (up2 (up2 (up2 (up2 r1 a 1 (r1 b1 1)) a 2 ((up2 r1 a 1 (r1 b1 1)) b1 2)) a 3 ((up2 (up2 r1 a 1 (r1 b1 1)) a 2 ((up2 r1 a 1 (r1 b1 1)) b1 2)) b1 3)) a 4 ((up2 (up2 (up2 r1 a 1 (r1 b1 1)) a 2 ((up2 r1 a 1 (r1 b1 1)) b1 2)) a 3 ((up2 (up2 r1 a 1 (r1 b1 1)) a 2 ((up2 r1 a 1 (r1 b1 1)) b1 2)) b1 3)) b1 4)) a 5 ((up2 (up2 (up2 (up2 r1 a 1 (r1 b1 1)) a 2 ((up2 r1 a 1 (r1 b1 1)) b1 2)) a 3 ((up2 (up2 r1 a 1 (r1 b1 1)) a 2 ((up2 r1 a 1 (r1 b1 1)) b1 2)) b1 3)) a 4 ((up2 (up2 (up2 r1 a 1 (r1 b1 1)) a 2 ((up2 r1 a 1 (r1 b1 1)) b1 2)) a 3 ((up2 (up2 r1 a 1 (r1 b1 1)) a 2 ((up2 r1 a 1 (r1 b1 1)) b1 2)) b1 3)) b1 4)) b1 5)) b1 6)) a 7 ((up2 (up2 (up2 (up2 (up2 (up2 r1 a 1 (r1 b1 1)) a 2 ((up2 r1 a 1 (r1 b1 1)) b1 2)) a 3 ((up2 (up2 r1 a 1 (r1 b1 1)) a 2 ((up2 r1 a 1 (r1 b1 1)) b1 2)) b1 3)) a 4 ((up2 (up2 (up2 r1 a 1 (r1 b1 1)) a 2 ((up2 r1 a 1 (r1 b1 1)) b1 2)) a 3 ((up2 (up2 r1 a 1 (r1 b1 1)) a 2 ((up2 r1 a 1 (r1 b1 1)) b1 2)) b1 3)) b1 4)) a 5 ((up2 (up2 (up2 (up2 r1 a 1 (r1 b1 1)) a 2 ((up2 r1 a 1 (r1 b1 1)) b1 2)) a 3 ((up2 (up2 r1 a 1 (r1 b1 1)) a 2 ((up2 r1 a 1 (r1 b1 1)) b1 2)) b1 3)) a 4 ((up2 (up2 (up2 r1 a 1 (r1 b1 1)) a 2 ((up2 r1 a 1 (r1 b1 1)) b1 2)) a 3 ((up2 (up2 r1 a 1 (r1 b1 1)) a 2 ((up2 r1 a 1 (r1 b1 1)) b1 2)) b1 3)) b1 4)) b1 5)) a 6 ((up2 (up2 (up2 (up2 (up2 r1 a 1 (r1 b1 1)) a 2 ((up2 r1 a 1 (r1 b1 1)) b1 2)) a 3 ((up2 (up2 r1 a 1 (r1 b1 1)) a 2 ((up2 r1 a 1 (r1 b1 1)) b1 2)) b1 3)) a 4 ((up2 (up2 (up2 r1 a 1 (r1 b1 1)) a 2 ((up2 r1 a 1 (r1 b1 1)) b1 2)) a 3 ((up2 (up2 r1 a 1 (r1 b1 1)) a 2 ((up2 r1 a 1 (r1 b1 1)) b1 2)) b1 3)) b1 4)) a 5 ((up2 (up2 (up2 (up2 r1 a 1 (r1 b1 1)) a 2 ((up2 r1 a 1 (r1 b1 1)) b1 2)) a 3 ((up2 (up2 r1 a 1 (r1 b1 1)) a 2 ((up2 r1 a 1 (r1 b1 1)) b1 2)) b1 3)) a 4 ((up2 (up2 (up2 r1 a 1 (r1 b1 1)) a 2 ((up2 r1 a 1 (r1 b1 1)) b1 2)) a 3 ((up2 (up2 r1 a 1 (r1 b1 1)) a 2 ((up2 r1 a 1 (r1 b1 1)) b1 2)) b1 3)) b1 4)) b1 5)) b1 6)) b1 7)) a 8 ((up2 (up2 (up2 (up2 (up2 (up2 (up2 r1 a 1 (r1 b1 1)) a 2 ((up2 r1 a 1 (r1 b1 1)) b1 2)) a 3 ((up2 (up2 r1 a 1 (r1 b1 1)) a 2 ((up2 r1 a 1 (r1 b1 1)) b1 2)) b1 3)) a 4 ((up2 (up2 (up2 r1 a 1 (r1 b1 1)) a 2 ((up2 r1 a 1 (r1 b1 1)) b1 2)) a 3 ((up2 (up2 r1 a 1 (r1 b1 1)) a 2 ((up2 r1 a 1 (r1 b1 1)) b1 2)) b1 3)) b1 4)) a 5 ((up2 (up2 (up2 (up2 r1 a 1 (r1 b1 1)) a 2 ((up2 r1 a 1 (r1 b1 1)) b1 2)) a 3 ((up2 (up2 r1 a 1 (r1 b1 1)) a 2 ((up2 r1 a 1 (r1 b1 1)) b1 2)) b1 3)) a 4 ((up2 (up2 (up2 r1 a 1 (r1 b1 1)) a 2 ((up2 r1 a 1 (r1 b1 1)) b1 2)) a 3 ((up2 (up2 r1 a 1 (r1 b1 1)) a 2 ((up2 r1 a 1 (r1 b1 1)) b1 2)) b1 3)) b1 4)) b1 5)) a 6 ((up2 (up2 (up2 (up2 (up2 r1 a 1 (r1 b1 1)) a 2 ((up2 r1 a 1 (r1 b1 1)) b1 2)) a 3 ((up2 (up2 r1 a 1 (r1 b1 1)) a 2 ((up2 r1 a 1 (r1 b1 1)) b1 2)) b1 3)) a 4 ((up2 (up2 (up2 r1 a 1 (r1 b1 1)) a 2 ((up2 r1 a 1 (r1 b1 1)) b1 2)) a 3 ((up2 (up2 r1 a 1 (r1 b1 1)) a 2 ((up2 r1 a 1 (r1 b1 1)) b1 2)) b1 3)) b1 4)) a 5 ((up2 (up2 (up2 (up2 r1 a 1 (r1 b1 1)) a 2 ((up2 r1 a 1 (r1 b1 1)) b1 2)) a 3 ((up2 (up2 r1 a 1 (r1 b1 1)) a 2 ((up2 r1 a 1 (r1 b1 1)) b1 2)) b1 3)) a 4 ((up2 (up2 (up2 r1 a 1 (r1 b1 1)) a 2 ((up2 r1 a 1 (r1 b1 1)) b1 2)) a 3 ((up2 (up2 r1 a 1 (r1 b1 1)) a 2 ((up2 r1 a 1 (r1 b1 1)) b1 2)) b1 3)) b1 4)) b1 5)) b1 6)) a 7 ((up2 (up2 (up2 (up2 (up2 (up2 r1 a 1 (r1 b1 1)) a 2 ((up2 r1 a 1 (r1 b1 1)) b1 2)) a 3 ((up2 (up2 r1 a 1 (r1 b1 1)) a 2 ((up2 r1 a 1 (r1 b1 1)) b1 2)) b1 3)) a 4 ((up2 (up2 (up2 r1 a 1 (r1 b1 1)) a 2 ((up2 r1 a 1 (r1 b1 1)) b1 2)) a 3 ((up2 (up2 r1 a 1 (r1 b1 1)) a 2 ((up2 r1 a 1 (r1 b1 1)) b1 2)) b1 3)) b1 4)) a 5 ((up2 (up2 (up2 (up2 r1 a 1 (r1 b1 1)) a 2 ((up2 r1 a 1 (r1 b1 1)) b1 2)) a 3 ((up2 (up2 r1 a 1 (r1 b1 1)) a 2 ((up2 r1 a 1 (r1 b1 1)) b1 2)) b1 3)) a 4 ((up2 (up2 (up2 r1 a 1 (r1 b1 1)) a 2 ((up2 r1 a 1 (r1 b1 1)) b1 2)) a 3 ((up2 (up2 r1 a 1 (r1 b1 1)) a 2 ((up2 r1 a 1 (r1 b1 1)) b1 2)) b1 3)) b1 4)) b1 5)) a 6 ((up2 (up2 (up2 (up2 (up2 r1 a 1 (r1 b1 1)) a 2 ((up2 r1 a 1 (r1 b1 1)) b1 2)) a 3 ((up2 (up2 r1 a 1 (r1 b1 1)) a 2 ((up2 r1 a 1 (r1 b1 1)) b1 2)) b1 3)) a 4 ((up2 (up2 (up2 r1 a 1 (r1 b1 1)) a 2 ((up2 r1 a 1 (r1 b1 1)) b1 2)) a 3 ((up2 (up2 r1 a 1 (r1 b1 1)) a 2 ((up2 r1 a 1 (r1 b1 1)) b1 2)) b1 3)) b1 4)) a 5 ((up2 (up2 (up2 (up2 r1 a 1 (r1 b1 1)) a 2 ((up2 r1 a 1 (r1 b1 1)) b1 2)) a 3 ((up2 (up2 r1 a 1 (r1 b1 1)) a 2 ((up2 r1 a 1 (r1 b1 1)) b1 2)) b1 3)) a 4 ((up2 (up2 (up2 r1 a 1 (r1 b1 1)) a 2 ((up2 r1 a 1 (r1 b1 1)) b1 2)) a 3 ((up2 (up2 r1 a 1 (r1 b1 1)) a 2 ((up2 r1 a 1 (r1 b1 1)) b1 2)) b1 3)) b1 4)) b1 5)) b1 6)) b1 7)) b1 8)) a 9 ((up2 (up2 (up2 (up2 (up2 (up2 (up2 (up2 r1 a 1 (r1 b1 1)) a 2 ((up2 r1 a 1 (r1 b1 1)) b1 2)) a 3 ((up2 (up2 r1 a 1 (r1 b1 1)) a 2 ((up2 r1 a 1 (r1 b1 1)) b1 2)) b1 3)) a 4 ((up2 (up2 (up2 r1 a 1 (r1 b1 1)) a 2 ((up2 r1 a 1 (r1 b1 1)) b1 2)) a 3 ((up2 (up2 r1 a 1 (r1 b1 1)) a 2 ((up2 r1 a 1 (r1 b1 1)) b1 2)) b1 3)) b1 4)) a 5 ((up2 (up2 (up2 (up2 r1 a 1 (r1 b1 1)) a 2 ((up2 r1 a 1 (r1 b1 1)) b1 2)) a 3 ((up2 (up2 r1 a 1 (r1 b1 1)) a 2 ((up2 r1 a 1 (r1 b1 1)) b1 2)) b1 3)) a 4 ((up2 (up2 (up2 r1 a 1 (r1 b1 1)) a 2 ((up2 r1 a 1 (r1 b1 1)) b1 2)) a 3 ((up2 (up2 r1 a 1 (r1 b1 1)) a 2 ((up2 r1 a 1 (r1 b1 1)) b1 2)) b1 3)) b1 4)) b1 5)) a 6 ((up2 (up2 (up2 (up2 (up2 r1 a 1 (r1 b1 1)) a 2 ((up2 r1 a 1 (r1 b1 1)) b1 2)) a 3 ((up2 (up2 r1 a 1 (r1 b1 1)) a 2 ((up2 r1 a 1 (r1 b1 1)) b1 2)) b1 3)) a 4 ((up2 (up2 (up2 r1 a 1 (r1 b1 1)) a 2 ((up2 r1 a 1 (r1 b1 1)) b1 2)) a 3 ((up2 (up2 r1 a 1 (r1 b1 1)) a 2 ((up2 r1 a 1 (r1 b1 1)) b1 2)) b1 3)) b1 4)) a 5 ((up2 (up2 (up2 (up2 r1 a 1 (r1 b1 1)) a 2 ((up2 r1 a 1 (r1 b1 1)) b1 2)) a 3 ((up2 (up2 r1 a 1 (r1 b1 1)) a 2 ((up2 r1 a 1 (r1 b1 1)) b1 2)) b1 3)) a 4 ((up2 (up2 (up2 r1 a 1 (r1 b1 1)) a 2 ((up2 r1 a 1 (r1 b1 1)) b1 2)) a 3 ((up2 (up2 r1 a 1 (r1 b1 1)) a 2 ((up2 r1 a 1 (r1 b1 1)) b1 2)) b1 3)) b1 4)) b1 5)) b1 6)) a 7 ((up2 (up2 (up2 (up2 (up2 (up2 r1 a 1 (r1 b1 1)) a 2 ((up2 r1 a 1 (r1 b1 1)) b1 2)) a 3 ((up2 (up2 r1 a 1 (r1 b1 1)) a 2 ((up2 r1 a 1 (r1 b1 1)) b1 2)) b1 3)) a 4 ((up2 (up2 (up2 r1 a 1 (r1 b1 1)) a 2 ((up2 r1 a 1 (r1 b1 1)) b1 2)) a 3 ((up2 (up2 r1 a 1 (r1 b1 1)) a 2 ((up2 r1 a 1 (r1 b1 1)) b1 2)) b1 3)) b1 4)) a 5 ((up2 (up2 (up2 (up2 r1 a 1 (r1 b1 1)) a 2 ((up2 r1 a 1 (r1 b1 1)) b1 2)) a 3 ((up2 (up2 r1 a 1 (r1 b1 1)) a 2 ((up2 r1 a 1 (r1 b1 1)) b1 2)) b1 3)) a 4 ((up2 (up2 (up2 r1 a 1 (r1 b1 1)) a 2 ((up2 r1 a 1 (r1 b1 1)) b1 2)) a 3 ((up2 (up2 r1 a 1 (r1 b1 1)) a 2 ((up2 r1 a 1 (r1 b1 1)) b1 2)) b1 3)) b1 4)) b1 5)) a 6 ((up2 (up2 (up2 (up2 (up2 r1 a 1 (r1 b1 1)) a 2 ((up2 r1 a 1 (r1 b1 1)) b1 2)) a 3 ((up2 (up2 r1 a 1 (r1 b1 1)) a 2 ((up2 r1 a 1 (r1 b1 1)) b1 2)) b1 3)) a 4 ((up2 (up2 (up2 r1 a 1 (r1 b1 1)) a 2 ((up2 r1 a 1 (r1 b1 1)) b1 2)) a 3 ((up2 (up2 r1 a 1 (r1 b1 1)) a 2 ((up2 r1 a 1 (r1 b1 1)) b1 2)) b1 3)) b1 4)) a 5 ((up2 (up2 (up2 (up2 r1 a 1 (r1 b1 1)) a 2 ((up2 r1 a 1 (r1 b1 1)) b1 2)) a 3 ((up2 (up2 r1 a 1 (r1 b1 1)) a 2 ((up2 r1 a 1 (r1 b1 1)) b1 2)) b1 3)) a 4 ((up2 (up2 (up2 r1 a 1 (r1 b1 1)) a 2 ((up2 r1 a 1 (r1 b1 1)) b1 2)) a 3 ((up2 (up2 r1 a 1 (r1 b1 1)) a 2 ((up2 r1 a 1 (r1 b1 1)) b1 2)) b1 3)) b1 4)) b1 5)) b1 6)) b1 7)) a 8 ((up2 (up2 (up2 (up2 (up2 (up2 (up2 r1 a 1 (r1 b1 1)) a 2 ((up2 r1 a 1 (r1 b1 1)) b1 2)) a 3 ((up2 (up2 r1 a 1 (r1 b1 1)) a 2 ((up2 r1 a 1 (r1 b1 1)) b1 2)) b1 3)) a 4 ((up2 (up2 (up2 r1 a 1 (r1 b1 1)) a 2 ((up2 r1 a 1 (r1 b1 1)) b1 2)) a 3 ((up2 (up2 r1 a 1 (r1 b1 1)) a 2 ((up2 r1 a 1 (r1 b1 1)) b1 2)) b1 3)) b1 4)) a 5 ((up2 (up2 (up2 (up2 r1 a 1 (r1 b1 1)) a 2 ((up2 r1 a 1 (r1 b1 1)) b1 2)) a 3 ((up2 (up2 r1 a 1 (r1 b1 1)) a 2 ((up2 r1 a 1 (r1 b1 1)) b1 2)) b1 3)) a 4 ((up2 (up2 (up2 r1 a 1 (r1 b1 1)) a 2 ((up2 r1 a 1 (r1 b1 1)) b1 2)) a 3 ((up2 (up2 r1 a 1 (r1 b1 1)) a 2 ((up2 r1 a 1 (r1 b1 1)) b1 2)) b1 3)) b1 4)) b1 5)) a 6 ((up2 (up2 (up2 (up2 (up2 r1 a 1 (r1 b1 1)) a 2 ((up2 r1 a 1 (r1 b1 1)) b1 2)) a 3 ((up2 (up2 r1 a 1 (r1 b1 1)) a 2 ((up2 r1 a 1 (r1 b1 1)) b1 2)) b1 3)) a 4 ((up2 (up2 (up2 r1 a 1 (r1 b1 1)) a 2 ((up2 r1 a 1 (r1 b1 1)) b1 2)) a 3 ((up2 (up2 r1 a 1 (r1 b1 1)) a 2 ((up2 r1 a 1 (r1 b1 1)) b1 2)) b1 3)) b1 4)) a 5 ((up2 (up2 (up2 (up2 r1 a 1 (r1 b1 1)) a 2 ((up2 r1 a 1 (r1 b1 1)) b1 2)) a 3 ((up2 (up2 r1 a 1 (r1 b1 1)) a 2 ((up2 r1 a 1 (r1 b1 1)) b1 2)) b1 3)) a 4 ((up2 (up2 (up2 r1 a 1 (r1 b1 1)) a 2 ((up2 r1 a 1 (r1 b1 1)) b1 2)) a 3 ((up2 (up2 r1 a 1 (r1 b1 1)) a 2 ((up2 r1 a 1 (r1 b1 1)) b1 2)) b1 3)) b1 4)) b1 5)) b1 6)) a 7 ((up2 (up2 (up2 (up2 (up2 (up2 r1 a 1 (r1 b1 1)) a 2 ((up2 r1 a 1 (r1 b1 1)) b1 2)) a 3 ((up2 (up2 r1 a 1 (r1 b1 1)) a 2 ((up2 r1 a 1 (r1 b1 1)) b1 2)) b1 3)) a 4 ((up2 (up2 (up2 r1 a 1 (r1 b1 1)) a 2 ((up2 r1 a 1 (r1 b1 1)) b1 2)) a 3 ((up2 (up2 r1 a 1 (r1 b1 1)) a 2 ((up2 r1 a 1 (r1 b1 1)) b1 2)) b1 3)) b1 4)) a 5 ((up2 (up2 (up2 (up2 r1 a 1 (r1 b1 1)) a 2 ((up2 r1 a 1 (r1 b1 1)) b1 2)) a 3 ((up2 (up2 r1 a 1 (r1 b1 1)) a 2 ((up2 r1 a 1 (r1 b1 1)) b1 2)) b1 3)) a 4 ((up2 (up2 (up2 r1 a 1 (r1 b1 1)) a 2 ((up2 r1 a 1 (r1 b1 1)) b1 2)) a 3 ((up2 (up2 r1 a 1 (r1 b1 1)) a 2 ((up2 r1 a 1 (r1 b1 1)) b1 2)) b1 3)) b1 4)) b1 5)) a 6 ((up2 (up2 (up2 (up2 (up2 r1 a 1 (r1 b1 1)) a 2 ((up2 r1 a 1 (r1 b1 1)) b1 2)) a 3 ((up2 (up2 r1 a 1 (r1 b1 1)) a 2 ((up2 r1 a 1 (r1 b1 1)) b1 2)) b1 3)) a 4 ((up2 (up2 (up2 r1 a 1 (r1 b1 1)) a 2 ((up2 r1 a 1 (r1 b1 1)) b1 2)) a 3 ((up2 (up2 r1 a 1 (r1 b1 1)) a 2 ((up2 r1 a 1 (r1 b1 1)) b1 2)) b1 3)) b1 4)) a 5 ((up2 (up2 (up2 (up2 r1 a 1 (r1 b1 1)) a 2 ((up2 r1 a 1 (r1 b1 1)) b1 2)) a 3 ((up2 (up2 r1 a 1 (r1 b1 1)) a 2 ((up2 r1 a 1 (r1 b1 1)) b1 2)) b1 3)) a 4 ((up2 (up2 (up2 r1 a 1 (r1 b1 1)) a 2 ((up2 r1 a 1 (r1 b1 1)) b1 2)) a 3 ((up2 (up2 r1 a 1 (r1 b1 1)) a 2 ((up2 r1 a 1 (r1 b1 1)) b1 2)) b1 3)) b1 4)) b1 5)) b1 6)) b1 7)) b1 8)) b1 9)) b1 10)) b1 11)) a 12 ((up2 (up2 (up2 (up2 (up2 (up2 (up2 (up2 (up2 (up2 (up2 r1 a 1 (r1 b1 1)) a 2 ((up2 r1 a 1 (r1 b1 1)) b1 2)) a 3 ((up2 (up2 r1 a 1 (r1 b1 1)) a 2 ((up2 r1 a 1 (r1 b1 1)) b1 2)) b1 3)) a 4 ((up2 (up2 (up2 r1 a 1 (r1 b1 1)) a 2 ((up2 r1 a 1 (r1 b1 1)) b1 2)) a 3 ((up2 (up2 r1 a 1 (r1 b1 1)) a 2 ((up2 r1 a 1 (r1 b1 1)) b1 2)) b1 3)) b1 4)) a 5 ((up2 (up2 (up2 (up2 r1 a 1 (r1 b1 1)) a 2 ((up2 r1 a 1 (r1 b1 1)) b1 2)) a 3 ((up2 (up2 r1 a 1 (r1 b1 1)) a 2 ((up2 r1 a 1 (r1 b1 1)) b1 2)) b1 3)) a 4 ((up2 (up2 (up2 r1 a 1 (r1 b1 1)) a 2 ((up2 r1 a 1 (r1 b1 1)) b1 2)) a 3 ((up2 (up2 r1 a 1 (r1 b1 1)) a 2 ((up2 r1 a 1 (r1 b1 1)) b1 2)) b1 3)) b1 4)) b1 5)) a 6 ((up2 (up2 (up2 (up2 (up2 r1 a 1 (r1 b1 1)) a 2 ((up2 r1 a 1 (r1 b1 1)) b1 2)) a 3 ((up2 (up2 r1 a 1 (r1 b1 1)) a 2 ((up2 r1 a 1 (r1 b1 1)) b1 2)) b1 3)) a 4 ((up2 (up2 (up2 r1 a 1 (r1 b1 1)) a 2 ((up2 r1 a 1 (r1 b1 1)) b1 2)) a 3 ((up2 (up2 r1 a 1 (r1 b1 1)) a 2 ((up2 r1 a 1 (r1 b1 1)) b1 2)) b1 3)) b1 4)) a 5 ((up2 (up2 (up2 (up2 r1 a 1 (r1 b1 1)) a 2 ((up2 r1 a 1 (r1 b1 1)) b1 2)) a 3 ((up2 (up2 r1 a 1 (r1 b1 1)) a 2 ((up2 r1 a 1 (r1 b1 1)) b1 2)) b1 3)) a 4 ((up2 (up2 (up2 r1 a 1 (r1 b1 1)) a 2 ((up2 r1 a 1 (r1 b1 1)) b1 2)) a 3 ((up2 (up2 r1 a 1 (r1 b1 1)) a 2 ((up2 r1 a 1 (r1 b1 1)) b1 2)) b1 3)) b1 4)) b1 5)) b1 6)) a 7 ((up2 (up2 (up2 (up2 (up2 (up2 r1 a 1 (r1 b1 1)) a 2 ((up2 r1 a 1 (r1 b1 1)) b1 2)) a 3 ((up2 (up2 r1 a 1 (r1 b1 1)) a 2 ((up2 r1 a 1 (r1 b1 1)) b1 2)) b1 3)) a 4 ((up2 (up2 (up2 r1 a 1 (r1 b1 1)) a 2 ((up2 r1 a 1 (r1 b1 1)) b1 2)) a 3 ((up2 (up2 r1 a 1 (r1 b1 1)) a 2 ((up2 r1 a 1 (r1 b1 1)) b1 2)) b1 3)) b1 4)) a 5 ((up2 (up2 (up2 (up2 r1 a 1 (r1 b1 1)) a 2 ((up2 r1 a 1 (r1 b1 1)) b1 2)) a 3 ((up2 (up2 r1 a 1 (r1 b1 1)) a 2 ((up2 r1 a 1 (r1 b1 1)) b1 2)) b1 3)) a 4 ((up2 (up2 (up2 r1 a 1 (r1 b1 1)) a 2 ((up2 r1 a 1 (r1 b1 1)) b1 2)) a 3 ((up2 (up2 r1 a 1 (r1 b1 1)) a 2 ((up2 r1 a 1 (r1 b1 1)) b1 2)) b1 3)) b1 4)) b1 5)) a 6 ((up2 (up2 (up2 (up2 (up2 r1 a 1 (r1 b1 1)) a 2 ((up2 r1 a 1 (r1 b1 1)) b1 2)) a 3 ((up2 (up2 r1 a 1 (r1 b1 1)) a 2 ((up2 r1 a 1 (r1 b1 1)) b1 2)) b1 3)) a 4 ((up2 (up2 (up2 r1 a 1 (r1 b1 1)) a 2 ((up2 r1 a 1 (r1 b1 1)) b1 2)) a 3 ((up2 (up2 r1 a 1 (r1 b1 1)) a 2 ((up2 r1 a 1 (r1 b1 1)) b1 2)) b1 3)) b1 4)) a 5 ((up2 (up2 (up2 (up2 r1 a 1 (r1 b1 1)) a 2 ((up2 r1 a 1 (r1 b1 1)) b1 2)) a 3 ((up2 (up2 r1 a 1 (r1 b1 1)) a 2 ((up2 r1 a 1 (r1 b1 1)) b1 2)) b1 3)) a 4 ((up2 (up2 (up2 r1 a 1 (r1 b1 1)) a 2 ((up2 r1 a 1 (r1 b1 1)) b1 2)) a 3 ((up2 (up2 r1 a 1 (r1 b1 1)) a 2 ((up2 r1 a 1 (r1 b1 1)) b1 2)) b1 3)) b1 4)) b1 5)) b1 6)) b1 7)) a 8 ((up2 (up2 (up2 (up2 (up2 (up2 (up2 r1 a 1 (r1 b1 1)) a 2 ((up2 r1 a 1 (r1 b1 1)) b1 2)) a 3 ((up2 (up2 r1 a 1 (r1 b1 1)) a 2 ((up2 r1 a 1 (r1 b1 1)) b1 2)) b1 3)) a 4 ((up2 (up2 (up2 r1 a 1 (r1 b1 1)) a 2 ((up2 r1 a 1 (r1 b1 1)) b1 2)) a 3 ((up2 (up2 r1 a 1 (r1 b1 1)) a 2 ((up2 r1 a 1 (r1 b1 1)) b1 2)) b1 3)) b1 4)) a 5 ((up2 (up2 (up2 (up2 r1 a 1 (r1 b1 1)) a 2 ((up2 r1 a 1 (r1 b1 1)) b1 2)) a 3 ((up2 (up2 r1 a 1 (r1 b1 1)) a 2 ((up2 r1 a 1 (r1 b1 1)) b1 2)) b1 3)) a 4 ((up2 (up2 (up2 r1 a 1 (r1 b1 1)) a 2 ((up2 r1 a 1 (r1 b1 1)) b1 2)) a 3 ((up2 (up2 r1 a 1 (r1 b1 1)) a 2 ((up2 r1 a 1 (r1 b1 1)) b1 2)) b1 3)) b1 4)) b1 5)) a 6 ((up2 (up2 (up2 (up2 (up2 r1 a 1 (r1 b1 1)) a 2 ((up2 r1 a 1 (r1 b1 1)) b1 2)) a 3 ((up2 (up2 r1 a 1 (r1 b1 1)) a 2 ((up2 r1 a 1 (r1 b1 1)) b1 2)) b1 3)) a 4 ((up2 (up2 (up2 r1 a 1 (r1 b1 1)) a 2 ((up2 r1 a 1 (r1 b1 1)) b1 2)) a 3 ((up2 (up2 r1 a 1 (r1 b1 1)) a 2 ((up2 r1 a 1 (r1 b1 1)) b1 2)) b1 3)) b1 4)) a 5 ((up2 (up2 (up2 (up2 r1 a 1 (r1 b1 1)) a 2 ((up2 r1 a 1 (r1 b1 1)) b1 2)) a 3 ((up2 (up2 r1 a 1 (r1 b1 1)) a 2 ((up2 r1 a 1 (r1 b1 1)) b1 2)) b1 3)) a 4 ((up2 (up2 (up2 r1 a 1 (r1 b1 1)) a 2 ((up2 r1 a 1 (r1 b1 1)) b1 2)) a 3 ((up2 (up2 r1 a 1 (r1 b1 1)) a 2 ((up2 r1 a 1 (r1 b1 1)) b1 2)) b1 3)) b1 4)) b1 5)) b1 6)) a 7 ((up2 (up2 (up2 (up2 (up2 (up2 r1 a 1 (r1 b1 1)) a 2 ((up2 r1 a 1 (r1 b1 1)) b1 2)) a 3 ((up2 (up2 r1 a 1 (r1 b1 1)) a 2 ((up2 r1 a 1 (r1 b1 1)) b1 2)) b1 3)) a 4 ((up2 (up2 (up2 r1 a 1 (r1 b1 1)) a 2 ((up2 r1 a 1 (r1 b1 1)) b1 2)) a 3 ((up2 (up2 r1 a 1 (r1 b1 1)) a 2 ((up2 r1 a 1 (r1 b1 1)) b1 2)) b1 3)) b1 4)) a 5 ((up2 (up2 (up2 (up2 r1 a 1 (r1 b1 1)) a 2 ((up2 r1 a 1 (r1 b1 1)) b1 2)) a 3 ((up2 (up2 r1 a 1 (r1 b1 1)) a 2 ((up2 r1 a 1 (r1 b1 1)) b1 2)) b1 3)) a 4 ((up2 (up2 (up2 r1 a 1 (r1 b1 1)) a 2 ((up2 r1 a 1 (r1 b1 1)) b1 2)) a 3 ((up2 (up2 r1 a 1 (r1 b1 1)) a 2 ((up2 r1 a 1 (r1 b1 1)) b1 2)) b1 3)) b1 4)) b1 5)) a 6 ((up2 (up2 (up2 (up2 (up2 r1 a 1 (r1 b1 1)) a 2 ((up2 r1 a 1 (r1 b1 1)) b1 2)) a 3 ((up2 (up2 r1 a 1 (r1 b1 1)) a 2 ((up2 r1 a 1 (r1 b1 1)) b1 2)) b1 3)) a 4 ((up2 (up2 (up2 r1 a 1 (r1 b1 1)) a 2 ((up2 r1 a 1 (r1 b1 1)) b1 2)) a 3 ((up2 (up2 r1 a 1 (r1 b1 1)) a 2 ((up2 r1 a 1 (r1 b1 1)) b1 2)) b1 3)) b1 4)) a 5 ((up2 (up2 (up2 (up2 r1 a 1 (r1 b1 1)) a 2 ((up2 r1 a 1 (r1 b1 1)) b1 2)) a 3 ((up2 (up2 r1 a 1 (r1 b1 1)) a 2 ((up2 r1 a 1 (r1 b1 1)) b1 2)) b1 3)) a 4 ((up2 (up2 (up2 r1 a 1 (r1 b1 1)) a 2 ((up2 r1 a 1 (r1 b1 1)) b1 2)) a 3 ((up2 (up2 r1 a 1 (r1 b1 1)) a 2 ((up2 r1 a 1 (r1 b1 1)) b1 2)) b1 3)) b1 4)) b1 5)) b1 6)) b1 7)) b1 8)) a 9 ((up2 (up2 (up2 (up2 (up2 (up2 (up2 (up2 r1 a 1 (r1 b1 1)) a 2 ((up2 r1 a 1 (r1 b1 1)) b1 2)) a 3 ((up2 (up2 r1 a 1 (r1 b1 1)) a 2 ((up2 r1 a 1 (r1 b1 1)) b1 2)) b1 3)) a 4 ((up2 (up2 (up2 r1 a 1 (r1 b1 1)) a 2 ((up2 r1 a 1 (r1 b1 1)) b1 2)) a 3 ((up2 (up2 r1 a 1 (r1 b1 1)) a 2 ((up2 r1 a 1 (r1 b1 1)) b1 2)) b1 3)) b1 4)) a 5 ((up2 (up2 (up2 (up2 r1 a 1 (r1 b1 1)) a 2 ((up2 r1 a 1 (r1 b1 1)) b1 2)) a 3 ((up2 (up2 r1 a 1 (r1 b1 1)) a 2 ((up2 r1 a 1 (r1 b1 1)) b1 2)) b1 3)) a 4 ((up2 (up2 (up2 r1 a 1 (r1 b1 1)) a 2 ((up2 r1 a 1 (r1 b1 1)) b1 2)) a 3 ((up2 (up2 r1 a 1 (r1 b1 1)) a 2 ((up2 r1 a 1 (r1 b1 1)) b1 2)) b1 3)) b1 4)) b1 5)) a 6 ((up2 (up2 (up2 (up2 (up2 r1 a 1 (r1 b1 1)) a 2 ((up2 r1 a 1 (r1 b1 1)) b1 2)) a 3 ((up2 (up2 r1 a 1 (r1 b1 1)) a 2 ((up2 r1 a 1 (r1 b1 1)) b1 2)) b1 3)) a 4 ((up2 (up2 (up2 r1 a 1 (r1 b1 1)) a 2 ((up2 r1 a 1 (r1 b1 1)) b1 2)) a 3 ((up2 (up2 r1 a 1 (r1 b1 1)) a 2 ((up2 r1 a 1 (r1 b1 1)) b1 2)) b1 3)) b1 4)) a 5 ((up2 (up2 (up2 (up2 r1 a 1 (r1 b1 1)) a 2 ((up2 r1 a 1 (r1 b1 1)) b1 2)) a 3 ((up2 (up2 r1 a 1 (r1 b1 1)) a 2 ((up2 r1 a 1 (r1 b1 1)) b1 2)) b1 3)) a 4 ((up2 (up2 (up2 r1 a 1 (r1 b1 1)) a 2 ((up2 r1 a 1 (r1 b1 1)) b1 2)) a 3 ((up2 (up2 r1 a 1 (r1 b1 1)) a 2 ((up2 r1 a 1 (r1 b1 1)) b1 2)) b1 3)) b1 4)) b1 5)) b1 6)) a 7 ((up2 (up2 (up2 (up2 (up2 (up2 r1 a 1 (r1 b1 1)) a 2 ((up2 r1 a 1 (r1 b1 1)) b1 2)) a 3 ((up2 (up2 r1 a 1 (r1 b1 1)) a 2 ((up2 r1 a 1 (r1 b1 1)) b1 2)) b1 3)) a 4 ((up2 (up2 (up2 r1 a 1 (r1 b1 1)) a 2 ((up2 r1 a 1 (r1 b1 1)) b1 2)) a 3 ((up2 (up2 r1 a 1 (r1 b1 1)) a 2 ((up2 r1 a 1 (r1 b1 1)) b1 2)) b1 3)) b1 4)) a 5 ((up2 (up2 (up2 (up2 r1 a 1 (r1 b1 1)) a 2 ((up2 r1 a 1 (r1 b1 1)) b1 2)) a 3 ((up2 (up2 r1 a 1 (r1 b1 1)) a 2 ((up2 r1 a 1 (r1 b1 1)) b1 2)) b1 3)) a 4 ((up2 (up2 (up2 r1 a 1 (r1 b1 1)) a 2 ((up2 r1 a 1 (r1 b1 1)) b1 2)) a 3 ((up2 (up2 r1 a 1 (r1 b1 1)) a 2 ((up2 r1 a 1 (r1 b1 1)) b1 2)) b1 3)) b1 4)) b1 5)) a 6 ((up2 (up2 (up2 (up2 (up2 r1 a 1 (r1 b1 1)) a 2 ((up2 r1 a 1 (r1 b1 1)) b1 2)) a 3 ((up2 (up2 r1 a 1 (r1 b1 1)) a 2 ((up2 r1 a 1 (r1 b1 1)) b1 2)) b1 3)) a 4 ((up2 (up2 (up2 r1 a 1 (r1 b1 1)) a 2 ((up2 r1 a 1 (r1 b1 1)) b1 2)) a 3 ((up2 (up2 r1 a 1 (r1 b1 1)) a 2 ((up2 r1 a 1 (r1 b1 1)) b1 2)) b1 3)) b1 4)) a 5 ((up2 (up2 (up2 (up2 r1 a 1 (r1 b1 1)) a 2 ((up2 r1 a 1 (r1 b1 1)) b1 2)) a 3 ((up2 (up2 r1 a 1 (r1 b1 1)) a 2 ((up2 r1 a 1 (r1 b1 1)) b1 2)) b1 3)) a 4 ((up2 (up2 (up2 r1 a 1 (r1 b1 1)) a 2 ((up2 r1 a 1 (r1 b1 1)) b1 2)) a 3 ((up2 (up2 r1 a 1 (r1 b1 1)) a 2 ((up2 r1 a 1 (r1 b1 1)) b1 2)) b1 3)) b1 4)) b1 5)) b1 6)) b1 7)) a 8 ((up2 (up2 (up2 (up2 (up2 (up2 (up2 r1 a 1 (r1 b1 1)) a 2 ((up2 r1 a 1 (r1 b1 1)) b1 2)) a 3 ((up2 (up2 r1 a 1 (r1 b1 1)) a 2 ((up2 r1 a 1 (r1 b1 1)) b1 2)) b1 3)) a 4 ((up2 (up2 (up2 r1 a 1 (r1 b1 1)) a 2 ((up2 r1 a 1 (r1 b1 1)) b1 2)) a 3 ((up2 (up2 r1 a 1 (r1 b1 1)) a 2 ((up2 r1 a 1 (r1 b1 1)) b1 2)) b1 3)) b1 4)) a 5 ((up2 (up2 (up2 (up2 r1 a 1 (r1 b1 1)) a 2 ((up2 r1 a 1 (r1 b1 1)) b1 2)) a 3 ((up2 (up2 r1 a 1 (r1 b1 1)) a 2 ((up2 r1 a 1 (r1 b1 1)) b1 2)) b1 3)) a 4 ((up2 (up2 (up2 r1 a 1 (r1 b1 1)) a 2 ((up2 r1 a 1 (r1 b1 1)) b1 2)) a 3 ((up2 (up2 r1 a 1 (r1 b1 1)) a 2 ((up2 r1 a 1 (r1 b1 1)) b1 2)) b1 3)) b1 4)) b1 5)) a 6 ((up2 (up2 (up2 (up2 (up2 r1 a 1 (r1 b1 1)) a 2 ((up2 r1 a 1 (r1 b1 1)) b1 2)) a 3 ((up2 (up2 r1 a 1 (r1 b1 1)) a 2 ((up2 r1 a 1 (r1 b1 1)) b1 2)) b1 3)) a 4 ((up2 (up2 (up2 r1 a 1 (r1 b1 1)) a 2 ((up2 r1 a 1 (r1 b1 1)) b1 2)) a 3 ((up2 (up2 r1 a 1 (r1 b1 1)) a 2 ((up2 r1 a 1 (r1 b1 1)) b1 2)) b1 3)) b1 4)) a 5 ((up2 (up2 (up2 (up2 r1 a 1 (r1 b1 1)) a 2 ((up2 r1 a 1 (r1 b1 1)) b1 2)) a 3 ((up2 (up2 r1 a 1 (r1 b1 1)) a 2 ((up2 r1 a 1 (r1 b1 1)) b1 2)) b1 3)) a 4 ((up2 (up2 (up2 r1 a 1 (r1 b1 1)) a 2 ((up2 r1 a 1 (r1 b1 1)) b1 2)) a 3 ((up2 (up2 r1 a 1 (r1 b1 1)) a 2 ((up2 r1 a 1 (r1 b1 1)) b1 2)) b1 3)) b1 4)) b1 5)) b1 6)) a 7 ((up2 (up2 (up2 (up2 (up2 (up2 r1 a 1 (r1 b1 1)) a 2 ((up2 r1 a 1 (r1 b1 1)) b1 2)) a 3 ((up2 (up2 r1 a 1 (r1 b1 1)) a 2 ((up2 r1 a 1 (r1 b1 1)) b1 2)) b1 3)) a 4 ((up2 (up2 (up2 r1 a 1 (r1 b1 1)) a 2 ((up2 r1 a 1 (r1 b1 1)) b1 2)) a 3 ((up2 (up2 r1 a 1 (r1 b1 1)) a 2 ((up2 r1 a 1 (r1 b1 1)) b1 2)) b1 3)) b1 4)) a 5 ((up2 (up2 (up2 (up2 r1 a 1 (r1 b1 1)) a 2 ((up2 r1 a 1 (r1 b1 1)) b1 2)) a 3 ((up2 (up2 r1 a 1 (r1 b1 1)) a 2 ((up2 r1 a 1 (r1 b1 1)) b1 2)) b1 3)) a 4 ((up2 (up2 (up2 r1 a 1 (r1 b1 1)) a 2 ((up2 r1 a 1 (r1 b1 1)) b1 2)) a 3 ((up2 (up2 r1 a 1 (r1 b1 1)) a 2 ((up2 r1 a 1 (r1 b1 1)) b1 2)) b1 3)) b1 4)) b1 5)) a 6 ((up2 (up2 (up2 (up2 (up2 r1 a 1 (r1 b1 1)) a 2 ((up2 r1 a 1 (r1 b1 1)) b1 2)) a 3 ((up2 (up2 r1 a 1 (r1 b1 1)) a 2 ((up2 r1 a 1 (r1 b1 1)) b1 2)) b1 3)) a 4 ((up2 (up2 (up2 r1 a 1 (r1 b1 1)) a 2 ((up2 r1 a 1 (r1 b1 1)) b1 2)) a 3 ((up2 (up2 r1 a 1 (r1 b1 1)) a 2 ((up2 r1 a 1 (r1 b1 1)) b1 2)) b1 3)) b1 4)) a 5 ((up2 (up2 (up2 (up2 r1 a 1 (r1 b1 1)) a 2 ((up2 r1 a 1 (r1 b1 1)) b1 2)) a 3 ((up2 (up2 r1 a 1 (r1 b1 1)) a 2 ((up2 r1 a 1 (r1 b1 1)) b1 2)) b1 3)) a 4 ((up2 (up2 (up2 r1 a 1 (r1 b1 1)) a 2 ((up2 r1 a 1 (r1 b1 1)) b1 2)) a 3 ((up2 (up2 r1 a 1 (r1 b1 1)) a 2 ((up2 r1 a 1 (r1 b1 1)) b1 2)) b1 3)) b1 4)) b1 5)) b1 6)) b1 7)) b1 8)) b1 9)) a 10 ((up2 (up2 (up2 (up2 (up2 (up2 (up2 (up2 (up2 r1 a 1 (r1 b1 1)) a 2 ((up2 r1 a 1 (r1 b1 1)) b1 2)) a 3 ((up2 (up2 r1 a 1 (r1 b1 1)) a 2 ((up2 r1 a 1 (r1 b1 1)) b1 2)) b1 3)) a 4 ((up2 (up2 (up2 r1 a 1 (r1 b1 1)) a 2 ((up2 r1 a 1 (r1 b1 1)) b1 2)) a 3 ((up2 (up2 r1 a 1 (r1 b1 1)) a 2 ((up2 r1 a 1 (r1 b1 1)) b1 2)) b1 3)) b1 4)) a 5 ((up2 (up2 (up2 (up2 r1 a 1 (r1 b1 1)) a 2 ((up2 r1 a 1 (r1 b1 1)) b1 2)) a 3 ((up2 (up2 r1 a 1 (r1 b1 1)) a 2 ((up2 r1 a 1 (r1 b1 1)) b1 2)) b1 3)) a 4 ((up2 (up2 (up2 r1 a 1 (r1 b1 1)) a 2 ((up2 r1 a 1 (r1 b1 1)) b1 2)) a 3 ((up2 (up2 r1 a 1 (r1 b1 1)) a 2 ((up2 r1 a 1 (r1 b1 1)) b1 2)) b1 3)) b1 4)) b1 5)) a 6 ((up2 (up2 (up2 (up2 (up2 r1 a 1 (r1 b1 1)) a 2 ((up2 r1 a 1 (r1 b1 1)) b1 2)) a 3 ((up2 (up2 r1 a 1 (r1 b1 1)) a 2 ((up2 r1 a 1 (r1 b1 1)) b1 2)) b1 3)) a 4 ((up2 (up2 (up2 r1 a 1 (r1 b1 1)) a 2 ((up2 r1 a 1 (r1 b1 1)) b1 2)) a 3 ((up2 (up2 r1 a 1 (r1 b1 1)) a 2 ((up2 r1 a 1 (r1 b1 1)) b1 2)) b1 3)) b1 4)) a 5 ((up2 (up2 (up2 (up2 r1 a 1 (r1 b1 1)) a 2 ((up2 r1 a 1 (r1 b1 1)) b1 2)) a 3 ((up2 (up2 r1 a 1 (r1 b1 1)) a 2 ((up2 r1 a 1 (r1 b1 1)) b1 2)) b1 3)) a 4 ((up2 (up2 (up2 r1 a 1 (r1 b1 1)) a 2 ((up2 r1 a 1 (r1 b1 1)) b1 2)) a 3 ((up2 (up2 r1 a 1 (r1 b1 1)) a 2 ((up2 r1 a 1 (r1 b1 1)) b1 2)) b1 3)) b1 4)) b1 5)) b1 6)) a 7 ((up2 (up2 (up2 (up2 (up2 (up2 r1 a 1 (r1 b1 1)) a 2 ((up2 r1 a 1 (r1 b1 1)) b1 2)) a 3 ((up2 (up2 r1 a 1 (r1 b1 1)) a 2 ((up2 r1 a 1 (r1 b1 1)) b1 2)) b1 3)) a 4 ((up2 (up2 (up2 r1 a 1 (r1 b1 1)) a 2 ((up2 r1 a 1 (r1 b1 1)) b1 2)) a 3 ((up2 (up2 r1 a 1 (r1 b1 1)) a 2 ((up2 r1 a 1 (r1 b1 1)) b1 2)) b1 3)) b1 4)) a 5 ((up2 (up2 (up2 (up2 r1 a 1 (r1 b1 1)) a 2 ((up2 r1 a 1 (r1 b1 1)) b1 2)) a 3 ((up2 (up2 r1 a 1 (r1 b1 1)) a 2 ((up2 r1 a 1 (r1 b1 1)) b1 2)) b1 3)) a 4 ((up2 (up2 (up2 r1 a 1 (r1 b1 1)) a 2 ((up2 r1 a 1 (r1 b1 1)) b1 2)) a 3 ((up2 (up2 r1 a 1 (r1 b1 1)) a 2 ((up2 r1 a 1 (r1 b1 1)) b1 2)) b1 3)) b1 4)) b1 5)) a 6 ((up2 (up2 (up2 (up2 (up2 r1 a 1 (r1 b1 1)) a 2 ((up2 r1 a 1 (r1 b1 1)) b1 2)) a 3 ((up2 (up2 r1 a 1 (r1 b1 1)) a 2 ((up2 r1 a 1 (r1 b1 1)) b1 2)) b1 3)) a 4 ((up2 (up2 (up2 r1 a 1 (r1 b1 1)) a 2 ((up2 r1 a 1 (r1 b1 1)) b1 2)) a 3 ((up2 (up2 r1 a 1 (r1 b1 1)) a 2 ((up2 r1 a 1 (r1 b1 1)) b1 2)) b1 3)) b1 4)) a 5 ((up2 (up2 (up2 (up2 r1 a 1 (r1 b1 1)) a 2 ((up2 r1 a 1 (r1 b1 1)) b1 2)) a 3 ((up2 (up2 r1 a 1 (r1 b1 1)) a 2 ((up2 r1 a 1 (r1 b1 1)) b1 2)) b1 3)) a 4 ((up2 (up2 (up2 r1 a 1 (r1 b1 1)) a 2 ((up2 r1 a 1 (r1 b1 1)) b1 2)) a 3 ((up2 (up2 r1 a 1 (r1 b1 1)) a 2 ((up2 r1 a 1 (r1 b1 1)) b1 2)) b1 3)) b1 4)) b1 5)) b1 6)) b1 7)) a 8 ((up2 (up2 (up2 (up2 (up2 (up2 (up2 r1 a 1 (r1 b1 1)) a 2 ((up2 r1 a 1 (r1 b1 1)) b1 2)) a 3 ((up2 (up2 r1 a 1 (r1 b1 1)) a 2 ((up2 r1 a 1 (r1 b1 1)) b1 2)) b1 3)) a 4 ((up2 (up2 (up2 r1 a 1 (r1 b1 1)) a 2 ((up2 r1 a 1 (r1 b1 1)) b1 2)) a 3 ((up2 (up2 r1 a 1 (r1 b1 1)) a 2 ((up2 r1 a 1 (r1 b1 1)) b1 2)) b1 3)) b1 4)) a 5 ((up2 (up2 (up2 (up2 r1 a 1 (r1 b1 1)) a 2 ((up2 r1 a 1 (r1 b1 1)) b1 2)) a 3 ((up2 (up2 r1 a 1 (r1 b1 1)) a 2 ((up2 r1 a 1 (r1 b1 1)) b1 2)) b1 3)) a 4 ((up2 (up2 (up2 r1 a 1 (r1 b1 1)) a 2 ((up2 r1 a 1 (r1 b1 1)) b1 2)) a 3 ((up2 (up2 r1 a 1 (r1 b1 1)) a 2 ((up2 r1 a 1 (r1 b1 1)) b1 2)) b1 3)) b1 4)) b1 5)) a 6 ((up2 (up2 (up2 (up2 (up2 r1 a 1 (r1 b1 1)) a 2 ((up2 r1 a 1 (r1 b1 1)) b1 2)) a 3 ((up2 (up2 r1 a 1 (r1 b1 1)) a 2 ((up2 r1 a 1 (r1 b1 1)) b1 2)) b1 3)) a 4 ((up2 (up2 (up2 r1 a 1 (r1 b1 1)) a 2 ((up2 r1 a 1 (r1 b1 1)) b1 2)) a 3 ((up2 (up2 r1 a 1 (r1 b1 1)) a 2 ((up2 r1 a 1 (r1 b1 1)) b1 2)) b1 3)) b1 4)) a 5 ((up2 (up2 (up2 (up2 r1 a 1 (r1 b1 1)) a 2 ((up2 r1 a 1 (r1 b1 1)) b1 2)) a 3 ((up2 (up2 r1 a 1 (r1 b1 1)) a 2 ((up2 r1 a 1 (r1 b1 1)) b1 2)) b1 3)) a 4 ((up2 (up2 (up2 r1 a 1 (r1 b1 1)) a 2 ((up2 r1 a 1 (r1 b1 1)) b1 2)) a 3 ((up2 (up2 r1 a 1 (r1 b1 1)) a 2 ((up2 r1 a 1 (r1 b1 1)) b1 2)) b1 3)) b1 4)) b1 5)) b1 6)) a 7 ((up2 (up2 (up2 (up2 (up2 (up2 r1 a 1 (r1 b1 1)) a 2 ((up2 r1 a 1 (r1 b1 1)) b1 2)) a 3 ((up2 (up2 r1 a 1 (r1 b1 1)) a 2 ((up2 r1 a 1 (r1 b1 1)) b1 2)) b1 3)) a 4 ((up2 (up2 (up2 r1 a 1 (r1 b1 1)) a 2 ((up2 r1 a 1 (r1 b1 1)) b1 2)) a 3 ((up2 (up2 r1 a 1 (r1 b1 1)) a 2 ((up2 r1 a 1 (r1 b1 1)) b1 2)) b1 3)) b1 4)) a 5 ((up2 (up2 (up2 (up2 r1 a 1 (r1 b1 1)) a 2 ((up2 r1 a 1 (r1 b1 1)) b1 2)) a 3 ((up2 (up2 r1 a 1 (r1 b1 1)) a 2 ((up2 r1 a 1 (r1 b1 1)) b1 2)) b1 3)) a 4 ((up2 (up2 (up2 r1 a 1 (r1 b1 1)) a 2 ((up2 r1 a 1 (r1 b1 1)) b1 2)) a 3 ((up2 (up2 r1 a 1 (r1 b1 1)) a 2 ((up2 r1 a 1 (r1 b1 1)) b1 2)) b1 3)) b1 4)) b1 5)) a 6 ((up2 (up2 (up2 (up2 (up2 r1 a 1 (r1 b1 1)) a 2 ((up2 r1 a 1 (r1 b1 1)) b1 2)) a 3 ((up2 (up2 r1 a 1 (r1 b1 1)) a 2 ((up2 r1 a 1 (r1 b1 1)) b1 2)) b1 3)) a 4 ((up2 (up2 (up2 r1 a 1 (r1 b1 1)) a 2 ((up2 r1 a 1 (r1 b1 1)) b1 2)) a 3 ((up2 (up2 r1 a 1 (r1 b1 1)) a 2 ((up2 r1 a 1 (r1 b1 1)) b1 2)) b1 3)) b1 4)) a 5 ((up2 (up2 (up2 (up2 r1 a 1 (r1 b1 1)) a 2 ((up2 r1 a 1 (r1 b1 1)) b1 2)) a 3 ((up2 (up2 r1 a 1 (r1 b1 1)) a 2 ((up2 r1 a 1 (r1 b1 1)) b1 2)) b1 3)) a 4 ((up2 (up2 (up2 r1 a 1 (r1 b1 1)) a 2 ((up2 r1 a 1 (r1 b1 1)) b1 2)) a 3 ((up2 (up2 r1 a 1 (r1 b1 1)) a 2 ((up2 r1 a 1 (r1 b1 1)) b1 2)) b1 3)) b1 4)) b1 5)) b1 6)) b1 7)) b1 8)) a 9 ((up2 (up2 (up2 (up2 (up2 (up2 (up2 (up2 r1 a 1 (r1 b1 1)) a 2 ((up2 r1 a 1 (r1 b1 1)) b1 2)) a 3 ((up2 (up2 r1 a 1 (r1 b1 1)) a 2 ((up2 r1 a 1 (r1 b1 1)) b1 2)) b1 3)) a 4 ((up2 (up2 (up2 r1 a 1 (r1 b1 1)) a 2 ((up2 r1 a 1 (r1 b1 1)) b1 2)) a 3 ((up2 (up2 r1 a 1 (r1 b1 1)) a 2 ((up2 r1 a 1 (r1 b1 1)) b1 2)) b1 3)) b1 4)) a 5 ((up2 (up2 (up2 (up2 r1 a 1 (r1 b1 1)) a 2 ((up2 r1 a 1 (r1 b1 1)) b1 2)) a 3 ((up2 (up2 r1 a 1 (r1 b1 1)) a 2 ((up2 r1 a 1 (r1 b1 1)) b1 2)) b1 3)) a 4 ((up2 (up2 (up2 r1 a 1 (r1 b1 1)) a 2 ((up2 r1 a 1 (r1 b1 1)) b1 2)) a 3 ((up2 (up2 r1 a 1 (r1 b1 1)) a 2 ((up2 r1 a 1 (r1 b1 1)) b1 2)) b1 3)) b1 4)) b1 5)) a 6 ((up2 (up2 (up2 (up2 (up2 r1 a 1 (r1 b1 1)) a 2 ((up2 r1 a 1 (r1 b1 1)) b1 2)) a 3 ((up2 (up2 r1 a 1 (r1 b1 1)) a 2 ((up2 r1 a 1 (r1 b1 1)) b1 2)) b1 3)) a 4 ((up2 (up2 (up2 r1 a 1 (r1 b1 1)) a 2 ((up2 r1 a 1 (r1 b1 1)) b1 2)) a 3 ((up2 (up2 r1 a 1 (r1 b1 1)) a 2 ((up2 r1 a 1 (r1 b1 1)) b1 2)) b1 3)) b1 4)) a 5 ((up2 (up2 (up2 (up2 r1 a 1 (r1 b1 1)) a 2 ((up2 r1 a 1 (r1 b1 1)) b1 2)) a 3 ((up2 (up2 r1 a 1 (r1 b1 1)) a 2 ((up2 r1 a 1 (r1 b1 1)) b1 2)) b1 3)) a 4 ((up2 (up2 (up2 r1 a 1 (r1 b1 1)) a 2 ((up2 r1 a 1 (r1 b1 1)) b1 2)) a 3 ((up2 (up2 r1 a 1 (r1 b1 1)) a 2 ((up2 r1 a 1 (r1 b1 1)) b1 2)) b1 3)) b1 4)) b1 5)) b1 6)) a 7 ((up2 (up2 (up2 (up2 (up2 (up2 r1 a 1 (r1 b1 1)) a 2 ((up2 r1 a 1 (r1 b1 1)) b1 2)) a 3 ((up2 (up2 r1 a 1 (r1 b1 1)) a 2 ((up2 r1 a 1 (r1 b1 1)) b1 2)) b1 3)) a 4 ((up2 (up2 (up2 r1 a 1 (r1 b1 1)) a 2 ((up2 r1 a 1 (r1 b1 1)) b1 2)) a 3 ((up2 (up2 r1 a 1 (r1 b1 1)) a 2 ((up2 r1 a 1 (r1 b1 1)) b1 2)) b1 3)) b1 4)) a 5 ((up2 (up2 (up2 (up2 r1 a 1 (r1 b1 1)) a 2 ((up2 r1 a 1 (r1 b1 1)) b1 2)) a 3 ((up2 (up2 r1 a 1 (r1 b1 1)) a 2 ((up2 r1 a 1 (r1 b1 1)) b1 2)) b1 3)) a 4 ((up2 (up2 (up2 r1 a 1 (r1 b1 1)) a 2 ((up2 r1 a 1 (r1 b1 1)) b1 2)) a 3 ((up2 (up2 r1 a 1 (r1 b1 1)) a 2 ((up2 r1 a 1 (r1 b1 1)) b1 2)) b1 3)) b1 4)) b1 5)) a 6 ((up2 (up2 (up2 (up2 (up2 r1 a 1 (r1 b1 1)) a 2 ((up2 r1 a 1 (r1 b1 1)) b1 2)) a 3 ((up2 (up2 r1 a 1 (r1 b1 1)) a 2 ((up2 r1 a 1 (r1 b1 1)) b1 2)) b1 3)) a 4 ((up2 (up2 (up2 r1 a 1 (r1 b1 1)) a 2 ((up2 r1 a 1 (r1 b1 1)) b1 2)) a 3 ((up2 (up2 r1 a 1 (r1 b1 1)) a 2 ((up2 r1 a 1 (r1 b1 1)) b1 2)) b1 3)) b1 4)) a 5 ((up2 (up2 (up2 (up2 r1 a 1 (r1 b1 1)) a 2 ((up2 r1 a 1 (r1 b1 1)) b1 2)) a 3 ((up2 (up2 r1 a 1 (r1 b1 1)) a 2 ((up2 r1 a 1 (r1 b1 1)) b1 2)) b1 3)) a 4 ((up2 (up2 (up2 r1 a 1 (r1 b1 1)) a 2 ((up2 r1 a 1 (r1 b1 1)) b1 2)) a 3 ((up2 (up2 r1 a 1 (r1 b1 1)) a 2 ((up2 r1 a 1 (r1 b1 1)) b1 2)) b1 3)) b1 4)) b1 5)) b1 6)) b1 7)) a 8 ((up2 (up2 (up2 (up2 (up2 (up2 (up2 r1 a 1 (r1 b1 1)) a 2 ((up2 r1 a 1 (r1 b1 1)) b1 2)) a 3 ((up2 (up2 r1 a 1 (r1 b1 1)) a 2 ((up2 r1 a 1 (r1 b1 1)) b1 2)) b1 3)) a 4 ((up2 (up2 (up2 r1 a 1 (r1 b1 1)) a 2 ((up2 r1 a 1 (r1 b1 1)) b1 2)) a 3 ((up2 (up2 r1 a 1 (r1 b1 1)) a 2 ((up2 r1 a 1 (r1 b1 1)) b1 2)) b1 3)) b1 4)) a 5 ((up2 (up2 (up2 (up2 r1 a 1 (r1 b1 1)) a 2 ((up2 r1 a 1 (r1 b1 1)) b1 2)) a 3 ((up2 (up2 r1 a 1 (r1 b1 1)) a 2 ((up2 r1 a 1 (r1 b1 1)) b1 2)) b1 3)) a 4 ((up2 (up2 (up2 r1 a 1 (r1 b1 1)) a 2 ((up2 r1 a 1 (r1 b1 1)) b1 2)) a 3 ((up2 (up2 r1 a 1 (r1 b1 1)) a 2 ((up2 r1 a 1 (r1 b1 1)) b1 2)) b1 3)) b1 4)) b1 5)) a 6 ((up2 (up2 (up2 (up2 (up2 r1 a 1 (r1 b1 1)) a 2 ((up2 r1 a 1 (r1 b1 1)) b1 2)) a 3 ((up2 (up2 r1 a 1 (r1 b1 1)) a 2 ((up2 r1 a 1 (r1 b1 1)) b1 2)) b1 3)) a 4 ((up2 (up2 (up2 r1 a 1 (r1 b1 1)) a 2 ((up2 r1 a 1 (r1 b1 1)) b1 2)) a 3 ((up2 (up2 r1 a 1 (r1 b1 1)) a 2 ((up2 r1 a 1 (r1 b1 1)) b1 2)) b1 3)) b1 4)) a 5 ((up2 (up2 (up2 (up2 r1 a 1 (r1 b1 1)) a 2 ((up2 r1 a 1 (r1 b1 1)) b1 2)) a 3 ((up2 (up2 r1 a 1 (r1 b1 1)) a 2 ((up2 r1 a 1 (r1 b1 1)) b1 2)) b1 3)) a 4 ((up2 (up2 (up2 r1 a 1 (r1 b1 1)) a 2 ((up2 r1 a 1 (r1 b1 1)) b1 2)) a 3 ((up2 (up2 r1 a 1 (r1 b1 1)) a 2 ((up2 r1 a 1 (r1 b1 1)) b1 2)) b1 3)) b1 4)) b1 5)) b1 6)) a 7 ((up2 (up2 (up2 (up2 (up2 (up2 r1 a 1 (r1 b1 1)) a 2 ((up2 r1 a 1 (r1 b1 1)) b1 2)) a 3 ((up2 (up2 r1 a 1 (r1 b1 1)) a 2 ((up2 r1 a 1 (r1 b1 1)) b1 2)) b1 3)) a 4 ((up2 (up2 (up2 r1 a 1 (r1 b1 1)) a 2 ((up2 r1 a 1 (r1 b1 1)) b1 2)) a 3 ((up2 (up2 r1 a 1 (r1 b1 1)) a 2 ((up2 r1 a 1 (r1 b1 1)) b1 2)) b1 3)) b1 4)) a 5 ((up2 (up2 (up2 (up2 r1 a 1 (r1 b1 1)) a 2 ((up2 r1 a 1 (r1 b1 1)) b1 2)) a 3 ((up2 (up2 r1 a 1 (r1 b1 1)) a 2 ((up2 r1 a 1 (r1 b1 1)) b1 2)) b1 3)) a 4 ((up2 (up2 (up2 r1 a 1 (r1 b1 1)) a 2 ((up2 r1 a 1 (r1 b1 1)) b1 2)) a 3 ((up2 (up2 r1 a 1 (r1 b1 1)) a 2 ((up2 r1 a 1 (r1 b1 1)) b1 2)) b1 3)) b1 4)) b1 5)) a 6 ((up2 (up2 (up2 (up2 (up2 r1 a 1 (r1 b1 1)) a 2 ((up2 r1 a 1 (r1 b1 1)) b1 2)) a 3 ((up2 (up2 r1 a 1 (r1 b1 1)) a 2 ((up2 r1 a 1 (r1 b1 1)) b1 2)) b1 3)) a 4 ((up2 (up2 (up2 r1 a 1 (r1 b1 1)) a 2 ((up2 r1 a 1 (r1 b1 1)) b1 2)) a 3 ((up2 (up2 r1 a 1 (r1 b1 1)) a 2 ((up2 r1 a 1 (r1 b1 1)) b1 2)) b1 3)) b1 4)) a 5 ((up2 (up2 (up2 (up2 r1 a 1 (r1 b1 1)) a 2 ((up2 r1 a 1 (r1 b1 1)) b1 2)) a 3 ((up2 (up2 r1 a 1 (r1 b1 1)) a 2 ((up2 r1 a 1 (r1 b1 1)) b1 2)) b1 3)) a 4 ((up2 (up2 (up2 r1 a 1 (r1 b1 1)) a 2 ((up2 r1 a 1 (r1 b1 1)) b1 2)) a 3 ((up2 (up2 r1 a 1 (r1 b1 1)) a 2 ((up2 r1 a 1 (r1 b1 1)) b1 2)) b1 3)) b1 4)) b1 5)) b1 6)) b1 7)) b1 8)) b1 9)) b1 10)) a 11 ((up2 (up2 (up2 (up2 (up2 (up2 (up2 (up2 (up2 (up2 r1 a 1 (r1 b1 1)) a 2 ((up2 r1 a 1 (r1 b1 1)) b1 2)) a 3 ((up2 (up2 r1 a 1 (r1 b1 1)) a 2 ((up2 r1 a 1 (r1 b1 1)) b1 2)) b1 3)) a 4 ((up2 (up2 (up2 r1 a 1 (r1 b1 1)) a 2 ((up2 r1 a 1 (r1 b1 1)) b1 2)) a 3 ((up2 (up2 r1 a 1 (r1 b1 1)) a 2 ((up2 r1 a 1 (r1 b1 1)) b1 2)) b1 3)) b1 4)) a 5 ((up2 (up2 (up2 (up2 r1 a 1 (r1 b1 1)) a 2 ((up2 r1 a 1 (r1 b1 1)) b1 2)) a 3 ((up2 (up2 r1 a 1 (r1 b1 1)) a 2 ((up2 r1 a 1 (r1 b1 1)) b1 2)) b1 3)) a 4 ((up2 (up2 (up2 r1 a 1 (r1 b1 1)) a 2 ((up2 r1 a 1 (r1 b1 1)) b1 2)) a 3 ((up2 (up2 r1 a 1 (r1 b1 1)) a 2 ((up2 r1 a 1 (r1 b1 1)) b1 2)) b1 3)) b1 4)) b1 5)) a 6 ((up2 (up2 (up2 (up2 (up2 r1 a 1 (r1 b1 1)) a 2 ((up2 r1 a 1 (r1 b1 1)) b1 2)) a 3 ((up2 (up2 r1 a 1 (r1 b1 1)) a 2 ((up2 r1 a 1 (r1 b1 1)) b1 2)) b1 3)) a 4 ((up2 (up2 (up2 r1 a 1 (r1 b1 1)) a 2 ((up2 r1 a 1 (r1 b1 1)) b1 2)) a 3 ((up2 (up2 r1 a 1 (r1 b1 1)) a 2 ((up2 r1 a 1 (r1 b1 1)) b1 2)) b1 3)) b1 4)) a 5 ((up2 (up2 (up2 (up2 r1 a 1 (r1 b1 1)) a 2 ((up2 r1 a 1 (r1 b1 1)) b1 2)) a 3 ((up2 (up2 r1 a 1 (r1 b1 1)) a 2 ((up2 r1 a 1 (r1 b1 1)) b1 2)) b1 3)) a 4 ((up2 (up2 (up2 r1 a 1 (r1 b1 1)) a 2 ((up2 r1 a 1 (r1 b1 1)) b1 2)) a 3 ((up2 (up2 r1 a 1 (r1 b1 1)) a 2 ((up2 r1 a 1 (r1 b1 1)) b1 2)) b1 3)) b1 4)) b1 5)) b1 6)) a 7 ((up2 (up2 (up2 (up2 (up2 (up2 r1 a 1 (r1 b1 1)) a 2 ((up2 r1 a 1 (r1 b1 1)) b1 2)) a 3 ((up2 (up2 r1 a 1 (r1 b1 1)) a 2 ((up2 r1 a 1 (r1 b1 1)) b1 2)) b1 3)) a 4 ((up2 (up2 (up2 r1 a 1 (r1 b1 1)) a 2 ((up2 r1 a 1 (r1 b1 1)) b1 2)) a 3 ((up2 (up2 r1 a 1 (r1 b1 1)) a 2 ((up2 r1 a 1 (r1 b1 1)) b1 2)) b1 3)) b1 4)) a 5 ((up2 (up2 (up2 (up2 r1 a 1 (r1 b1 1)) a 2 ((up2 r1 a 1 (r1 b1 1)) b1 2)) a 3 ((up2 (up2 r1 a 1 (r1 b1 1)) a 2 ((up2 r1 a 1 (r1 b1 1)) b1 2)) b1 3)) a 4 ((up2 (up2 (up2 r1 a 1 (r1 b1 1)) a 2 ((up2 r1 a 1 (r1 b1 1)) b1 2)) a 3 ((up2 (up2 r1 a 1 (r1 b1 1)) a 2 ((up2 r1 a 1 (r1 b1 1)) b1 2)) b1 3)) b1 4)) b1 5)) a 6 ((up2 (up2 (up2 (up2 (up2 r1 a 1 (r1 b1 1)) a 2 ((up2 r1 a 1 (r1 b1 1)) b1 2)) a 3 ((up2 (up2 r1 a 1 (r1 b1 1)) a 2 ((up2 r1 a 1 (r1 b1 1)) b1 2)) b1 3)) a 4 ((up2 (up2 (up2 r1 a 1 (r1 b1 1)) a 2 ((up2 r1 a 1 (r1 b1 1)) b1 2)) a 3 ((up2 (up2 r1 a 1 (r1 b1 1)) a 2 ((up2 r1 a 1 (r1 b1 1)) b1 2)) b1 3)) b1 4)) a 5 ((up2 (up2 (up2 (up2 r1 a 1 (r1 b1 1)) a 2 ((up2 r1 a 1 (r1 b1 1)) b1 2)) a 3 ((up2 (up2 r1 a 1 (r1 b1 1)) a 2 ((up2 r1 a 1 (r1 b1 1)) b1 2)) b1 3)) a 4 ((up2 (up2 (up2 r1 a 1 (r1 b1 1)) a 2 ((up2 r1 a 1 (r1 b1 1)) b1 2)) a 3 ((up2 (up2 r1 a 1 (r1 b1 1)) a 2 ((up2 r1 a 1 (r1 b1 1)) b1 2)) b1 3)) b1 4)) b1 5)) b1 6)) b1 7)) a 8 ((up2 (up2 (up2 (up2 (up2 (up2 (up2 r1 a 1 (r1 b1 1)) a 2 ((up2 r1 a 1 (r1 b1 1)) b1 2)) a 3 ((up2 (up2 r1 a 1 (r1 b1 1)) a 2 ((up2 r1 a 1 (r1 b1 1)) b1 2)) b1 3)) a 4 ((up2 (up2 (up2 r1 a 1 (r1 b1 1)) a 2 ((up2 r1 a 1 (r1 b1 1)) b1 2)) a 3 ((up2 (up2 r1 a 1 (r1 b1 1)) a 2 ((up2 r1 a 1 (r1 b1 1)) b1 2)) b1 3)) b1 4)) a 5 ((up2 (up2 (up2 (up2 r1 a 1 (r1 b1 1)) a 2 ((up2 r1 a 1 (r1 b1 1)) b1 2)) a 3 ((up2 (up2 r1 a 1 (r1 b1 1)) a 2 ((up2 r1 a 1 (r1 b1 1)) b1 2)) b1 3)) a 4 ((up2 (up2 (up2 r1 a 1 (r1 b1 1)) a 2 ((up2 r1 a 1 (r1 b1 1)) b1 2)) a 3 ((up2 (up2 r1 a 1 (r1 b1 1)) a 2 ((up2 r1 a 1 (r1 b1 1)) b1 2)) b1 3)) b1 4)) b1 5)) a 6 ((up2 (up2 (up2 (up2 (up2 r1 a 1 (r1 b1 1)) a 2 ((up2 r1 a 1 (r1 b1 1)) b1 2)) a 3 ((up2 (up2 r1 a 1 (r1 b1 1)) a 2 ((up2 r1 a 1 (r1 b1 1)) b1 2)) b1 3)) a 4 ((up2 (up2 (up2 r1 a 1 (r1 b1 1)) a 2 ((up2 r1 a 1 (r1 b1 1)) b1 2)) a 3 ((up2 (up2 r1 a 1 (r1 b1 1)) a 2 ((up2 r1 a 1 (r1 b1 1)) b1 2)) b1 3)) b1 4)) a 5 ((up2 (up2 (up2 (up2 r1 a 1 (r1 b1 1)) a 2 ((up2 r1 a 1 (r1 b1 1)) b1 2)) a 3 ((up2 (up2 r1 a 1 (r1 b1 1)) a 2 ((up2 r1 a 1 (r1 b1 1)) b1 2)) b1 3)) a 4 ((up2 (up2 (up2 r1 a 1 (r1 b1 1)) a 2 ((up2 r1 a 1 (r1 b1 1)) b1 2)) a 3 ((up2 (up2 r1 a 1 (r1 b1 1)) a 2 ((up2 r1 a 1 (r1 b1 1)) b1 2)) b1 3)) b1 4)) b1 5)) b1 6)) a 7 ((up2 (up2 (up2 (up2 (up2 (up2 r1 a 1 (r1 b1 1)) a 2 ((up2 r1 a 1 (r1 b1 1)) b1 2)) a 3 ((up2 (up2 r1 a 1 (r1 b1 1)) a 2 ((up2 r1 a 1 (r1 b1 1)) b1 2)) b1 3)) a 4 ((up2 (up2 (up2 r1 a 1 (r1 b1 1)) a 2 ((up2 r1 a 1 (r1 b1 1)) b1 2)) a 3 ((up2 (up2 r1 a 1 (r1 b1 1)) a 2 ((up2 r1 a 1 (r1 b1 1)) b1 2)) b1 3)) b1 4)) a 5 ((up2 (up2 (up2 (up2 r1 a 1 (r1 b1 1)) a 2 ((up2 r1 a 1 (r1 b1 1)) b1 2)) a 3 ((up2 (up2 r1 a 1 (r1 b1 1)) a 2 ((up2 r1 a 1 (r1 b1 1)) b1 2)) b1 3)) a 4 ((up2 (up2 (up2 r1 a 1 (r1 b1 1)) a 2 ((up2 r1 a 1 (r1 b1 1)) b1 2)) a 3 ((up2 (up2 r1 a 1 (r1 b1 1)) a 2 ((up2 r1 a 1 (r1 b1 1)) b1 2)) b1 3)) b1 4)) b1 5)) a 6 ((up2 (up2 (up2 (up2 (up2 r1 a 1 (r1 b1 1)) a 2 ((up2 r1 a 1 (r1 b1 1)) b1 2)) a 3 ((up2 (up2 r1 a 1 (r1 b1 1)) a 2 ((up2 r1 a 1 (r1 b1 1)) b1 2)) b1 3)) a 4 ((up2 (up2 (up2 r1 a 1 (r1 b1 1)) a 2 ((up2 r1 a 1 (r1 b1 1)) b1 2)) a 3 ((up2 (up2 r1 a 1 (r1 b1 1)) a 2 ((up2 r1 a 1 (r1 b1 1)) b1 2)) b1 3)) b1 4)) a 5 ((up2 (up2 (up2 (up2 r1 a 1 (r1 b1 1)) a 2 ((up2 r1 a 1 (r1 b1 1)) b1 2)) a 3 ((up2 (up2 r1 a 1 (r1 b1 1)) a 2 ((up2 r1 a 1 (r1 b1 1)) b1 2)) b1 3)) a 4 ((up2 (up2 (up2 r1 a 1 (r1 b1 1)) a 2 ((up2 r1 a 1 (r1 b1 1)) b1 2)) a 3 ((up2 (up2 r1 a 1 (r1 b1 1)) a 2 ((up2 r1 a 1 (r1 b1 1)) b1 2)) b1 3)) b1 4)) b1 5)) b1 6)) b1 7)) b1 8)) a 9 ((up2 (up2 (up2 (up2 (up2 (up2 (up2 (up2 r1 a 1 (r1 b1 1)) a 2 ((up2 r1 a 1 (r1 b1 1)) b1 2)) a 3 ((up2 (up2 r1 a 1 (r1 b1 1)) a 2 ((up2 r1 a 1 (r1 b1 1)) b1 2)) b1 3)) a 4 ((up2 (up2 (up2 r1 a 1 (r1 b1 1)) a 2 ((up2 r1 a 1 (r1 b1 1)) b1 2)) a 3 ((up2 (up2 r1 a 1 (r1 b1 1)) a 2 ((up2 r1 a 1 (r1 b1 1)) b1 2)) b1 3)) b1 4)) a 5 ((up2 (up2 (up2 (up2 r1 a 1 (r1 b1 1)) a 2 ((up2 r1 a 1 (r1 b1 1)) b1 2)) a 3 ((up2 (up2 r1 a 1 (r1 b1 1)) a 2 ((up2 r1 a 1 (r1 b1 1)) b1 2)) b1 3)) a 4 ((up2 (up2 (up2 r1 a 1 (r1 b1 1)) a 2 ((up2 r1 a 1 (r1 b1 1)) b1 2)) a 3 ((up2 (up2 r1 a 1 (r1 b1 1)) a 2 ((up2 r1 a 1 (r1 b1 1)) b1 2)) b1 3)) b1 4)) b1 5)) a 6 ((up2 (up2 (up2 (up2 (up2 r1 a 1 (r1 b1 1)) a 2 ((up2 r1 a 1 (r1 b1 1)) b1 2)) a 3 ((up2 (up2 r1 a 1 (r1 b1 1)) a 2 ((up2 r1 a 1 (r1 b1 1)) b1 2)) b1 3)) a 4 ((up2 (up2 (up2 r1 a 1 (r1 b1 1)) a 2 ((up2 r1 a 1 (r1 b1 1)) b1 2)) a 3 ((up2 (up2 r1 a 1 (r1 b1 1)) a 2 ((up2 r1 a 1 (r1 b1 1)) b1 2)) b1 3)) b1 4)) a 5 ((up2 (up2 (up2 (up2 r1 a 1 (r1 b1 1)) a 2 ((up2 r1 a 1 (r1 b1 1)) b1 2)) a 3 ((up2 (up2 r1 a 1 (r1 b1 1)) a 2 ((up2 r1 a 1 (r1 b1 1)) b1 2)) b1 3)) a 4 ((up2 (up2 (up2 r1 a 1 (r1 b1 1)) a 2 ((up2 r1 a 1 (r1 b1 1)) b1 2)) a 3 ((up2 (up2 r1 a 1 (r1 b1 1)) a 2 ((up2 r1 a 1 (r1 b1 1)) b1 2)) b1 3)) b1 4)) b1 5)) b1 6)) a 7 ((up2 (up2 (up2 (up2 (up2 (up2 r1 a 1 (r1 b1 1)) a 2 ((up2 r1 a 1 (r1 b1 1)) b1 2)) a 3 ((up2 (up2 r1 a 1 (r1 b1 1)) a 2 ((up2 r1 a 1 (r1 b1 1)) b1 2)) b1 3)) a 4 ((up2 (up2 (up2 r1 a 1 (r1 b1 1)) a 2 ((up2 r1 a 1 (r1 b1 1)) b1 2)) a 3 ((up2 (up2 r1 a 1 (r1 b1 1)) a 2 ((up2 r1 a 1 (r1 b1 1)) b1 2)) b1 3)) b1 4)) a 5 ((up2 (up2 (up2 (up2 r1 a 1 (r1 b1 1)) a 2 ((up2 r1 a 1 (r1 b1 1)) b1 2)) a 3 ((up2 (up2 r1 a 1 (r1 b1 1)) a 2 ((up2 r1 a 1 (r1 b1 1)) b1 2)) b1 3)) a 4 ((up2 (up2 (up2 r1 a 1 (r1 b1 1)) a 2 ((up2 r1 a 1 (r1 b1 1)) b1 2)) a 3 ((up2 (up2 r1 a 1 (r1 b1 1)) a 2 ((up2 r1 a 1 (r1 b1 1)) b1 2)) b1 3)) b1 4)) b1 5)) a 6 ((up2 (up2 (up2 (up2 (up2 r1 a 1 (r1 b1 1)) a 2 ((up2 r1 a 1 (r1 b1 1)) b1 2)) a 3 ((up2 (up2 r1 a 1 (r1 b1 1)) a 2 ((up2 r1 a 1 (r1 b1 1)) b1 2)) b1 3)) a 4 ((up2 (up2 (up2 r1 a 1 (r1 b1 1)) a 2 ((up2 r1 a 1 (r1 b1 1)) b1 2)) a 3 ((up2 (up2 r1 a 1 (r1 b1 1)) a 2 ((up2 r1 a 1 (r1 b1 1)) b1 2)) b1 3)) b1 4)) a 5 ((up2 (up2 (up2 (up2 r1 a 1 (r1 b1 1)) a 2 ((up2 r1 a 1 (r1 b1 1)) b1 2)) a 3 ((up2 (up2 r1 a 1 (r1 b1 1)) a 2 ((up2 r1 a 1 (r1 b1 1)) b1 2)) b1 3)) a 4 ((up2 (up2 (up2 r1 a 1 (r1 b1 1)) a 2 ((up2 r1 a 1 (r1 b1 1)) b1 2)) a 3 ((up2 (up2 r1 a 1 (r1 b1 1)) a 2 ((up2 r1 a 1 (r1 b1 1)) b1 2)) b1 3)) b1 4)) b1 5)) b1 6)) b1 7)) a 8 ((up2 (up2 (up2 (up2 (up2 (up2 (up2 r1 a 1 (r1 b1 1)) a 2 ((up2 r1 a 1 (r1 b1 1)) b1 2)) a 3 ((up2 (up2 r1 a 1 (r1 b1 1)) a 2 ((up2 r1 a 1 (r1 b1 1)) b1 2)) b1 3)) a 4 ((up2 (up2 (up2 r1 a 1 (r1 b1 1)) a 2 ((up2 r1 a 1 (r1 b1 1)) b1 2)) a 3 ((up2 (up2 r1 a 1 (r1 b1 1)) a 2 ((up2 r1 a 1 (r1 b1 1)) b1 2)) b1 3)) b1 4)) a 5 ((up2 (up2 (up2 (up2 r1 a 1 (r1 b1 1)) a 2 ((up2 r1 a 1 (r1 b1 1)) b1 2)) a 3 ((up2 (up2 r1 a 1 (r1 b1 1)) a 2 ((up2 r1 a 1 (r1 b1 1)) b1 2)) b1 3)) a 4 ((up2 (up2 (up2 r1 a 1 (r1 b1 1)) a 2 ((up2 r1 a 1 (r1 b1 1)) b1 2)) a 3 ((up2 (up2 r1 a 1 (r1 b1 1)) a 2 ((up2 r1 a 1 (r1 b1 1)) b1 2)) b1 3)) b1 4)) b1 5)) a 6 ((up2 (up2 (up2 (up2 (up2 r1 a 1 (r1 b1 1)) a 2 ((up2 r1 a 1 (r1 b1 1)) b1 2)) a 3 ((up2 (up2 r1 a 1 (r1 b1 1)) a 2 ((up2 r1 a 1 (r1 b1 1)) b1 2)) b1 3)) a 4 ((up2 (up2 (up2 r1 a 1 (r1 b1 1)) a 2 ((up2 r1 a 1 (r1 b1 1)) b1 2)) a 3 ((up2 (up2 r1 a 1 (r1 b1 1)) a 2 ((up2 r1 a 1 (r1 b1 1)) b1 2)) b1 3)) b1 4)) a 5 ((up2 (up2 (up2 (up2 r1 a 1 (r1 b1 1)) a 2 ((up2 r1 a 1 (r1 b1 1)) b1 2)) a 3 ((up2 (up2 r1 a 1 (r1 b1 1)) a 2 ((up2 r1 a 1 (r1 b1 1)) b1 2)) b1 3)) a 4 ((up2 (up2 (up2 r1 a 1 (r1 b1 1)) a 2 ((up2 r1 a 1 (r1 b1 1)) b1 2)) a 3 ((up2 (up2 r1 a 1 (r1 b1 1)) a 2 ((up2 r1 a 1 (r1 b1 1)) b1 2)) b1 3)) b1 4)) b1 5)) b1 6)) a 7 ((up2 (up2 (up2 (up2 (up2 (up2 r1 a 1 (r1 b1 1)) a 2 ((up2 r1 a 1 (r1 b1 1)) b1 2)) a 3 ((up2 (up2 r1 a 1 (r1 b1 1)) a 2 ((up2 r1 a 1 (r1 b1 1)) b1 2)) b1 3)) a 4 ((up2 (up2 (up2 r1 a 1 (r1 b1 1)) a 2 ((up2 r1 a 1 (r1 b1 1)) b1 2)) a 3 ((up2 (up2 r1 a 1 (r1 b1 1)) a 2 ((up2 r1 a 1 (r1 b1 1)) b1 2)) b1 3)) b1 4)) a 5 ((up2 (up2 (up2 (up2 r1 a 1 (r1 b1 1)) a 2 ((up2 r1 a 1 (r1 b1 1)) b1 2)) a 3 ((up2 (up2 r1 a 1 (r1 b1 1)) a 2 ((up2 r1 a 1 (r1 b1 1)) b1 2)) b1 3)) a 4 ((up2 (up2 (up2 r1 a 1 (r1 b1 1)) a 2 ((up2 r1 a 1 (r1 b1 1)) b1 2)) a 3 ((up2 (up2 r1 a 1 (r1 b1 1)) a 2 ((up2 r1 a 1 (r1 b1 1)) b1 2)) b1 3)) b1 4)) b1 5)) a 6 ((up2 (up2 (up2 (up2 (up2 r1 a 1 (r1 b1 1)) a 2 ((up2 r1 a 1 (r1 b1 1)) b1 2)) a 3 ((up2 (up2 r1 a 1 (r1 b1 1)) a 2 ((up2 r1 a 1 (r1 b1 1)) b1 2)) b1 3)) a 4 ((up2 (up2 (up2 r1 a 1 (r1 b1 1)) a 2 ((up2 r1 a 1 (r1 b1 1)) b1 2)) a 3 ((up2 (up2 r1 a 1 (r1 b1 1)) a 2 ((up2 r1 a 1 (r1 b1 1)) b1 2)) b1 3)) b1 4)) a 5 ((up2 (up2 (up2 (up2 r1 a 1 (r1 b1 1)) a 2 ((up2 r1 a 1 (r1 b1 1)) b1 2)) a 3 ((up2 (up2 r1 a 1 (r1 b1 1)) a 2 ((up2 r1 a 1 (r1 b1 1)) b1 2)) b1 3)) a 4 ((up2 (up2 (up2 r1 a 1 (r1 b1 1)) a 2 ((up2 r1 a 1 (r1 b1 1)) b1 2)) a 3 ((up2 (up2 r1 a 1 (r1 b1 1)) a 2 ((up2 r1 a 1 (r1 b1 1)) b1 2)) b1 3)) b1 4)) b1 5)) b1 6)) b1 7)) b1 8)) b1 9)) a 10 ((up2 (up2 (up2 (up2 (up2 (up2 (up2 (up2 (up2 r1 a 1 (r1 b1 1)) a 2 ((up2 r1 a 1 (r1 b1 1)) b1 2)) a 3 ((up2 (up2 r1 a 1 (r1 b1 1)) a 2 ((up2 r1 a 1 (r1 b1 1)) b1 2)) b1 3)) a 4 ((up2 (up2 (up2 r1 a 1 (r1 b1 1)) a 2 ((up2 r1 a 1 (r1 b1 1)) b1 2)) a 3 ((up2 (up2 r1 a 1 (r1 b1 1)) a 2 ((up2 r1 a 1 (r1 b1 1)) b1 2)) b1 3)) b1 4)) a 5 ((up2 (up2 (up2 (up2 r1 a 1 (r1 b1 1)) a 2 ((up2 r1 a 1 (r1 b1 1)) b1 2)) a 3 ((up2 (up2 r1 a 1 (r1 b1 1)) a 2 ((up2 r1 a 1 (r1 b1 1)) b1 2)) b1 3)) a 4 ((up2 (up2 (up2 r1 a 1 (r1 b1 1)) a 2 ((up2 r1 a 1 (r1 b1 1)) b1 2)) a 3 ((up2 (up2 r1 a 1 (r1 b1 1)) a 2 ((up2 r1 a 1 (r1 b1 1)) b1 2)) b1 3)) b1 4)) b1 5)) a 6 ((up2 (up2 (up2 (up2 (up2 r1 a 1 (r1 b1 1)) a 2 ((up2 r1 a 1 (r1 b1 1)) b1 2)) a 3 ((up2 (up2 r1 a 1 (r1 b1 1)) a 2 ((up2 r1 a 1 (r1 b1 1)) b1 2)) b1 3)) a 4 ((up2 (up2 (up2 r1 a 1 (r1 b1 1)) a 2 ((up2 r1 a 1 (r1 b1 1)) b1 2)) a 3 ((up2 (up2 r1 a 1 (r1 b1 1)) a 2 ((up2 r1 a 1 (r1 b1 1)) b1 2)) b1 3)) b1 4)) a 5 ((up2 (up2 (up2 (up2 r1 a 1 (r1 b1 1)) a 2 ((up2 r1 a 1 (r1 b1 1)) b1 2)) a 3 ((up2 (up2 r1 a 1 (r1 b1 1)) a 2 ((up2 r1 a 1 (r1 b1 1)) b1 2)) b1 3)) a 4 ((up2 (up2 (up2 r1 a 1 (r1 b1 1)) a 2 ((up2 r1 a 1 (r1 b1 1)) b1 2)) a 3 ((up2 (up2 r1 a 1 (r1 b1 1)) a 2 ((up2 r1 a 1 (r1 b1 1)) b1 2)) b1 3)) b1 4)) b1 5)) b1 6)) a 7 ((up2 (up2 (up2 (up2 (up2 (up2 r1 a 1 (r1 b1 1)) a 2 ((up2 r1 a 1 (r1 b1 1)) b1 2)) a 3 ((up2 (up2 r1 a 1 (r1 b1 1)) a 2 ((up2 r1 a 1 (r1 b1 1)) b1 2)) b1 3)) a 4 ((up2 (up2 (up2 r1 a 1 (r1 b1 1)) a 2 ((up2 r1 a 1 (r1 b1 1)) b1 2)) a 3 ((up2 (up2 r1 a 1 (r1 b1 1)) a 2 ((up2 r1 a 1 (r1 b1 1)) b1 2)) b1 3)) b1 4)) a 5 ((up2 (up2 (up2 (up2 r1 a 1 (r1 b1 1)) a 2 ((up2 r1 a 1 (r1 b1 1)) b1 2)) a 3 ((up2 (up2 r1 a 1 (r1 b1 1)) a 2 ((up2 r1 a 1 (r1 b1 1)) b1 2)) b1 3)) a 4 ((up2 (up2 (up2 r1 a 1 (r1 b1 1)) a 2 ((up2 r1 a 1 (r1 b1 1)) b1 2)) a 3 ((up2 (up2 r1 a 1 (r1 b1 1)) a 2 ((up2 r1 a 1 (r1 b1 1)) b1 2)) b1 3)) b1 4)) b1 5)) a 6 ((up2 (up2 (up2 (up2 (up2 r1 a 1 (r1 b1 1)) a 2 ((up2 r1 a 1 (r1 b1 1)) b1 2)) a 3 ((up2 (up2 r1 a 1 (r1 b1 1)) a 2 ((up2 r1 a 1 (r1 b1 1)) b1 2)) b1 3)) a 4 ((up2 (up2 (up2 r1 a 1 (r1 b1 1)) a 2 ((up2 r1 a 1 (r1 b1 1)) b1 2)) a 3 ((up2 (up2 r1 a 1 (r1 b1 1)) a 2 ((up2 r1 a 1 (r1 b1 1)) b1 2)) b1 3)) b1 4)) a 5 ((up2 (up2 (up2 (up2 r1 a 1 (r1 b1 1)) a 2 ((up2 r1 a 1 (r1 b1 1)) b1 2)) a 3 ((up2 (up2 r1 a 1 (r1 b1 1)) a 2 ((up2 r1 a 1 (r1 b1 1)) b1 2)) b1 3)) a 4 ((up2 (up2 (up2 r1 a 1 (r1 b1 1)) a 2 ((up2 r1 a 1 (r1 b1 1)) b1 2)) a 3 ((up2 (up2 r1 a 1 (r1 b1 1)) a 2 ((up2 r1 a 1 (r1 b1 1)) b1 2)) b1 3)) b1 4)) b1 5)) b1 6)) b1 7)) a 8 ((up2 (up2 (up2 (up2 (up2 (up2 (up2 r1 a 1 (r1 b1 1)) a 2 ((up2 r1 a 1 (r1 b1 1)) b1 2)) a 3 ((up2 (up2 r1 a 1 (r1 b1 1)) a 2 ((up2 r1 a 1 (r1 b1 1)) b1 2)) b1 3)) a 4 ((up2 (up2 (up2 r1 a 1 (r1 b1 1)) a 2 ((up2 r1 a 1 (r1 b1 1)) b1 2)) a 3 ((up2 (up2 r1 a 1 (r1 b1 1)) a 2 ((up2 r1 a 1 (r1 b1 1)) b1 2)) b1 3)) b1 4)) a 5 ((up2 (up2 (up2 (up2 r1 a 1 (r1 b1 1)) a 2 ((up2 r1 a 1 (r1 b1 1)) b1 2)) a 3 ((up2 (up2 r1 a 1 (r1 b1 1)) a 2 ((up2 r1 a 1 (r1 b1 1)) b1 2)) b1 3)) a 4 ((up2 (up2 (up2 r1 a 1 (r1 b1 1)) a 2 ((up2 r1 a 1 (r1 b1 1)) b1 2)) a 3 ((up2 (up2 r1 a 1 (r1 b1 1)) a 2 ((up2 r1 a 1 (r1 b1 1)) b1 2)) b1 3)) b1 4)) b1 5)) a 6 ((up2 (up2 (up2 (up2 (up2 r1 a 1 (r1 b1 1)) a 2 ((up2 r1 a 1 (r1 b1 1)) b1 2)) a 3 ((up2 (up2 r1 a 1 (r1 b1 1)) a 2 ((up2 r1 a 1 (r1 b1 1)) b1 2)) b1 3)) a 4 ((up2 (up2 (up2 r1 a 1 (r1 b1 1)) a 2 ((up2 r1 a 1 (r1 b1 1)) b1 2)) a 3 ((up2 (up2 r1 a 1 (r1 b1 1)) a 2 ((up2 r1 a 1 (r1 b1 1)) b1 2)) b1 3)) b1 4)) a 5 ((up2 (up2 (up2 (up2 r1 a 1 (r1 b1 1)) a 2 ((up2 r1 a 1 (r1 b1 1)) b1 2)) a 3 ((up2 (up2 r1 a 1 (r1 b1 1)) a 2 ((up2 r1 a 1 (r1 b1 1)) b1 2)) b1 3)) a 4 ((up2 (up2 (up2 r1 a 1 (r1 b1 1)) a 2 ((up2 r1 a 1 (r1 b1 1)) b1 2)) a 3 ((up2 (up2 r1 a 1 (r1 b1 1)) a 2 ((up2 r1 a 1 (r1 b1 1)) b1 2)) b1 3)) b1 4)) b1 5)) b1 6)) a 7 ((up2 (up2 (up2 (up2 (up2 (up2 r1 a 1 (r1 b1 1)) a 2 ((up2 r1 a 1 (r1 b1 1)) b1 2)) a 3 ((up2 (up2 r1 a 1 (r1 b1 1)) a 2 ((up2 r1 a 1 (r1 b1 1)) b1 2)) b1 3)) a 4 ((up2 (up2 (up2 r1 a 1 (r1 b1 1)) a 2 ((up2 r1 a 1 (r1 b1 1)) b1 2)) a 3 ((up2 (up2 r1 a 1 (r1 b1 1)) a 2 ((up2 r1 a 1 (r1 b1 1)) b1 2)) b1 3)) b1 4)) a 5 ((up2 (up2 (up2 (up2 r1 a 1 (r1 b1 1)) a 2 ((up2 r1 a 1 (r1 b1 1)) b1 2)) a 3 ((up2 (up2 r1 a 1 (r1 b1 1)) a 2 ((up2 r1 a 1 (r1 b1 1)) b1 2)) b1 3)) a 4 ((up2 (up2 (up2 r1 a 1 (r1 b1 1)) a 2 ((up2 r1 a 1 (r1 b1 1)) b1 2)) a 3 ((up2 (up2 r1 a 1 (r1 b1 1)) a 2 ((up2 r1 a 1 (r1 b1 1)) b1 2)) b1 3)) b1 4)) b1 5)) a 6 ((up2 (up2 (up2 (up2 (up2 r1 a 1 (r1 b1 1)) a 2 ((up2 r1 a 1 (r1 b1 1)) b1 2)) a 3 ((up2 (up2 r1 a 1 (r1 b1 1)) a 2 ((up2 r1 a 1 (r1 b1 1)) b1 2)) b1 3)) a 4 ((up2 (up2 (up2 r1 a 1 (r1 b1 1)) a 2 ((up2 r1 a 1 (r1 b1 1)) b1 2)) a 3 ((up2 (up2 r1 a 1 (r1 b1 1)) a 2 ((up2 r1 a 1 (r1 b1 1)) b1 2)) b1 3)) b1 4)) a 5 ((up2 (up2 (up2 (up2 r1 a 1 (r1 b1 1)) a 2 ((up2 r1 a 1 (r1 b1 1)) b1 2)) a 3 ((up2 (up2 r1 a 1 (r1 b1 1)) a 2 ((up2 r1 a 1 (r1 b1 1)) b1 2)) b1 3)) a 4 ((up2 (up2 (up2 r1 a 1 (r1 b1 1)) a 2 ((up2 r1 a 1 (r1 b1 1)) b1 2)) a 3 ((up2 (up2 r1 a 1 (r1 b1 1)) a 2 ((up2 r1 a 1 (r1 b1 1)) b1 2)) b1 3)) b1 4)) b1 5)) b1 6)) b1 7)) b1 8)) a 9 ((up2 (up2 (up2 (up2 (up2 (up2 (up2 (up2 r1 a 1 (r1 b1 1)) a 2 ((up2 r1 a 1 (r1 b1 1)) b1 2)) a 3 ((up2 (up2 r1 a 1 (r1 b1 1)) a 2 ((up2 r1 a 1 (r1 b1 1)) b1 2)) b1 3)) a 4 ((up2 (up2 (up2 r1 a 1 (r1 b1 1)) a 2 ((up2 r1 a 1 (r1 b1 1)) b1 2)) a 3 ((up2 (up2 r1 a 1 (r1 b1 1)) a 2 ((up2 r1 a 1 (r1 b1 1)) b1 2)) b1 3)) b1 4)) a 5 ((up2 (up2 (up2 (up2 r1 a 1 (r1 b1 1)) a 2 ((up2 r1 a 1 (r1 b1 1)) b1 2)) a 3 ((up2 (up2 r1 a 1 (r1 b1 1)) a 2 ((up2 r1 a 1 (r1 b1 1)) b1 2)) b1 3)) a 4 ((up2 (up2 (up2 r1 a 1 (r1 b1 1)) a 2 ((up2 r1 a 1 (r1 b1 1)) b1 2)) a 3 ((up2 (up2 r1 a 1 (r1 b1 1)) a 2 ((up2 r1 a 1 (r1 b1 1)) b1 2)) b1 3)) b1 4)) b1 5)) a 6 ((up2 (up2 (up2 (up2 (up2 r1 a 1 (r1 b1 1)) a 2 ((up2 r1 a 1 (r1 b1 1)) b1 2)) a 3 ((up2 (up2 r1 a 1 (r1 b1 1)) a 2 ((up2 r1 a 1 (r1 b1 1)) b1 2)) b1 3)) a 4 ((up2 (up2 (up2 r1 a 1 (r1 b1 1)) a 2 ((up2 r1 a 1 (r1 b1 1)) b1 2)) a 3 ((up2 (up2 r1 a 1 (r1 b1 1)) a 2 ((up2 r1 a 1 (r1 b1 1)) b1 2)) b1 3)) b1 4)) a 5 ((up2 (up2 (up2 (up2 r1 a 1 (r1 b1 1)) a 2 ((up2 r1 a 1 (r1 b1 1)) b1 2)) a 3 ((up2 (up2 r1 a 1 (r1 b1 1)) a 2 ((up2 r1 a 1 (r1 b1 1)) b1 2)) b1 3)) a 4 ((up2 (up2 (up2 r1 a 1 (r1 b1 1)) a 2 ((up2 r1 a 1 (r1 b1 1)) b1 2)) a 3 ((up2 (up2 r1 a 1 (r1 b1 1)) a 2 ((up2 r1 a 1 (r1 b1 1)) b1 2)) b1 3)) b1 4)) b1 5)) b1 6)) a 7 ((up2 (up2 (up2 (up2 (up2 (up2 r1 a 1 (r1 b1 1)) a 2 ((up2 r1 a 1 (r1 b1 1)) b1 2)) a 3 ((up2 (up2 r1 a 1 (r1 b1 1)) a 2 ((up2 r1 a 1 (r1 b1 1)) b1 2)) b1 3)) a 4 ((up2 (up2 (up2 r1 a 1 (r1 b1 1)) a 2 ((up2 r1 a 1 (r1 b1 1)) b1 2)) a 3 ((up2 (up2 r1 a 1 (r1 b1 1)) a 2 ((up2 r1 a 1 (r1 b1 1)) b1 2)) b1 3)) b1 4)) a 5 ((up2 (up2 (up2 (up2 r1 a 1 (r1 b1 1)) a 2 ((up2 r1 a 1 (r1 b1 1)) b1 2)) a 3 ((up2 (up2 r1 a 1 (r1 b1 1)) a 2 ((up2 r1 a 1 (r1 b1 1)) b1 2)) b1 3)) a 4 ((up2 (up2 (up2 r1 a 1 (r1 b1 1)) a 2 ((up2 r1 a 1 (r1 b1 1)) b1 2)) a 3 ((up2 (up2 r1 a 1 (r1 b1 1)) a 2 ((up2 r1 a 1 (r1 b1 1)) b1 2)) b1 3)) b1 4)) b1 5)) a 6 ((up2 (up2 (up2 (up2 (up2 r1 a 1 (r1 b1 1)) a 2 ((up2 r1 a 1 (r1 b1 1)) b1 2)) a 3 ((up2 (up2 r1 a 1 (r1 b1 1)) a 2 ((up2 r1 a 1 (r1 b1 1)) b1 2)) b1 3)) a 4 ((up2 (up2 (up2 r1 a 1 (r1 b1 1)) a 2 ((up2 r1 a 1 (r1 b1 1)) b1 2)) a 3 ((up2 (up2 r1 a 1 (r1 b1 1)) a 2 ((up2 r1 a 1 (r1 b1 1)) b1 2)) b1 3)) b1 4)) a 5 ((up2 (up2 (up2 (up2 r1 a 1 (r1 b1 1)) a 2 ((up2 r1 a 1 (r1 b1 1)) b1 2)) a 3 ((up2 (up2 r1 a 1 (r1 b1 1)) a 2 ((up2 r1 a 1 (r1 b1 1)) b1 2)) b1 3)) a 4 ((up2 (up2 (up2 r1 a 1 (r1 b1 1)) a 2 ((up2 r1 a 1 (r1 b1 1)) b1 2)) a 3 ((up2 (up2 r1 a 1 (r1 b1 1)) a 2 ((up2 r1 a 1 (r1 b1 1)) b1 2)) b1 3)) b1 4)) b1 5)) b1 6)) b1 7)) a 8 ((up2 (up2 (up2 (up2 (up2 (up2 (up2 r1 a 1 (r1 b1 1)) a 2 ((up2 r1 a 1 (r1 b1 1)) b1 2)) a 3 ((up2 (up2 r1 a 1 (r1 b1 1)) a 2 ((up2 r1 a 1 (r1 b1 1)) b1 2)) b1 3)) a 4 ((up2 (up2 (up2 r1 a 1 (r1 b1 1)) a 2 ((up2 r1 a 1 (r1 b1 1)) b1 2)) a 3 ((up2 (up2 r1 a 1 (r1 b1 1)) a 2 ((up2 r1 a 1 (r1 b1 1)) b1 2)) b1 3)) b1 4)) a 5 ((up2 (up2 (up2 (up2 r1 a 1 (r1 b1 1)) a 2 ((up2 r1 a 1 (r1 b1 1)) b1 2)) a 3 ((up2 (up2 r1 a 1 (r1 b1 1)) a 2 ((up2 r1 a 1 (r1 b1 1)) b1 2)) b1 3)) a 4 ((up2 (up2 (up2 r1 a 1 (r1 b1 1)) a 2 ((up2 r1 a 1 (r1 b1 1)) b1 2)) a 3 ((up2 (up2 r1 a 1 (r1 b1 1)) a 2 ((up2 r1 a 1 (r1 b1 1)) b1 2)) b1 3)) b1 4)) b1 5)) a 6 ((up2 (up2 (up2 (up2 (up2 r1 a 1 (r1 b1 1)) a 2 ((up2 r1 a 1 (r1 b1 1)) b1 2)) a 3 ((up2 (up2 r1 a 1 (r1 b1 1)) a 2 ((up2 r1 a 1 (r1 b1 1)) b1 2)) b1 3)) a 4 ((up2 (up2 (up2 r1 a 1 (r1 b1 1)) a 2 ((up2 r1 a 1 (r1 b1 1)) b1 2)) a 3 ((up2 (up2 r1 a 1 (r1 b1 1)) a 2 ((up2 r1 a 1 (r1 b1 1)) b1 2)) b1 3)) b1 4)) a 5 ((up2 (up2 (up2 (up2 r1 a 1 (r1 b1 1)) a 2 ((up2 r1 a 1 (r1 b1 1)) b1 2)) a 3 ((up2 (up2 r1 a 1 (r1 b1 1)) a 2 ((up2 r1 a 1 (r1 b1 1)) b1 2)) b1 3)) a 4 ((up2 (up2 (up2 r1 a 1 (r1 b1 1)) a 2 ((up2 r1 a 1 (r1 b1 1)) b1 2)) a 3 ((up2 (up2 r1 a 1 (r1 b1 1)) a 2 ((up2 r1 a 1 (r1 b1 1)) b1 2)) b1 3)) b1 4)) b1 5)) b1 6)) a 7 ((up2 (up2 (up2 (up2 (up2 (up2 r1 a 1 (r1 b1 1)) a 2 ((up2 r1 a 1 (r1 b1 1)) b1 2)) a 3 ((up2 (up2 r1 a 1 (r1 b1 1)) a 2 ((up2 r1 a 1 (r1 b1 1)) b1 2)) b1 3)) a 4 ((up2 (up2 (up2 r1 a 1 (r1 b1 1)) a 2 ((up2 r1 a 1 (r1 b1 1)) b1 2)) a 3 ((up2 (up2 r1 a 1 (r1 b1 1)) a 2 ((up2 r1 a 1 (r1 b1 1)) b1 2)) b1 3)) b1 4)) a 5 ((up2 (up2 (up2 (up2 r1 a 1 (r1 b1 1)) a 2 ((up2 r1 a 1 (r1 b1 1)) b1 2)) a 3 ((up2 (up2 r1 a 1 (r1 b1 1)) a 2 ((up2 r1 a 1 (r1 b1 1)) b1 2)) b1 3)) a 4 ((up2 (up2 (up2 r1 a 1 (r1 b1 1)) a 2 ((up2 r1 a 1 (r1 b1 1)) b1 2)) a 3 ((up2 (up2 r1 a 1 (r1 b1 1)) a 2 ((up2 r1 a 1 (r1 b1 1)) b1 2)) b1 3)) b1 4)) b1 5)) a 6 ((up2 (up2 (up2 (up2 (up2 r1 a 1 (r1 b1 1)) a 2 ((up2 r1 a 1 (r1 b1 1)) b1 2)) a 3 ((up2 (up2 r1 a 1 (r1 b1 1)) a 2 ((up2 r1 a 1 (r1 b1 1)) b1 2)) b1 3)) a 4 ((up2 (up2 (up2 r1 a 1 (r1 b1 1)) a 2 ((up2 r1 a 1 (r1 b1 1)) b1 2)) a 3 ((up2 (up2 r1 a 1 (r1 b1 1)) a 2 ((up2 r1 a 1 (r1 b1 1)) b1 2)) b1 3)) b1 4)) a 5 ((up2 (up2 (up2 (up2 r1 a 1 (r1 b1 1)) a 2 ((up2 r1 a 1 (r1 b1 1)) b1 2)) a 3 ((up2 (up2 r1 a 1 (r1 b1 1)) a 2 ((up2 r1 a 1 (r1 b1 1)) b1 2)) b1 3)) a 4 ((up2 (up2 (up2 r1 a 1 (r1 b1 1)) a 2 ((up2 r1 a 1 (r1 b1 1)) b1 2)) a 3 ((up2 (up2 r1 a 1 (r1 b1 1)) a 2 ((up2 r1 a 1 (r1 b1 1)) b1 2)) b1 3)) b1 4)) b1 5)) b1 6)) b1 7)) b1 8)) b1 9)) b1 10)) b1 11)) b1 12)) a 13 ((up2 (up2 (up2 (up2 (up2 (up2 (up2 (up2 (up2 (up2 (up2 (up2 r1 a 1 (r1 b1 1)) a 2 ((up2 r1 a 1 (r1 b1 1)) b1 2)) a 3 ((up2 (up2 r1 a 1 (r1 b1 1)) a 2 ((up2 r1 a 1 (r1 b1 1)) b1 2)) b1 3)) a 4 ((up2 (up2 (up2 r1 a 1 (r1 b1 1)) a 2 ((up2 r1 a 1 (r1 b1 1)) b1 2)) a 3 ((up2 (up2 r1 a 1 (r1 b1 1)) a 2 ((up2 r1 a 1 (r1 b1 1)) b1 2)) b1 3)) b1 4)) a 5 ((up2 (up2 (up2 (up2 r1 a 1 (r1 b1 1)) a 2 ((up2 r1 a 1 (r1 b1 1)) b1 2)) a 3 ((up2 (up2 r1 a 1 (r1 b1 1)) a 2 ((up2 r1 a 1 (r1 b1 1)) b1 2)) b1 3)) a 4 ((up2 (up2 (up2 r1 a 1 (r1 b1 1)) a 2 ((up2 r1 a 1 (r1 b1 1)) b1 2)) a 3 ((up2 (up2 r1 a 1 (r1 b1 1)) a 2 ((up2 r1 a 1 (r1 b1 1)) b1 2)) b1 3)) b1 4)) b1 5)) a 6 ((up2 (up2 (up2 (up2 (up2 r1 a 1 (r1 b1 1)) a 2 ((up2 r1 a 1 (r1 b1 1)) b1 2)) a 3 ((up2 (up2 r1 a 1 (r1 b1 1)) a 2 ((up2 r1 a 1 (r1 b1 1)) b1 2)) b1 3)) a 4 ((up2 (up2 (up2 r1 a 1 (r1 b1 1)) a 2 ((up2 r1 a 1 (r1 b1 1)) b1 2)) a 3 ((up2 (up2 r1 a 1 (r1 b1 1)) a 2 ((up2 r1 a 1 (r1 b1 1)) b1 2)) b1 3)) b1 4)) a 5 ((up2 (up2 (up2 (up2 r1 a 1 (r1 b1 1)) a 2 ((up2 r1 a 1 (r1 b1 1)) b1 2)) a 3 ((up2 (up2 r1 a 1 (r1 b1 1)) a 2 ((up2 r1 a 1 (r1 b1 1)) b1 2)) b1 3)) a 4 ((up2 (up2 (up2 r1 a 1 (r1 b1 1)) a 2 ((up2 r1 a 1 (r1 b1 1)) b1 2)) a 3 ((up2 (up2 r1 a 1 (r1 b1 1)) a 2 ((up2 r1 a 1 (r1 b1 1)) b1 2)) b1 3)) b1 4)) b1 5)) b1 6)) a 7 ((up2 (up2 (up2 (up2 (up2 (up2 r1 a 1 (r1 b1 1)) a 2 ((up2 r1 a 1 (r1 b1 1)) b1 2)) a 3 ((up2 (up2 r1 a 1 (r1 b1 1)) a 2 ((up2 r1 a 1 (r1 b1 1)) b1 2)) b1 3)) a 4 ((up2 (up2 (up2 r1 a 1 (r1 b1 1)) a 2 ((up2 r1 a 1 (r1 b1 1)) b1 2)) a 3 ((up2 (up2 r1 a 1 (r1 b1 1)) a 2 ((up2 r1 a 1 (r1 b1 1)) b1 2)) b1 3)) b1 4)) a 5 ((up2 (up2 (up2 (up2 r1 a 1 (r1 b1 1)) a 2 ((up2 r1 a 1 (r1 b1 1)) b1 2)) a 3 ((up2 (up2 r1 a 1 (r1 b1 1)) a 2 ((up2 r1 a 1 (r1 b1 1)) b1 2)) b1 3)) a 4 ((up2 (up2 (up2 r1 a 1 (r1 b1 1)) a 2 ((up2 r1 a 1 (r1 b1 1)) b1 2)) a 3 ((up2 (up2 r1 a 1 (r1 b1 1)) a 2 ((up2 r1 a 1 (r1 b1 1)) b1 2)) b1 3)) b1 4)) b1 5)) a 6 ((up2 (up2 (up2 (up2 (up2 r1 a 1 (r1 b1 1)) a 2 ((up2 r1 a 1 (r1 b1 1)) b1 2)) a 3 ((up2 (up2 r1 a 1 (r1 b1 1)) a 2 ((up2 r1 a 1 (r1 b1 1)) b1 2)) b1 3)) a 4 ((up2 (up2 (up2 r1 a 1 (r1 b1 1)) a 2 ((up2 r1 a 1 (r1 b1 1)) b1 2)) a 3 ((up2 (up2 r1 a 1 (r1 b1 1)) a 2 ((up2 r1 a 1 (r1 b1 1)) b1 2)) b1 3)) b1 4)) a 5 ((up2 (up2 (up2 (up2 r1 a 1 (r1 b1 1)) a 2 ((up2 r1 a 1 (r1 b1 1)) b1 2)) a 3 ((up2 (up2 r1 a 1 (r1 b1 1)) a 2 ((up2 r1 a 1 (r1 b1 1)) b1 2)) b1 3)) a 4 ((up2 (up2 (up2 r1 a 1 (r1 b1 1)) a 2 ((up2 r1 a 1 (r1 b1 1)) b1 2)) a 3 ((up2 (up2 r1 a 1 (r1 b1 1)) a 2 ((up2 r1 a 1 (r1 b1 1)) b1 2)) b1 3)) b1 4)) b1 5)) b1 6)) b1 7)) a 8 ((up2 (up2 (up2 (up2 (up2 (up2 (up2 r1 a 1 (r1 b1 1)) a 2 ((up2 r1 a 1 (r1 b1 1)) b1 2)) a 3 ((up2 (up2 r1 a 1 (r1 b1 1)) a 2 ((up2 r1 a 1 (r1 b1 1)) b1 2)) b1 3)) a 4 ((up2 (up2 (up2 r1 a 1 (r1 b1 1)) a 2 ((up2 r1 a 1 (r1 b1 1)) b1 2)) a 3 ((up2 (up2 r1 a 1 (r1 b1 1)) a 2 ((up2 r1 a 1 (r1 b1 1)) b1 2)) b1 3)) b1 4)) a 5 ((up2 (up2 (up2 (up2 r1 a 1 (r1 b1 1)) a 2 ((up2 r1 a 1 (r1 b1 1)) b1 2)) a 3 ((up2 (up2 r1 a 1 (r1 b1 1)) a 2 ((up2 r1 a 1 (r1 b1 1)) b1 2)) b1 3)) a 4 ((up2 (up2 (up2 r1 a 1 (r1 b1 1)) a 2 ((up2 r1 a 1 (r1 b1 1)) b1 2)) a 3 ((up2 (up2 r1 a 1 (r1 b1 1)) a 2 ((up2 r1 a 1 (r1 b1 1)) b1 2)) b1 3)) b1 4)) b1 5)) a 6 ((up2 (up2 (up2 (up2 (up2 r1 a 1 (r1 b1 1)) a 2 ((up2 r1 a 1 (r1 b1 1)) b1 2)) a 3 ((up2 (up2 r1 a 1 (r1 b1 1)) a 2 ((up2 r1 a 1 (r1 b1 1)) b1 2)) b1 3)) a 4 ((up2 (up2 (up2 r1 a 1 (r1 b1 1)) a 2 ((up2 r1 a 1 (r1 b1 1)) b1 2)) a 3 ((up2 (up2 r1 a 1 (r1 b1 1)) a 2 ((up2 r1 a 1 (r1 b1 1)) b1 2)) b1 3)) b1 4)) a 5 ((up2 (up2 (up2 (up2 r1 a 1 (r1 b1 1)) a 2 ((up2 r1 a 1 (r1 b1 1)) b1 2)) a 3 ((up2 (up2 r1 a 1 (r1 b1 1)) a 2 ((up2 r1 a 1 (r1 b1 1)) b1 2)) b1 3)) a 4 ((up2 (up2 (up2 r1 a 1 (r1 b1 1)) a 2 ((up2 r1 a 1 (r1 b1 1)) b1 2)) a 3 ((up2 (up2 r1 a 1 (r1 b1 1)) a 2 ((up2 r1 a 1 (r1 b1 1)) b1 2)) b1 3)) b1 4)) b1 5)) b1 6)) a 7 ((up2 (up2 (up2 (up2 (up2 (up2 r1 a 1 (r1 b1 1)) a 2 ((up2 r1 a 1 (r1 b1 1)) b1 2)) a 3 ((up2 (up2 r1 a 1 (r1 b1 1)) a 2 ((up2 r1 a 1 (r1 b1 1)) b1 2)) b1 3)) a 4 ((up2 (up2 (up2 r1 a 1 (r1 b1 1)) a 2 ((up2 r1 a 1 (r1 b1 1)) b1 2)) a 3 ((up2 (up2 r1 a 1 (r1 b1 1)) a 2 ((up2 r1 a 1 (r1 b1 1)) b1 2)) b1 3)) b1 4)) a 5 ((up2 (up2 (up2 (up2 r1 a 1 (r1 b1 1)) a 2 ((up2 r1 a 1 (r1 b1 1)) b1 2)) a 3 ((up2 (up2 r1 a 1 (r1 b1 1)) a 2 ((up2 r1 a 1 (r1 b1 1)) b1 2)) b1 3)) a 4 ((up2 (up2 (up2 r1 a 1 (r1 b1 1)) a 2 ((up2 r1 a 1 (r1 b1 1)) b1 2)) a 3 ((up2 (up2 r1 a 1 (r1 b1 1)) a 2 ((up2 r1 a 1 (r1 b1 1)) b1 2)) b1 3)) b1 4)) b1 5)) a 6 ((up2 (up2 (up2 (up2 (up2 r1 a 1 (r1 b1 1)) a 2 ((up2 r1 a 1 (r1 b1 1)) b1 2)) a 3 ((up2 (up2 r1 a 1 (r1 b1 1)) a 2 ((up2 r1 a 1 (r1 b1 1)) b1 2)) b1 3)) a 4 ((up2 (up2 (up2 r1 a 1 (r1 b1 1)) a 2 ((up2 r1 a 1 (r1 b1 1)) b1 2)) a 3 ((up2 (up2 r1 a 1 (r1 b1 1)) a 2 ((up2 r1 a 1 (r1 b1 1)) b1 2)) b1 3)) b1 4)) a 5 ((up2 (up2 (up2 (up2 r1 a 1 (r1 b1 1)) a 2 ((up2 r1 a 1 (r1 b1 1)) b1 2)) a 3 ((up2 (up2 r1 a 1 (r1 b1 1)) a 2 ((up2 r1 a 1 (r1 b1 1)) b1 2)) b1 3)) a 4 ((up2 (up2 (up2 r1 a 1 (r1 b1 1)) a 2 ((up2 r1 a 1 (r1 b1 1)) b1 2)) a 3 ((up2 (up2 r1 a 1 (r1 b1 1)) a 2 ((up2 r1 a 1 (r1 b1 1)) b1 2)) b1 3)) b1 4)) b1 5)) b1 6)) b1 7)) b1 8)) a 9 ((up2 (up2 (up2 (up2 (up2 (up2 (up2 (up2 r1 a 1 (r1 b1 1)) a 2 ((up2 r1 a 1 (r1 b1 1)) b1 2)) a 3 ((up2 (up2 r1 a 1 (r1 b1 1)) a 2 ((up2 r1 a 1 (r1 b1 1)) b1 2)) b1 3)) a 4 ((up2 (up2 (up2 r1 a 1 (r1 b1 1)) a 2 ((up2 r1 a 1 (r1 b1 1)) b1 2)) a 3 ((up2 (up2 r1 a 1 (r1 b1 1)) a 2 ((up2 r1 a 1 (r1 b1 1)) b1 2)) b1 3)) b1 4)) a 5 ((up2 (up2 (up2 (up2 r1 a 1 (r1 b1 1)) a 2 ((up2 r1 a 1 (r1 b1 1)) b1 2)) a 3 ((up2 (up2 r1 a 1 (r1 b1 1)) a 2 ((up2 r1 a 1 (r1 b1 1)) b1 2)) b1 3)) a 4 ((up2 (up2 (up2 r1 a 1 (r1 b1 1)) a 2 ((up2 r1 a 1 (r1 b1 1)) b1 2)) a 3 ((up2 (up2 r1 a 1 (r1 b1 1)) a 2 ((up2 r1 a 1 (r1 b1 1)) b1 2)) b1 3)) b1 4)) b1 5)) a 6 ((up2 (up2 (up2 (up2 (up2 r1 a 1 (r1 b1 1)) a 2 ((up2 r1 a 1 (r1 b1 1)) b1 2)) a 3 ((up2 (up2 r1 a 1 (r1 b1 1)) a 2 ((up2 r1 a 1 (r1 b1 1)) b1 2)) b1 3)) a 4 ((up2 (up2 (up2 r1 a 1 (r1 b1 1)) a 2 ((up2 r1 a 1 (r1 b1 1)) b1 2)) a 3 ((up2 (up2 r1 a 1 (r1 b1 1)) a 2 ((up2 r1 a 1 (r1 b1 1)) b1 2)) b1 3)) b1 4)) a 5 ((up2 (up2 (up2 (up2 r1 a 1 (r1 b1 1)) a 2 ((up2 r1 a 1 (r1 b1 1)) b1 2)) a 3 ((up2 (up2 r1 a 1 (r1 b1 1)) a 2 ((up2 r1 a 1 (r1 b1 1)) b1 2)) b1 3)) a 4 ((up2 (up2 (up2 r1 a 1 (r1 b1 1)) a 2 ((up2 r1 a 1 (r1 b1 1)) b1 2)) a 3 ((up2 (up2 r1 a 1 (r1 b1 1)) a 2 ((up2 r1 a 1 (r1 b1 1)) b1 2)) b1 3)) b1 4)) b1 5)) b1 6)) a 7 ((up2 (up2 (up2 (up2 (up2 (up2 r1 a 1 (r1 b1 1)) a 2 ((up2 r1 a 1 (r1 b1 1)) b1 2)) a 3 ((up2 (up2 r1 a 1 (r1 b1 1)) a 2 ((up2 r1 a 1 (r1 b1 1)) b1 2)) b1 3)) a 4 ((up2 (up2 (up2 r1 a 1 (r1 b1 1)) a 2 ((up2 r1 a 1 (r1 b1 1)) b1 2)) a 3 ((up2 (up2 r1 a 1 (r1 b1 1)) a 2 ((up2 r1 a 1 (r1 b1 1)) b1 2)) b1 3)) b1 4)) a 5 ((up2 (up2 (up2 (up2 r1 a 1 (r1 b1 1)) a 2 ((up2 r1 a 1 (r1 b1 1)) b1 2)) a 3 ((up2 (up2 r1 a 1 (r1 b1 1)) a 2 ((up2 r1 a 1 (r1 b1 1)) b1 2)) b1 3)) a 4 ((up2 (up2 (up2 r1 a 1 (r1 b1 1)) a 2 ((up2 r1 a 1 (r1 b1 1)) b1 2)) a 3 ((up2 (up2 r1 a 1 (r1 b1 1)) a 2 ((up2 r1 a 1 (r1 b1 1)) b1 2)) b1 3)) b1 4)) b1 5)) a 6 ((up2 (up2 (up2 (up2 (up2 r1 a 1 (r1 b1 1)) a 2 ((up2 r1 a 1 (r1 b1 1)) b1 2)) a 3 ((up2 (up2 r1 a 1 (r1 b1 1)) a 2 ((up2 r1 a 1 (r1 b1 1)) b1 2)) b1 3)) a 4 ((up2 (up2 (up2 r1 a 1 (r1 b1 1)) a 2 ((up2 r1 a 1 (r1 b1 1)) b1 2)) a 3 ((up2 (up2 r1 a 1 (r1 b1 1)) a 2 ((up2 r1 a 1 (r1 b1 1)) b1 2)) b1 3)) b1 4)) a 5 ((up2 (up2 (up2 (up2 r1 a 1 (r1 b1 1)) a 2 ((up2 r1 a 1 (r1 b1 1)) b1 2)) a 3 ((up2 (up2 r1 a 1 (r1 b1 1)) a 2 ((up2 r1 a 1 (r1 b1 1)) b1 2)) b1 3)) a 4 ((up2 (up2 (up2 r1 a 1 (r1 b1 1)) a 2 ((up2 r1 a 1 (r1 b1 1)) b1 2)) a 3 ((up2 (up2 r1 a 1 (r1 b1 1)) a 2 ((up2 r1 a 1 (r1 b1 1)) b1 2)) b1 3)) b1 4)) b1 5)) b1 6)) b1 7)) a 8 ((up2 (up2 (up2 (up2 (up2 (up2 (up2 r1 a 1 (r1 b1 1)) a 2 ((up2 r1 a 1 (r1 b1 1)) b1 2)) a 3 ((up2 (up2 r1 a 1 (r1 b1 1)) a 2 ((up2 r1 a 1 (r1 b1 1)) b1 2)) b1 3)) a 4 ((up2 (up2 (up2 r1 a 1 (r1 b1 1)) a 2 ((up2 r1 a 1 (r1 b1 1)) b1 2)) a 3 ((up2 (up2 r1 a 1 (r1 b1 1)) a 2 ((up2 r1 a 1 (r1 b1 1)) b1 2)) b1 3)) b1 4)) a 5 ((up2 (up2 (up2 (up2 r1 a 1 (r1 b1 1)) a 2 ((up2 r1 a 1 (r1 b1 1)) b1 2)) a 3 ((up2 (up2 r1 a 1 (r1 b1 1)) a 2 ((up2 r1 a 1 (r1 b1 1)) b1 2)) b1 3)) a 4 ((up2 (up2 (up2 r1 a 1 (r1 b1 1)) a 2 ((up2 r1 a 1 (r1 b1 1)) b1 2)) a 3 ((up2 (up2 r1 a 1 (r1 b1 1)) a 2 ((up2 r1 a 1 (r1 b1 1)) b1 2)) b1 3)) b1 4)) b1 5)) a 6 ((up2 (up2 (up2 (up2 (up2 r1 a 1 (r1 b1 1)) a 2 ((up2 r1 a 1 (r1 b1 1)) b1 2)) a 3 ((up2 (up2 r1 a 1 (r1 b1 1)) a 2 ((up2 r1 a 1 (r1 b1 1)) b1 2)) b1 3)) a 4 ((up2 (up2 (up2 r1 a 1 (r1 b1 1)) a 2 ((up2 r1 a 1 (r1 b1 1)) b1 2)) a 3 ((up2 (up2 r1 a 1 (r1 b1 1)) a 2 ((up2 r1 a 1 (r1 b1 1)) b1 2)) b1 3)) b1 4)) a 5 ((up2 (up2 (up2 (up2 r1 a 1 (r1 b1 1)) a 2 ((up2 r1 a 1 (r1 b1 1)) b1 2)) a 3 ((up2 (up2 r1 a 1 (r1 b1 1)) a 2 ((up2 r1 a 1 (r1 b1 1)) b1 2)) b1 3)) a 4 ((up2 (up2 (up2 r1 a 1 (r1 b1 1)) a 2 ((up2 r1 a 1 (r1 b1 1)) b1 2)) a 3 ((up2 (up2 r1 a 1 (r1 b1 1)) a 2 ((up2 r1 a 1 (r1 b1 1)) b1 2)) b1 3)) b1 4)) b1 5)) b1 6)) a 7 ((up2 (up2 (up2 (up2 (up2 (up2 r1 a 1 (r1 b1 1)) a 2 ((up2 r1 a 1 (r1 b1 1)) b1 2)) a 3 ((up2 (up2 r1 a 1 (r1 b1 1)) a 2 ((up2 r1 a 1 (r1 b1 1)) b1 2)) b1 3)) a 4 ((up2 (up2 (up2 r1 a 1 (r1 b1 1)) a 2 ((up2 r1 a 1 (r1 b1 1)) b1 2)) a 3 ((up2 (up2 r1 a 1 (r1 b1 1)) a 2 ((up2 r1 a 1 (r1 b1 1)) b1 2)) b1 3)) b1 4)) a 5 ((up2 (up2 (up2 (up2 r1 a 1 (r1 b1 1)) a 2 ((up2 r1 a 1 (r1 b1 1)) b1 2)) a 3 ((up2 (up2 r1 a 1 (r1 b1 1)) a 2 ((up2 r1 a 1 (r1 b1 1)) b1 2)) b1 3)) a 4 ((up2 (up2 (up2 r1 a 1 (r1 b1 1)) a 2 ((up2 r1 a 1 (r1 b1 1)) b1 2)) a 3 ((up2 (up2 r1 a 1 (r1 b1 1)) a 2 ((up2 r1 a 1 (r1 b1 1)) b1 2)) b1 3)) b1 4)) b1 5)) a 6 ((up2 (up2 (up2 (up2 (up2 r1 a 1 (r1 b1 1)) a 2 ((up2 r1 a 1 (r1 b1 1)) b1 2)) a 3 ((up2 (up2 r1 a 1 (r1 b1 1)) a 2 ((up2 r1 a 1 (r1 b1 1)) b1 2)) b1 3)) a 4 ((up2 (up2 (up2 r1 a 1 (r1 b1 1)) a 2 ((up2 r1 a 1 (r1 b1 1)) b1 2)) a 3 ((up2 (up2 r1 a 1 (r1 b1 1)) a 2 ((up2 r1 a 1 (r1 b1 1)) b1 2)) b1 3)) b1 4)) a 5 ((up2 (up2 (up2 (up2 r1 a 1 (r1 b1 1)) a 2 ((up2 r1 a 1 (r1 b1 1)) b1 2)) a 3 ((up2 (up2 r1 a 1 (r1 b1 1)) a 2 ((up2 r1 a 1 (r1 b1 1)) b1 2)) b1 3)) a 4 ((up2 (up2 (up2 r1 a 1 (r1 b1 1)) a 2 ((up2 r1 a 1 (r1 b1 1)) b1 2)) a 3 ((up2 (up2 r1 a 1 (r1 b1 1)) a 2 ((up2 r1 a 1 (r1 b1 1)) b1 2)) b1 3)) b1 4)) b1 5)) b1 6)) b1 7)) b1 8)) b1 9)) a 10 ((up2 (up2 (up2 (up2 (up2 (up2 (up2 (up2 (up2 r1 a 1 (r1 b1 1)) a 2 ((up2 r1 a 1 (r1 b1 1)) b1 2)) a 3 ((up2 (up2 r1 a 1 (r1 b1 1)) a 2 ((up2 r1 a 1 (r1 b1 1)) b1 2)) b1 3)) a 4 ((up2 (up2 (up2 r1 a 1 (r1 b1 1)) a 2 ((up2 r1 a 1 (r1 b1 1)) b1 2)) a 3 ((up2 (up2 r1 a 1 (r1 b1 1)) a 2 ((up2 r1 a 1 (r1 b1 1)) b1 2)) b1 3)) b1 4)) a 5 ((up2 (up2 (up2 (up2 r1 a 1 (r1 b1 1)) a 2 ((up2 r1 a 1 (r1 b1 1)) b1 2)) a 3 ((up2 (up2 r1 a 1 (r1 b1 1)) a 2 ((up2 r1 a 1 (r1 b1 1)) b1 2)) b1 3)) a 4 ((up2 (up2 (up2 r1 a 1 (r1 b1 1)) a 2 ((up2 r1 a 1 (r1 b1 1)) b1 2)) a 3 ((up2 (up2 r1 a 1 (r1 b1 1)) a 2 ((up2 r1 a 1 (r1 b1 1)) b1 2)) b1 3)) b1 4)) b1 5)) a 6 ((up2 (up2 (up2 (up2 (up2 r1 a 1 (r1 b1 1)) a 2 ((up2 r1 a 1 (r1 b1 1)) b1 2)) a 3 ((up2 (up2 r1 a 1 (r1 b1 1)) a 2 ((up2 r1 a 1 (r1 b1 1)) b1 2)) b1 3)) a 4 ((up2 (up2 (up2 r1 a 1 (r1 b1 1)) a 2 ((up2 r1 a 1 (r1 b1 1)) b1 2)) a 3 ((up2 (up2 r1 a 1 (r1 b1 1)) a 2 ((up2 r1 a 1 (r1 b1 1)) b1 2)) b1 3)) b1 4)) a 5 ((up2 (up2 (up2 (up2 r1 a 1 (r1 b1 1)) a 2 ((up2 r1 a 1 (r1 b1 1)) b1 2)) a 3 ((up2 (up2 r1 a 1 (r1 b1 1)) a 2 ((up2 r1 a 1 (r1 b1 1)) b1 2)) b1 3)) a 4 ((up2 (up2 (up2 r1 a 1 (r1 b1 1)) a 2 ((up2 r1 a 1 (r1 b1 1)) b1 2)) a 3 ((up2 (up2 r1 a 1 (r1 b1 1)) a 2 ((up2 r1 a 1 (r1 b1 1)) b1 2)) b1 3)) b1 4)) b1 5)) b1 6)) a 7 ((up2 (up2 (up2 (up2 (up2 (up2 r1 a 1 (r1 b1 1)) a 2 ((up2 r1 a 1 (r1 b1 1)) b1 2)) a 3 ((up2 (up2 r1 a 1 (r1 b1 1)) a 2 ((up2 r1 a 1 (r1 b1 1)) b1 2)) b1 3)) a 4 ((up2 (up2 (up2 r1 a 1 (r1 b1 1)) a 2 ((up2 r1 a 1 (r1 b1 1)) b1 2)) a 3 ((up2 (up2 r1 a 1 (r1 b1 1)) a 2 ((up2 r1 a 1 (r1 b1 1)) b1 2)) b1 3)) b1 4)) a 5 ((up2 (up2 (up2 (up2 r1 a 1 (r1 b1 1)) a 2 ((up2 r1 a 1 (r1 b1 1)) b1 2)) a 3 ((up2 (up2 r1 a 1 (r1 b1 1)) a 2 ((up2 r1 a 1 (r1 b1 1)) b1 2)) b1 3)) a 4 ((up2 (up2 (up2 r1 a 1 (r1 b1 1)) a 2 ((up2 r1 a 1 (r1 b1 1)) b1 2)) a 3 ((up2 (up2 r1 a 1 (r1 b1 1)) a 2 ((up2 r1 a 1 (r1 b1 1)) b1 2)) b1 3)) b1 4)) b1 5)) a 6 ((up2 (up2 (up2 (up2 (up2 r1 a 1 (r1 b1 1)) a 2 ((up2 r1 a 1 (r1 b1 1)) b1 2)) a 3 ((up2 (up2 r1 a 1 (r1 b1 1)) a 2 ((up2 r1 a 1 (r1 b1 1)) b1 2)) b1 3)) a 4 ((up2 (up2 (up2 r1 a 1 (r1 b1 1)) a 2 ((up2 r1 a 1 (r1 b1 1)) b1 2)) a 3 ((up2 (up2 r1 a 1 (r1 b1 1)) a 2 ((up2 r1 a 1 (r1 b1 1)) b1 2)) b1 3)) b1 4)) a 5 ((up2 (up2 (up2 (up2 r1 a 1 (r1 b1 1)) a 2 ((up2 r1 a 1 (r1 b1 1)) b1 2)) a 3 ((up2 (up2 r1 a 1 (r1 b1 1)) a 2 ((up2 r1 a 1 (r1 b1 1)) b1 2)) b1 3)) a 4 ((up2 (up2 (up2 r1 a 1 (r1 b1 1)) a 2 ((up2 r1 a 1 (r1 b1 1)) b1 2)) a 3 ((up2 (up2 r1 a 1 (r1 b1 1)) a 2 ((up2 r1 a 1 (r1 b1 1)) b1 2)) b1 3)) b1 4)) b1 5)) b1 6)) b1 7)) a 8 ((up2 (up2 (up2 (up2 (up2 (up2 (up2 r1 a 1 (r1 b1 1)) a 2 ((up2 r1 a 1 (r1 b1 1)) b1 2)) a 3 ((up2 (up2 r1 a 1 (r1 b1 1)) a 2 ((up2 r1 a 1 (r1 b1 1)) b1 2)) b1 3)) a 4 ((up2 (up2 (up2 r1 a 1 (r1 b1 1)) a 2 ((up2 r1 a 1 (r1 b1 1)) b1 2)) a 3 ((up2 (up2 r1 a 1 (r1 b1 1)) a 2 ((up2 r1 a 1 (r1 b1 1)) b1 2)) b1 3)) b1 4)) a 5 ((up2 (up2 (up2 (up2 r1 a 1 (r1 b1 1)) a 2 ((up2 r1 a 1 (r1 b1 1)) b1 2)) a 3 ((up2 (up2 r1 a 1 (r1 b1 1)) a 2 ((up2 r1 a 1 (r1 b1 1)) b1 2)) b1 3)) a 4 ((up2 (up2 (up2 r1 a 1 (r1 b1 1)) a 2 ((up2 r1 a 1 (r1 b1 1)) b1 2)) a 3 ((up2 (up2 r1 a 1 (r1 b1 1)) a 2 ((up2 r1 a 1 (r1 b1 1)) b1 2)) b1 3)) b1 4)) b1 5)) a 6 ((up2 (up2 (up2 (up2 (up2 r1 a 1 (r1 b1 1)) a 2 ((up2 r1 a 1 (r1 b1 1)) b1 2)) a 3 ((up2 (up2 r1 a 1 (r1 b1 1)) a 2 ((up2 r1 a 1 (r1 b1 1)) b1 2)) b1 3)) a 4 ((up2 (up2 (up2 r1 a 1 (r1 b1 1)) a 2 ((up2 r1 a 1 (r1 b1 1)) b1 2)) a 3 ((up2 (up2 r1 a 1 (r1 b1 1)) a 2 ((up2 r1 a 1 (r1 b1 1)) b1 2)) b1 3)) b1 4)) a 5 ((up2 (up2 (up2 (up2 r1 a 1 (r1 b1 1)) a 2 ((up2 r1 a 1 (r1 b1 1)) b1 2)) a 3 ((up2 (up2 r1 a 1 (r1 b1 1)) a 2 ((up2 r1 a 1 (r1 b1 1)) b1 2)) b1 3)) a 4 ((up2 (up2 (up2 r1 a 1 (r1 b1 1)) a 2 ((up2 r1 a 1 (r1 b1 1)) b1 2)) a 3 ((up2 (up2 r1 a 1 (r1 b1 1)) a 2 ((up2 r1 a 1 (r1 b1 1)) b1 2)) b1 3)) b1 4)) b1 5)) b1 6)) a 7 ((up2 (up2 (up2 (up2 (up2 (up2 r1 a 1 (r1 b1 1)) a 2 ((up2 r1 a 1 (r1 b1 1)) b1 2)) a 3 ((up2 (up2 r1 a 1 (r1 b1 1)) a 2 ((up2 r1 a 1 (r1 b1 1)) b1 2)) b1 3)) a 4 ((up2 (up2 (up2 r1 a 1 (r1 b1 1)) a 2 ((up2 r1 a 1 (r1 b1 1)) b1 2)) a 3 ((up2 (up2 r1 a 1 (r1 b1 1)) a 2 ((up2 r1 a 1 (r1 b1 1)) b1 2)) b1 3)) b1 4)) a 5 ((up2 (up2 (up2 (up2 r1 a 1 (r1 b1 1)) a 2 ((up2 r1 a 1 (r1 b1 1)) b1 2)) a 3 ((up2 (up2 r1 a 1 (r1 b1 1)) a 2 ((up2 r1 a 1 (r1 b1 1)) b1 2)) b1 3)) a 4 ((up2 (up2 (up2 r1 a 1 (r1 b1 1)) a 2 ((up2 r1 a 1 (r1 b1 1)) b1 2)) a 3 ((up2 (up2 r1 a 1 (r1 b1 1)) a 2 ((up2 r1 a 1 (r1 b1 1)) b1 2)) b1 3)) b1 4)) b1 5)) a 6 ((up2 (up2 (up2 (up2 (up2 r1 a 1 (r1 b1 1)) a 2 ((up2 r1 a 1 (r1 b1 1)) b1 2)) a 3 ((up2 (up2 r1 a 1 (r1 b1 1)) a 2 ((up2 r1 a 1 (r1 b1 1)) b1 2)) b1 3)) a 4 ((up2 (up2 (up2 r1 a 1 (r1 b1 1)) a 2 ((up2 r1 a 1 (r1 b1 1)) b1 2)) a 3 ((up2 (up2 r1 a 1 (r1 b1 1)) a 2 ((up2 r1 a 1 (r1 b1 1)) b1 2)) b1 3)) b1 4)) a 5 ((up2 (up2 (up2 (up2 r1 a 1 (r1 b1 1)) a 2 ((up2 r1 a 1 (r1 b1 1)) b1 2)) a 3 ((up2 (up2 r1 a 1 (r1 b1 1)) a 2 ((up2 r1 a 1 (r1 b1 1)) b1 2)) b1 3)) a 4 ((up2 (up2 (up2 r1 a 1 (r1 b1 1)) a 2 ((up2 r1 a 1 (r1 b1 1)) b1 2)) a 3 ((up2 (up2 r1 a 1 (r1 b1 1)) a 2 ((up2 r1 a 1 (r1 b1 1)) b1 2)) b1 3)) b1 4)) b1 5)) b1 6)) b1 7)) b1 8)) a 9 ((up2 (up2 (up2 (up2 (up2 (up2 (up2 (up2 r1 a 1 (r1 b1 1)) a 2 ((up2 r1 a 1 (r1 b1 1)) b1 2)) a 3 ((up2 (up2 r1 a 1 (r1 b1 1)) a 2 ((up2 r1 a 1 (r1 b1 1)) b1 2)) b1 3)) a 4 ((up2 (up2 (up2 r1 a 1 (r1 b1 1)) a 2 ((up2 r1 a 1 (r1 b1 1)) b1 2)) a 3 ((up2 (up2 r1 a 1 (r1 b1 1)) a 2 ((up2 r1 a 1 (r1 b1 1)) b1 2)) b1 3)) b1 4)) a 5 ((up2 (up2 (up2 (up2 r1 a 1 (r1 b1 1)) a 2 ((up2 r1 a 1 (r1 b1 1)) b1 2)) a 3 ((up2 (up2 r1 a 1 (r1 b1 1)) a 2 ((up2 r1 a 1 (r1 b1 1)) b1 2)) b1 3)) a 4 ((up2 (up2 (up2 r1 a 1 (r1 b1 1)) a 2 ((up2 r1 a 1 (r1 b1 1)) b1 2)) a 3 ((up2 (up2 r1 a 1 (r1 b1 1)) a 2 ((up2 r1 a 1 (r1 b1 1)) b1 2)) b1 3)) b1 4)) b1 5)) a 6 ((up2 (up2 (up2 (up2 (up2 r1 a 1 (r1 b1 1)) a 2 ((up2 r1 a 1 (r1 b1 1)) b1 2)) a 3 ((up2 (up2 r1 a 1 (r1 b1 1)) a 2 ((up2 r1 a 1 (r1 b1 1)) b1 2)) b1 3)) a 4 ((up2 (up2 (up2 r1 a 1 (r1 b1 1)) a 2 ((up2 r1 a 1 (r1 b1 1)) b1 2)) a 3 ((up2 (up2 r1 a 1 (r1 b1 1)) a 2 ((up2 r1 a 1 (r1 b1 1)) b1 2)) b1 3)) b1 4)) a 5 ((up2 (up2 (up2 (up2 r1 a 1 (r1 b1 1)) a 2 ((up2 r1 a 1 (r1 b1 1)) b1 2)) a 3 ((up2 (up2 r1 a 1 (r1 b1 1)) a 2 ((up2 r1 a 1 (r1 b1 1)) b1 2)) b1 3)) a 4 ((up2 (up2 (up2 r1 a 1 (r1 b1 1)) a 2 ((up2 r1 a 1 (r1 b1 1)) b1 2)) a 3 ((up2 (up2 r1 a 1 (r1 b1 1)) a 2 ((up2 r1 a 1 (r1 b1 1)) b1 2)) b1 3)) b1 4)) b1 5)) b1 6)) a 7 ((up2 (up2 (up2 (up2 (up2 (up2 r1 a 1 (r1 b1 1)) a 2 ((up2 r1 a 1 (r1 b1 1)) b1 2)) a 3 ((up2 (up2 r1 a 1 (r1 b1 1)) a 2 ((up2 r1 a 1 (r1 b1 1)) b1 2)) b1 3)) a 4 ((up2 (up2 (up2 r1 a 1 (r1 b1 1)) a 2 ((up2 r1 a 1 (r1 b1 1)) b1 2)) a 3 ((up2 (up2 r1 a 1 (r1 b1 1)) a 2 ((up2 r1 a 1 (r1 b1 1)) b1 2)) b1 3)) b1 4)) a 5 ((up2 (up2 (up2 (up2 r1 a 1 (r1 b1 1)) a 2 ((up2 r1 a 1 (r1 b1 1)) b1 2)) a 3 ((up2 (up2 r1 a 1 (r1 b1 1)) a 2 ((up2 r1 a 1 (r1 b1 1)) b1 2)) b1 3)) a 4 ((up2 (up2 (up2 r1 a 1 (r1 b1 1)) a 2 ((up2 r1 a 1 (r1 b1 1)) b1 2)) a 3 ((up2 (up2 r1 a 1 (r1 b1 1)) a 2 ((up2 r1 a 1 (r1 b1 1)) b1 2)) b1 3)) b1 4)) b1 5)) a 6 ((up2 (up2 (up2 (up2 (up2 r1 a 1 (r1 b1 1)) a 2 ((up2 r1 a 1 (r1 b1 1)) b1 2)) a 3 ((up2 (up2 r1 a 1 (r1 b1 1)) a 2 ((up2 r1 a 1 (r1 b1 1)) b1 2)) b1 3)) a 4 ((up2 (up2 (up2 r1 a 1 (r1 b1 1)) a 2 ((up2 r1 a 1 (r1 b1 1)) b1 2)) a 3 ((up2 (up2 r1 a 1 (r1 b1 1)) a 2 ((up2 r1 a 1 (r1 b1 1)) b1 2)) b1 3)) b1 4)) a 5 ((up2 (up2 (up2 (up2 r1 a 1 (r1 b1 1)) a 2 ((up2 r1 a 1 (r1 b1 1)) b1 2)) a 3 ((up2 (up2 r1 a 1 (r1 b1 1)) a 2 ((up2 r1 a 1 (r1 b1 1)) b1 2)) b1 3)) a 4 ((up2 (up2 (up2 r1 a 1 (r1 b1 1)) a 2 ((up2 r1 a 1 (r1 b1 1)) b1 2)) a 3 ((up2 (up2 r1 a 1 (r1 b1 1)) a 2 ((up2 r1 a 1 (r1 b1 1)) b1 2)) b1 3)) b1 4)) b1 5)) b1 6)) b1 7)) a 8 ((up2 (up2 (up2 (up2 (up2 (up2 (up2 r1 a 1 (r1 b1 1)) a 2 ((up2 r1 a 1 (r1 b1 1)) b1 2)) a 3 ((up2 (up2 r1 a 1 (r1 b1 1)) a 2 ((up2 r1 a 1 (r1 b1 1)) b1 2)) b1 3)) a 4 ((up2 (up2 (up2 r1 a 1 (r1 b1 1)) a 2 ((up2 r1 a 1 (r1 b1 1)) b1 2)) a 3 ((up2 (up2 r1 a 1 (r1 b1 1)) a 2 ((up2 r1 a 1 (r1 b1 1)) b1 2)) b1 3)) b1 4)) a 5 ((up2 (up2 (up2 (up2 r1 a 1 (r1 b1 1)) a 2 ((up2 r1 a 1 (r1 b1 1)) b1 2)) a 3 ((up2 (up2 r1 a 1 (r1 b1 1)) a 2 ((up2 r1 a 1 (r1 b1 1)) b1 2)) b1 3)) a 4 ((up2 (up2 (up2 r1 a 1 (r1 b1 1)) a 2 ((up2 r1 a 1 (r1 b1 1)) b1 2)) a 3 ((up2 (up2 r1 a 1 (r1 b1 1)) a 2 ((up2 r1 a 1 (r1 b1 1)) b1 2)) b1 3)) b1 4)) b1 5)) a 6 ((up2 (up2 (up2 (up2 (up2 r1 a 1 (r1 b1 1)) a 2 ((up2 r1 a 1 (r1 b1 1)) b1 2)) a 3 ((up2 (up2 r1 a 1 (r1 b1 1)) a 2 ((up2 r1 a 1 (r1 b1 1)) b1 2)) b1 3)) a 4 ((up2 (up2 (up2 r1 a 1 (r1 b1 1)) a 2 ((up2 r1 a 1 (r1 b1 1)) b1 2)) a 3 ((up2 (up2 r1 a 1 (r1 b1 1)) a 2 ((up2 r1 a 1 (r1 b1 1)) b1 2)) b1 3)) b1 4)) a 5 ((up2 (up2 (up2 (up2 r1 a 1 (r1 b1 1)) a 2 ((up2 r1 a 1 (r1 b1 1)) b1 2)) a 3 ((up2 (up2 r1 a 1 (r1 b1 1)) a 2 ((up2 r1 a 1 (r1 b1 1)) b1 2)) b1 3)) a 4 ((up2 (up2 (up2 r1 a 1 (r1 b1 1)) a 2 ((up2 r1 a 1 (r1 b1 1)) b1 2)) a 3 ((up2 (up2 r1 a 1 (r1 b1 1)) a 2 ((up2 r1 a 1 (r1 b1 1)) b1 2)) b1 3)) b1 4)) b1 5)) b1 6)) a 7 ((up2 (up2 (up2 (up2 (up2 (up2 r1 a 1 (r1 b1 1)) a 2 ((up2 r1 a 1 (r1 b1 1)) b1 2)) a 3 ((up2 (up2 r1 a 1 (r1 b1 1)) a 2 ((up2 r1 a 1 (r1 b1 1)) b1 2)) b1 3)) a 4 ((up2 (up2 (up2 r1 a 1 (r1 b1 1)) a 2 ((up2 r1 a 1 (r1 b1 1)) b1 2)) a 3 ((up2 (up2 r1 a 1 (r1 b1 1)) a 2 ((up2 r1 a 1 (r1 b1 1)) b1 2)) b1 3)) b1 4)) a 5 ((up2 (up2 (up2 (up2 r1 a 1 (r1 b1 1)) a 2 ((up2 r1 a 1 (r1 b1 1)) b1 2)) a 3 ((up2 (up2 r1 a 1 (r1 b1 1)) a 2 ((up2 r1 a 1 (r1 b1 1)) b1 2)) b1 3)) a 4 ((up2 (up2 (up2 r1 a 1 (r1 b1 1)) a 2 ((up2 r1 a 1 (r1 b1 1)) b1 2)) a 3 ((up2 (up2 r1 a 1 (r1 b1 1)) a 2 ((up2 r1 a 1 (r1 b1 1)) b1 2)) b1 3)) b1 4)) b1 5)) a 6 ((up2 (up2 (up2 (up2 (up2 r1 a 1 (r1 b1 1)) a 2 ((up2 r1 a 1 (r1 b1 1)) b1 2)) a 3 ((up2 (up2 r1 a 1 (r1 b1 1)) a 2 ((up2 r1 a 1 (r1 b1 1)) b1 2)) b1 3)) a 4 ((up2 (up2 (up2 r1 a 1 (r1 b1 1)) a 2 ((up2 r1 a 1 (r1 b1 1)) b1 2)) a 3 ((up2 (up2 r1 a 1 (r1 b1 1)) a 2 ((up2 r1 a 1 (r1 b1 1)) b1 2)) b1 3)) b1 4)) a 5 ((up2 (up2 (up2 (up2 r1 a 1 (r1 b1 1)) a 2 ((up2 r1 a 1 (r1 b1 1)) b1 2)) a 3 ((up2 (up2 r1 a 1 (r1 b1 1)) a 2 ((up2 r1 a 1 (r1 b1 1)) b1 2)) b1 3)) a 4 ((up2 (up2 (up2 r1 a 1 (r1 b1 1)) a 2 ((up2 r1 a 1 (r1 b1 1)) b1 2)) a 3 ((up2 (up2 r1 a 1 (r1 b1 1)) a 2 ((up2 r1 a 1 (r1 b1 1)) b1 2)) b1 3)) b1 4)) b1 5)) b1 6)) b1 7)) b1 8)) b1 9)) b1 10)) a 11 ((up2 (up2 (up2 (up2 (up2 (up2 (up2 (up2 (up2 (up2 r1 a 1 (r1 b1 1)) a 2 ((up2 r1 a 1 (r1 b1 1)) b1 2)) a 3 ((up2 (up2 r1 a 1 (r1 b1 1)) a 2 ((up2 r1 a 1 (r1 b1 1)) b1 2)) b1 3)) a 4 ((up2 (up2 (up2 r1 a 1 (r1 b1 1)) a 2 ((up2 r1 a 1 (r1 b1 1)) b1 2)) a 3 ((up2 (up2 r1 a 1 (r1 b1 1)) a 2 ((up2 r1 a 1 (r1 b1 1)) b1 2)) b1 3)) b1 4)) a 5 ((up2 (up2 (up2 (up2 r1 a 1 (r1 b1 1)) a 2 ((up2 r1 a 1 (r1 b1 1)) b1 2)) a 3 ((up2 (up2 r1 a 1 (r1 b1 1)) a 2 ((up2 r1 a 1 (r1 b1 1)) b1 2)) b1 3)) a 4 ((up2 (up2 (up2 r1 a 1 (r1 b1 1)) a 2 ((up2 r1 a 1 (r1 b1 1)) b1 2)) a 3 ((up2 (up2 r1 a 1 (r1 b1 1)) a 2 ((up2 r1 a 1 (r1 b1 1)) b1 2)) b1 3)) b1 4)) b1 5)) a 6 ((up2 (up2 (up2 (up2 (up2 r1 a 1 (r1 b1 1)) a 2 ((up2 r1 a 1 (r1 b1 1)) b1 2)) a 3 ((up2 (up2 r1 a 1 (r1 b1 1)) a 2 ((up2 r1 a 1 (r1 b1 1)) b1 2)) b1 3)) a 4 ((up2 (up2 (up2 r1 a 1 (r1 b1 1)) a 2 ((up2 r1 a 1 (r1 b1 1)) b1 2)) a 3 ((up2 (up2 r1 a 1 (r1 b1 1)) a 2 ((up2 r1 a 1 (r1 b1 1)) b1 2)) b1 3)) b1 4)) a 5 ((up2 (up2 (up2 (up2 r1 a 1 (r1 b1 1)) a 2 ((up2 r1 a 1 (r1 b1 1)) b1 2)) a 3 ((up2 (up2 r1 a 1 (r1 b1 1)) a 2 ((up2 r1 a 1 (r1 b1 1)) b1 2)) b1 3)) a 4 ((up2 (up2 (up2 r1 a 1 (r1 b1 1)) a 2 ((up2 r1 a 1 (r1 b1 1)) b1 2)) a 3 ((up2 (up2 r1 a 1 (r1 b1 1)) a 2 ((up2 r1 a 1 (r1 b1 1)) b1 2)) b1 3)) b1 4)) b1 5)) b1 6)) a 7 ((up2 (up2 (up2 (up2 (up2 (up2 r1 a 1 (r1 b1 1)) a 2 ((up2 r1 a 1 (r1 b1 1)) b1 2)) a 3 ((up2 (up2 r1 a 1 (r1 b1 1)) a 2 ((up2 r1 a 1 (r1 b1 1)) b1 2)) b1 3)) a 4 ((up2 (up2 (up2 r1 a 1 (r1 b1 1)) a 2 ((up2 r1 a 1 (r1 b1 1)) b1 2)) a 3 ((up2 (up2 r1 a 1 (r1 b1 1)) a 2 ((up2 r1 a 1 (r1 b1 1)) b1 2)) b1 3)) b1 4)) a 5 ((up2 (up2 (up2 (up2 r1 a 1 (r1 b1 1)) a 2 ((up2 r1 a 1 (r1 b1 1)) b1 2)) a 3 ((up2 (up2 r1 a 1 (r1 b1 1)) a 2 ((up2 r1 a 1 (r1 b1 1)) b1 2)) b1 3)) a 4 ((up2 (up2 (up2 r1 a 1 (r1 b1 1)) a 2 ((up2 r1 a 1 (r1 b1 1)) b1 2)) a 3 ((up2 (up2 r1 a 1 (r1 b1 1)) a 2 ((up2 r1 a 1 (r1 b1 1)) b1 2)) b1 3)) b1 4)) b1 5)) a 6 ((up2 (up2 (up2 (up2 (up2 r1 a 1 (r1 b1 1)) a 2 ((up2 r1 a 1 (r1 b1 1)) b1 2)) a 3 ((up2 (up2 r1 a 1 (r1 b1 1)) a 2 ((up2 r1 a 1 (r1 b1 1)) b1 2)) b1 3)) a 4 ((up2 (up2 (up2 r1 a 1 (r1 b1 1)) a 2 ((up2 r1 a 1 (r1 b1 1)) b1 2)) a 3 ((up2 (up2 r1 a 1 (r1 b1 1)) a 2 ((up2 r1 a 1 (r1 b1 1)) b1 2)) b1 3)) b1 4)) a 5 ((up2 (up2 (up2 (up2 r1 a 1 (r1 b1 1)) a 2 ((up2 r1 a 1 (r1 b1 1)) b1 2)) a 3 ((up2 (up2 r1 a 1 (r1 b1 1)) a 2 ((up2 r1 a 1 (r1 b1 1)) b1 2)) b1 3)) a 4 ((up2 (up2 (up2 r1 a 1 (r1 b1 1)) a 2 ((up2 r1 a 1 (r1 b1 1)) b1 2)) a 3 ((up2 (up2 r1 a 1 (r1 b1 1)) a 2 ((up2 r1 a 1 (r1 b1 1)) b1 2)) b1 3)) b1 4)) b1 5)) b1 6)) b1 7)) a 8 ((up2 (up2 (up2 (up2 (up2 (up2 (up2 r1 a 1 (r1 b1 1)) a 2 ((up2 r1 a 1 (r1 b1 1)) b1 2)) a 3 ((up2 (up2 r1 a 1 (r1 b1 1)) a 2 ((up2 r1 a 1 (r1 b1 1)) b1 2)) b1 3)) a 4 ((up2 (up2 (up2 r1 a 1 (r1 b1 1)) a 2 ((up2 r1 a 1 (r1 b1 1)) b1 2)) a 3 ((up2 (up2 r1 a 1 (r1 b1 1)) a 2 ((up2 r1 a 1 (r1 b1 1)) b1 2)) b1 3)) b1 4)) a 5 ((up2 (up2 (up2 (up2 r1 a 1 (r1 b1 1)) a 2 ((up2 r1 a 1 (r1 b1 1)) b1 2)) a 3 ((up2 (up2 r1 a 1 (r1 b1 1)) a 2 ((up2 r1 a 1 (r1 b1 1)) b1 2)) b1 3)) a 4 ((up2 (up2 (up2 r1 a 1 (r1 b1 1)) a 2 ((up2 r1 a 1 (r1 b1 1)) b1 2)) a 3 ((up2 (up2 r1 a 1 (r1 b1 1)) a 2 ((up2 r1 a 1 (r1 b1 1)) b1 2)) b1 3)) b1 4)) b1 5)) a 6 ((up2 (up2 (up2 (up2 (up2 r1 a 1 (r1 b1 1)) a 2 ((up2 r1 a 1 (r1 b1 1)) b1 2)) a 3 ((up2 (up2 r1 a 1 (r1 b1 1)) a 2 ((up2 r1 a 1 (r1 b1 1)) b1 2)) b1 3)) a 4 ((up2 (up2 (up2 r1 a 1 (r1 b1 1)) a 2 ((up2 r1 a 1 (r1 b1 1)) b1 2)) a 3 ((up2 (up2 r1 a 1 (r1 b1 1)) a 2 ((up2 r1 a 1 (r1 b1 1)) b1 2)) b1 3)) b1 4)) a 5 ((up2 (up2 (up2 (up2 r1 a 1 (r1 b1 1)) a 2 ((up2 r1 a 1 (r1 b1 1)) b1 2)) a 3 ((up2 (up2 r1 a 1 (r1 b1 1)) a 2 ((up2 r1 a 1 (r1 b1 1)) b1 2)) b1 3)) a 4 ((up2 (up2 (up2 r1 a 1 (r1 b1 1)) a 2 ((up2 r1 a 1 (r1 b1 1)) b1 2)) a 3 ((up2 (up2 r1 a 1 (r1 b1 1)) a 2 ((up2 r1 a 1 (r1 b1 1)) b1 2)) b1 3)) b1 4)) b1 5)) b1 6)) a 7 ((up2 (up2 (up2 (up2 (up2 (up2 r1 a 1 (r1 b1 1)) a 2 ((up2 r1 a 1 (r1 b1 1)) b1 2)) a 3 ((up2 (up2 r1 a 1 (r1 b1 1)) a 2 ((up2 r1 a 1 (r1 b1 1)) b1 2)) b1 3)) a 4 ((up2 (up2 (up2 r1 a 1 (r1 b1 1)) a 2 ((up2 r1 a 1 (r1 b1 1)) b1 2)) a 3 ((up2 (up2 r1 a 1 (r1 b1 1)) a 2 ((up2 r1 a 1 (r1 b1 1)) b1 2)) b1 3)) b1 4)) a 5 ((up2 (up2 (up2 (up2 r1 a 1 (r1 b1 1)) a 2 ((up2 r1 a 1 (r1 b1 1)) b1 2)) a 3 ((up2 (up2 r1 a 1 (r1 b1 1)) a 2 ((up2 r1 a 1 (r1 b1 1)) b1 2)) b1 3)) a 4 ((up2 (up2 (up2 r1 a 1 (r1 b1 1)) a 2 ((up2 r1 a 1 (r1 b1 1)) b1 2)) a 3 ((up2 (up2 r1 a 1 (r1 b1 1)) a 2 ((up2 r1 a 1 (r1 b1 1)) b1 2)) b1 3)) b1 4)) b1 5)) a 6 ((up2 (up2 (up2 (up2 (up2 r1 a 1 (r1 b1 1)) a 2 ((up2 r1 a 1 (r1 b1 1)) b1 2)) a 3 ((up2 (up2 r1 a 1 (r1 b1 1)) a 2 ((up2 r1 a 1 (r1 b1 1)) b1 2)) b1 3)) a 4 ((up2 (up2 (up2 r1 a 1 (r1 b1 1)) a 2 ((up2 r1 a 1 (r1 b1 1)) b1 2)) a 3 ((up2 (up2 r1 a 1 (r1 b1 1)) a 2 ((up2 r1 a 1 (r1 b1 1)) b1 2)) b1 3)) b1 4)) a 5 ((up2 (up2 (up2 (up2 r1 a 1 (r1 b1 1)) a 2 ((up2 r1 a 1 (r1 b1 1)) b1 2)) a 3 ((up2 (up2 r1 a 1 (r1 b1 1)) a 2 ((up2 r1 a 1 (r1 b1 1)) b1 2)) b1 3)) a 4 ((up2 (up2 (up2 r1 a 1 (r1 b1 1)) a 2 ((up2 r1 a 1 (r1 b1 1)) b1 2)) a 3 ((up2 (up2 r1 a 1 (r1 b1 1)) a 2 ((up2 r1 a 1 (r1 b1 1)) b1 2)) b1 3)) b1 4)) b1 5)) b1 6)) b1 7)) b1 8)) a 9 ((up2 (up2 (up2 (up2 (up2 (up2 (up2 (up2 r1 a 1 (r1 b1 1)) a 2 ((up2 r1 a 1 (r1 b1 1)) b1 2)) a 3 ((up2 (up2 r1 a 1 (r1 b1 1)) a 2 ((up2 r1 a 1 (r1 b1 1)) b1 2)) b1 3)) a 4 ((up2 (up2 (up2 r1 a 1 (r1 b1 1)) a 2 ((up2 r1 a 1 (r1 b1 1)) b1 2)) a 3 ((up2 (up2 r1 a 1 (r1 b1 1)) a 2 ((up2 r1 a 1 (r1 b1 1)) b1 2)) b1 3)) b1 4)) a 5 ((up2 (up2 (up2 (up2 r1 a 1 (r1 b1 1)) a 2 ((up2 r1 a 1 (r1 b1 1)) b1 2)) a 3 ((up2 (up2 r1 a 1 (r1 b1 1)) a 2 ((up2 r1 a 1 (r1 b1 1)) b1 2)) b1 3)) a 4 ((up2 (up2 (up2 r1 a 1 (r1 b1 1)) a 2 ((up2 r1 a 1 (r1 b1 1)) b1 2)) a 3 ((up2 (up2 r1 a 1 (r1 b1 1)) a 2 ((up2 r1 a 1 (r1 b1 1)) b1 2)) b1 3)) b1 4)) b1 5)) a 6 ((up2 (up2 (up2 (up2 (up2 r1 a 1 (r1 b1 1)) a 2 ((up2 r1 a 1 (r1 b1 1)) b1 2)) a 3 ((up2 (up2 r1 a 1 (r1 b1 1)) a 2 ((up2 r1 a 1 (r1 b1 1)) b1 2)) b1 3)) a 4 ((up2 (up2 (up2 r1 a 1 (r1 b1 1)) a 2 ((up2 r1 a 1 (r1 b1 1)) b1 2)) a 3 ((up2 (up2 r1 a 1 (r1 b1 1)) a 2 ((up2 r1 a 1 (r1 b1 1)) b1 2)) b1 3)) b1 4)) a 5 ((up2 (up2 (up2 (up2 r1 a 1 (r1 b1 1)) a 2 ((up2 r1 a 1 (r1 b1 1)) b1 2)) a 3 ((up2 (up2 r1 a 1 (r1 b1 1)) a 2 ((up2 r1 a 1 (r1 b1 1)) b1 2)) b1 3)) a 4 ((up2 (up2 (up2 r1 a 1 (r1 b1 1)) a 2 ((up2 r1 a 1 (r1 b1 1)) b1 2)) a 3 ((up2 (up2 r1 a 1 (r1 b1 1)) a 2 ((up2 r1 a 1 (r1 b1 1)) b1 2)) b1 3)) b1 4)) b1 5)) b1 6)) a 7 ((up2 (up2 (up2 (up2 (up2 (up2 r1 a 1 (r1 b1 1)) a 2 ((up2 r1 a 1 (r1 b1 1)) b1 2)) a 3 ((up2 (up2 r1 a 1 (r1 b1 1)) a 2 ((up2 r1 a 1 (r1 b1 1)) b1 2)) b1 3)) a 4 ((up2 (up2 (up2 r1 a 1 (r1 b1 1)) a 2 ((up2 r1 a 1 (r1 b1 1)) b1 2)) a 3 ((up2 (up2 r1 a 1 (r1 b1 1)) a 2 ((up2 r1 a 1 (r1 b1 1)) b1 2)) b1 3)) b1 4)) a 5 ((up2 (up2 (up2 (up2 r1 a 1 (r1 b1 1)) a 2 ((up2 r1 a 1 (r1 b1 1)) b1 2)) a 3 ((up2 (up2 r1 a 1 (r1 b1 1)) a 2 ((up2 r1 a 1 (r1 b1 1)) b1 2)) b1 3)) a 4 ((up2 (up2 (up2 r1 a 1 (r1 b1 1)) a 2 ((up2 r1 a 1 (r1 b1 1)) b1 2)) a 3 ((up2 (up2 r1 a 1 (r1 b1 1)) a 2 ((up2 r1 a 1 (r1 b1 1)) b1 2)) b1 3)) b1 4)) b1 5)) a 6 ((up2 (up2 (up2 (up2 (up2 r1 a 1 (r1 b1 1)) a 2 ((up2 r1 a 1 (r1 b1 1)) b1 2)) a 3 ((up2 (up2 r1 a 1 (r1 b1 1)) a 2 ((up2 r1 a 1 (r1 b1 1)) b1 2)) b1 3)) a 4 ((up2 (up2 (up2 r1 a 1 (r1 b1 1)) a 2 ((up2 r1 a 1 (r1 b1 1)) b1 2)) a 3 ((up2 (up2 r1 a 1 (r1 b1 1)) a 2 ((up2 r1 a 1 (r1 b1 1)) b1 2)) b1 3)) b1 4)) a 5 ((up2 (up2 (up2 (up2 r1 a 1 (r1 b1 1)) a 2 ((up2 r1 a 1 (r1 b1 1)) b1 2)) a 3 ((up2 (up2 r1 a 1 (r1 b1 1)) a 2 ((up2 r1 a 1 (r1 b1 1)) b1 2)) b1 3)) a 4 ((up2 (up2 (up2 r1 a 1 (r1 b1 1)) a 2 ((up2 r1 a 1 (r1 b1 1)) b1 2)) a 3 ((up2 (up2 r1 a 1 (r1 b1 1)) a 2 ((up2 r1 a 1 (r1 b1 1)) b1 2)) b1 3)) b1 4)) b1 5)) b1 6)) b1 7)) a 8 ((up2 (up2 (up2 (up2 (up2 (up2 (up2 r1 a 1 (r1 b1 1)) a 2 ((up2 r1 a 1 (r1 b1 1)) b1 2)) a 3 ((up2 (up2 r1 a 1 (r1 b1 1)) a 2 ((up2 r1 a 1 (r1 b1 1)) b1 2)) b1 3)) a 4 ((up2 (up2 (up2 r1 a 1 (r1 b1 1)) a 2 ((up2 r1 a 1 (r1 b1 1)) b1 2)) a 3 ((up2 (up2 r1 a 1 (r1 b1 1)) a 2 ((up2 r1 a 1 (r1 b1 1)) b1 2)) b1 3)) b1 4)) a 5 ((up2 (up2 (up2 (up2 r1 a 1 (r1 b1 1)) a 2 ((up2 r1 a 1 (r1 b1 1)) b1 2)) a 3 ((up2 (up2 r1 a 1 (r1 b1 1)) a 2 ((up2 r1 a 1 (r1 b1 1)) b1 2)) b1 3)) a 4 ((up2 (up2 (up2 r1 a 1 (r1 b1 1)) a 2 ((up2 r1 a 1 (r1 b1 1)) b1 2)) a 3 ((up2 (up2 r1 a 1 (r1 b1 1)) a 2 ((up2 r1 a 1 (r1 b1 1)) b1 2)) b1 3)) b1 4)) b1 5)) a 6 ((up2 (up2 (up2 (up2 (up2 r1 a 1 (r1 b1 1)) a 2 ((up2 r1 a 1 (r1 b1 1)) b1 2)) a 3 ((up2 (up2 r1 a 1 (r1 b1 1)) a 2 ((up2 r1 a 1 (r1 b1 1)) b1 2)) b1 3)) a 4 ((up2 (up2 (up2 r1 a 1 (r1 b1 1)) a 2 ((up2 r1 a 1 (r1 b1 1)) b1 2)) a 3 ((up2 (up2 r1 a 1 (r1 b1 1)) a 2 ((up2 r1 a 1 (r1 b1 1)) b1 2)) b1 3)) b1 4)) a 5 ((up2 (up2 (up2 (up2 r1 a 1 (r1 b1 1)) a 2 ((up2 r1 a 1 (r1 b1 1)) b1 2)) a 3 ((up2 (up2 r1 a 1 (r1 b1 1)) a 2 ((up2 r1 a 1 (r1 b1 1)) b1 2)) b1 3)) a 4 ((up2 (up2 (up2 r1 a 1 (r1 b1 1)) a 2 ((up2 r1 a 1 (r1 b1 1)) b1 2)) a 3 ((up2 (up2 r1 a 1 (r1 b1 1)) a 2 ((up2 r1 a 1 (r1 b1 1)) b1 2)) b1 3)) b1 4)) b1 5)) b1 6)) a 7 ((up2 (up2 (up2 (up2 (up2 (up2 r1 a 1 (r1 b1 1)) a 2 ((up2 r1 a 1 (r1 b1 1)) b1 2)) a 3 ((up2 (up2 r1 a 1 (r1 b1 1)) a 2 ((up2 r1 a 1 (r1 b1 1)) b1 2)) b1 3)) a 4 ((up2 (up2 (up2 r1 a 1 (r1 b1 1)) a 2 ((up2 r1 a 1 (r1 b1 1)) b1 2)) a 3 ((up2 (up2 r1 a 1 (r1 b1 1)) a 2 ((up2 r1 a 1 (r1 b1 1)) b1 2)) b1 3)) b1 4)) a 5 ((up2 (up2 (up2 (up2 r1 a 1 (r1 b1 1)) a 2 ((up2 r1 a 1 (r1 b1 1)) b1 2)) a 3 ((up2 (up2 r1 a 1 (r1 b1 1)) a 2 ((up2 r1 a 1 (r1 b1 1)) b1 2)) b1 3)) a 4 ((up2 (up2 (up2 r1 a 1 (r1 b1 1)) a 2 ((up2 r1 a 1 (r1 b1 1)) b1 2)) a 3 ((up2 (up2 r1 a 1 (r1 b1 1)) a 2 ((up2 r1 a 1 (r1 b1 1)) b1 2)) b1 3)) b1 4)) b1 5)) a 6 ((up2 (up2 (up2 (up2 (up2 r1 a 1 (r1 b1 1)) a 2 ((up2 r1 a 1 (r1 b1 1)) b1 2)) a 3 ((up2 (up2 r1 a 1 (r1 b1 1)) a 2 ((up2 r1 a 1 (r1 b1 1)) b1 2)) b1 3)) a 4 ((up2 (up2 (up2 r1 a 1 (r1 b1 1)) a 2 ((up2 r1 a 1 (r1 b1 1)) b1 2)) a 3 ((up2 (up2 r1 a 1 (r1 b1 1)) a 2 ((up2 r1 a 1 (r1 b1 1)) b1 2)) b1 3)) b1 4)) a 5 ((up2 (up2 (up2 (up2 r1 a 1 (r1 b1 1)) a 2 ((up2 r1 a 1 (r1 b1 1)) b1 2)) a 3 ((up2 (up2 r1 a 1 (r1 b1 1)) a 2 ((up2 r1 a 1 (r1 b1 1)) b1 2)) b1 3)) a 4 ((up2 (up2 (up2 r1 a 1 (r1 b1 1)) a 2 ((up2 r1 a 1 (r1 b1 1)) b1 2)) a 3 ((up2 (up2 r1 a 1 (r1 b1 1)) a 2 ((up2 r1 a 1 (r1 b1 1)) b1 2)) b1 3)) b1 4)) b1 5)) b1 6)) b1 7)) b1 8)) b1 9)) a 10 ((up2 (up2 (up2 (up2 (up2 (up2 (up2 (up2 (up2 r1 a 1 (r1 b1 1)) a 2 ((up2 r1 a 1 (r1 b1 1)) b1 2)) a 3 ((up2 (up2 r1 a 1 (r1 b1 1)) a 2 ((up2 r1 a 1 (r1 b1 1)) b1 2)) b1 3)) a 4 ((up2 (up2 (up2 r1 a 1 (r1 b1 1)) a 2 ((up2 r1 a 1 (r1 b1 1)) b1 2)) a 3 ((up2 (up2 r1 a 1 (r1 b1 1)) a 2 ((up2 r1 a 1 (r1 b1 1)) b1 2)) b1 3)) b1 4)) a 5 ((up2 (up2 (up2 (up2 r1 a 1 (r1 b1 1)) a 2 ((up2 r1 a 1 (r1 b1 1)) b1 2)) a 3 ((up2 (up2 r1 a 1 (r1 b1 1)) a 2 ((up2 r1 a 1 (r1 b1 1)) b1 2)) b1 3)) a 4 ((up2 (up2 (up2 r1 a 1 (r1 b1 1)) a 2 ((up2 r1 a 1 (r1 b1 1)) b1 2)) a 3 ((up2 (up2 r1 a 1 (r1 b1 1)) a 2 ((up2 r1 a 1 (r1 b1 1)) b1 2)) b1 3)) b1 4)) b1 5)) a 6 ((up2 (up2 (up2 (up2 (up2 r1 a 1 (r1 b1 1)) a 2 ((up2 r1 a 1 (r1 b1 1)) b1 2)) a 3 ((up2 (up2 r1 a 1 (r1 b1 1)) a 2 ((up2 r1 a 1 (r1 b1 1)) b1 2)) b1 3)) a 4 ((up2 (up2 (up2 r1 a 1 (r1 b1 1)) a 2 ((up2 r1 a 1 (r1 b1 1)) b1 2)) a 3 ((up2 (up2 r1 a 1 (r1 b1 1)) a 2 ((up2 r1 a 1 (r1 b1 1)) b1 2)) b1 3)) b1 4)) a 5 ((up2 (up2 (up2 (up2 r1 a 1 (r1 b1 1)) a 2 ((up2 r1 a 1 (r1 b1 1)) b1 2)) a 3 ((up2 (up2 r1 a 1 (r1 b1 1)) a 2 ((up2 r1 a 1 (r1 b1 1)) b1 2)) b1 3)) a 4 ((up2 (up2 (up2 r1 a 1 (r1 b1 1)) a 2 ((up2 r1 a 1 (r1 b1 1)) b1 2)) a 3 ((up2 (up2 r1 a 1 (r1 b1 1)) a 2 ((up2 r1 a 1 (r1 b1 1)) b1 2)) b1 3)) b1 4)) b1 5)) b1 6)) a 7 ((up2 (up2 (up2 (up2 (up2 (up2 r1 a 1 (r1 b1 1)) a 2 ((up2 r1 a 1 (r1 b1 1)) b1 2)) a 3 ((up2 (up2 r1 a 1 (r1 b1 1)) a 2 ((up2 r1 a 1 (r1 b1 1)) b1 2)) b1 3)) a 4 ((up2 (up2 (up2 r1 a 1 (r1 b1 1)) a 2 ((up2 r1 a 1 (r1 b1 1)) b1 2)) a 3 ((up2 (up2 r1 a 1 (r1 b1 1)) a 2 ((up2 r1 a 1 (r1 b1 1)) b1 2)) b1 3)) b1 4)) a 5 ((up2 (up2 (up2 (up2 r1 a 1 (r1 b1 1)) a 2 ((up2 r1 a 1 (r1 b1 1)) b1 2)) a 3 ((up2 (up2 r1 a 1 (r1 b1 1)) a 2 ((up2 r1 a 1 (r1 b1 1)) b1 2)) b1 3)) a 4 ((up2 (up2 (up2 r1 a 1 (r1 b1 1)) a 2 ((up2 r1 a 1 (r1 b1 1)) b1 2)) a 3 ((up2 (up2 r1 a 1 (r1 b1 1)) a 2 ((up2 r1 a 1 (r1 b1 1)) b1 2)) b1 3)) b1 4)) b1 5)) a 6 ((up2 (up2 (up2 (up2 (up2 r1 a 1 (r1 b1 1)) a 2 ((up2 r1 a 1 (r1 b1 1)) b1 2)) a 3 ((up2 (up2 r1 a 1 (r1 b1 1)) a 2 ((up2 r1 a 1 (r1 b1 1)) b1 2)) b1 3)) a 4 ((up2 (up2 (up2 r1 a 1 (r1 b1 1)) a 2 ((up2 r1 a 1 (r1 b1 1)) b1 2)) a 3 ((up2 (up2 r1 a 1 (r1 b1 1)) a 2 ((up2 r1 a 1 (r1 b1 1)) b1 2)) b1 3)) b1 4)) a 5 ((up2 (up2 (up2 (up2 r1 a 1 (r1 b1 1)) a 2 ((up2 r1 a 1 (r1 b1 1)) b1 2)) a 3 ((up2 (up2 r1 a 1 (r1 b1 1)) a 2 ((up2 r1 a 1 (r1 b1 1)) b1 2)) b1 3)) a 4 ((up2 (up2 (up2 r1 a 1 (r1 b1 1)) a 2 ((up2 r1 a 1 (r1 b1 1)) b1 2)) a 3 ((up2 (up2 r1 a 1 (r1 b1 1)) a 2 ((up2 r1 a 1 (r1 b1 1)) b1 2)) b1 3)) b1 4)) b1 5)) b1 6)) b1 7)) a 8 ((up2 (up2 (up2 (up2 (up2 (up2 (up2 r1 a 1 (r1 b1 1)) a 2 ((up2 r1 a 1 (r1 b1 1)) b1 2)) a 3 ((up2 (up2 r1 a 1 (r1 b1 1)) a 2 ((up2 r1 a 1 (r1 b1 1)) b1 2)) b1 3)) a 4 ((up2 (up2 (up2 r1 a 1 (r1 b1 1)) a 2 ((up2 r1 a 1 (r1 b1 1)) b1 2)) a 3 ((up2 (up2 r1 a 1 (r1 b1 1)) a 2 ((up2 r1 a 1 (r1 b1 1)) b1 2)) b1 3)) b1 4)) a 5 ((up2 (up2 (up2 (up2 r1 a 1 (r1 b1 1)) a 2 ((up2 r1 a 1 (r1 b1 1)) b1 2)) a 3 ((up2 (up2 r1 a 1 (r1 b1 1)) a 2 ((up2 r1 a 1 (r1 b1 1)) b1 2)) b1 3)) a 4 ((up2 (up2 (up2 r1 a 1 (r1 b1 1)) a 2 ((up2 r1 a 1 (r1 b1 1)) b1 2)) a 3 ((up2 (up2 r1 a 1 (r1 b1 1)) a 2 ((up2 r1 a 1 (r1 b1 1)) b1 2)) b1 3)) b1 4)) b1 5)) a 6 ((up2 (up2 (up2 (up2 (up2 r1 a 1 (r1 b1 1)) a 2 ((up2 r1 a 1 (r1 b1 1)) b1 2)) a 3 ((up2 (up2 r1 a 1 (r1 b1 1)) a 2 ((up2 r1 a 1 (r1 b1 1)) b1 2)) b1 3)) a 4 ((up2 (up2 (up2 r1 a 1 (r1 b1 1)) a 2 ((up2 r1 a 1 (r1 b1 1)) b1 2)) a 3 ((up2 (up2 r1 a 1 (r1 b1 1)) a 2 ((up2 r1 a 1 (r1 b1 1)) b1 2)) b1 3)) b1 4)) a 5 ((up2 (up2 (up2 (up2 r1 a 1 (r1 b1 1)) a 2 ((up2 r1 a 1 (r1 b1 1)) b1 2)) a 3 ((up2 (up2 r1 a 1 (r1 b1 1)) a 2 ((up2 r1 a 1 (r1 b1 1)) b1 2)) b1 3)) a 4 ((up2 (up2 (up2 r1 a 1 (r1 b1 1)) a 2 ((up2 r1 a 1 (r1 b1 1)) b1 2)) a 3 ((up2 (up2 r1 a 1 (r1 b1 1)) a 2 ((up2 r1 a 1 (r1 b1 1)) b1 2)) b1 3)) b1 4)) b1 5)) b1 6)) a 7 ((up2 (up2 (up2 (up2 (up2 (up2 r1 a 1 (r1 b1 1)) a 2 ((up2 r1 a 1 (r1 b1 1)) b1 2)) a 3 ((up2 (up2 r1 a 1 (r1 b1 1)) a 2 ((up2 r1 a 1 (r1 b1 1)) b1 2)) b1 3)) a 4 ((up2 (up2 (up2 r1 a 1 (r1 b1 1)) a 2 ((up2 r1 a 1 (r1 b1 1)) b1 2)) a 3 ((up2 (up2 r1 a 1 (r1 b1 1)) a 2 ((up2 r1 a 1 (r1 b1 1)) b1 2)) b1 3)) b1 4)) a 5 ((up2 (up2 (up2 (up2 r1 a 1 (r1 b1 1)) a 2 ((up2 r1 a 1 (r1 b1 1)) b1 2)) a 3 ((up2 (up2 r1 a 1 (r1 b1 1)) a 2 ((up2 r1 a 1 (r1 b1 1)) b1 2)) b1 3)) a 4 ((up2 (up2 (up2 r1 a 1 (r1 b1 1)) a 2 ((up2 r1 a 1 (r1 b1 1)) b1 2)) a 3 ((up2 (up2 r1 a 1 (r1 b1 1)) a 2 ((up2 r1 a 1 (r1 b1 1)) b1 2)) b1 3)) b1 4)) b1 5)) a 6 ((up2 (up2 (up2 (up2 (up2 r1 a 1 (r1 b1 1)) a 2 ((up2 r1 a 1 (r1 b1 1)) b1 2)) a 3 ((up2 (up2 r1 a 1 (r1 b1 1)) a 2 ((up2 r1 a 1 (r1 b1 1)) b1 2)) b1 3)) a 4 ((up2 (up2 (up2 r1 a 1 (r1 b1 1)) a 2 ((up2 r1 a 1 (r1 b1 1)) b1 2)) a 3 ((up2 (up2 r1 a 1 (r1 b1 1)) a 2 ((up2 r1 a 1 (r1 b1 1)) b1 2)) b1 3)) b1 4)) a 5 ((up2 (up2 (up2 (up2 r1 a 1 (r1 b1 1)) a 2 ((up2 r1 a 1 (r1 b1 1)) b1 2)) a 3 ((up2 (up2 r1 a 1 (r1 b1 1)) a 2 ((up2 r1 a 1 (r1 b1 1)) b1 2)) b1 3)) a 4 ((up2 (up2 (up2 r1 a 1 (r1 b1 1)) a 2 ((up2 r1 a 1 (r1 b1 1)) b1 2)) a 3 ((up2 (up2 r1 a 1 (r1 b1 1)) a 2 ((up2 r1 a 1 (r1 b1 1)) b1 2)) b1 3)) b1 4)) b1 5)) b1 6)) b1 7)) b1 8)) a 9 ((up2 (up2 (up2 (up2 (up2 (up2 (up2 (up2 r1 a 1 (r1 b1 1)) a 2 ((up2 r1 a 1 (r1 b1 1)) b1 2)) a 3 ((up2 (up2 r1 a 1 (r1 b1 1)) a 2 ((up2 r1 a 1 (r1 b1 1)) b1 2)) b1 3)) a 4 ((up2 (up2 (up2 r1 a 1 (r1 b1 1)) a 2 ((up2 r1 a 1 (r1 b1 1)) b1 2)) a 3 ((up2 (up2 r1 a 1 (r1 b1 1)) a 2 ((up2 r1 a 1 (r1 b1 1)) b1 2)) b1 3)) b1 4)) a 5 ((up2 (up2 (up2 (up2 r1 a 1 (r1 b1 1)) a 2 ((up2 r1 a 1 (r1 b1 1)) b1 2)) a 3 ((up2 (up2 r1 a 1 (r1 b1 1)) a 2 ((up2 r1 a 1 (r1 b1 1)) b1 2)) b1 3)) a 4 ((up2 (up2 (up2 r1 a 1 (r1 b1 1)) a 2 ((up2 r1 a 1 (r1 b1 1)) b1 2)) a 3 ((up2 (up2 r1 a 1 (r1 b1 1)) a 2 ((up2 r1 a 1 (r1 b1 1)) b1 2)) b1 3)) b1 4)) b1 5)) a 6 ((up2 (up2 (up2 (up2 (up2 r1 a 1 (r1 b1 1)) a 2 ((up2 r1 a 1 (r1 b1 1)) b1 2)) a 3 ((up2 (up2 r1 a 1 (r1 b1 1)) a 2 ((up2 r1 a 1 (r1 b1 1)) b1 2)) b1 3)) a 4 ((up2 (up2 (up2 r1 a 1 (r1 b1 1)) a 2 ((up2 r1 a 1 (r1 b1 1)) b1 2)) a 3 ((up2 (up2 r1 a 1 (r1 b1 1)) a 2 ((up2 r1 a 1 (r1 b1 1)) b1 2)) b1 3)) b1 4)) a 5 ((up2 (up2 (up2 (up2 r1 a 1 (r1 b1 1)) a 2 ((up2 r1 a 1 (r1 b1 1)) b1 2)) a 3 ((up2 (up2 r1 a 1 (r1 b1 1)) a 2 ((up2 r1 a 1 (r1 b1 1)) b1 2)) b1 3)) a 4 ((up2 (up2 (up2 r1 a 1 (r1 b1 1)) a 2 ((up2 r1 a 1 (r1 b1 1)) b1 2)) a 3 ((up2 (up2 r1 a 1 (r1 b1 1)) a 2 ((up2 r1 a 1 (r1 b1 1)) b1 2)) b1 3)) b1 4)) b1 5)) b1 6)) a 7 ((up2 (up2 (up2 (up2 (up2 (up2 r1 a 1 (r1 b1 1)) a 2 ((up2 r1 a 1 (r1 b1 1)) b1 2)) a 3 ((up2 (up2 r1 a 1 (r1 b1 1)) a 2 ((up2 r1 a 1 (r1 b1 1)) b1 2)) b1 3)) a 4 ((up2 (up2 (up2 r1 a 1 (r1 b1 1)) a 2 ((up2 r1 a 1 (r1 b1 1)) b1 2)) a 3 ((up2 (up2 r1 a 1 (r1 b1 1)) a 2 ((up2 r1 a 1 (r1 b1 1)) b1 2)) b1 3)) b1 4)) a 5 ((up2 (up2 (up2 (up2 r1 a 1 (r1 b1 1)) a 2 ((up2 r1 a 1 (r1 b1 1)) b1 2)) a 3 ((up2 (up2 r1 a 1 (r1 b1 1)) a 2 ((up2 r1 a 1 (r1 b1 1)) b1 2)) b1 3)) a 4 ((up2 (up2 (up2 r1 a 1 (r1 b1 1)) a 2 ((up2 r1 a 1 (r1 b1 1)) b1 2)) a 3 ((up2 (up2 r1 a 1 (r1 b1 1)) a 2 ((up2 r1 a 1 (r1 b1 1)) b1 2)) b1 3)) b1 4)) b1 5)) a 6 ((up2 (up2 (up2 (up2 (up2 r1 a 1 (r1 b1 1)) a 2 ((up2 r1 a 1 (r1 b1 1)) b1 2)) a 3 ((up2 (up2 r1 a 1 (r1 b1 1)) a 2 ((up2 r1 a 1 (r1 b1 1)) b1 2)) b1 3)) a 4 ((up2 (up2 (up2 r1 a 1 (r1 b1 1)) a 2 ((up2 r1 a 1 (r1 b1 1)) b1 2)) a 3 ((up2 (up2 r1 a 1 (r1 b1 1)) a 2 ((up2 r1 a 1 (r1 b1 1)) b1 2)) b1 3)) b1 4)) a 5 ((up2 (up2 (up2 (up2 r1 a 1 (r1 b1 1)) a 2 ((up2 r1 a 1 (r1 b1 1)) b1 2)) a 3 ((up2 (up2 r1 a 1 (r1 b1 1)) a 2 ((up2 r1 a 1 (r1 b1 1)) b1 2)) b1 3)) a 4 ((up2 (up2 (up2 r1 a 1 (r1 b1 1)) a 2 ((up2 r1 a 1 (r1 b1 1)) b1 2)) a 3 ((up2 (up2 r1 a 1 (r1 b1 1)) a 2 ((up2 r1 a 1 (r1 b1 1)) b1 2)) b1 3)) b1 4)) b1 5)) b1 6)) b1 7)) a 8 ((up2 (up2 (up2 (up2 (up2 (up2 (up2 r1 a 1 (r1 b1 1)) a 2 ((up2 r1 a 1 (r1 b1 1)) b1 2)) a 3 ((up2 (up2 r1 a 1 (r1 b1 1)) a 2 ((up2 r1 a 1 (r1 b1 1)) b1 2)) b1 3)) a 4 ((up2 (up2 (up2 r1 a 1 (r1 b1 1)) a 2 ((up2 r1 a 1 (r1 b1 1)) b1 2)) a 3 ((up2 (up2 r1 a 1 (r1 b1 1)) a 2 ((up2 r1 a 1 (r1 b1 1)) b1 2)) b1 3)) b1 4)) a 5 ((up2 (up2 (up2 (up2 r1 a 1 (r1 b1 1)) a 2 ((up2 r1 a 1 (r1 b1 1)) b1 2)) a 3 ((up2 (up2 r1 a 1 (r1 b1 1)) a 2 ((up2 r1 a 1 (r1 b1 1)) b1 2)) b1 3)) a 4 ((up2 (up2 (up2 r1 a 1 (r1 b1 1)) a 2 ((up2 r1 a 1 (r1 b1 1)) b1 2)) a 3 ((up2 (up2 r1 a 1 (r1 b1 1)) a 2 ((up2 r1 a 1 (r1 b1 1)) b1 2)) b1 3)) b1 4)) b1 5)) a 6 ((up2 (up2 (up2 (up2 (up2 r1 a 1 (r1 b1 1)) a 2 ((up2 r1 a 1 (r1 b1 1)) b1 2)) a 3 ((up2 (up2 r1 a 1 (r1 b1 1)) a 2 ((up2 r1 a 1 (r1 b1 1)) b1 2)) b1 3)) a 4 ((up2 (up2 (up2 r1 a 1 (r1 b1 1)) a 2 ((up2 r1 a 1 (r1 b1 1)) b1 2)) a 3 ((up2 (up2 r1 a 1 (r1 b1 1)) a 2 ((up2 r1 a 1 (r1 b1 1)) b1 2)) b1 3)) b1 4)) a 5 ((up2 (up2 (up2 (up2 r1 a 1 (r1 b1 1)) a 2 ((up2 r1 a 1 (r1 b1 1)) b1 2)) a 3 ((up2 (up2 r1 a 1 (r1 b1 1)) a 2 ((up2 r1 a 1 (r1 b1 1)) b1 2)) b1 3)) a 4 ((up2 (up2 (up2 r1 a 1 (r1 b1 1)) a 2 ((up2 r1 a 1 (r1 b1 1)) b1 2)) a 3 ((up2 (up2 r1 a 1 (r1 b1 1)) a 2 ((up2 r1 a 1 (r1 b1 1)) b1 2)) b1 3)) b1 4)) b1 5)) b1 6)) a 7 ((up2 (up2 (up2 (up2 (up2 (up2 r1 a 1 (r1 b1 1)) a 2 ((up2 r1 a 1 (r1 b1 1)) b1 2)) a 3 ((up2 (up2 r1 a 1 (r1 b1 1)) a 2 ((up2 r1 a 1 (r1 b1 1)) b1 2)) b1 3)) a 4 ((up2 (up2 (up2 r1 a 1 (r1 b1 1)) a 2 ((up2 r1 a 1 (r1 b1 1)) b1 2)) a 3 ((up2 (up2 r1 a 1 (r1 b1 1)) a 2 ((up2 r1 a 1 (r1 b1 1)) b1 2)) b1 3)) b1 4)) a 5 ((up2 (up2 (up2 (up2 r1 a 1 (r1 b1 1)) a 2 ((up2 r1 a 1 (r1 b1 1)) b1 2)) a 3 ((up2 (up2 r1 a 1 (r1 b1 1)) a 2 ((up2 r1 a 1 (r1 b1 1)) b1 2)) b1 3)) a 4 ((up2 (up2 (up2 r1 a 1 (r1 b1 1)) a 2 ((up2 r1 a 1 (r1 b1 1)) b1 2)) a 3 ((up2 (up2 r1 a 1 (r1 b1 1)) a 2 ((up2 r1 a 1 (r1 b1 1)) b1 2)) b1 3)) b1 4)) b1 5)) a 6 ((up2 (up2 (up2 (up2 (up2 r1 a 1 (r1 b1 1)) a 2 ((up2 r1 a 1 (r1 b1 1)) b1 2)) a 3 ((up2 (up2 r1 a 1 (r1 b1 1)) a 2 ((up2 r1 a 1 (r1 b1 1)) b1 2)) b1 3)) a 4 ((up2 (up2 (up2 r1 a 1 (r1 b1 1)) a 2 ((up2 r1 a 1 (r1 b1 1)) b1 2)) a 3 ((up2 (up2 r1 a 1 (r1 b1 1)) a 2 ((up2 r1 a 1 (r1 b1 1)) b1 2)) b1 3)) b1 4)) a 5 ((up2 (up2 (up2 (up2 r1 a 1 (r1 b1 1)) a 2 ((up2 r1 a 1 (r1 b1 1)) b1 2)) a 3 ((up2 (up2 r1 a 1 (r1 b1 1)) a 2 ((up2 r1 a 1 (r1 b1 1)) b1 2)) b1 3)) a 4 ((up2 (up2 (up2 r1 a 1 (r1 b1 1)) a 2 ((up2 r1 a 1 (r1 b1 1)) b1 2)) a 3 ((up2 (up2 r1 a 1 (r1 b1 1)) a 2 ((up2 r1 a 1 (r1 b1 1)) b1 2)) b1 3)) b1 4)) b1 5)) b1 6)) b1 7)) b1 8)) b1 9)) b1 10)) b1 11)) a 12 ((up2 (up2 (up2 (up2 (up2 (up2 (up2 (up2 (up2 (up2 (up2 r1 a 1 (r1 b1 1)) a 2 ((up2 r1 a 1 (r1 b1 1)) b1 2)) a 3 ((up2 (up2 r1 a 1 (r1 b1 1)) a 2 ((up2 r1 a 1 (r1 b1 1)) b1 2)) b1 3)) a 4 ((up2 (up2 (up2 r1 a 1 (r1 b1 1)) a 2 ((up2 r1 a 1 (r1 b1 1)) b1 2)) a 3 ((up2 (up2 r1 a 1 (r1 b1 1)) a 2 ((up2 r1 a 1 (r1 b1 1)) b1 2)) b1 3)) b1 4)) a 5 ((up2 (up2 (up2 (up2 r1 a 1 (r1 b1 1)) a 2 ((up2 r1 a 1 (r1 b1 1)) b1 2)) a 3 ((up2 (up2 r1 a 1 (r1 b1 1)) a 2 ((up2 r1 a 1 (r1 b1 1)) b1 2)) b1 3)) a 4 ((up2 (up2 (up2 r1 a 1 (r1 b1 1)) a 2 ((up2 r1 a 1 (r1 b1 1)) b1 2)) a 3 ((up2 (up2 r1 a 1 (r1 b1 1)) a 2 ((up2 r1 a 1 (r1 b1 1)) b1 2)) b1 3)) b1 4)) b1 5)) a 6 ((up2 (up2 (up2 (up2 (up2 r1 a 1 (r1 b1 1)) a 2 ((up2 r1 a 1 (r1 b1 1)) b1 2)) a 3 ((up2 (up2 r1 a 1 (r1 b1 1)) a 2 ((up2 r1 a 1 (r1 b1 1)) b1 2)) b1 3)) a 4 ((up2 (up2 (up2 r1 a 1 (r1 b1 1)) a 2 ((up2 r1 a 1 (r1 b1 1)) b1 2)) a 3 ((up2 (up2 r1 a 1 (r1 b1 1)) a 2 ((up2 r1 a 1 (r1 b1 1)) b1 2)) b1 3)) b1 4)) a 5 ((up2 (up2 (up2 (up2 r1 a 1 (r1 b1 1)) a 2 ((up2 r1 a 1 (r1 b1 1)) b1 2)) a 3 ((up2 (up2 r1 a 1 (r1 b1 1)) a 2 ((up2 r1 a 1 (r1 b1 1)) b1 2)) b1 3)) a 4 ((up2 (up2 (up2 r1 a 1 (r1 b1 1)) a 2 ((up2 r1 a 1 (r1 b1 1)) b1 2)) a 3 ((up2 (up2 r1 a 1 (r1 b1 1)) a 2 ((up2 r1 a 1 (r1 b1 1)) b1 2)) b1 3)) b1 4)) b1 5)) b1 6)) a 7 ((up2 (up2 (up2 (up2 (up2 (up2 r1 a 1 (r1 b1 1)) a 2 ((up2 r1 a 1 (r1 b1 1)) b1 2)) a 3 ((up2 (up2 r1 a 1 (r1 b1 1)) a 2 ((up2 r1 a 1 (r1 b1 1)) b1 2)) b1 3)) a 4 ((up2 (up2 (up2 r1 a 1 (r1 b1 1)) a 2 ((up2 r1 a 1 (r1 b1 1)) b1 2)) a 3 ((up2 (up2 r1 a 1 (r1 b1 1)) a 2 ((up2 r1 a 1 (r1 b1 1)) b1 2)) b1 3)) b1 4)) a 5 ((up2 (up2 (up2 (up2 r1 a 1 (r1 b1 1)) a 2 ((up2 r1 a 1 (r1 b1 1)) b1 2)) a 3 ((up2 (up2 r1 a 1 (r1 b1 1)) a 2 ((up2 r1 a 1 (r1 b1 1)) b1 2)) b1 3)) a 4 ((up2 (up2 (up2 r1 a 1 (r1 b1 1)) a 2 ((up2 r1 a 1 (r1 b1 1)) b1 2)) a 3 ((up2 (up2 r1 a 1 (r1 b1 1)) a 2 ((up2 r1 a 1 (r1 b1 1)) b1 2)) b1 3)) b1 4)) b1 5)) a 6 ((up2 (up2 (up2 (up2 (up2 r1 a 1 (r1 b1 1)) a 2 ((up2 r1 a 1 (r1 b1 1)) b1 2)) a 3 ((up2 (up2 r1 a 1 (r1 b1 1)) a 2 ((up2 r1 a 1 (r1 b1 1)) b1 2)) b1 3)) a 4 ((up2 (up2 (up2 r1 a 1 (r1 b1 1)) a 2 ((up2 r1 a 1 (r1 b1 1)) b1 2)) a 3 ((up2 (up2 r1 a 1 (r1 b1 1)) a 2 ((up2 r1 a 1 (r1 b1 1)) b1 2)) b1 3)) b1 4)) a 5 ((up2 (up2 (up2 (up2 r1 a 1 (r1 b1 1)) a 2 ((up2 r1 a 1 (r1 b1 1)) b1 2)) a 3 ((up2 (up2 r1 a 1 (r1 b1 1)) a 2 ((up2 r1 a 1 (r1 b1 1)) b1 2)) b1 3)) a 4 ((up2 (up2 (up2 r1 a 1 (r1 b1 1)) a 2 ((up2 r1 a 1 (r1 b1 1)) b1 2)) a 3 ((up2 (up2 r1 a 1 (r1 b1 1)) a 2 ((up2 r1 a 1 (r1 b1 1)) b1 2)) b1 3)) b1 4)) b1 5)) b1 6)) b1 7)) a 8 ((up2 (up2 (up2 (up2 (up2 (up2 (up2 r1 a 1 (r1 b1 1)) a 2 ((up2 r1 a 1 (r1 b1 1)) b1 2)) a 3 ((up2 (up2 r1 a 1 (r1 b1 1)) a 2 ((up2 r1 a 1 (r1 b1 1)) b1 2)) b1 3)) a 4 ((up2 (up2 (up2 r1 a 1 (r1 b1 1)) a 2 ((up2 r1 a 1 (r1 b1 1)) b1 2)) a 3 ((up2 (up2 r1 a 1 (r1 b1 1)) a 2 ((up2 r1 a 1 (r1 b1 1)) b1 2)) b1 3)) b1 4)) a 5 ((up2 (up2 (up2 (up2 r1 a 1 (r1 b1 1)) a 2 ((up2 r1 a 1 (r1 b1 1)) b1 2)) a 3 ((up2 (up2 r1 a 1 (r1 b1 1)) a 2 ((up2 r1 a 1 (r1 b1 1)) b1 2)) b1 3)) a 4 ((up2 (up2 (up2 r1 a 1 (r1 b1 1)) a 2 ((up2 r1 a 1 (r1 b1 1)) b1 2)) a 3 ((up2 (up2 r1 a 1 (r1 b1 1)) a 2 ((up2 r1 a 1 (r1 b1 1)) b1 2)) b1 3)) b1 4)) b1 5)) a 6 ((up2 (up2 (up2 (up2 (up2 r1 a 1 (r1 b1 1)) a 2 ((up2 r1 a 1 (r1 b1 1)) b1 2)) a 3 ((up2 (up2 r1 a 1 (r1 b1 1)) a 2 ((up2 r1 a 1 (r1 b1 1)) b1 2)) b1 3)) a 4 ((up2 (up2 (up2 r1 a 1 (r1 b1 1)) a 2 ((up2 r1 a 1 (r1 b1 1)) b1 2)) a 3 ((up2 (up2 r1 a 1 (r1 b1 1)) a 2 ((up2 r1 a 1 (r1 b1 1)) b1 2)) b1 3)) b1 4)) a 5 ((up2 (up2 (up2 (up2 r1 a 1 (r1 b1 1)) a 2 ((up2 r1 a 1 (r1 b1 1)) b1 2)) a 3 ((up2 (up2 r1 a 1 (r1 b1 1)) a 2 ((up2 r1 a 1 (r1 b1 1)) b1 2)) b1 3)) a 4 ((up2 (up2 (up2 r1 a 1 (r1 b1 1)) a 2 ((up2 r1 a 1 (r1 b1 1)) b1 2)) a 3 ((up2 (up2 r1 a 1 (r1 b1 1)) a 2 ((up2 r1 a 1 (r1 b1 1)) b1 2)) b1 3)) b1 4)) b1 5)) b1 6)) a 7 ((up2 (up2 (up2 (up2 (up2 (up2 r1 a 1 (r1 b1 1)) a 2 ((up2 r1 a 1 (r1 b1 1)) b1 2)) a 3 ((up2 (up2 r1 a 1 (r1 b1 1)) a 2 ((up2 r1 a 1 (r1 b1 1)) b1 2)) b1 3)) a 4 ((up2 (up2 (up2 r1 a 1 (r1 b1 1)) a 2 ((up2 r1 a 1 (r1 b1 1)) b1 2)) a 3 ((up2 (up2 r1 a 1 (r1 b1 1)) a 2 ((up2 r1 a 1 (r1 b1 1)) b1 2)) b1 3)) b1 4)) a 5 ((up2 (up2 (up2 (up2 r1 a 1 (r1 b1 1)) a 2 ((up2 r1 a 1 (r1 b1 1)) b1 2)) a 3 ((up2 (up2 r1 a 1 (r1 b1 1)) a 2 ((up2 r1 a 1 (r1 b1 1)) b1 2)) b1 3)) a 4 ((up2 (up2 (up2 r1 a 1 (r1 b1 1)) a 2 ((up2 r1 a 1 (r1 b1 1)) b1 2)) a 3 ((up2 (up2 r1 a 1 (r1 b1 1)) a 2 ((up2 r1 a 1 (r1 b1 1)) b1 2)) b1 3)) b1 4)) b1 5)) a 6 ((up2 (up2 (up2 (up2 (up2 r1 a 1 (r1 b1 1)) a 2 ((up2 r1 a 1 (r1 b1 1)) b1 2)) a 3 ((up2 (up2 r1 a 1 (r1 b1 1)) a 2 ((up2 r1 a 1 (r1 b1 1)) b1 2)) b1 3)) a 4 ((up2 (up2 (up2 r1 a 1 (r1 b1 1)) a 2 ((up2 r1 a 1 (r1 b1 1)) b1 2)) a 3 ((up2 (up2 r1 a 1 (r1 b1 1)) a 2 ((up2 r1 a 1 (r1 b1 1)) b1 2)) b1 3)) b1 4)) a 5 ((up2 (up2 (up2 (up2 r1 a 1 (r1 b1 1)) a 2 ((up2 r1 a 1 (r1 b1 1)) b1 2)) a 3 ((up2 (up2 r1 a 1 (r1 b1 1)) a 2 ((up2 r1 a 1 (r1 b1 1)) b1 2)) b1 3)) a 4 ((up2 (up2 (up2 r1 a 1 (r1 b1 1)) a 2 ((up2 r1 a 1 (r1 b1 1)) b1 2)) a 3 ((up2 (up2 r1 a 1 (r1 b1 1)) a 2 ((up2 r1 a 1 (r1 b1 1)) b1 2)) b1 3)) b1 4)) b1 5)) b1 6)) b1 7)) b1 8)) a 9 ((up2 (up2 (up2 (up2 (up2 (up2 (up2 (up2 r1 a 1 (r1 b1 1)) a 2 ((up2 r1 a 1 (r1 b1 1)) b1 2)) a 3 ((up2 (up2 r1 a 1 (r1 b1 1)) a 2 ((up2 r1 a 1 (r1 b1 1)) b1 2)) b1 3)) a 4 ((up2 (up2 (up2 r1 a 1 (r1 b1 1)) a 2 ((up2 r1 a 1 (r1 b1 1)) b1 2)) a 3 ((up2 (up2 r1 a 1 (r1 b1 1)) a 2 ((up2 r1 a 1 (r1 b1 1)) b1 2)) b1 3)) b1 4)) a 5 ((up2 (up2 (up2 (up2 r1 a 1 (r1 b1 1)) a 2 ((up2 r1 a 1 (r1 b1 1)) b1 2)) a 3 ((up2 (up2 r1 a 1 (r1 b1 1)) a 2 ((up2 r1 a 1 (r1 b1 1)) b1 2)) b1 3)) a 4 ((up2 (up2 (up2 r1 a 1 (r1 b1 1)) a 2 ((up2 r1 a 1 (r1 b1 1)) b1 2)) a 3 ((up2 (up2 r1 a 1 (r1 b1 1)) a 2 ((up2 r1 a 1 (r1 b1 1)) b1 2)) b1 3)) b1 4)) b1 5)) a 6 ((up2 (up2 (up2 (up2 (up2 r1 a 1 (r1 b1 1)) a 2 ((up2 r1 a 1 (r1 b1 1)) b1 2)) a 3 ((up2 (up2 r1 a 1 (r1 b1 1)) a 2 ((up2 r1 a 1 (r1 b1 1)) b1 2)) b1 3)) a 4 ((up2 (up2 (up2 r1 a 1 (r1 b1 1)) a 2 ((up2 r1 a 1 (r1 b1 1)) b1 2)) a 3 ((up2 (up2 r1 a 1 (r1 b1 1)) a 2 ((up2 r1 a 1 (r1 b1 1)) b1 2)) b1 3)) b1 4)) a 5 ((up2 (up2 (up2 (up2 r1 a 1 (r1 b1 1)) a 2 ((up2 r1 a 1 (r1 b1 1)) b1 2)) a 3 ((up2 (up2 r1 a 1 (r1 b1 1)) a 2 ((up2 r1 a 1 (r1 b1 1)) b1 2)) b1 3)) a 4 ((up2 (up2 (up2 r1 a 1 (r1 b1 1)) a 2 ((up2 r1 a 1 (r1 b1 1)) b1 2)) a 3 ((up2 (up2 r1 a 1 (r1 b1 1)) a 2 ((up2 r1 a 1 (r1 b1 1)) b1 2)) b1 3)) b1 4)) b1 5)) b1 6)) a 7 ((up2 (up2 (up2 (up2 (up2 (up2 r1 a 1 (r1 b1 1)) a 2 ((up2 r1 a 1 (r1 b1 1)) b1 2)) a 3 ((up2 (up2 r1 a 1 (r1 b1 1)) a 2 ((up2 r1 a 1 (r1 b1 1)) b1 2)) b1 3)) a 4 ((up2 (up2 (up2 r1 a 1 (r1 b1 1)) a 2 ((up2 r1 a 1 (r1 b1 1)) b1 2)) a 3 ((up2 (up2 r1 a 1 (r1 b1 1)) a 2 ((up2 r1 a 1 (r1 b1 1)) b1 2)) b1 3)) b1 4)) a 5 ((up2 (up2 (up2 (up2 r1 a 1 (r1 b1 1)) a 2 ((up2 r1 a 1 (r1 b1 1)) b1 2)) a 3 ((up2 (up2 r1 a 1 (r1 b1 1)) a 2 ((up2 r1 a 1 (r1 b1 1)) b1 2)) b1 3)) a 4 ((up2 (up2 (up2 r1 a 1 (r1 b1 1)) a 2 ((up2 r1 a 1 (r1 b1 1)) b1 2)) a 3 ((up2 (up2 r1 a 1 (r1 b1 1)) a 2 ((up2 r1 a 1 (r1 b1 1)) b1 2)) b1 3)) b1 4)) b1 5)) a 6 ((up2 (up2 (up2 (up2 (up2 r1 a 1 (r1 b1 1)) a 2 ((up2 r1 a 1 (r1 b1 1)) b1 2)) a 3 ((up2 (up2 r1 a 1 (r1 b1 1)) a 2 ((up2 r1 a 1 (r1 b1 1)) b1 2)) b1 3)) a 4 ((up2 (up2 (up2 r1 a 1 (r1 b1 1)) a 2 ((up2 r1 a 1 (r1 b1 1)) b1 2)) a 3 ((up2 (up2 r1 a 1 (r1 b1 1)) a 2 ((up2 r1 a 1 (r1 b1 1)) b1 2)) b1 3)) b1 4)) a 5 ((up2 (up2 (up2 (up2 r1 a 1 (r1 b1 1)) a 2 ((up2 r1 a 1 (r1 b1 1)) b1 2)) a 3 ((up2 (up2 r1 a 1 (r1 b1 1)) a 2 ((up2 r1 a 1 (r1 b1 1)) b1 2)) b1 3)) a 4 ((up2 (up2 (up2 r1 a 1 (r1 b1 1)) a 2 ((up2 r1 a 1 (r1 b1 1)) b1 2)) a 3 ((up2 (up2 r1 a 1 (r1 b1 1)) a 2 ((up2 r1 a 1 (r1 b1 1)) b1 2)) b1 3)) b1 4)) b1 5)) b1 6)) b1 7)) a 8 ((up2 (up2 (up2 (up2 (up2 (up2 (up2 r1 a 1 (r1 b1 1)) a 2 ((up2 r1 a 1 (r1 b1 1)) b1 2)) a 3 ((up2 (up2 r1 a 1 (r1 b1 1)) a 2 ((up2 r1 a 1 (r1 b1 1)) b1 2)) b1 3)) a 4 ((up2 (up2 (up2 r1 a 1 (r1 b1 1)) a 2 ((up2 r1 a 1 (r1 b1 1)) b1 2)) a 3 ((up2 (up2 r1 a 1 (r1 b1 1)) a 2 ((up2 r1 a 1 (r1 b1 1)) b1 2)) b1 3)) b1 4)) a 5 ((up2 (up2 (up2 (up2 r1 a 1 (r1 b1 1)) a 2 ((up2 r1 a 1 (r1 b1 1)) b1 2)) a 3 ((up2 (up2 r1 a 1 (r1 b1 1)) a 2 ((up2 r1 a 1 (r1 b1 1)) b1 2)) b1 3)) a 4 ((up2 (up2 (up2 r1 a 1 (r1 b1 1)) a 2 ((up2 r1 a 1 (r1 b1 1)) b1 2)) a 3 ((up2 (up2 r1 a 1 (r1 b1 1)) a 2 ((up2 r1 a 1 (r1 b1 1)) b1 2)) b1 3)) b1 4)) b1 5)) a 6 ((up2 (up2 (up2 (up2 (up2 r1 a 1 (r1 b1 1)) a 2 ((up2 r1 a 1 (r1 b1 1)) b1 2)) a 3 ((up2 (up2 r1 a 1 (r1 b1 1)) a 2 ((up2 r1 a 1 (r1 b1 1)) b1 2)) b1 3)) a 4 ((up2 (up2 (up2 r1 a 1 (r1 b1 1)) a 2 ((up2 r1 a 1 (r1 b1 1)) b1 2)) a 3 ((up2 (up2 r1 a 1 (r1 b1 1)) a 2 ((up2 r1 a 1 (r1 b1 1)) b1 2)) b1 3)) b1 4)) a 5 ((up2 (up2 (up2 (up2 r1 a 1 (r1 b1 1)) a 2 ((up2 r1 a 1 (r1 b1 1)) b1 2)) a 3 ((up2 (up2 r1 a 1 (r1 b1 1)) a 2 ((up2 r1 a 1 (r1 b1 1)) b1 2)) b1 3)) a 4 ((up2 (up2 (up2 r1 a 1 (r1 b1 1)) a 2 ((up2 r1 a 1 (r1 b1 1)) b1 2)) a 3 ((up2 (up2 r1 a 1 (r1 b1 1)) a 2 ((up2 r1 a 1 (r1 b1 1)) b1 2)) b1 3)) b1 4)) b1 5)) b1 6)) a 7 ((up2 (up2 (up2 (up2 (up2 (up2 r1 a 1 (r1 b1 1)) a 2 ((up2 r1 a 1 (r1 b1 1)) b1 2)) a 3 ((up2 (up2 r1 a 1 (r1 b1 1)) a 2 ((up2 r1 a 1 (r1 b1 1)) b1 2)) b1 3)) a 4 ((up2 (up2 (up2 r1 a 1 (r1 b1 1)) a 2 ((up2 r1 a 1 (r1 b1 1)) b1 2)) a 3 ((up2 (up2 r1 a 1 (r1 b1 1)) a 2 ((up2 r1 a 1 (r1 b1 1)) b1 2)) b1 3)) b1 4)) a 5 ((up2 (up2 (up2 (up2 r1 a 1 (r1 b1 1)) a 2 ((up2 r1 a 1 (r1 b1 1)) b1 2)) a 3 ((up2 (up2 r1 a 1 (r1 b1 1)) a 2 ((up2 r1 a 1 (r1 b1 1)) b1 2)) b1 3)) a 4 ((up2 (up2 (up2 r1 a 1 (r1 b1 1)) a 2 ((up2 r1 a 1 (r1 b1 1)) b1 2)) a 3 ((up2 (up2 r1 a 1 (r1 b1 1)) a 2 ((up2 r1 a 1 (r1 b1 1)) b1 2)) b1 3)) b1 4)) b1 5)) a 6 ((up2 (up2 (up2 (up2 (up2 r1 a 1 (r1 b1 1)) a 2 ((up2 r1 a 1 (r1 b1 1)) b1 2)) a 3 ((up2 (up2 r1 a 1 (r1 b1 1)) a 2 ((up2 r1 a 1 (r1 b1 1)) b1 2)) b1 3)) a 4 ((up2 (up2 (up2 r1 a 1 (r1 b1 1)) a 2 ((up2 r1 a 1 (r1 b1 1)) b1 2)) a 3 ((up2 (up2 r1 a 1 (r1 b1 1)) a 2 ((up2 r1 a 1 (r1 b1 1)) b1 2)) b1 3)) b1 4)) a 5 ((up2 (up2 (up2 (up2 r1 a 1 (r1 b1 1)) a 2 ((up2 r1 a 1 (r1 b1 1)) b1 2)) a 3 ((up2 (up2 r1 a 1 (r1 b1 1)) a 2 ((up2 r1 a 1 (r1 b1 1)) b1 2)) b1 3)) a 4 ((up2 (up2 (up2 r1 a 1 (r1 b1 1)) a 2 ((up2 r1 a 1 (r1 b1 1)) b1 2)) a 3 ((up2 (up2 r1 a 1 (r1 b1 1)) a 2 ((up2 r1 a 1 (r1 b1 1)) b1 2)) b1 3)) b1 4)) b1 5)) b1 6)) b1 7)) b1 8)) b1 9)) a 10 ((up2 (up2 (up2 (up2 (up2 (up2 (up2 (up2 (up2 r1 a 1 (r1 b1 1)) a 2 ((up2 r1 a 1 (r1 b1 1)) b1 2)) a 3 ((up2 (up2 r1 a 1 (r1 b1 1)) a 2 ((up2 r1 a 1 (r1 b1 1)) b1 2)) b1 3)) a 4 ((up2 (up2 (up2 r1 a 1 (r1 b1 1)) a 2 ((up2 r1 a 1 (r1 b1 1)) b1 2)) a 3 ((up2 (up2 r1 a 1 (r1 b1 1)) a 2 ((up2 r1 a 1 (r1 b1 1)) b1 2)) b1 3)) b1 4)) a 5 ((up2 (up2 (up2 (up2 r1 a 1 (r1 b1 1)) a 2 ((up2 r1 a 1 (r1 b1 1)) b1 2)) a 3 ((up2 (up2 r1 a 1 (r1 b1 1)) a 2 ((up2 r1 a 1 (r1 b1 1)) b1 2)) b1 3)) a 4 ((up2 (up2 (up2 r1 a 1 (r1 b1 1)) a 2 ((up2 r1 a 1 (r1 b1 1)) b1 2)) a 3 ((up2 (up2 r1 a 1 (r1 b1 1)) a 2 ((up2 r1 a 1 (r1 b1 1)) b1 2)) b1 3)) b1 4)) b1 5)) a 6 ((up2 (up2 (up2 (up2 (up2 r1 a 1 (r1 b1 1)) a 2 ((up2 r1 a 1 (r1 b1 1)) b1 2)) a 3 ((up2 (up2 r1 a 1 (r1 b1 1)) a 2 ((up2 r1 a 1 (r1 b1 1)) b1 2)) b1 3)) a 4 ((up2 (up2 (up2 r1 a 1 (r1 b1 1)) a 2 ((up2 r1 a 1 (r1 b1 1)) b1 2)) a 3 ((up2 (up2 r1 a 1 (r1 b1 1)) a 2 ((up2 r1 a 1 (r1 b1 1)) b1 2)) b1 3)) b1 4)) a 5 ((up2 (up2 (up2 (up2 r1 a 1 (r1 b1 1)) a 2 ((up2 r1 a 1 (r1 b1 1)) b1 2)) a 3 ((up2 (up2 r1 a 1 (r1 b1 1)) a 2 ((up2 r1 a 1 (r1 b1 1)) b1 2)) b1 3)) a 4 ((up2 (up2 (up2 r1 a 1 (r1 b1 1)) a 2 ((up2 r1 a 1 (r1 b1 1)) b1 2)) a 3 ((up2 (up2 r1 a 1 (r1 b1 1)) a 2 ((up2 r1 a 1 (r1 b1 1)) b1 2)) b1 3)) b1 4)) b1 5)) b1 6)) a 7 ((up2 (up2 (up2 (up2 (up2 (up2 r1 a 1 (r1 b1 1)) a 2 ((up2 r1 a 1 (r1 b1 1)) b1 2)) a 3 ((up2 (up2 r1 a 1 (r1 b1 1)) a 2 ((up2 r1 a 1 (r1 b1 1)) b1 2)) b1 3)) a 4 ((up2 (up2 (up2 r1 a 1 (r1 b1 1)) a 2 ((up2 r1 a 1 (r1 b1 1)) b1 2)) a 3 ((up2 (up2 r1 a 1 (r1 b1 1)) a 2 ((up2 r1 a 1 (r1 b1 1)) b1 2)) b1 3)) b1 4)) a 5 ((up2 (up2 (up2 (up2 r1 a 1 (r1 b1 1)) a 2 ((up2 r1 a 1 (r1 b1 1)) b1 2)) a 3 ((up2 (up2 r1 a 1 (r1 b1 1)) a 2 ((up2 r1 a 1 (r1 b1 1)) b1 2)) b1 3)) a 4 ((up2 (up2 (up2 r1 a 1 (r1 b1 1)) a 2 ((up2 r1 a 1 (r1 b1 1)) b1 2)) a 3 ((up2 (up2 r1 a 1 (r1 b1 1)) a 2 ((up2 r1 a 1 (r1 b1 1)) b1 2)) b1 3)) b1 4)) b1 5)) a 6 ((up2 (up2 (up2 (up2 (up2 r1 a 1 (r1 b1 1)) a 2 ((up2 r1 a 1 (r1 b1 1)) b1 2)) a 3 ((up2 (up2 r1 a 1 (r1 b1 1)) a 2 ((up2 r1 a 1 (r1 b1 1)) b1 2)) b1 3)) a 4 ((up2 (up2 (up2 r1 a 1 (r1 b1 1)) a 2 ((up2 r1 a 1 (r1 b1 1)) b1 2)) a 3 ((up2 (up2 r1 a 1 (r1 b1 1)) a 2 ((up2 r1 a 1 (r1 b1 1)) b1 2)) b1 3)) b1 4)) a 5 ((up2 (up2 (up2 (up2 r1 a 1 (r1 b1 1)) a 2 ((up2 r1 a 1 (r1 b1 1)) b1 2)) a 3 ((up2 (up2 r1 a 1 (r1 b1 1)) a 2 ((up2 r1 a 1 (r1 b1 1)) b1 2)) b1 3)) a 4 ((up2 (up2 (up2 r1 a 1 (r1 b1 1)) a 2 ((up2 r1 a 1 (r1 b1 1)) b1 2)) a 3 ((up2 (up2 r1 a 1 (r1 b1 1)) a 2 ((up2 r1 a 1 (r1 b1 1)) b1 2)) b1 3)) b1 4)) b1 5)) b1 6)) b1 7)) a 8 ((up2 (up2 (up2 (up2 (up2 (up2 (up2 r1 a 1 (r1 b1 1)) a 2 ((up2 r1 a 1 (r1 b1 1)) b1 2)) a 3 ((up2 (up2 r1 a 1 (r1 b1 1)) a 2 ((up2 r1 a 1 (r1 b1 1)) b1 2)) b1 3)) a 4 ((up2 (up2 (up2 r1 a 1 (r1 b1 1)) a 2 ((up2 r1 a 1 (r1 b1 1)) b1 2)) a 3 ((up2 (up2 r1 a 1 (r1 b1 1)) a 2 ((up2 r1 a 1 (r1 b1 1)) b1 2)) b1 3)) b1 4)) a 5 ((up2 (up2 (up2 (up2 r1 a 1 (r1 b1 1)) a 2 ((up2 r1 a 1 (r1 b1 1)) b1 2)) a 3 ((up2 (up2 r1 a 1 (r1 b1 1)) a 2 ((up2 r1 a 1 (r1 b1 1)) b1 2)) b1 3)) a 4 ((up2 (up2 (up2 r1 a 1 (r1 b1 1)) a 2 ((up2 r1 a 1 (r1 b1 1)) b1 2)) a 3 ((up2 (up2 r1 a 1 (r1 b1 1)) a 2 ((up2 r1 a 1 (r1 b1 1)) b1 2)) b1 3)) b1 4)) b1 5)) a 6 ((up2 (up2 (up2 (up2 (up2 r1 a 1 (r1 b1 1)) a 2 ((up2 r1 a 1 (r1 b1 1)) b1 2)) a 3 ((up2 (up2 r1 a 1 (r1 b1 1)) a 2 ((up2 r1 a 1 (r1 b1 1)) b1 2)) b1 3)) a 4 ((up2 (up2 (up2 r1 a 1 (r1 b1 1)) a 2 ((up2 r1 a 1 (r1 b1 1)) b1 2)) a 3 ((up2 (up2 r1 a 1 (r1 b1 1)) a 2 ((up2 r1 a 1 (r1 b1 1)) b1 2)) b1 3)) b1 4)) a 5 ((up2 (up2 (up2 (up2 r1 a 1 (r1 b1 1)) a 2 ((up2 r1 a 1 (r1 b1 1)) b1 2)) a 3 ((up2 (up2 r1 a 1 (r1 b1 1)) a 2 ((up2 r1 a 1 (r1 b1 1)) b1 2)) b1 3)) a 4 ((up2 (up2 (up2 r1 a 1 (r1 b1 1)) a 2 ((up2 r1 a 1 (r1 b1 1)) b1 2)) a 3 ((up2 (up2 r1 a 1 (r1 b1 1)) a 2 ((up2 r1 a 1 (r1 b1 1)) b1 2)) b1 3)) b1 4)) b1 5)) b1 6)) a 7 ((up2 (up2 (up2 (up2 (up2 (up2 r1 a 1 (r1 b1 1)) a 2 ((up2 r1 a 1 (r1 b1 1)) b1 2)) a 3 ((up2 (up2 r1 a 1 (r1 b1 1)) a 2 ((up2 r1 a 1 (r1 b1 1)) b1 2)) b1 3)) a 4 ((up2 (up2 (up2 r1 a 1 (r1 b1 1)) a 2 ((up2 r1 a 1 (r1 b1 1)) b1 2)) a 3 ((up2 (up2 r1 a 1 (r1 b1 1)) a 2 ((up2 r1 a 1 (r1 b1 1)) b1 2)) b1 3)) b1 4)) a 5 ((up2 (up2 (up2 (up2 r1 a 1 (r1 b1 1)) a 2 ((up2 r1 a 1 (r1 b1 1)) b1 2)) a 3 ((up2 (up2 r1 a 1 (r1 b1 1)) a 2 ((up2 r1 a 1 (r1 b1 1)) b1 2)) b1 3)) a 4 ((up2 (up2 (up2 r1 a 1 (r1 b1 1)) a 2 ((up2 r1 a 1 (r1 b1 1)) b1 2)) a 3 ((up2 (up2 r1 a 1 (r1 b1 1)) a 2 ((up2 r1 a 1 (r1 b1 1)) b1 2)) b1 3)) b1 4)) b1 5)) a 6 ((up2 (up2 (up2 (up2 (up2 r1 a 1 (r1 b1 1)) a 2 ((up2 r1 a 1 (r1 b1 1)) b1 2)) a 3 ((up2 (up2 r1 a 1 (r1 b1 1)) a 2 ((up2 r1 a 1 (r1 b1 1)) b1 2)) b1 3)) a 4 ((up2 (up2 (up2 r1 a 1 (r1 b1 1)) a 2 ((up2 r1 a 1 (r1 b1 1)) b1 2)) a 3 ((up2 (up2 r1 a 1 (r1 b1 1)) a 2 ((up2 r1 a 1 (r1 b1 1)) b1 2)) b1 3)) b1 4)) a 5 ((up2 (up2 (up2 (up2 r1 a 1 (r1 b1 1)) a 2 ((up2 r1 a 1 (r1 b1 1)) b1 2)) a 3 ((up2 (up2 r1 a 1 (r1 b1 1)) a 2 ((up2 r1 a 1 (r1 b1 1)) b1 2)) b1 3)) a 4 ((up2 (up2 (up2 r1 a 1 (r1 b1 1)) a 2 ((up2 r1 a 1 (r1 b1 1)) b1 2)) a 3 ((up2 (up2 r1 a 1 (r1 b1 1)) a 2 ((up2 r1 a 1 (r1 b1 1)) b1 2)) b1 3)) b1 4)) b1 5)) b1 6)) b1 7)) b1 8)) a 9 ((up2 (up2 (up2 (up2 (up2 (up2 (up2 (up2 r1 a 1 (r1 b1 1)) a 2 ((up2 r1 a 1 (r1 b1 1)) b1 2)) a 3 ((up2 (up2 r1 a 1 (r1 b1 1)) a 2 ((up2 r1 a 1 (r1 b1 1)) b1 2)) b1 3)) a 4 ((up2 (up2 (up2 r1 a 1 (r1 b1 1)) a 2 ((up2 r1 a 1 (r1 b1 1)) b1 2)) a 3 ((up2 (up2 r1 a 1 (r1 b1 1)) a 2 ((up2 r1 a 1 (r1 b1 1)) b1 2)) b1 3)) b1 4)) a 5 ((up2 (up2 (up2 (up2 r1 a 1 (r1 b1 1)) a 2 ((up2 r1 a 1 (r1 b1 1)) b1 2)) a 3 ((up2 (up2 r1 a 1 (r1 b1 1)) a 2 ((up2 r1 a 1 (r1 b1 1)) b1 2)) b1 3)) a 4 ((up2 (up2 (up2 r1 a 1 (r1 b1 1)) a 2 ((up2 r1 a 1 (r1 b1 1)) b1 2)) a 3 ((up2 (up2 r1 a 1 (r1 b1 1)) a 2 ((up2 r1 a 1 (r1 b1 1)) b1 2)) b1 3)) b1 4)) b1 5)) a 6 ((up2 (up2 (up2 (up2 (up2 r1 a 1 (r1 b1 1)) a 2 ((up2 r1 a 1 (r1 b1 1)) b1 2)) a 3 ((up2 (up2 r1 a 1 (r1 b1 1)) a 2 ((up2 r1 a 1 (r1 b1 1)) b1 2)) b1 3)) a 4 ((up2 (up2 (up2 r1 a 1 (r1 b1 1)) a 2 ((up2 r1 a 1 (r1 b1 1)) b1 2)) a 3 ((up2 (up2 r1 a 1 (r1 b1 1)) a 2 ((up2 r1 a 1 (r1 b1 1)) b1 2)) b1 3)) b1 4)) a 5 ((up2 (up2 (up2 (up2 r1 a 1 (r1 b1 1)) a 2 ((up2 r1 a 1 (r1 b1 1)) b1 2)) a 3 ((up2 (up2 r1 a 1 (r1 b1 1)) a 2 ((up2 r1 a 1 (r1 b1 1)) b1 2)) b1 3)) a 4 ((up2 (up2 (up2 r1 a 1 (r1 b1 1)) a 2 ((up2 r1 a 1 (r1 b1 1)) b1 2)) a 3 ((up2 (up2 r1 a 1 (r1 b1 1)) a 2 ((up2 r1 a 1 (r1 b1 1)) b1 2)) b1 3)) b1 4)) b1 5)) b1 6)) a 7 ((up2 (up2 (up2 (up2 (up2 (up2 r1 a 1 (r1 b1 1)) a 2 ((up2 r1 a 1 (r1 b1 1)) b1 2)) a 3 ((up2 (up2 r1 a 1 (r1 b1 1)) a 2 ((up2 r1 a 1 (r1 b1 1)) b1 2)) b1 3)) a 4 ((up2 (up2 (up2 r1 a 1 (r1 b1 1)) a 2 ((up2 r1 a 1 (r1 b1 1)) b1 2)) a 3 ((up2 (up2 r1 a 1 (r1 b1 1)) a 2 ((up2 r1 a 1 (r1 b1 1)) b1 2)) b1 3)) b1 4)) a 5 ((up2 (up2 (up2 (up2 r1 a 1 (r1 b1 1)) a 2 ((up2 r1 a 1 (r1 b1 1)) b1 2)) a 3 ((up2 (up2 r1 a 1 (r1 b1 1)) a 2 ((up2 r1 a 1 (r1 b1 1)) b1 2)) b1 3)) a 4 ((up2 (up2 (up2 r1 a 1 (r1 b1 1)) a 2 ((up2 r1 a 1 (r1 b1 1)) b1 2)) a 3 ((up2 (up2 r1 a 1 (r1 b1 1)) a 2 ((up2 r1 a 1 (r1 b1 1)) b1 2)) b1 3)) b1 4)) b1 5)) a 6 ((up2 (up2 (up2 (up2 (up2 r1 a 1 (r1 b1 1)) a 2 ((up2 r1 a 1 (r1 b1 1)) b1 2)) a 3 ((up2 (up2 r1 a 1 (r1 b1 1)) a 2 ((up2 r1 a 1 (r1 b1 1)) b1 2)) b1 3)) a 4 ((up2 (up2 (up2 r1 a 1 (r1 b1 1)) a 2 ((up2 r1 a 1 (r1 b1 1)) b1 2)) a 3 ((up2 (up2 r1 a 1 (r1 b1 1)) a 2 ((up2 r1 a 1 (r1 b1 1)) b1 2)) b1 3)) b1 4)) a 5 ((up2 (up2 (up2 (up2 r1 a 1 (r1 b1 1)) a 2 ((up2 r1 a 1 (r1 b1 1)) b1 2)) a 3 ((up2 (up2 r1 a 1 (r1 b1 1)) a 2 ((up2 r1 a 1 (r1 b1 1)) b1 2)) b1 3)) a 4 ((up2 (up2 (up2 r1 a 1 (r1 b1 1)) a 2 ((up2 r1 a 1 (r1 b1 1)) b1 2)) a 3 ((up2 (up2 r1 a 1 (r1 b1 1)) a 2 ((up2 r1 a 1 (r1 b1 1)) b1 2)) b1 3)) b1 4)) b1 5)) b1 6)) b1 7)) a 8 ((up2 (up2 (up2 (up2 (up2 (up2 (up2 r1 a 1 (r1 b1 1)) a 2 ((up2 r1 a 1 (r1 b1 1)) b1 2)) a 3 ((up2 (up2 r1 a 1 (r1 b1 1)) a 2 ((up2 r1 a 1 (r1 b1 1)) b1 2)) b1 3)) a 4 ((up2 (up2 (up2 r1 a 1 (r1 b1 1)) a 2 ((up2 r1 a 1 (r1 b1 1)) b1 2)) a 3 ((up2 (up2 r1 a 1 (r1 b1 1)) a 2 ((up2 r1 a 1 (r1 b1 1)) b1 2)) b1 3)) b1 4)) a 5 ((up2 (up2 (up2 (up2 r1 a 1 (r1 b1 1)) a 2 ((up2 r1 a 1 (r1 b1 1)) b1 2)) a 3 ((up2 (up2 r1 a 1 (r1 b1 1)) a 2 ((up2 r1 a 1 (r1 b1 1)) b1 2)) b1 3)) a 4 ((up2 (up2 (up2 r1 a 1 (r1 b1 1)) a 2 ((up2 r1 a 1 (r1 b1 1)) b1 2)) a 3 ((up2 (up2 r1 a 1 (r1 b1 1)) a 2 ((up2 r1 a 1 (r1 b1 1)) b1 2)) b1 3)) b1 4)) b1 5)) a 6 ((up2 (up2 (up2 (up2 (up2 r1 a 1 (r1 b1 1)) a 2 ((up2 r1 a 1 (r1 b1 1)) b1 2)) a 3 ((up2 (up2 r1 a 1 (r1 b1 1)) a 2 ((up2 r1 a 1 (r1 b1 1)) b1 2)) b1 3)) a 4 ((up2 (up2 (up2 r1 a 1 (r1 b1 1)) a 2 ((up2 r1 a 1 (r1 b1 1)) b1 2)) a 3 ((up2 (up2 r1 a 1 (r1 b1 1)) a 2 ((up2 r1 a 1 (r1 b1 1)) b1 2)) b1 3)) b1 4)) a 5 ((up2 (up2 (up2 (up2 r1 a 1 (r1 b1 1)) a 2 ((up2 r1 a 1 (r1 b1 1)) b1 2)) a 3 ((up2 (up2 r1 a 1 (r1 b1 1)) a 2 ((up2 r1 a 1 (r1 b1 1)) b1 2)) b1 3)) a 4 ((up2 (up2 (up2 r1 a 1 (r1 b1 1)) a 2 ((up2 r1 a 1 (r1 b1 1)) b1 2)) a 3 ((up2 (up2 r1 a 1 (r1 b1 1)) a 2 ((up2 r1 a 1 (r1 b1 1)) b1 2)) b1 3)) b1 4)) b1 5)) b1 6)) a 7 ((up2 (up2 (up2 (up2 (up2 (up2 r1 a 1 (r1 b1 1)) a 2 ((up2 r1 a 1 (r1 b1 1)) b1 2)) a 3 ((up2 (up2 r1 a 1 (r1 b1 1)) a 2 ((up2 r1 a 1 (r1 b1 1)) b1 2)) b1 3)) a 4 ((up2 (up2 (up2 r1 a 1 (r1 b1 1)) a 2 ((up2 r1 a 1 (r1 b1 1)) b1 2)) a 3 ((up2 (up2 r1 a 1 (r1 b1 1)) a 2 ((up2 r1 a 1 (r1 b1 1)) b1 2)) b1 3)) b1 4)) a 5 ((up2 (up2 (up2 (up2 r1 a 1 (r1 b1 1)) a 2 ((up2 r1 a 1 (r1 b1 1)) b1 2)) a 3 ((up2 (up2 r1 a 1 (r1 b1 1)) a 2 ((up2 r1 a 1 (r1 b1 1)) b1 2)) b1 3)) a 4 ((up2 (up2 (up2 r1 a 1 (r1 b1 1)) a 2 ((up2 r1 a 1 (r1 b1 1)) b1 2)) a 3 ((up2 (up2 r1 a 1 (r1 b1 1)) a 2 ((up2 r1 a 1 (r1 b1 1)) b1 2)) b1 3)) b1 4)) b1 5)) a 6 ((up2 (up2 (up2 (up2 (up2 r1 a 1 (r1 b1 1)) a 2 ((up2 r1 a 1 (r1 b1 1)) b1 2)) a 3 ((up2 (up2 r1 a 1 (r1 b1 1)) a 2 ((up2 r1 a 1 (r1 b1 1)) b1 2)) b1 3)) a 4 ((up2 (up2 (up2 r1 a 1 (r1 b1 1)) a 2 ((up2 r1 a 1 (r1 b1 1)) b1 2)) a 3 ((up2 (up2 r1 a 1 (r1 b1 1)) a 2 ((up2 r1 a 1 (r1 b1 1)) b1 2)) b1 3)) b1 4)) a 5 ((up2 (up2 (up2 (up2 r1 a 1 (r1 b1 1)) a 2 ((up2 r1 a 1 (r1 b1 1)) b1 2)) a 3 ((up2 (up2 r1 a 1 (r1 b1 1)) a 2 ((up2 r1 a 1 (r1 b1 1)) b1 2)) b1 3)) a 4 ((up2 (up2 (up2 r1 a 1 (r1 b1 1)) a 2 ((up2 r1 a 1 (r1 b1 1)) b1 2)) a 3 ((up2 (up2 r1 a 1 (r1 b1 1)) a 2 ((up2 r1 a 1 (r1 b1 1)) b1 2)) b1 3)) b1 4)) b1 5)) b1 6)) b1 7)) b1 8)) b1 9)) b1 10)) a 11 ((up2 (up2 (up2 (up2 (up2 (up2 (up2 (up2 (up2 (up2 r1 a 1 (r1 b1 1)) a 2 ((up2 r1 a 1 (r1 b1 1)) b1 2)) a 3 ((up2 (up2 r1 a 1 (r1 b1 1)) a 2 ((up2 r1 a 1 (r1 b1 1)) b1 2)) b1 3)) a 4 ((up2 (up2 (up2 r1 a 1 (r1 b1 1)) a 2 ((up2 r1 a 1 (r1 b1 1)) b1 2)) a 3 ((up2 (up2 r1 a 1 (r1 b1 1)) a 2 ((up2 r1 a 1 (r1 b1 1)) b1 2)) b1 3)) b1 4)) a 5 ((up2 (up2 (up2 (up2 r1 a 1 (r1 b1 1)) a 2 ((up2 r1 a 1 (r1 b1 1)) b1 2)) a 3 ((up2 (up2 r1 a 1 (r1 b1 1)) a 2 ((up2 r1 a 1 (r1 b1 1)) b1 2)) b1 3)) a 4 ((up2 (up2 (up2 r1 a 1 (r1 b1 1)) a 2 ((up2 r1 a 1 (r1 b1 1)) b1 2)) a 3 ((up2 (up2 r1 a 1 (r1 b1 1)) a 2 ((up2 r1 a 1 (r1 b1 1)) b1 2)) b1 3)) b1 4)) b1 5)) a 6 ((up2 (up2 (up2 (up2 (up2 r1 a 1 (r1 b1 1)) a 2 ((up2 r1 a 1 (r1 b1 1)) b1 2)) a 3 ((up2 (up2 r1 a 1 (r1 b1 1)) a 2 ((up2 r1 a 1 (r1 b1 1)) b1 2)) b1 3)) a 4 ((up2 (up2 (up2 r1 a 1 (r1 b1 1)) a 2 ((up2 r1 a 1 (r1 b1 1)) b1 2)) a 3 ((up2 (up2 r1 a 1 (r1 b1 1)) a 2 ((up2 r1 a 1 (r1 b1 1)) b1 2)) b1 3)) b1 4)) a 5 ((up2 (up2 (up2 (up2 r1 a 1 (r1 b1 1)) a 2 ((up2 r1 a 1 (r1 b1 1)) b1 2)) a 3 ((up2 (up2 r1 a 1 (r1 b1 1)) a 2 ((up2 r1 a 1 (r1 b1 1)) b1 2)) b1 3)) a 4 ((up2 (up2 (up2 r1 a 1 (r1 b1 1)) a 2 ((up2 r1 a 1 (r1 b1 1)) b1 2)) a 3 ((up2 (up2 r1 a 1 (r1 b1 1)) a 2 ((up2 r1 a 1 (r1 b1 1)) b1 2)) b1 3)) b1 4)) b1 5)) b1 6)) a 7 ((up2 (up2 (up2 (up2 (up2 (up2 r1 a 1 (r1 b1 1)) a 2 ((up2 r1 a 1 (r1 b1 1)) b1 2)) a 3 ((up2 (up2 r1 a 1 (r1 b1 1)) a 2 ((up2 r1 a 1 (r1 b1 1)) b1 2)) b1 3)) a 4 ((up2 (up2 (up2 r1 a 1 (r1 b1 1)) a 2 ((up2 r1 a 1 (r1 b1 1)) b1 2)) a 3 ((up2 (up2 r1 a 1 (r1 b1 1)) a 2 ((up2 r1 a 1 (r1 b1 1)) b1 2)) b1 3)) b1 4)) a 5 ((up2 (up2 (up2 (up2 r1 a 1 (r1 b1 1)) a 2 ((up2 r1 a 1 (r1 b1 1)) b1 2)) a 3 ((up2 (up2 r1 a 1 (r1 b1 1)) a 2 ((up2 r1 a 1 (r1 b1 1)) b1 2)) b1 3)) a 4 ((up2 (up2 (up2 r1 a 1 (r1 b1 1)) a 2 ((up2 r1 a 1 (r1 b1 1)) b1 2)) a 3 ((up2 (up2 r1 a 1 (r1 b1 1)) a 2 ((up2 r1 a 1 (r1 b1 1)) b1 2)) b1 3)) b1 4)) b1 5)) a 6 ((up2 (up2 (up2 (up2 (up2 r1 a 1 (r1 b1 1)) a 2 ((up2 r1 a 1 (r1 b1 1)) b1 2)) a 3 ((up2 (up2 r1 a 1 (r1 b1 1)) a 2 ((up2 r1 a 1 (r1 b1 1)) b1 2)) b1 3)) a 4 ((up2 (up2 (up2 r1 a 1 (r1 b1 1)) a 2 ((up2 r1 a 1 (r1 b1 1)) b1 2)) a 3 ((up2 (up2 r1 a 1 (r1 b1 1)) a 2 ((up2 r1 a 1 (r1 b1 1)) b1 2)) b1 3)) b1 4)) a 5 ((up2 (up2 (up2 (up2 r1 a 1 (r1 b1 1)) a 2 ((up2 r1 a 1 (r1 b1 1)) b1 2)) a 3 ((up2 (up2 r1 a 1 (r1 b1 1)) a 2 ((up2 r1 a 1 (r1 b1 1)) b1 2)) b1 3)) a 4 ((up2 (up2 (up2 r1 a 1 (r1 b1 1)) a 2 ((up2 r1 a 1 (r1 b1 1)) b1 2)) a 3 ((up2 (up2 r1 a 1 (r1 b1 1)) a 2 ((up2 r1 a 1 (r1 b1 1)) b1 2)) b1 3)) b1 4)) b1 5)) b1 6)) b1 7)) a 8 ((up2 (up2 (up2 (up2 (up2 (up2 (up2 r1 a 1 (r1 b1 1)) a 2 ((up2 r1 a 1 (r1 b1 1)) b1 2)) a 3 ((up2 (up2 r1 a 1 (r1 b1 1)) a 2 ((up2 r1 a 1 (r1 b1 1)) b1 2)) b1 3)) a 4 ((up2 (up2 (up2 r1 a 1 (r1 b1 1)) a 2 ((up2 r1 a 1 (r1 b1 1)) b1 2)) a 3 ((up2 (up2 r1 a 1 (r1 b1 1)) a 2 ((up2 r1 a 1 (r1 b1 1)) b1 2)) b1 3)) b1 4)) a 5 ((up2 (up2 (up2 (up2 r1 a 1 (r1 b1 1)) a 2 ((up2 r1 a 1 (r1 b1 1)) b1 2)) a 3 ((up2 (up2 r1 a 1 (r1 b1 1)) a 2 ((up2 r1 a 1 (r1 b1 1)) b1 2)) b1 3)) a 4 ((up2 (up2 (up2 r1 a 1 (r1 b1 1)) a 2 ((up2 r1 a 1 (r1 b1 1)) b1 2)) a 3 ((up2 (up2 r1 a 1 (r1 b1 1)) a 2 ((up2 r1 a 1 (r1 b1 1)) b1 2)) b1 3)) b1 4)) b1 5)) a 6 ((up2 (up2 (up2 (up2 (up2 r1 a 1 (r1 b1 1)) a 2 ((up2 r1 a 1 (r1 b1 1)) b1 2)) a 3 ((up2 (up2 r1 a 1 (r1 b1 1)) a 2 ((up2 r1 a 1 (r1 b1 1)) b1 2)) b1 3)) a 4 ((up2 (up2 (up2 r1 a 1 (r1 b1 1)) a 2 ((up2 r1 a 1 (r1 b1 1)) b1 2)) a 3 ((up2 (up2 r1 a 1 (r1 b1 1)) a 2 ((up2 r1 a 1 (r1 b1 1)) b1 2)) b1 3)) b1 4)) a 5 ((up2 (up2 (up2 (up2 r1 a 1 (r1 b1 1)) a 2 ((up2 r1 a 1 (r1 b1 1)) b1 2)) a 3 ((up2 (up2 r1 a 1 (r1 b1 1)) a 2 ((up2 r1 a 1 (r1 b1 1)) b1 2)) b1 3)) a 4 ((up2 (up2 (up2 r1 a 1 (r1 b1 1)) a 2 ((up2 r1 a 1 (r1 b1 1)) b1 2)) a 3 ((up2 (up2 r1 a 1 (r1 b1 1)) a 2 ((up2 r1 a 1 (r1 b1 1)) b1 2)) b1 3)) b1 4)) b1 5)) b1 6)) a 7 ((up2 (up2 (up2 (up2 (up2 (up2 r1 a 1 (r1 b1 1)) a 2 ((up2 r1 a 1 (r1 b1 1)) b1 2)) a 3 ((up2 (up2 r1 a 1 (r1 b1 1)) a 2 ((up2 r1 a 1 (r1 b1 1)) b1 2)) b1 3)) a 4 ((up2 (up2 (up2 r1 a 1 (r1 b1 1)) a 2 ((up2 r1 a 1 (r1 b1 1)) b1 2)) a 3 ((up2 (up2 r1 a 1 (r1 b1 1)) a 2 ((up2 r1 a 1 (r1 b1 1)) b1 2)) b1 3)) b1 4)) a 5 ((up2 (up2 (up2 (up2 r1 a 1 (r1 b1 1)) a 2 ((up2 r1 a 1 (r1 b1 1)) b1 2)) a 3 ((up2 (up2 r1 a 1 (r1 b1 1)) a 2 ((up2 r1 a 1 (r1 b1 1)) b1 2)) b1 3)) a 4 ((up2 (up2 (up2 r1 a 1 (r1 b1 1)) a 2 ((up2 r1 a 1 (r1 b1 1)) b1 2)) a 3 ((up2 (up2 r1 a 1 (r1 b1 1)) a 2 ((up2 r1 a 1 (r1 b1 1)) b1 2)) b1 3)) b1 4)) b1 5)) a 6 ((up2 (up2 (up2 (up2 (up2 r1 a 1 (r1 b1 1)) a 2 ((up2 r1 a 1 (r1 b1 1)) b1 2)) a 3 ((up2 (up2 r1 a 1 (r1 b1 1)) a 2 ((up2 r1 a 1 (r1 b1 1)) b1 2)) b1 3)) a 4 ((up2 (up2 (up2 r1 a 1 (r1 b1 1)) a 2 ((up2 r1 a 1 (r1 b1 1)) b1 2)) a 3 ((up2 (up2 r1 a 1 (r1 b1 1)) a 2 ((up2 r1 a 1 (r1 b1 1)) b1 2)) b1 3)) b1 4)) a 5 ((up2 (up2 (up2 (up2 r1 a 1 (r1 b1 1)) a 2 ((up2 r1 a 1 (r1 b1 1)) b1 2)) a 3 ((up2 (up2 r1 a 1 (r1 b1 1)) a 2 ((up2 r1 a 1 (r1 b1 1)) b1 2)) b1 3)) a 4 ((up2 (up2 (up2 r1 a 1 (r1 b1 1)) a 2 ((up2 r1 a 1 (r1 b1 1)) b1 2)) a 3 ((up2 (up2 r1 a 1 (r1 b1 1)) a 2 ((up2 r1 a 1 (r1 b1 1)) b1 2)) b1 3)) b1 4)) b1 5)) b1 6)) b1 7)) b1 8)) a 9 ((up2 (up2 (up2 (up2 (up2 (up2 (up2 (up2 r1 a 1 (r1 b1 1)) a 2 ((up2 r1 a 1 (r1 b1 1)) b1 2)) a 3 ((up2 (up2 r1 a 1 (r1 b1 1)) a 2 ((up2 r1 a 1 (r1 b1 1)) b1 2)) b1 3)) a 4 ((up2 (up2 (up2 r1 a 1 (r1 b1 1)) a 2 ((up2 r1 a 1 (r1 b1 1)) b1 2)) a 3 ((up2 (up2 r1 a 1 (r1 b1 1)) a 2 ((up2 r1 a 1 (r1 b1 1)) b1 2)) b1 3)) b1 4)) a 5 ((up2 (up2 (up2 (up2 r1 a 1 (r1 b1 1)) a 2 ((up2 r1 a 1 (r1 b1 1)) b1 2)) a 3 ((up2 (up2 r1 a 1 (r1 b1 1)) a 2 ((up2 r1 a 1 (r1 b1 1)) b1 2)) b1 3)) a 4 ((up2 (up2 (up2 r1 a 1 (r1 b1 1)) a 2 ((up2 r1 a 1 (r1 b1 1)) b1 2)) a 3 ((up2 (up2 r1 a 1 (r1 b1 1)) a 2 ((up2 r1 a 1 (r1 b1 1)) b1 2)) b1 3)) b1 4)) b1 5)) a 6 ((up2 (up2 (up2 (up2 (up2 r1 a 1 (r1 b1 1)) a 2 ((up2 r1 a 1 (r1 b1 1)) b1 2)) a 3 ((up2 (up2 r1 a 1 (r1 b1 1)) a 2 ((up2 r1 a 1 (r1 b1 1)) b1 2)) b1 3)) a 4 ((up2 (up2 (up2 r1 a 1 (r1 b1 1)) a 2 ((up2 r1 a 1 (r1 b1 1)) b1 2)) a 3 ((up2 (up2 r1 a 1 (r1 b1 1)) a 2 ((up2 r1 a 1 (r1 b1 1)) b1 2)) b1 3)) b1 4)) a 5 ((up2 (up2 (up2 (up2 r1 a 1 (r1 b1 1)) a 2 ((up2 r1 a 1 (r1 b1 1)) b1 2)) a 3 ((up2 (up2 r1 a 1 (r1 b1 1)) a 2 ((up2 r1 a 1 (r1 b1 1)) b1 2)) b1 3)) a 4 ((up2 (up2 (up2 r1 a 1 (r1 b1 1)) a 2 ((up2 r1 a 1 (r1 b1 1)) b1 2)) a 3 ((up2 (up2 r1 a 1 (r1 b1 1)) a 2 ((up2 r1 a 1 (r1 b1 1)) b1 2)) b1 3)) b1 4)) b1 5)) b1 6)) a 7 ((up2 (up2 (up2 (up2 (up2 (up2 r1 a 1 (r1 b1 1)) a 2 ((up2 r1 a 1 (r1 b1 1)) b1 2)) a 3 ((up2 (up2 r1 a 1 (r1 b1 1)) a 2 ((up2 r1 a 1 (r1 b1 1)) b1 2)) b1 3)) a 4 ((up2 (up2 (up2 r1 a 1 (r1 b1 1)) a 2 ((up2 r1 a 1 (r1 b1 1)) b1 2)) a 3 ((up2 (up2 r1 a 1 (r1 b1 1)) a 2 ((up2 r1 a 1 (r1 b1 1)) b1 2)) b1 3)) b1 4)) a 5 ((up2 (up2 (up2 (up2 r1 a 1 (r1 b1 1)) a 2 ((up2 r1 a 1 (r1 b1 1)) b1 2)) a 3 ((up2 (up2 r1 a 1 (r1 b1 1)) a 2 ((up2 r1 a 1 (r1 b1 1)) b1 2)) b1 3)) a 4 ((up2 (up2 (up2 r1 a 1 (r1 b1 1)) a 2 ((up2 r1 a 1 (r1 b1 1)) b1 2)) a 3 ((up2 (up2 r1 a 1 (r1 b1 1)) a 2 ((up2 r1 a 1 (r1 b1 1)) b1 2)) b1 3)) b1 4)) b1 5)) a 6 ((up2 (up2 (up2 (up2 (up2 r1 a 1 (r1 b1 1)) a 2 ((up2 r1 a 1 (r1 b1 1)) b1 2)) a 3 ((up2 (up2 r1 a 1 (r1 b1 1)) a 2 ((up2 r1 a 1 (r1 b1 1)) b1 2)) b1 3)) a 4 ((up2 (up2 (up2 r1 a 1 (r1 b1 1)) a 2 ((up2 r1 a 1 (r1 b1 1)) b1 2)) a 3 ((up2 (up2 r1 a 1 (r1 b1 1)) a 2 ((up2 r1 a 1 (r1 b1 1)) b1 2)) b1 3)) b1 4)) a 5 ((up2 (up2 (up2 (up2 r1 a 1 (r1 b1 1)) a 2 ((up2 r1 a 1 (r1 b1 1)) b1 2)) a 3 ((up2 (up2 r1 a 1 (r1 b1 1)) a 2 ((up2 r1 a 1 (r1 b1 1)) b1 2)) b1 3)) a 4 ((up2 (up2 (up2 r1 a 1 (r1 b1 1)) a 2 ((up2 r1 a 1 (r1 b1 1)) b1 2)) a 3 ((up2 (up2 r1 a 1 (r1 b1 1)) a 2 ((up2 r1 a 1 (r1 b1 1)) b1 2)) b1 3)) b1 4)) b1 5)) b1 6)) b1 7)) a 8 ((up2 (up2 (up2 (up2 (up2 (up2 (up2 r1 a 1 (r1 b1 1)) a 2 ((up2 r1 a 1 (r1 b1 1)) b1 2)) a 3 ((up2 (up2 r1 a 1 (r1 b1 1)) a 2 ((up2 r1 a 1 (r1 b1 1)) b1 2)) b1 3)) a 4 ((up2 (up2 (up2 r1 a 1 (r1 b1 1)) a 2 ((up2 r1 a 1 (r1 b1 1)) b1 2)) a 3 ((up2 (up2 r1 a 1 (r1 b1 1)) a 2 ((up2 r1 a 1 (r1 b1 1)) b1 2)) b1 3)) b1 4)) a 5 ((up2 (up2 (up2 (up2 r1 a 1 (r1 b1 1)) a 2 ((up2 r1 a 1 (r1 b1 1)) b1 2)) a 3 ((up2 (up2 r1 a 1 (r1 b1 1)) a 2 ((up2 r1 a 1 (r1 b1 1)) b1 2)) b1 3)) a 4 ((up2 (up2 (up2 r1 a 1 (r1 b1 1)) a 2 ((up2 r1 a 1 (r1 b1 1)) b1 2)) a 3 ((up2 (up2 r1 a 1 (r1 b1 1)) a 2 ((up2 r1 a 1 (r1 b1 1)) b1 2)) b1 3)) b1 4)) b1 5)) a 6 ((up2 (up2 (up2 (up2 (up2 r1 a 1 (r1 b1 1)) a 2 ((up2 r1 a 1 (r1 b1 1)) b1 2)) a 3 ((up2 (up2 r1 a 1 (r1 b1 1)) a 2 ((up2 r1 a 1 (r1 b1 1)) b1 2)) b1 3)) a 4 ((up2 (up2 (up2 r1 a 1 (r1 b1 1)) a 2 ((up2 r1 a 1 (r1 b1 1)) b1 2)) a 3 ((up2 (up2 r1 a 1 (r1 b1 1)) a 2 ((up2 r1 a 1 (r1 b1 1)) b1 2)) b1 3)) b1 4)) a 5 ((up2 (up2 (up2 (up2 r1 a 1 (r1 b1 1)) a 2 ((up2 r1 a 1 (r1 b1 1)) b1 2)) a 3 ((up2 (up2 r1 a 1 (r1 b1 1)) a 2 ((up2 r1 a 1 (r1 b1 1)) b1 2)) b1 3)) a 4 ((up2 (up2 (up2 r1 a 1 (r1 b1 1)) a 2 ((up2 r1 a 1 (r1 b1 1)) b1 2)) a 3 ((up2 (up2 r1 a 1 (r1 b1 1)) a 2 ((up2 r1 a 1 (r1 b1 1)) b1 2)) b1 3)) b1 4)) b1 5)) b1 6)) a 7 ((up2 (up2 (up2 (up2 (up2 (up2 r1 a 1 (r1 b1 1)) a 2 ((up2 r1 a 1 (r1 b1 1)) b1 2)) a 3 ((up2 (up2 r1 a 1 (r1 b1 1)) a 2 ((up2 r1 a 1 (r1 b1 1)) b1 2)) b1 3)) a 4 ((up2 (up2 (up2 r1 a 1 (r1 b1 1)) a 2 ((up2 r1 a 1 (r1 b1 1)) b1 2)) a 3 ((up2 (up2 r1 a 1 (r1 b1 1)) a 2 ((up2 r1 a 1 (r1 b1 1)) b1 2)) b1 3)) b1 4)) a 5 ((up2 (up2 (up2 (up2 r1 a 1 (r1 b1 1)) a 2 ((up2 r1 a 1 (r1 b1 1)) b1 2)) a 3 ((up2 (up2 r1 a 1 (r1 b1 1)) a 2 ((up2 r1 a 1 (r1 b1 1)) b1 2)) b1 3)) a 4 ((up2 (up2 (up2 r1 a 1 (r1 b1 1)) a 2 ((up2 r1 a 1 (r1 b1 1)) b1 2)) a 3 ((up2 (up2 r1 a 1 (r1 b1 1)) a 2 ((up2 r1 a 1 (r1 b1 1)) b1 2)) b1 3)) b1 4)) b1 5)) a 6 ((up2 (up2 (up2 (up2 (up2 r1 a 1 (r1 b1 1)) a 2 ((up2 r1 a 1 (r1 b1 1)) b1 2)) a 3 ((up2 (up2 r1 a 1 (r1 b1 1)) a 2 ((up2 r1 a 1 (r1 b1 1)) b1 2)) b1 3)) a 4 ((up2 (up2 (up2 r1 a 1 (r1 b1 1)) a 2 ((up2 r1 a 1 (r1 b1 1)) b1 2)) a 3 ((up2 (up2 r1 a 1 (r1 b1 1)) a 2 ((up2 r1 a 1 (r1 b1 1)) b1 2)) b1 3)) b1 4)) a 5 ((up2 (up2 (up2 (up2 r1 a 1 (r1 b1 1)) a 2 ((up2 r1 a 1 (r1 b1 1)) b1 2)) a 3 ((up2 (up2 r1 a 1 (r1 b1 1)) a 2 ((up2 r1 a 1 (r1 b1 1)) b1 2)) b1 3)) a 4 ((up2 (up2 (up2 r1 a 1 (r1 b1 1)) a 2 ((up2 r1 a 1 (r1 b1 1)) b1 2)) a 3 ((up2 (up2 r1 a 1 (r1 b1 1)) a 2 ((up2 r1 a 1 (r1 b1 1)) b1 2)) b1 3)) b1 4)) b1 5)) b1 6)) b1 7)) b1 8)) b1 9)) a 10 ((up2 (up2 (up2 (up2 (up2 (up2 (up2 (up2 (up2 r1 a 1 (r1 b1 1)) a 2 ((up2 r1 a 1 (r1 b1 1)) b1 2)) a 3 ((up2 (up2 r1 a 1 (r1 b1 1)) a 2 ((up2 r1 a 1 (r1 b1 1)) b1 2)) b1 3)) a 4 ((up2 (up2 (up2 r1 a 1 (r1 b1 1)) a 2 ((up2 r1 a 1 (r1 b1 1)) b1 2)) a 3 ((up2 (up2 r1 a 1 (r1 b1 1)) a 2 ((up2 r1 a 1 (r1 b1 1)) b1 2)) b1 3)) b1 4)) a 5 ((up2 (up2 (up2 (up2 r1 a 1 (r1 b1 1)) a 2 ((up2 r1 a 1 (r1 b1 1)) b1 2)) a 3 ((up2 (up2 r1 a 1 (r1 b1 1)) a 2 ((up2 r1 a 1 (r1 b1 1)) b1 2)) b1 3)) a 4 ((up2 (up2 (up2 r1 a 1 (r1 b1 1)) a 2 ((up2 r1 a 1 (r1 b1 1)) b1 2)) a 3 ((up2 (up2 r1 a 1 (r1 b1 1)) a 2 ((up2 r1 a 1 (r1 b1 1)) b1 2)) b1 3)) b1 4)) b1 5)) a 6 ((up2 (up2 (up2 (up2 (up2 r1 a 1 (r1 b1 1)) a 2 ((up2 r1 a 1 (r1 b1 1)) b1 2)) a 3 ((up2 (up2 r1 a 1 (r1 b1 1)) a 2 ((up2 r1 a 1 (r1 b1 1)) b1 2)) b1 3)) a 4 ((up2 (up2 (up2 r1 a 1 (r1 b1 1)) a 2 ((up2 r1 a 1 (r1 b1 1)) b1 2)) a 3 ((up2 (up2 r1 a 1 (r1 b1 1)) a 2 ((up2 r1 a 1 (r1 b1 1)) b1 2)) b1 3)) b1 4)) a 5 ((up2 (up2 (up2 (up2 r1 a 1 (r1 b1 1)) a 2 ((up2 r1 a 1 (r1 b1 1)) b1 2)) a 3 ((up2 (up2 r1 a 1 (r1 b1 1)) a 2 ((up2 r1 a 1 (r1 b1 1)) b1 2)) b1 3)) a 4 ((up2 (up2 (up2 r1 a 1 (r1 b1 1)) a 2 ((up2 r1 a 1 (r1 b1 1)) b1 2)) a 3 ((up2 (up2 r1 a 1 (r1 b1 1)) a 2 ((up2 r1 a 1 (r1 b1 1)) b1 2)) b1 3)) b1 4)) b1 5)) b1 6)) a 7 ((up2 (up2 (up2 (up2 (up2 (up2 r1 a 1 (r1 b1 1)) a 2 ((up2 r1 a 1 (r1 b1 1)) b1 2)) a 3 ((up2 (up2 r1 a 1 (r1 b1 1)) a 2 ((up2 r1 a 1 (r1 b1 1)) b1 2)) b1 3)) a 4 ((up2 (up2 (up2 r1 a 1 (r1 b1 1)) a 2 ((up2 r1 a 1 (r1 b1 1)) b1 2)) a 3 ((up2 (up2 r1 a 1 (r1 b1 1)) a 2 ((up2 r1 a 1 (r1 b1 1)) b1 2)) b1 3)) b1 4)) a 5 ((up2 (up2 (up2 (up2 r1 a 1 (r1 b1 1)) a 2 ((up2 r1 a 1 (r1 b1 1)) b1 2)) a 3 ((up2 (up2 r1 a 1 (r1 b1 1)) a 2 ((up2 r1 a 1 (r1 b1 1)) b1 2)) b1 3)) a 4 ((up2 (up2 (up2 r1 a 1 (r1 b1 1)) a 2 ((up2 r1 a 1 (r1 b1 1)) b1 2)) a 3 ((up2 (up2 r1 a 1 (r1 b1 1)) a 2 ((up2 r1 a 1 (r1 b1 1)) b1 2)) b1 3)) b1 4)) b1 5)) a 6 ((up2 (up2 (up2 (up2 (up2 r1 a 1 (r1 b1 1)) a 2 ((up2 r1 a 1 (r1 b1 1)) b1 2)) a 3 ((up2 (up2 r1 a 1 (r1 b1 1)) a 2 ((up2 r1 a 1 (r1 b1 1)) b1 2)) b1 3)) a 4 ((up2 (up2 (up2 r1 a 1 (r1 b1 1)) a 2 ((up2 r1 a 1 (r1 b1 1)) b1 2)) a 3 ((up2 (up2 r1 a 1 (r1 b1 1)) a 2 ((up2 r1 a 1 (r1 b1 1)) b1 2)) b1 3)) b1 4)) a 5 ((up2 (up2 (up2 (up2 r1 a 1 (r1 b1 1)) a 2 ((up2 r1 a 1 (r1 b1 1)) b1 2)) a 3 ((up2 (up2 r1 a 1 (r1 b1 1)) a 2 ((up2 r1 a 1 (r1 b1 1)) b1 2)) b1 3)) a 4 ((up2 (up2 (up2 r1 a 1 (r1 b1 1)) a 2 ((up2 r1 a 1 (r1 b1 1)) b1 2)) a 3 ((up2 (up2 r1 a 1 (r1 b1 1)) a 2 ((up2 r1 a 1 (r1 b1 1)) b1 2)) b1 3)) b1 4)) b1 5)) b1 6)) b1 7)) a 8 ((up2 (up2 (up2 (up2 (up2 (up2 (up2 r1 a 1 (r1 b1 1)) a 2 ((up2 r1 a 1 (r1 b1 1)) b1 2)) a 3 ((up2 (up2 r1 a 1 (r1 b1 1)) a 2 ((up2 r1 a 1 (r1 b1 1)) b1 2)) b1 3)) a 4 ((up2 (up2 (up2 r1 a 1 (r1 b1 1)) a 2 ((up2 r1 a 1 (r1 b1 1)) b1 2)) a 3 ((up2 (up2 r1 a 1 (r1 b1 1)) a 2 ((up2 r1 a 1 (r1 b1 1)) b1 2)) b1 3)) b1 4)) a 5 ((up2 (up2 (up2 (up2 r1 a 1 (r1 b1 1)) a 2 ((up2 r1 a 1 (r1 b1 1)) b1 2)) a 3 ((up2 (up2 r1 a 1 (r1 b1 1)) a 2 ((up2 r1 a 1 (r1 b1 1)) b1 2)) b1 3)) a 4 ((up2 (up2 (up2 r1 a 1 (r1 b1 1)) a 2 ((up2 r1 a 1 (r1 b1 1)) b1 2)) a 3 ((up2 (up2 r1 a 1 (r1 b1 1)) a 2 ((up2 r1 a 1 (r1 b1 1)) b1 2)) b1 3)) b1 4)) b1 5)) a 6 ((up2 (up2 (up2 (up2 (up2 r1 a 1 (r1 b1 1)) a 2 ((up2 r1 a 1 (r1 b1 1)) b1 2)) a 3 ((up2 (up2 r1 a 1 (r1 b1 1)) a 2 ((up2 r1 a 1 (r1 b1 1)) b1 2)) b1 3)) a 4 ((up2 (up2 (up2 r1 a 1 (r1 b1 1)) a 2 ((up2 r1 a 1 (r1 b1 1)) b1 2)) a 3 ((up2 (up2 r1 a 1 (r1 b1 1)) a 2 ((up2 r1 a 1 (r1 b1 1)) b1 2)) b1 3)) b1 4)) a 5 ((up2 (up2 (up2 (up2 r1 a 1 (r1 b1 1)) a 2 ((up2 r1 a 1 (r1 b1 1)) b1 2)) a 3 ((up2 (up2 r1 a 1 (r1 b1 1)) a 2 ((up2 r1 a 1 (r1 b1 1)) b1 2)) b1 3)) a 4 ((up2 (up2 (up2 r1 a 1 (r1 b1 1)) a 2 ((up2 r1 a 1 (r1 b1 1)) b1 2)) a 3 ((up2 (up2 r1 a 1 (r1 b1 1)) a 2 ((up2 r1 a 1 (r1 b1 1)) b1 2)) b1 3)) b1 4)) b1 5)) b1 6)) a 7 ((up2 (up2 (up2 (up2 (up2 (up2 r1 a 1 (r1 b1 1)) a 2 ((up2 r1 a 1 (r1 b1 1)) b1 2)) a 3 ((up2 (up2 r1 a 1 (r1 b1 1)) a 2 ((up2 r1 a 1 (r1 b1 1)) b1 2)) b1 3)) a 4 ((up2 (up2 (up2 r1 a 1 (r1 b1 1)) a 2 ((up2 r1 a 1 (r1 b1 1)) b1 2)) a 3 ((up2 (up2 r1 a 1 (r1 b1 1)) a 2 ((up2 r1 a 1 (r1 b1 1)) b1 2)) b1 3)) b1 4)) a 5 ((up2 (up2 (up2 (up2 r1 a 1 (r1 b1 1)) a 2 ((up2 r1 a 1 (r1 b1 1)) b1 2)) a 3 ((up2 (up2 r1 a 1 (r1 b1 1)) a 2 ((up2 r1 a 1 (r1 b1 1)) b1 2)) b1 3)) a 4 ((up2 (up2 (up2 r1 a 1 (r1 b1 1)) a 2 ((up2 r1 a 1 (r1 b1 1)) b1 2)) a 3 ((up2 (up2 r1 a 1 (r1 b1 1)) a 2 ((up2 r1 a 1 (r1 b1 1)) b1 2)) b1 3)) b1 4)) b1 5)) a 6 ((up2 (up2 (up2 (up2 (up2 r1 a 1 (r1 b1 1)) a 2 ((up2 r1 a 1 (r1 b1 1)) b1 2)) a 3 ((up2 (up2 r1 a 1 (r1 b1 1)) a 2 ((up2 r1 a 1 (r1 b1 1)) b1 2)) b1 3)) a 4 ((up2 (up2 (up2 r1 a 1 (r1 b1 1)) a 2 ((up2 r1 a 1 (r1 b1 1)) b1 2)) a 3 ((up2 (up2 r1 a 1 (r1 b1 1)) a 2 ((up2 r1 a 1 (r1 b1 1)) b1 2)) b1 3)) b1 4)) a 5 ((up2 (up2 (up2 (up2 r1 a 1 (r1 b1 1)) a 2 ((up2 r1 a 1 (r1 b1 1)) b1 2)) a 3 ((up2 (up2 r1 a 1 (r1 b1 1)) a 2 ((up2 r1 a 1 (r1 b1 1)) b1 2)) b1 3)) a 4 ((up2 (up2 (up2 r1 a 1 (r1 b1 1)) a 2 ((up2 r1 a 1 (r1 b1 1)) b1 2)) a 3 ((up2 (up2 r1 a 1 (r1 b1 1)) a 2 ((up2 r1 a 1 (r1 b1 1)) b1 2)) b1 3)) b1 4)) b1 5)) b1 6)) b1 7)) b1 8)) a 9 ((up2 (up2 (up2 (up2 (up2 (up2 (up2 (up2 r1 a 1 (r1 b1 1)) a 2 ((up2 r1 a 1 (r1 b1 1)) b1 2)) a 3 ((up2 (up2 r1 a 1 (r1 b1 1)) a 2 ((up2 r1 a 1 (r1 b1 1)) b1 2)) b1 3)) a 4 ((up2 (up2 (up2 r1 a 1 (r1 b1 1)) a 2 ((up2 r1 a 1 (r1 b1 1)) b1 2)) a 3 ((up2 (up2 r1 a 1 (r1 b1 1)) a 2 ((up2 r1 a 1 (r1 b1 1)) b1 2)) b1 3)) b1 4)) a 5 ((up2 (up2 (up2 (up2 r1 a 1 (r1 b1 1)) a 2 ((up2 r1 a 1 (r1 b1 1)) b1 2)) a 3 ((up2 (up2 r1 a 1 (r1 b1 1)) a 2 ((up2 r1 a 1 (r1 b1 1)) b1 2)) b1 3)) a 4 ((up2 (up2 (up2 r1 a 1 (r1 b1 1)) a 2 ((up2 r1 a 1 (r1 b1 1)) b1 2)) a 3 ((up2 (up2 r1 a 1 (r1 b1 1)) a 2 ((up2 r1 a 1 (r1 b1 1)) b1 2)) b1 3)) b1 4)) b1 5)) a 6 ((up2 (up2 (up2 (up2 (up2 r1 a 1 (r1 b1 1)) a 2 ((up2 r1 a 1 (r1 b1 1)) b1 2)) a 3 ((up2 (up2 r1 a 1 (r1 b1 1)) a 2 ((up2 r1 a 1 (r1 b1 1)) b1 2)) b1 3)) a 4 ((up2 (up2 (up2 r1 a 1 (r1 b1 1)) a 2 ((up2 r1 a 1 (r1 b1 1)) b1 2)) a 3 ((up2 (up2 r1 a 1 (r1 b1 1)) a 2 ((up2 r1 a 1 (r1 b1 1)) b1 2)) b1 3)) b1 4)) a 5 ((up2 (up2 (up2 (up2 r1 a 1 (r1 b1 1)) a 2 ((up2 r1 a 1 (r1 b1 1)) b1 2)) a 3 ((up2 (up2 r1 a 1 (r1 b1 1)) a 2 ((up2 r1 a 1 (r1 b1 1)) b1 2)) b1 3)) a 4 ((up2 (up2 (up2 r1 a 1 (r1 b1 1)) a 2 ((up2 r1 a 1 (r1 b1 1)) b1 2)) a 3 ((up2 (up2 r1 a 1 (r1 b1 1)) a 2 ((up2 r1 a 1 (r1 b1 1)) b1 2)) b1 3)) b1 4)) b1 5)) b1 6)) a 7 ((up2 (up2 (up2 (up2 (up2 (up2 r1 a 1 (r1 b1 1)) a 2 ((up2 r1 a 1 (r1 b1 1)) b1 2)) a 3 ((up2 (up2 r1 a 1 (r1 b1 1)) a 2 ((up2 r1 a 1 (r1 b1 1)) b1 2)) b1 3)) a 4 ((up2 (up2 (up2 r1 a 1 (r1 b1 1)) a 2 ((up2 r1 a 1 (r1 b1 1)) b1 2)) a 3 ((up2 (up2 r1 a 1 (r1 b1 1)) a 2 ((up2 r1 a 1 (r1 b1 1)) b1 2)) b1 3)) b1 4)) a 5 ((up2 (up2 (up2 (up2 r1 a 1 (r1 b1 1)) a 2 ((up2 r1 a 1 (r1 b1 1)) b1 2)) a 3 ((up2 (up2 r1 a 1 (r1 b1 1)) a 2 ((up2 r1 a 1 (r1 b1 1)) b1 2)) b1 3)) a 4 ((up2 (up2 (up2 r1 a 1 (r1 b1 1)) a 2 ((up2 r1 a 1 (r1 b1 1)) b1 2)) a 3 ((up2 (up2 r1 a 1 (r1 b1 1)) a 2 ((up2 r1 a 1 (r1 b1 1)) b1 2)) b1 3)) b1 4)) b1 5)) a 6 ((up2 (up2 (up2 (up2 (up2 r1 a 1 (r1 b1 1)) a 2 ((up2 r1 a 1 (r1 b1 1)) b1 2)) a 3 ((up2 (up2 r1 a 1 (r1 b1 1)) a 2 ((up2 r1 a 1 (r1 b1 1)) b1 2)) b1 3)) a 4 ((up2 (up2 (up2 r1 a 1 (r1 b1 1)) a 2 ((up2 r1 a 1 (r1 b1 1)) b1 2)) a 3 ((up2 (up2 r1 a 1 (r1 b1 1)) a 2 ((up2 r1 a 1 (r1 b1 1)) b1 2)) b1 3)) b1 4)) a 5 ((up2 (up2 (up2 (up2 r1 a 1 (r1 b1 1)) a 2 ((up2 r1 a 1 (r1 b1 1)) b1 2)) a 3 ((up2 (up2 r1 a 1 (r1 b1 1)) a 2 ((up2 r1 a 1 (r1 b1 1)) b1 2)) b1 3)) a 4 ((up2 (up2 (up2 r1 a 1 (r1 b1 1)) a 2 ((up2 r1 a 1 (r1 b1 1)) b1 2)) a 3 ((up2 (up2 r1 a 1 (r1 b1 1)) a 2 ((up2 r1 a 1 (r1 b1 1)) b1 2)) b1 3)) b1 4)) b1 5)) b1 6)) b1 7)) a 8 ((up2 (up2 (up2 (up2 (up2 (up2 (up2 r1 a 1 (r1 b1 1)) a 2 ((up2 r1 a 1 (r1 b1 1)) b1 2)) a 3 ((up2 (up2 r1 a 1 (r1 b1 1)) a 2 ((up2 r1 a 1 (r1 b1 1)) b1 2)) b1 3)) a 4 ((up2 (up2 (up2 r1 a 1 (r1 b1 1)) a 2 ((up2 r1 a 1 (r1 b1 1)) b1 2)) a 3 ((up2 (up2 r1 a 1 (r1 b1 1)) a 2 ((up2 r1 a 1 (r1 b1 1)) b1 2)) b1 3)) b1 4)) a 5 ((up2 (up2 (up2 (up2 r1 a 1 (r1 b1 1)) a 2 ((up2 r1 a 1 (r1 b1 1)) b1 2)) a 3 ((up2 (up2 r1 a 1 (r1 b1 1)) a 2 ((up2 r1 a 1 (r1 b1 1)) b1 2)) b1 3)) a 4 ((up2 (up2 (up2 r1 a 1 (r1 b1 1)) a 2 ((up2 r1 a 1 (r1 b1 1)) b1 2)) a 3 ((up2 (up2 r1 a 1 (r1 b1 1)) a 2 ((up2 r1 a 1 (r1 b1 1)) b1 2)) b1 3)) b1 4)) b1 5)) a 6 ((up2 (up2 (up2 (up2 (up2 r1 a 1 (r1 b1 1)) a 2 ((up2 r1 a 1 (r1 b1 1)) b1 2)) a 3 ((up2 (up2 r1 a 1 (r1 b1 1)) a 2 ((up2 r1 a 1 (r1 b1 1)) b1 2)) b1 3)) a 4 ((up2 (up2 (up2 r1 a 1 (r1 b1 1)) a 2 ((up2 r1 a 1 (r1 b1 1)) b1 2)) a 3 ((up2 (up2 r1 a 1 (r1 b1 1)) a 2 ((up2 r1 a 1 (r1 b1 1)) b1 2)) b1 3)) b1 4)) a 5 ((up2 (up2 (up2 (up2 r1 a 1 (r1 b1 1)) a 2 ((up2 r1 a 1 (r1 b1 1)) b1 2)) a 3 ((up2 (up2 r1 a 1 (r1 b1 1)) a 2 ((up2 r1 a 1 (r1 b1 1)) b1 2)) b1 3)) a 4 ((up2 (up2 (up2 r1 a 1 (r1 b1 1)) a 2 ((up2 r1 a 1 (r1 b1 1)) b1 2)) a 3 ((up2 (up2 r1 a 1 (r1 b1 1)) a 2 ((up2 r1 a 1 (r1 b1 1)) b1 2)) b1 3)) b1 4)) b1 5)) b1 6)) a 7 ((up2 (up2 (up2 (up2 (up2 (up2 r1 a 1 (r1 b1 1)) a 2 ((up2 r1 a 1 (r1 b1 1)) b1 2)) a 3 ((up2 (up2 r1 a 1 (r1 b1 1)) a 2 ((up2 r1 a 1 (r1 b1 1)) b1 2)) b1 3)) a 4 ((up2 (up2 (up2 r1 a 1 (r1 b1 1)) a 2 ((up2 r1 a 1 (r1 b1 1)) b1 2)) a 3 ((up2 (up2 r1 a 1 (r1 b1 1)) a 2 ((up2 r1 a 1 (r1 b1 1)) b1 2)) b1 3)) b1 4)) a 5 ((up2 (up2 (up2 (up2 r1 a 1 (r1 b1 1)) a 2 ((up2 r1 a 1 (r1 b1 1)) b1 2)) a 3 ((up2 (up2 r1 a 1 (r1 b1 1)) a 2 ((up2 r1 a 1 (r1 b1 1)) b1 2)) b1 3)) a 4 ((up2 (up2 (up2 r1 a 1 (r1 b1 1)) a 2 ((up2 r1 a 1 (r1 b1 1)) b1 2)) a 3 ((up2 (up2 r1 a 1 (r1 b1 1)) a 2 ((up2 r1 a 1 (r1 b1 1)) b1 2)) b1 3)) b1 4)) b1 5)) a 6 ((up2 (up2 (up2 (up2 (up2 r1 a 1 (r1 b1 1)) a 2 ((up2 r1 a 1 (r1 b1 1)) b1 2)) a 3 ((up2 (up2 r1 a 1 (r1 b1 1)) a 2 ((up2 r1 a 1 (r1 b1 1)) b1 2)) b1 3)) a 4 ((up2 (up2 (up2 r1 a 1 (r1 b1 1)) a 2 ((up2 r1 a 1 (r1 b1 1)) b1 2)) a 3 ((up2 (up2 r1 a 1 (r1 b1 1)) a 2 ((up2 r1 a 1 (r1 b1 1)) b1 2)) b1 3)) b1 4)) a 5 ((up2 (up2 (up2 (up2 r1 a 1 (r1 b1 1)) a 2 ((up2 r1 a 1 (r1 b1 1)) b1 2)) a 3 ((up2 (up2 r1 a 1 (r1 b1 1)) a 2 ((up2 r1 a 1 (r1 b1 1)) b1 2)) b1 3)) a 4 ((up2 (up2 (up2 r1 a 1 (r1 b1 1)) a 2 ((up2 r1 a 1 (r1 b1 1)) b1 2)) a 3 ((up2 (up2 r1 a 1 (r1 b1 1)) a 2 ((up2 r1 a 1 (r1 b1 1)) b1 2)) b1 3)) b1 4)) b1 5)) b1 6)) b1 7)) b1 8)) b1 9)) b1 10)) b1 11)) b1 12)) b1 13)) a 14 ((up2 (up2 (up2 (up2 (up2 (up2 (up2 (up2 (up2 (up2 (up2 (up2 (up2 r1 a 1 (r1 b1 1)) a 2 ((up2 r1 a 1 (r1 b1 1)) b1 2)) a 3 ((up2 (up2 r1 a 1 (r1 b1 1)) a 2 ((up2 r1 a 1 (r1 b1 1)) b1 2)) b1 3)) a 4 ((up2 (up2 (up2 r1 a 1 (r1 b1 1)) a 2 ((up2 r1 a 1 (r1 b1 1)) b1 2)) a 3 ((up2 (up2 r1 a 1 (r1 b1 1)) a 2 ((up2 r1 a 1 (r1 b1 1)) b1 2)) b1 3)) b1 4)) a 5 ((up2 (up2 (up2 (up2 r1 a 1 (r1 b1 1)) a 2 ((up2 r1 a 1 (r1 b1 1)) b1 2)) a 3 ((up2 (up2 r1 a 1 (r1 b1 1)) a 2 ((up2 r1 a 1 (r1 b1 1)) b1 2)) b1 3)) a 4 ((up2 (up2 (up2 r1 a 1 (r1 b1 1)) a 2 ((up2 r1 a 1 (r1 b1 1)) b1 2)) a 3 ((up2 (up2 r1 a 1 (r1 b1 1)) a 2 ((up2 r1 a 1 (r1 b1 1)) b1 2)) b1 3)) b1 4)) b1 5)) a 6 ((up2 (up2 (up2 (up2 (up2 r1 a 1 (r1 b1 1)) a 2 ((up2 r1 a 1 (r1 b1 1)) b1 2)) a 3 ((up2 (up2 r1 a 1 (r1 b1 1)) a 2 ((up2 r1 a 1 (r1 b1 1)) b1 2)) b1 3)) a 4 ((up2 (up2 (up2 r1 a 1 (r1 b1 1)) a 2 ((up2 r1 a 1 (r1 b1 1)) b1 2)) a 3 ((up2 (up2 r1 a 1 (r1 b1 1)) a 2 ((up2 r1 a 1 (r1 b1 1)) b1 2)) b1 3)) b1 4)) a 5 ((up2 (up2 (up2 (up2 r1 a 1 (r1 b1 1)) a 2 ((up2 r1 a 1 (r1 b1 1)) b1 2)) a 3 ((up2 (up2 r1 a 1 (r1 b1 1)) a 2 ((up2 r1 a 1 (r1 b1 1)) b1 2)) b1 3)) a 4 ((up2 (up2 (up2 r1 a 1 (r1 b1 1)) a 2 ((up2 r1 a 1 (r1 b1 1)) b1 2)) a 3 ((up2 (up2 r1 a 1 (r1 b1 1)) a 2 ((up2 r1 a 1 (r1 b1 1)) b1 2)) b1 3)) b1 4)) b1 5)) b1 6)) a 7 ((up2 (up2 (up2 (up2 (up2 (up2 r1 a 1 (r1 b1 1)) a 2 ((up2 r1 a 1 (r1 b1 1)) b1 2)) a 3 ((up2 (up2 r1 a 1 (r1 b1 1)) a 2 ((up2 r1 a 1 (r1 b1 1)) b1 2)) b1 3)) a 4 ((up2 (up2 (up2 r1 a 1 (r1 b1 1)) a 2 ((up2 r1 a 1 (r1 b1 1)) b1 2)) a 3 ((up2 (up2 r1 a 1 (r1 b1 1)) a 2 ((up2 r1 a 1 (r1 b1 1)) b1 2)) b1 3)) b1 4)) a 5 ((up2 (up2 (up2 (up2 r1 a 1 (r1 b1 1)) a 2 ((up2 r1 a 1 (r1 b1 1)) b1 2)) a 3 ((up2 (up2 r1 a 1 (r1 b1 1)) a 2 ((up2 r1 a 1 (r1 b1 1)) b1 2)) b1 3)) a 4 ((up2 (up2 (up2 r1 a 1 (r1 b1 1)) a 2 ((up2 r1 a 1 (r1 b1 1)) b1 2)) a 3 ((up2 (up2 r1 a 1 (r1 b1 1)) a 2 ((up2 r1 a 1 (r1 b1 1)) b1 2)) b1 3)) b1 4)) b1 5)) a 6 ((up2 (up2 (up2 (up2 (up2 r1 a 1 (r1 b1 1)) a 2 ((up2 r1 a 1 (r1 b1 1)) b1 2)) a 3 ((up2 (up2 r1 a 1 (r1 b1 1)) a 2 ((up2 r1 a 1 (r1 b1 1)) b1 2)) b1 3)) a 4 ((up2 (up2 (up2 r1 a 1 (r1 b1 1)) a 2 ((up2 r1 a 1 (r1 b1 1)) b1 2)) a 3 ((up2 (up2 r1 a 1 (r1 b1 1)) a 2 ((up2 r1 a 1 (r1 b1 1)) b1 2)) b1 3)) b1 4)) a 5 ((up2 (up2 (up2 (up2 r1 a 1 (r1 b1 1)) a 2 ((up2 r1 a 1 (r1 b1 1)) b1 2)) a 3 ((up2 (up2 r1 a 1 (r1 b1 1)) a 2 ((up2 r1 a 1 (r1 b1 1)) b1 2)) b1 3)) a 4 ((up2 (up2 (up2 r1 a 1 (r1 b1 1)) a 2 ((up2 r1 a 1 (r1 b1 1)) b1 2)) a 3 ((up2 (up2 r1 a 1 (r1 b1 1)) a 2 ((up2 r1 a 1 (r1 b1 1)) b1 2)) b1 3)) b1 4)) b1 5)) b1 6)) b1 7)) a 8 ((up2 (up2 (up2 (up2 (up2 (up2 (up2 r1 a 1 (r1 b1 1)) a 2 ((up2 r1 a 1 (r1 b1 1)) b1 2)) a 3 ((up2 (up2 r1 a 1 (r1 b1 1)) a 2 ((up2 r1 a 1 (r1 b1 1)) b1 2)) b1 3)) a 4 ((up2 (up2 (up2 r1 a 1 (r1 b1 1)) a 2 ((up2 r1 a 1 (r1 b1 1)) b1 2)) a 3 ((up2 (up2 r1 a 1 (r1 b1 1)) a 2 ((up2 r1 a 1 (r1 b1 1)) b1 2)) b1 3)) b1 4)) a 5 ((up2 (up2 (up2 (up2 r1 a 1 (r1 b1 1)) a 2 ((up2 r1 a 1 (r1 b1 1)) b1 2)) a 3 ((up2 (up2 r1 a 1 (r1 b1 1)) a 2 ((up2 r1 a 1 (r1 b1 1)) b1 2)) b1 3)) a 4 ((up2 (up2 (up2 r1 a 1 (r1 b1 1)) a 2 ((up2 r1 a 1 (r1 b1 1)) b1 2)) a 3 ((up2 (up2 r1 a 1 (r1 b1 1)) a 2 ((up2 r1 a 1 (r1 b1 1)) b1 2)) b1 3)) b1 4)) b1 5)) a 6 ((up2 (up2 (up2 (up2 (up2 r1 a 1 (r1 b1 1)) a 2 ((up2 r1 a 1 (r1 b1 1)) b1 2)) a 3 ((up2 (up2 r1 a 1 (r1 b1 1)) a 2 ((up2 r1 a 1 (r1 b1 1)) b1 2)) b1 3)) a 4 ((up2 (up2 (up2 r1 a 1 (r1 b1 1)) a 2 ((up2 r1 a 1 (r1 b1 1)) b1 2)) a 3 ((up2 (up2 r1 a 1 (r1 b1 1)) a 2 ((up2 r1 a 1 (r1 b1 1)) b1 2)) b1 3)) b1 4)) a 5 ((up2 (up2 (up2 (up2 r1 a 1 (r1 b1 1)) a 2 ((up2 r1 a 1 (r1 b1 1)) b1 2)) a 3 ((up2 (up2 r1 a 1 (r1 b1 1)) a 2 ((up2 r1 a 1 (r1 b1 1)) b1 2)) b1 3)) a 4 ((up2 (up2 (up2 r1 a 1 (r1 b1 1)) a 2 ((up2 r1 a 1 (r1 b1 1)) b1 2)) a 3 ((up2 (up2 r1 a 1 (r1 b1 1)) a 2 ((up2 r1 a 1 (r1 b1 1)) b1 2)) b1 3)) b1 4)) b1 5)) b1 6)) a 7 ((up2 (up2 (up2 (up2 (up2 (up2 r1 a 1 (r1 b1 1)) a 2 ((up2 r1 a 1 (r1 b1 1)) b1 2)) a 3 ((up2 (up2 r1 a 1 (r1 b1 1)) a 2 ((up2 r1 a 1 (r1 b1 1)) b1 2)) b1 3)) a 4 ((up2 (up2 (up2 r1 a 1 (r1 b1 1)) a 2 ((up2 r1 a 1 (r1 b1 1)) b1 2)) a 3 ((up2 (up2 r1 a 1 (r1 b1 1)) a 2 ((up2 r1 a 1 (r1 b1 1)) b1 2)) b1 3)) b1 4)) a 5 ((up2 (up2 (up2 (up2 r1 a 1 (r1 b1 1)) a 2 ((up2 r1 a 1 (r1 b1 1)) b1 2)) a 3 ((up2 (up2 r1 a 1 (r1 b1 1)) a 2 ((up2 r1 a 1 (r1 b1 1)) b1 2)) b1 3)) a 4 ((up2 (up2 (up2 r1 a 1 (r1 b1 1)) a 2 ((up2 r1 a 1 (r1 b1 1)) b1 2)) a 3 ((up2 (up2 r1 a 1 (r1 b1 1)) a 2 ((up2 r1 a 1 (r1 b1 1)) b1 2)) b1 3)) b1 4)) b1 5)) a 6 ((up2 (up2 (up2 (up2 (up2 r1 a 1 (r1 b1 1)) a 2 ((up2 r1 a 1 (r1 b1 1)) b1 2)) a 3 ((up2 (up2 r1 a 1 (r1 b1 1)) a 2 ((up2 r1 a 1 (r1 b1 1)) b1 2)) b1 3)) a 4 ((up2 (up2 (up2 r1 a 1 (r1 b1 1)) a 2 ((up2 r1 a 1 (r1 b1 1)) b1 2)) a 3 ((up2 (up2 r1 a 1 (r1 b1 1)) a 2 ((up2 r1 a 1 (r1 b1 1)) b1 2)) b1 3)) b1 4)) a 5 ((up2 (up2 (up2 (up2 r1 a 1 (r1 b1 1)) a 2 ((up2 r1 a 1 (r1 b1 1)) b1 2)) a 3 ((up2 (up2 r1 a 1 (r1 b1 1)) a 2 ((up2 r1 a 1 (r1 b1 1)) b1 2)) b1 3)) a 4 ((up2 (up2 (up2 r1 a 1 (r1 b1 1)) a 2 ((up2 r1 a 1 (r1 b1 1)) b1 2)) a 3 ((up2 (up2 r1 a 1 (r1 b1 1)) a 2 ((up2 r1 a 1 (r1 b1 1)) b1 2)) b1 3)) b1 4)) b1 5)) b1 6)) b1 7)) b1 8)) a 9 ((up2 (up2 (up2 (up2 (up2 (up2 (up2 (up2 r1 a 1 (r1 b1 1)) a 2 ((up2 r1 a 1 (r1 b1 1)) b1 2)) a 3 ((up2 (up2 r1 a 1 (r1 b1 1)) a 2 ((up2 r1 a 1 (r1 b1 1)) b1 2)) b1 3)) a 4 ((up2 (up2 (up2 r1 a 1 (r1 b1 1)) a 2 ((up2 r1 a 1 (r1 b1 1)) b1 2)) a 3 ((up2 (up2 r1 a 1 (r1 b1 1)) a 2 ((up2 r1 a 1 (r1 b1 1)) b1 2)) b1 3)) b1 4)) a 5 ((up2 (up2 (up2 (up2 r1 a 1 (r1 b1 1)) a 2 ((up2 r1 a 1 (r1 b1 1)) b1 2)) a 3 ((up2 (up2 r1 a 1 (r1 b1 1)) a 2 ((up2 r1 a 1 (r1 b1 1)) b1 2)) b1 3)) a 4 ((up2 (up2 (up2 r1 a 1 (r1 b1 1)) a 2 ((up2 r1 a 1 (r1 b1 1)) b1 2)) a 3 ((up2 (up2 r1 a 1 (r1 b1 1)) a 2 ((up2 r1 a 1 (r1 b1 1)) b1 2)) b1 3)) b1 4)) b1 5)) a 6 ((up2 (up2 (up2 (up2 (up2 r1 a 1 (r1 b1 1)) a 2 ((up2 r1 a 1 (r1 b1 1)) b1 2)) a 3 ((up2 (up2 r1 a 1 (r1 b1 1)) a 2 ((up2 r1 a 1 (r1 b1 1)) b1 2)) b1 3)) a 4 ((up2 (up2 (up2 r1 a 1 (r1 b1 1)) a 2 ((up2 r1 a 1 (r1 b1 1)) b1 2)) a 3 ((up2 (up2 r1 a 1 (r1 b1 1)) a 2 ((up2 r1 a 1 (r1 b1 1)) b1 2)) b1 3)) b1 4)) a 5 ((up2 (up2 (up2 (up2 r1 a 1 (r1 b1 1)) a 2 ((up2 r1 a 1 (r1 b1 1)) b1 2)) a 3 ((up2 (up2 r1 a 1 (r1 b1 1)) a 2 ((up2 r1 a 1 (r1 b1 1)) b1 2)) b1 3)) a 4 ((up2 (up2 (up2 r1 a 1 (r1 b1 1)) a 2 ((up2 r1 a 1 (r1 b1 1)) b1 2)) a 3 ((up2 (up2 r1 a 1 (r1 b1 1)) a 2 ((up2 r1 a 1 (r1 b1 1)) b1 2)) b1 3)) b1 4)) b1 5)) b1 6)) a 7 ((up2 (up2 (up2 (up2 (up2 (up2 r1 a 1 (r1 b1 1)) a 2 ((up2 r1 a 1 (r1 b1 1)) b1 2)) a 3 ((up2 (up2 r1 a 1 (r1 b1 1)) a 2 ((up2 r1 a 1 (r1 b1 1)) b1 2)) b1 3)) a 4 ((up2 (up2 (up2 r1 a 1 (r1 b1 1)) a 2 ((up2 r1 a 1 (r1 b1 1)) b1 2)) a 3 ((up2 (up2 r1 a 1 (r1 b1 1)) a 2 ((up2 r1 a 1 (r1 b1 1)) b1 2)) b1 3)) b1 4)) a 5 ((up2 (up2 (up2 (up2 r1 a 1 (r1 b1 1)) a 2 ((up2 r1 a 1 (r1 b1 1)) b1 2)) a 3 ((up2 (up2 r1 a 1 (r1 b1 1)) a 2 ((up2 r1 a 1 (r1 b1 1)) b1 2)) b1 3)) a 4 ((up2 (up2 (up2 r1 a 1 (r1 b1 1)) a 2 ((up2 r1 a 1 (r1 b1 1)) b1 2)) a 3 ((up2 (up2 r1 a 1 (r1 b1 1)) a 2 ((up2 r1 a 1 (r1 b1 1)) b1 2)) b1 3)) b1 4)) b1 5)) a 6 ((up2 (up2 (up2 (up2 (up2 r1 a 1 (r1 b1 1)) a 2 ((up2 r1 a 1 (r1 b1 1)) b1 2)) a 3 ((up2 (up2 r1 a 1 (r1 b1 1)) a 2 ((up2 r1 a 1 (r1 b1 1)) b1 2)) b1 3)) a 4 ((up2 (up2 (up2 r1 a 1 (r1 b1 1)) a 2 ((up2 r1 a 1 (r1 b1 1)) b1 2)) a 3 ((up2 (up2 r1 a 1 (r1 b1 1)) a 2 ((up2 r1 a 1 (r1 b1 1)) b1 2)) b1 3)) b1 4)) a 5 ((up2 (up2 (up2 (up2 r1 a 1 (r1 b1 1)) a 2 ((up2 r1 a 1 (r1 b1 1)) b1 2)) a 3 ((up2 (up2 r1 a 1 (r1 b1 1)) a 2 ((up2 r1 a 1 (r1 b1 1)) b1 2)) b1 3)) a 4 ((up2 (up2 (up2 r1 a 1 (r1 b1 1)) a 2 ((up2 r1 a 1 (r1 b1 1)) b1 2)) a 3 ((up2 (up2 r1 a 1 (r1 b1 1)) a 2 ((up2 r1 a 1 (r1 b1 1)) b1 2)) b1 3)) b1 4)) b1 5)) b1 6)) b1 7)) a 8 ((up2 (up2 (up2 (up2 (up2 (up2 (up2 r1 a 1 (r1 b1 1)) a 2 ((up2 r1 a 1 (r1 b1 1)) b1 2)) a 3 ((up2 (up2 r1 a 1 (r1 b1 1)) a 2 ((up2 r1 a 1 (r1 b1 1)) b1 2)) b1 3)) a 4 ((up2 (up2 (up2 r1 a 1 (r1 b1 1)) a 2 ((up2 r1 a 1 (r1 b1 1)) b1 2)) a 3 ((up2 (up2 r1 a 1 (r1 b1 1)) a 2 ((up2 r1 a 1 (r1 b1 1)) b1 2)) b1 3)) b1 4)) a 5 ((up2 (up2 (up2 (up2 r1 a 1 (r1 b1 1)) a 2 ((up2 r1 a 1 (r1 b1 1)) b1 2)) a 3 ((up2 (up2 r1 a 1 (r1 b1 1)) a 2 ((up2 r1 a 1 (r1 b1 1)) b1 2)) b1 3)) a 4 ((up2 (up2 (up2 r1 a 1 (r1 b1 1)) a 2 ((up2 r1 a 1 (r1 b1 1)) b1 2)) a 3 ((up2 (up2 r1 a 1 (r1 b1 1)) a 2 ((up2 r1 a 1 (r1 b1 1)) b1 2)) b1 3)) b1 4)) b1 5)) a 6 ((up2 (up2 (up2 (up2 (up2 r1 a 1 (r1 b1 1)) a 2 ((up2 r1 a 1 (r1 b1 1)) b1 2)) a 3 ((up2 (up2 r1 a 1 (r1 b1 1)) a 2 ((up2 r1 a 1 (r1 b1 1)) b1 2)) b1 3)) a 4 ((up2 (up2 (up2 r1 a 1 (r1 b1 1)) a 2 ((up2 r1 a 1 (r1 b1 1)) b1 2)) a 3 ((up2 (up2 r1 a 1 (r1 b1 1)) a 2 ((up2 r1 a 1 (r1 b1 1)) b1 2)) b1 3)) b1 4)) a 5 ((up2 (up2 (up2 (up2 r1 a 1 (r1 b1 1)) a 2 ((up2 r1 a 1 (r1 b1 1)) b1 2)) a 3 ((up2 (up2 r1 a 1 (r1 b1 1)) a 2 ((up2 r1 a 1 (r1 b1 1)) b1 2)) b1 3)) a 4 ((up2 (up2 (up2 r1 a 1 (r1 b1 1)) a 2 ((up2 r1 a 1 (r1 b1 1)) b1 2)) a 3 ((up2 (up2 r1 a 1 (r1 b1 1)) a 2 ((up2 r1 a 1 (r1 b1 1)) b1 2)) b1 3)) b1 4)) b1 5)) b1 6)) a 7 ((up2 (up2 (up2 (up2 (up2 (up2 r1 a 1 (r1 b1 1)) a 2 ((up2 r1 a 1 (r1 b1 1)) b1 2)) a 3 ((up2 (up2 r1 a 1 (r1 b1 1)) a 2 ((up2 r1 a 1 (r1 b1 1)) b1 2)) b1 3)) a 4 ((up2 (up2 (up2 r1 a 1 (r1 b1 1)) a 2 ((up2 r1 a 1 (r1 b1 1)) b1 2)) a 3 ((up2 (up2 r1 a 1 (r1 b1 1)) a 2 ((up2 r1 a 1 (r1 b1 1)) b1 2)) b1 3)) b1 4)) a 5 ((up2 (up2 (up2 (up2 r1 a 1 (r1 b1 1)) a 2 ((up2 r1 a 1 (r1 b1 1)) b1 2)) a 3 ((up2 (up2 r1 a 1 (r1 b1 1)) a 2 ((up2 r1 a 1 (r1 b1 1)) b1 2)) b1 3)) a 4 ((up2 (up2 (up2 r1 a 1 (r1 b1 1)) a 2 ((up2 r1 a 1 (r1 b1 1)) b1 2)) a 3 ((up2 (up2 r1 a 1 (r1 b1 1)) a 2 ((up2 r1 a 1 (r1 b1 1)) b1 2)) b1 3)) b1 4)) b1 5)) a 6 ((up2 (up2 (up2 (up2 (up2 r1 a 1 (r1 b1 1)) a 2 ((up2 r1 a 1 (r1 b1 1)) b1 2)) a 3 ((up2 (up2 r1 a 1 (r1 b1 1)) a 2 ((up2 r1 a 1 (r1 b1 1)) b1 2)) b1 3)) a 4 ((up2 (up2 (up2 r1 a 1 (r1 b1 1)) a 2 ((up2 r1 a 1 (r1 b1 1)) b1 2)) a 3 ((up2 (up2 r1 a 1 (r1 b1 1)) a 2 ((up2 r1 a 1 (r1 b1 1)) b1 2)) b1 3)) b1 4)) a 5 ((up2 (up2 (up2 (up2 r1 a 1 (r1 b1 1)) a 2 ((up2 r1 a 1 (r1 b1 1)) b1 2)) a 3 ((up2 (up2 r1 a 1 (r1 b1 1)) a 2 ((up2 r1 a 1 (r1 b1 1)) b1 2)) b1 3)) a 4 ((up2 (up2 (up2 r1 a 1 (r1 b1 1)) a 2 ((up2 r1 a 1 (r1 b1 1)) b1 2)) a 3 ((up2 (up2 r1 a 1 (r1 b1 1)) a 2 ((up2 r1 a 1 (r1 b1 1)) b1 2)) b1 3)) b1 4)) b1 5)) b1 6)) b1 7)) b1 8)) b1 9)) a 10 ((up2 (up2 (up2 (up2 (up2 (up2 (up2 (up2 (up2 r1 a 1 (r1 b1 1)) a 2 ((up2 r1 a 1 (r1 b1 1)) b1 2)) a 3 ((up2 (up2 r1 a 1 (r1 b1 1)) a 2 ((up2 r1 a 1 (r1 b1 1)) b1 2)) b1 3)) a 4 ((up2 (up2 (up2 r1 a 1 (r1 b1 1)) a 2 ((up2 r1 a 1 (r1 b1 1)) b1 2)) a 3 ((up2 (up2 r1 a 1 (r1 b1 1)) a 2 ((up2 r1 a 1 (r1 b1 1)) b1 2)) b1 3)) b1 4)) a 5 ((up2 (up2 (up2 (up2 r1 a 1 (r1 b1 1)) a 2 ((up2 r1 a 1 (r1 b1 1)) b1 2)) a 3 ((up2 (up2 r1 a 1 (r1 b1 1)) a 2 ((up2 r1 a 1 (r1 b1 1)) b1 2)) b1 3)) a 4 ((up2 (up2 (up2 r1 a 1 (r1 b1 1)) a 2 ((up2 r1 a 1 (r1 b1 1)) b1 2)) a 3 ((up2 (up2 r1 a 1 (r1 b1 1)) a 2 ((up2 r1 a 1 (r1 b1 1)) b1 2)) b1 3)) b1 4)) b1 5)) a 6 ((up2 (up2 (up2 (up2 (up2 r1 a 1 (r1 b1 1)) a 2 ((up2 r1 a 1 (r1 b1 1)) b1 2)) a 3 ((up2 (up2 r1 a 1 (r1 b1 1)) a 2 ((up2 r1 a 1 (r1 b1 1)) b1 2)) b1 3)) a 4 ((up2 (up2 (up2 r1 a 1 (r1 b1 1)) a 2 ((up2 r1 a 1 (r1 b1 1)) b1 2)) a 3 ((up2 (up2 r1 a 1 (r1 b1 1)) a 2 ((up2 r1 a 1 (r1 b1 1)) b1 2)) b1 3)) b1 4)) a 5 ((up2 (up2 (up2 (up2 r1 a 1 (r1 b1 1)) a 2 ((up2 r1 a 1 (r1 b1 1)) b1 2)) a 3 ((up2 (up2 r1 a 1 (r1 b1 1)) a 2 ((up2 r1 a 1 (r1 b1 1)) b1 2)) b1 3)) a 4 ((up2 (up2 (up2 r1 a 1 (r1 b1 1)) a 2 ((up2 r1 a 1 (r1 b1 1)) b1 2)) a 3 ((up2 (up2 r1 a 1 (r1 b1 1)) a 2 ((up2 r1 a 1 (r1 b1 1)) b1 2)) b1 3)) b1 4)) b1 5)) b1 6)) a 7 ((up2 (up2 (up2 (up2 (up2 (up2 r1 a 1 (r1 b1 1)) a 2 ((up2 r1 a 1 (r1 b1 1)) b1 2)) a 3 ((up2 (up2 r1 a 1 (r1 b1 1)) a 2 ((up2 r1 a 1 (r1 b1 1)) b1 2)) b1 3)) a 4 ((up2 (up2 (up2 r1 a 1 (r1 b1 1)) a 2 ((up2 r1 a 1 (r1 b1 1)) b1 2)) a 3 ((up2 (up2 r1 a 1 (r1 b1 1)) a 2 ((up2 r1 a 1 (r1 b1 1)) b1 2)) b1 3)) b1 4)) a 5 ((up2 (up2 (up2 (up2 r1 a 1 (r1 b1 1)) a 2 ((up2 r1 a 1 (r1 b1 1)) b1 2)) a 3 ((up2 (up2 r1 a 1 (r1 b1 1)) a 2 ((up2 r1 a 1 (r1 b1 1)) b1 2)) b1 3)) a 4 ((up2 (up2 (up2 r1 a 1 (r1 b1 1)) a 2 ((up2 r1 a 1 (r1 b1 1)) b1 2)) a 3 ((up2 (up2 r1 a 1 (r1 b1 1)) a 2 ((up2 r1 a 1 (r1 b1 1)) b1 2)) b1 3)) b1 4)) b1 5)) a 6 ((up2 (up2 (up2 (up2 (up2 r1 a 1 (r1 b1 1)) a 2 ((up2 r1 a 1 (r1 b1 1)) b1 2)) a 3 ((up2 (up2 r1 a 1 (r1 b1 1)) a 2 ((up2 r1 a 1 (r1 b1 1)) b1 2)) b1 3)) a 4 ((up2 (up2 (up2 r1 a 1 (r1 b1 1)) a 2 ((up2 r1 a 1 (r1 b1 1)) b1 2)) a 3 ((up2 (up2 r1 a 1 (r1 b1 1)) a 2 ((up2 r1 a 1 (r1 b1 1)) b1 2)) b1 3)) b1 4)) a 5 ((up2 (up2 (up2 (up2 r1 a 1 (r1 b1 1)) a 2 ((up2 r1 a 1 (r1 b1 1)) b1 2)) a 3 ((up2 (up2 r1 a 1 (r1 b1 1)) a 2 ((up2 r1 a 1 (r1 b1 1)) b1 2)) b1 3)) a 4 ((up2 (up2 (up2 r1 a 1 (r1 b1 1)) a 2 ((up2 r1 a 1 (r1 b1 1)) b1 2)) a 3 ((up2 (up2 r1 a 1 (r1 b1 1)) a 2 ((up2 r1 a 1 (r1 b1 1)) b1 2)) b1 3)) b1 4)) b1 5)) b1 6)) b1 7)) a 8 ((up2 (up2 (up2 (up2 (up2 (up2 (up2 r1 a 1 (r1 b1 1)) a 2 ((up2 r1 a 1 (r1 b1 1)) b1 2)) a 3 ((up2 (up2 r1 a 1 (r1 b1 1)) a 2 ((up2 r1 a 1 (r1 b1 1)) b1 2)) b1 3)) a 4 ((up2 (up2 (up2 r1 a 1 (r1 b1 1)) a 2 ((up2 r1 a 1 (r1 b1 1)) b1 2)) a 3 ((up2 (up2 r1 a 1 (r1 b1 1)) a 2 ((up2 r1 a 1 (r1 b1 1)) b1 2)) b1 3)) b1 4)) a 5 ((up2 (up2 (up2 (up2 r1 a 1 (r1 b1 1)) a 2 ((up2 r1 a 1 (r1 b1 1)) b1 2)) a 3 ((up2 (up2 r1 a 1 (r1 b1 1)) a 2 ((up2 r1 a 1 (r1 b1 1)) b1 2)) b1 3)) a 4 ((up2 (up2 (up2 r1 a 1 (r1 b1 1)) a 2 ((up2 r1 a 1 (r1 b1 1)) b1 2)) a 3 ((up2 (up2 r1 a 1 (r1 b1 1)) a 2 ((up2 r1 a 1 (r1 b1 1)) b1 2)) b1 3)) b1 4)) b1 5)) a 6 ((up2 (up2 (up2 (up2 (up2 r1 a 1 (r1 b1 1)) a 2 ((up2 r1 a 1 (r1 b1 1)) b1 2)) a 3 ((up2 (up2 r1 a 1 (r1 b1 1)) a 2 ((up2 r1 a 1 (r1 b1 1)) b1 2)) b1 3)) a 4 ((up2 (up2 (up2 r1 a 1 (r1 b1 1)) a 2 ((up2 r1 a 1 (r1 b1 1)) b1 2)) a 3 ((up2 (up2 r1 a 1 (r1 b1 1)) a 2 ((up2 r1 a 1 (r1 b1 1)) b1 2)) b1 3)) b1 4)) a 5 ((up2 (up2 (up2 (up2 r1 a 1 (r1 b1 1)) a 2 ((up2 r1 a 1 (r1 b1 1)) b1 2)) a 3 ((up2 (up2 r1 a 1 (r1 b1 1)) a 2 ((up2 r1 a 1 (r1 b1 1)) b1 2)) b1 3)) a 4 ((up2 (up2 (up2 r1 a 1 (r1 b1 1)) a 2 ((up2 r1 a 1 (r1 b1 1)) b1 2)) a 3 ((up2 (up2 r1 a 1 (r1 b1 1)) a 2 ((up2 r1 a 1 (r1 b1 1)) b1 2)) b1 3)) b1 4)) b1 5)) b1 6)) a 7 ((up2 (up2 (up2 (up2 (up2 (up2 r1 a 1 (r1 b1 1)) a 2 ((up2 r1 a 1 (r1 b1 1)) b1 2)) a 3 ((up2 (up2 r1 a 1 (r1 b1 1)) a 2 ((up2 r1 a 1 (r1 b1 1)) b1 2)) b1 3)) a 4 ((up2 (up2 (up2 r1 a 1 (r1 b1 1)) a 2 ((up2 r1 a 1 (r1 b1 1)) b1 2)) a 3 ((up2 (up2 r1 a 1 (r1 b1 1)) a 2 ((up2 r1 a 1 (r1 b1 1)) b1 2)) b1 3)) b1 4)) a 5 ((up2 (up2 (up2 (up2 r1 a 1 (r1 b1 1)) a 2 ((up2 r1 a 1 (r1 b1 1)) b1 2)) a 3 ((up2 (up2 r1 a 1 (r1 b1 1)) a 2 ((up2 r1 a 1 (r1 b1 1)) b1 2)) b1 3)) a 4 ((up2 (up2 (up2 r1 a 1 (r1 b1 1)) a 2 ((up2 r1 a 1 (r1 b1 1)) b1 2)) a 3 ((up2 (up2 r1 a 1 (r1 b1 1)) a 2 ((up2 r1 a 1 (r1 b1 1)) b1 2)) b1 3)) b1 4)) b1 5)) a 6 ((up2 (up2 (up2 (up2 (up2 r1 a 1 (r1 b1 1)) a 2 ((up2 r1 a 1 (r1 b1 1)) b1 2)) a 3 ((up2 (up2 r1 a 1 (r1 b1 1)) a 2 ((up2 r1 a 1 (r1 b1 1)) b1 2)) b1 3)) a 4 ((up2 (up2 (up2 r1 a 1 (r1 b1 1)) a 2 ((up2 r1 a 1 (r1 b1 1)) b1 2)) a 3 ((up2 (up2 r1 a 1 (r1 b1 1)) a 2 ((up2 r1 a 1 (r1 b1 1)) b1 2)) b1 3)) b1 4)) a 5 ((up2 (up2 (up2 (up2 r1 a 1 (r1 b1 1)) a 2 ((up2 r1 a 1 (r1 b1 1)) b1 2)) a 3 ((up2 (up2 r1 a 1 (r1 b1 1)) a 2 ((up2 r1 a 1 (r1 b1 1)) b1 2)) b1 3)) a 4 ((up2 (up2 (up2 r1 a 1 (r1 b1 1)) a 2 ((up2 r1 a 1 (r1 b1 1)) b1 2)) a 3 ((up2 (up2 r1 a 1 (r1 b1 1)) a 2 ((up2 r1 a 1 (r1 b1 1)) b1 2)) b1 3)) b1 4)) b1 5)) b1 6)) b1 7)) b1 8)) a 9 ((up2 (up2 (up2 (up2 (up2 (up2 (up2 (up2 r1 a 1 (r1 b1 1)) a 2 ((up2 r1 a 1 (r1 b1 1)) b1 2)) a 3 ((up2 (up2 r1 a 1 (r1 b1 1)) a 2 ((up2 r1 a 1 (r1 b1 1)) b1 2)) b1 3)) a 4 ((up2 (up2 (up2 r1 a 1 (r1 b1 1)) a 2 ((up2 r1 a 1 (r1 b1 1)) b1 2)) a 3 ((up2 (up2 r1 a 1 (r1 b1 1)) a 2 ((up2 r1 a 1 (r1 b1 1)) b1 2)) b1 3)) b1 4)) a 5 ((up2 (up2 (up2 (up2 r1 a 1 (r1 b1 1)) a 2 ((up2 r1 a 1 (r1 b1 1)) b1 2)) a 3 ((up2 (up2 r1 a 1 (r1 b1 1)) a 2 ((up2 r1 a 1 (r1 b1 1)) b1 2)) b1 3)) a 4 ((up2 (up2 (up2 r1 a 1 (r1 b1 1)) a 2 ((up2 r1 a 1 (r1 b1 1)) b1 2)) a 3 ((up2 (up2 r1 a 1 (r1 b1 1)) a 2 ((up2 r1 a 1 (r1 b1 1)) b1 2)) b1 3)) b1 4)) b1 5)) a 6 ((up2 (up2 (up2 (up2 (up2 r1 a 1 (r1 b1 1)) a 2 ((up2 r1 a 1 (r1 b1 1)) b1 2)) a 3 ((up2 (up2 r1 a 1 (r1 b1 1)) a 2 ((up2 r1 a 1 (r1 b1 1)) b1 2)) b1 3)) a 4 ((up2 (up2 (up2 r1 a 1 (r1 b1 1)) a 2 ((up2 r1 a 1 (r1 b1 1)) b1 2)) a 3 ((up2 (up2 r1 a 1 (r1 b1 1)) a 2 ((up2 r1 a 1 (r1 b1 1)) b1 2)) b1 3)) b1 4)) a 5 ((up2 (up2 (up2 (up2 r1 a 1 (r1 b1 1)) a 2 ((up2 r1 a 1 (r1 b1 1)) b1 2)) a 3 ((up2 (up2 r1 a 1 (r1 b1 1)) a 2 ((up2 r1 a 1 (r1 b1 1)) b1 2)) b1 3)) a 4 ((up2 (up2 (up2 r1 a 1 (r1 b1 1)) a 2 ((up2 r1 a 1 (r1 b1 1)) b1 2)) a 3 ((up2 (up2 r1 a 1 (r1 b1 1)) a 2 ((up2 r1 a 1 (r1 b1 1)) b1 2)) b1 3)) b1 4)) b1 5)) b1 6)) a 7 ((up2 (up2 (up2 (up2 (up2 (up2 r1 a 1 (r1 b1 1)) a 2 ((up2 r1 a 1 (r1 b1 1)) b1 2)) a 3 ((up2 (up2 r1 a 1 (r1 b1 1)) a 2 ((up2 r1 a 1 (r1 b1 1)) b1 2)) b1 3)) a 4 ((up2 (up2 (up2 r1 a 1 (r1 b1 1)) a 2 ((up2 r1 a 1 (r1 b1 1)) b1 2)) a 3 ((up2 (up2 r1 a 1 (r1 b1 1)) a 2 ((up2 r1 a 1 (r1 b1 1)) b1 2)) b1 3)) b1 4)) a 5 ((up2 (up2 (up2 (up2 r1 a 1 (r1 b1 1)) a 2 ((up2 r1 a 1 (r1 b1 1)) b1 2)) a 3 ((up2 (up2 r1 a 1 (r1 b1 1)) a 2 ((up2 r1 a 1 (r1 b1 1)) b1 2)) b1 3)) a 4 ((up2 (up2 (up2 r1 a 1 (r1 b1 1)) a 2 ((up2 r1 a 1 (r1 b1 1)) b1 2)) a 3 ((up2 (up2 r1 a 1 (r1 b1 1)) a 2 ((up2 r1 a 1 (r1 b1 1)) b1 2)) b1 3)) b1 4)) b1 5)) a 6 ((up2 (up2 (up2 (up2 (up2 r1 a 1 (r1 b1 1)) a 2 ((up2 r1 a 1 (r1 b1 1)) b1 2)) a 3 ((up2 (up2 r1 a 1 (r1 b1 1)) a 2 ((up2 r1 a 1 (r1 b1 1)) b1 2)) b1 3)) a 4 ((up2 (up2 (up2 r1 a 1 (r1 b1 1)) a 2 ((up2 r1 a 1 (r1 b1 1)) b1 2)) a 3 ((up2 (up2 r1 a 1 (r1 b1 1)) a 2 ((up2 r1 a 1 (r1 b1 1)) b1 2)) b1 3)) b1 4)) a 5 ((up2 (up2 (up2 (up2 r1 a 1 (r1 b1 1)) a 2 ((up2 r1 a 1 (r1 b1 1)) b1 2)) a 3 ((up2 (up2 r1 a 1 (r1 b1 1)) a 2 ((up2 r1 a 1 (r1 b1 1)) b1 2)) b1 3)) a 4 ((up2 (up2 (up2 r1 a 1 (r1 b1 1)) a 2 ((up2 r1 a 1 (r1 b1 1)) b1 2)) a 3 ((up2 (up2 r1 a 1 (r1 b1 1)) a 2 ((up2 r1 a 1 (r1 b1 1)) b1 2)) b1 3)) b1 4)) b1 5)) b1 6)) b1 7)) a 8 ((up2 (up2 (up2 (up2 (up2 (up2 (up2 r1 a 1 (r1 b1 1)) a 2 ((up2 r1 a 1 (r1 b1 1)) b1 2)) a 3 ((up2 (up2 r1 a 1 (r1 b1 1)) a 2 ((up2 r1 a 1 (r1 b1 1)) b1 2)) b1 3)) a 4 ((up2 (up2 (up2 r1 a 1 (r1 b1 1)) a 2 ((up2 r1 a 1 (r1 b1 1)) b1 2)) a 3 ((up2 (up2 r1 a 1 (r1 b1 1)) a 2 ((up2 r1 a 1 (r1 b1 1)) b1 2)) b1 3)) b1 4)) a 5 ((up2 (up2 (up2 (up2 r1 a 1 (r1 b1 1)) a 2 ((up2 r1 a 1 (r1 b1 1)) b1 2)) a 3 ((up2 (up2 r1 a 1 (r1 b1 1)) a 2 ((up2 r1 a 1 (r1 b1 1)) b1 2)) b1 3)) a 4 ((up2 (up2 (up2 r1 a 1 (r1 b1 1)) a 2 ((up2 r1 a 1 (r1 b1 1)) b1 2)) a 3 ((up2 (up2 r1 a 1 (r1 b1 1)) a 2 ((up2 r1 a 1 (r1 b1 1)) b1 2)) b1 3)) b1 4)) b1 5)) a 6 ((up2 (up2 (up2 (up2 (up2 r1 a 1 (r1 b1 1)) a 2 ((up2 r1 a 1 (r1 b1 1)) b1 2)) a 3 ((up2 (up2 r1 a 1 (r1 b1 1)) a 2 ((up2 r1 a 1 (r1 b1 1)) b1 2)) b1 3)) a 4 ((up2 (up2 (up2 r1 a 1 (r1 b1 1)) a 2 ((up2 r1 a 1 (r1 b1 1)) b1 2)) a 3 ((up2 (up2 r1 a 1 (r1 b1 1)) a 2 ((up2 r1 a 1 (r1 b1 1)) b1 2)) b1 3)) b1 4)) a 5 ((up2 (up2 (up2 (up2 r1 a 1 (r1 b1 1)) a 2 ((up2 r1 a 1 (r1 b1 1)) b1 2)) a 3 ((up2 (up2 r1 a 1 (r1 b1 1)) a 2 ((up2 r1 a 1 (r1 b1 1)) b1 2)) b1 3)) a 4 ((up2 (up2 (up2 r1 a 1 (r1 b1 1)) a 2 ((up2 r1 a 1 (r1 b1 1)) b1 2)) a 3 ((up2 (up2 r1 a 1 (r1 b1 1)) a 2 ((up2 r1 a 1 (r1 b1 1)) b1 2)) b1 3)) b1 4)) b1 5)) b1 6)) a 7 ((up2 (up2 (up2 (up2 (up2 (up2 r1 a 1 (r1 b1 1)) a 2 ((up2 r1 a 1 (r1 b1 1)) b1 2)) a 3 ((up2 (up2 r1 a 1 (r1 b1 1)) a 2 ((up2 r1 a 1 (r1 b1 1)) b1 2)) b1 3)) a 4 ((up2 (up2 (up2 r1 a 1 (r1 b1 1)) a 2 ((up2 r1 a 1 (r1 b1 1)) b1 2)) a 3 ((up2 (up2 r1 a 1 (r1 b1 1)) a 2 ((up2 r1 a 1 (r1 b1 1)) b1 2)) b1 3)) b1 4)) a 5 ((up2 (up2 (up2 (up2 r1 a 1 (r1 b1 1)) a 2 ((up2 r1 a 1 (r1 b1 1)) b1 2)) a 3 ((up2 (up2 r1 a 1 (r1 b1 1)) a 2 ((up2 r1 a 1 (r1 b1 1)) b1 2)) b1 3)) a 4 ((up2 (up2 (up2 r1 a 1 (r1 b1 1)) a 2 ((up2 r1 a 1 (r1 b1 1)) b1 2)) a 3 ((up2 (up2 r1 a 1 (r1 b1 1)) a 2 ((up2 r1 a 1 (r1 b1 1)) b1 2)) b1 3)) b1 4)) b1 5)) a 6 ((up2 (up2 (up2 (up2 (up2 r1 a 1 (r1 b1 1)) a 2 ((up2 r1 a 1 (r1 b1 1)) b1 2)) a 3 ((up2 (up2 r1 a 1 (r1 b1 1)) a 2 ((up2 r1 a 1 (r1 b1 1)) b1 2)) b1 3)) a 4 ((up2 (up2 (up2 r1 a 1 (r1 b1 1)) a 2 ((up2 r1 a 1 (r1 b1 1)) b1 2)) a 3 ((up2 (up2 r1 a 1 (r1 b1 1)) a 2 ((up2 r1 a 1 (r1 b1 1)) b1 2)) b1 3)) b1 4)) a 5 ((up2 (up2 (up2 (up2 r1 a 1 (r1 b1 1)) a 2 ((up2 r1 a 1 (r1 b1 1)) b1 2)) a 3 ((up2 (up2 r1 a 1 (r1 b1 1)) a 2 ((up2 r1 a 1 (r1 b1 1)) b1 2)) b1 3)) a 4 ((up2 (up2 (up2 r1 a 1 (r1 b1 1)) a 2 ((up2 r1 a 1 (r1 b1 1)) b1 2)) a 3 ((up2 (up2 r1 a 1 (r1 b1 1)) a 2 ((up2 r1 a 1 (r1 b1 1)) b1 2)) b1 3)) b1 4)) b1 5)) b1 6)) b1 7)) b1 8)) b1 9)) b1 10)) a 11 ((up2 (up2 (up2 (up2 (up2 (up2 (up2 (up2 (up2 (up2 r1 a 1 (r1 b1 1)) a 2 ((up2 r1 a 1 (r1 b1 1)) b1 2)) a 3 ((up2 (up2 r1 a 1 (r1 b1 1)) a 2 ((up2 r1 a 1 (r1 b1 1)) b1 2)) b1 3)) a 4 ((up2 (up2 (up2 r1 a 1 (r1 b1 1)) a 2 ((up2 r1 a 1 (r1 b1 1)) b1 2)) a 3 ((up2 (up2 r1 a 1 (r1 b1 1)) a 2 ((up2 r1 a 1 (r1 b1 1)) b1 2)) b1 3)) b1 4)) a 5 ((up2 (up2 (up2 (up2 r1 a 1 (r1 b1 1)) a 2 ((up2 r1 a 1 (r1 b1 1)) b1 2)) a 3 ((up2 (up2 r1 a 1 (r1 b1 1)) a 2 ((up2 r1 a 1 (r1 b1 1)) b1 2)) b1 3)) a 4 ((up2 (up2 (up2 r1 a 1 (r1 b1 1)) a 2 ((up2 r1 a 1 (r1 b1 1)) b1 2)) a 3 ((up2 (up2 r1 a 1 (r1 b1 1)) a 2 ((up2 r1 a 1 (r1 b1 1)) b1 2)) b1 3)) b1 4)) b1 5)) a 6 ((up2 (up2 (up2 (up2 (up2 r1 a 1 (r1 b1 1)) a 2 ((up2 r1 a 1 (r1 b1 1)) b1 2)) a 3 ((up2 (up2 r1 a 1 (r1 b1 1)) a 2 ((up2 r1 a 1 (r1 b1 1)) b1 2)) b1 3)) a 4 ((up2 (up2 (up2 r1 a 1 (r1 b1 1)) a 2 ((up2 r1 a 1 (r1 b1 1)) b1 2)) a 3 ((up2 (up2 r1 a 1 (r1 b1 1)) a 2 ((up2 r1 a 1 (r1 b1 1)) b1 2)) b1 3)) b1 4)) a 5 ((up2 (up2 (up2 (up2 r1 a 1 (r1 b1 1)) a 2 ((up2 r1 a 1 (r1 b1 1)) b1 2)) a 3 ((up2 (up2 r1 a 1 (r1 b1 1)) a 2 ((up2 r1 a 1 (r1 b1 1)) b1 2)) b1 3)) a 4 ((up2 (up2 (up2 r1 a 1 (r1 b1 1)) a 2 ((up2 r1 a 1 (r1 b1 1)) b1 2)) a 3 ((up2 (up2 r1 a 1 (r1 b1 1)) a 2 ((up2 r1 a 1 (r1 b1 1)) b1 2)) b1 3)) b1 4)) b1 5)) b1 6)) a 7 ((up2 (up2 (up2 (up2 (up2 (up2 r1 a 1 (r1 b1 1)) a 2 ((up2 r1 a 1 (r1 b1 1)) b1 2)) a 3 ((up2 (up2 r1 a 1 (r1 b1 1)) a 2 ((up2 r1 a 1 (r1 b1 1)) b1 2)) b1 3)) a 4 ((up2 (up2 (up2 r1 a 1 (r1 b1 1)) a 2 ((up2 r1 a 1 (r1 b1 1)) b1 2)) a 3 ((up2 (up2 r1 a 1 (r1 b1 1)) a 2 ((up2 r1 a 1 (r1 b1 1)) b1 2)) b1 3)) b1 4)) a 5 ((up2 (up2 (up2 (up2 r1 a 1 (r1 b1 1)) a 2 ((up2 r1 a 1 (r1 b1 1)) b1 2)) a 3 ((up2 (up2 r1 a 1 (r1 b1 1)) a 2 ((up2 r1 a 1 (r1 b1 1)) b1 2)) b1 3)) a 4 ((up2 (up2 (up2 r1 a 1 (r1 b1 1)) a 2 ((up2 r1 a 1 (r1 b1 1)) b1 2)) a 3 ((up2 (up2 r1 a 1 (r1 b1 1)) a 2 ((up2 r1 a 1 (r1 b1 1)) b1 2)) b1 3)) b1 4)) b1 5)) a 6 ((up2 (up2 (up2 (up2 (up2 r1 a 1 (r1 b1 1)) a 2 ((up2 r1 a 1 (r1 b1 1)) b1 2)) a 3 ((up2 (up2 r1 a 1 (r1 b1 1)) a 2 ((up2 r1 a 1 (r1 b1 1)) b1 2)) b1 3)) a 4 ((up2 (up2 (up2 r1 a 1 (r1 b1 1)) a 2 ((up2 r1 a 1 (r1 b1 1)) b1 2)) a 3 ((up2 (up2 r1 a 1 (r1 b1 1)) a 2 ((up2 r1 a 1 (r1 b1 1)) b1 2)) b1 3)) b1 4)) a 5 ((up2 (up2 (up2 (up2 r1 a 1 (r1 b1 1)) a 2 ((up2 r1 a 1 (r1 b1 1)) b1 2)) a 3 ((up2 (up2 r1 a 1 (r1 b1 1)) a 2 ((up2 r1 a 1 (r1 b1 1)) b1 2)) b1 3)) a 4 ((up2 (up2 (up2 r1 a 1 (r1 b1 1)) a 2 ((up2 r1 a 1 (r1 b1 1)) b1 2)) a 3 ((up2 (up2 r1 a 1 (r1 b1 1)) a 2 ((up2 r1 a 1 (r1 b1 1)) b1 2)) b1 3)) b1 4)) b1 5)) b1 6)) b1 7)) a 8 ((up2 (up2 (up2 (up2 (up2 (up2 (up2 r1 a 1 (r1 b1 1)) a 2 ((up2 r1 a 1 (r1 b1 1)) b1 2)) a 3 ((up2 (up2 r1 a 1 (r1 b1 1)) a 2 ((up2 r1 a 1 (r1 b1 1)) b1 2)) b1 3)) a 4 ((up2 (up2 (up2 r1 a 1 (r1 b1 1)) a 2 ((up2 r1 a 1 (r1 b1 1)) b1 2)) a 3 ((up2 (up2 r1 a 1 (r1 b1 1)) a 2 ((up2 r1 a 1 (r1 b1 1)) b1 2)) b1 3)) b1 4)) a 5 ((up2 (up2 (up2 (up2 r1 a 1 (r1 b1 1)) a 2 ((up2 r1 a 1 (r1 b1 1)) b1 2)) a 3 ((up2 (up2 r1 a 1 (r1 b1 1)) a 2 ((up2 r1 a 1 (r1 b1 1)) b1 2)) b1 3)) a 4 ((up2 (up2 (up2 r1 a 1 (r1 b1 1)) a 2 ((up2 r1 a 1 (r1 b1 1)) b1 2)) a 3 ((up2 (up2 r1 a 1 (r1 b1 1)) a 2 ((up2 r1 a 1 (r1 b1 1)) b1 2)) b1 3)) b1 4)) b1 5)) a 6 ((up2 (up2 (up2 (up2 (up2 r1 a 1 (r1 b1 1)) a 2 ((up2 r1 a 1 (r1 b1 1)) b1 2)) a 3 ((up2 (up2 r1 a 1 (r1 b1 1)) a 2 ((up2 r1 a 1 (r1 b1 1)) b1 2)) b1 3)) a 4 ((up2 (up2 (up2 r1 a 1 (r1 b1 1)) a 2 ((up2 r1 a 1 (r1 b1 1)) b1 2)) a 3 ((up2 (up2 r1 a 1 (r1 b1 1)) a 2 ((up2 r1 a 1 (r1 b1 1)) b1 2)) b1 3)) b1 4)) a 5 ((up2 (up2 (up2 (up2 r1 a 1 (r1 b1 1)) a 2 ((up2 r1 a 1 (r1 b1 1)) b1 2)) a 3 ((up2 (up2 r1 a 1 (r1 b1 1)) a 2 ((up2 r1 a 1 (r1 b1 1)) b1 2)) b1 3)) a 4 ((up2 (up2 (up2 r1 a 1 (r1 b1 1)) a 2 ((up2 r1 a 1 (r1 b1 1)) b1 2)) a 3 ((up2 (up2 r1 a 1 (r1 b1 1)) a 2 ((up2 r1 a 1 (r1 b1 1)) b1 2)) b1 3)) b1 4)) b1 5)) b1 6)) a 7 ((up2 (up2 (up2 (up2 (up2 (up2 r1 a 1 (r1 b1 1)) a 2 ((up2 r1 a 1 (r1 b1 1)) b1 2)) a 3 ((up2 (up2 r1 a 1 (r1 b1 1)) a 2 ((up2 r1 a 1 (r1 b1 1)) b1 2)) b1 3)) a 4 ((up2 (up2 (up2 r1 a 1 (r1 b1 1)) a 2 ((up2 r1 a 1 (r1 b1 1)) b1 2)) a 3 ((up2 (up2 r1 a 1 (r1 b1 1)) a 2 ((up2 r1 a 1 (r1 b1 1)) b1 2)) b1 3)) b1 4)) a 5 ((up2 (up2 (up2 (up2 r1 a 1 (r1 b1 1)) a 2 ((up2 r1 a 1 (r1 b1 1)) b1 2)) a 3 ((up2 (up2 r1 a 1 (r1 b1 1)) a 2 ((up2 r1 a 1 (r1 b1 1)) b1 2)) b1 3)) a 4 ((up2 (up2 (up2 r1 a 1 (r1 b1 1)) a 2 ((up2 r1 a 1 (r1 b1 1)) b1 2)) a 3 ((up2 (up2 r1 a 1 (r1 b1 1)) a 2 ((up2 r1 a 1 (r1 b1 1)) b1 2)) b1 3)) b1 4)) b1 5)) a 6 ((up2 (up2 (up2 (up2 (up2 r1 a 1 (r1 b1 1)) a 2 ((up2 r1 a 1 (r1 b1 1)) b1 2)) a 3 ((up2 (up2 r1 a 1 (r1 b1 1)) a 2 ((up2 r1 a 1 (r1 b1 1)) b1 2)) b1 3)) a 4 ((up2 (up2 (up2 r1 a 1 (r1 b1 1)) a 2 ((up2 r1 a 1 (r1 b1 1)) b1 2)) a 3 ((up2 (up2 r1 a 1 (r1 b1 1)) a 2 ((up2 r1 a 1 (r1 b1 1)) b1 2)) b1 3)) b1 4)) a 5 ((up2 (up2 (up2 (up2 r1 a 1 (r1 b1 1)) a 2 ((up2 r1 a 1 (r1 b1 1)) b1 2)) a 3 ((up2 (up2 r1 a 1 (r1 b1 1)) a 2 ((up2 r1 a 1 (r1 b1 1)) b1 2)) b1 3)) a 4 ((up2 (up2 (up2 r1 a 1 (r1 b1 1)) a 2 ((up2 r1 a 1 (r1 b1 1)) b1 2)) a 3 ((up2 (up2 r1 a 1 (r1 b1 1)) a 2 ((up2 r1 a 1 (r1 b1 1)) b1 2)) b1 3)) b1 4)) b1 5)) b1 6)) b1 7)) b1 8)) a 9 ((up2 (up2 (up2 (up2 (up2 (up2 (up2 (up2 r1 a 1 (r1 b1 1)) a 2 ((up2 r1 a 1 (r1 b1 1)) b1 2)) a 3 ((up2 (up2 r1 a 1 (r1 b1 1)) a 2 ((up2 r1 a 1 (r1 b1 1)) b1 2)) b1 3)) a 4 ((up2 (up2 (up2 r1 a 1 (r1 b1 1)) a 2 ((up2 r1 a 1 (r1 b1 1)) b1 2)) a 3 ((up2 (up2 r1 a 1 (r1 b1 1)) a 2 ((up2 r1 a 1 (r1 b1 1)) b1 2)) b1 3)) b1 4)) a 5 ((up2 (up2 (up2 (up2 r1 a 1 (r1 b1 1)) a 2 ((up2 r1 a 1 (r1 b1 1)) b1 2)) a 3 ((up2 (up2 r1 a 1 (r1 b1 1)) a 2 ((up2 r1 a 1 (r1 b1 1)) b1 2)) b1 3)) a 4 ((up2 (up2 (up2 r1 a 1 (r1 b1 1)) a 2 ((up2 r1 a 1 (r1 b1 1)) b1 2)) a 3 ((up2 (up2 r1 a 1 (r1 b1 1)) a 2 ((up2 r1 a 1 (r1 b1 1)) b1 2)) b1 3)) b1 4)) b1 5)) a 6 ((up2 (up2 (up2 (up2 (up2 r1 a 1 (r1 b1 1)) a 2 ((up2 r1 a 1 (r1 b1 1)) b1 2)) a 3 ((up2 (up2 r1 a 1 (r1 b1 1)) a 2 ((up2 r1 a 1 (r1 b1 1)) b1 2)) b1 3)) a 4 ((up2 (up2 (up2 r1 a 1 (r1 b1 1)) a 2 ((up2 r1 a 1 (r1 b1 1)) b1 2)) a 3 ((up2 (up2 r1 a 1 (r1 b1 1)) a 2 ((up2 r1 a 1 (r1 b1 1)) b1 2)) b1 3)) b1 4)) a 5 ((up2 (up2 (up2 (up2 r1 a 1 (r1 b1 1)) a 2 ((up2 r1 a 1 (r1 b1 1)) b1 2)) a 3 ((up2 (up2 r1 a 1 (r1 b1 1)) a 2 ((up2 r1 a 1 (r1 b1 1)) b1 2)) b1 3)) a 4 ((up2 (up2 (up2 r1 a 1 (r1 b1 1)) a 2 ((up2 r1 a 1 (r1 b1 1)) b1 2)) a 3 ((up2 (up2 r1 a 1 (r1 b1 1)) a 2 ((up2 r1 a 1 (r1 b1 1)) b1 2)) b1 3)) b1 4)) b1 5)) b1 6)) a 7 ((up2 (up2 (up2 (up2 (up2 (up2 r1 a 1 (r1 b1 1)) a 2 ((up2 r1 a 1 (r1 b1 1)) b1 2)) a 3 ((up2 (up2 r1 a 1 (r1 b1 1)) a 2 ((up2 r1 a 1 (r1 b1 1)) b1 2)) b1 3)) a 4 ((up2 (up2 (up2 r1 a 1 (r1 b1 1)) a 2 ((up2 r1 a 1 (r1 b1 1)) b1 2)) a 3 ((up2 (up2 r1 a 1 (r1 b1 1)) a 2 ((up2 r1 a 1 (r1 b1 1)) b1 2)) b1 3)) b1 4)) a 5 ((up2 (up2 (up2 (up2 r1 a 1 (r1 b1 1)) a 2 ((up2 r1 a 1 (r1 b1 1)) b1 2)) a 3 ((up2 (up2 r1 a 1 (r1 b1 1)) a 2 ((up2 r1 a 1 (r1 b1 1)) b1 2)) b1 3)) a 4 ((up2 (up2 (up2 r1 a 1 (r1 b1 1)) a 2 ((up2 r1 a 1 (r1 b1 1)) b1 2)) a 3 ((up2 (up2 r1 a 1 (r1 b1 1)) a 2 ((up2 r1 a 1 (r1 b1 1)) b1 2)) b1 3)) b1 4)) b1 5)) a 6 ((up2 (up2 (up2 (up2 (up2 r1 a 1 (r1 b1 1)) a 2 ((up2 r1 a 1 (r1 b1 1)) b1 2)) a 3 ((up2 (up2 r1 a 1 (r1 b1 1)) a 2 ((up2 r1 a 1 (r1 b1 1)) b1 2)) b1 3)) a 4 ((up2 (up2 (up2 r1 a 1 (r1 b1 1)) a 2 ((up2 r1 a 1 (r1 b1 1)) b1 2)) a 3 ((up2 (up2 r1 a 1 (r1 b1 1)) a 2 ((up2 r1 a 1 (r1 b1 1)) b1 2)) b1 3)) b1 4)) a 5 ((up2 (up2 (up2 (up2 r1 a 1 (r1 b1 1)) a 2 ((up2 r1 a 1 (r1 b1 1)) b1 2)) a 3 ((up2 (up2 r1 a 1 (r1 b1 1)) a 2 ((up2 r1 a 1 (r1 b1 1)) b1 2)) b1 3)) a 4 ((up2 (up2 (up2 r1 a 1 (r1 b1 1)) a 2 ((up2 r1 a 1 (r1 b1 1)) b1 2)) a 3 ((up2 (up2 r1 a 1 (r1 b1 1)) a 2 ((up2 r1 a 1 (r1 b1 1)) b1 2)) b1 3)) b1 4)) b1 5)) b1 6)) b1 7)) a 8 ((up2 (up2 (up2 (up2 (up2 (up2 (up2 r1 a 1 (r1 b1 1)) a 2 ((up2 r1 a 1 (r1 b1 1)) b1 2)) a 3 ((up2 (up2 r1 a 1 (r1 b1 1)) a 2 ((up2 r1 a 1 (r1 b1 1)) b1 2)) b1 3)) a 4 ((up2 (up2 (up2 r1 a 1 (r1 b1 1)) a 2 ((up2 r1 a 1 (r1 b1 1)) b1 2)) a 3 ((up2 (up2 r1 a 1 (r1 b1 1)) a 2 ((up2 r1 a 1 (r1 b1 1)) b1 2)) b1 3)) b1 4)) a 5 ((up2 (up2 (up2 (up2 r1 a 1 (r1 b1 1)) a 2 ((up2 r1 a 1 (r1 b1 1)) b1 2)) a 3 ((up2 (up2 r1 a 1 (r1 b1 1)) a 2 ((up2 r1 a 1 (r1 b1 1)) b1 2)) b1 3)) a 4 ((up2 (up2 (up2 r1 a 1 (r1 b1 1)) a 2 ((up2 r1 a 1 (r1 b1 1)) b1 2)) a 3 ((up2 (up2 r1 a 1 (r1 b1 1)) a 2 ((up2 r1 a 1 (r1 b1 1)) b1 2)) b1 3)) b1 4)) b1 5)) a 6 ((up2 (up2 (up2 (up2 (up2 r1 a 1 (r1 b1 1)) a 2 ((up2 r1 a 1 (r1 b1 1)) b1 2)) a 3 ((up2 (up2 r1 a 1 (r1 b1 1)) a 2 ((up2 r1 a 1 (r1 b1 1)) b1 2)) b1 3)) a 4 ((up2 (up2 (up2 r1 a 1 (r1 b1 1)) a 2 ((up2 r1 a 1 (r1 b1 1)) b1 2)) a 3 ((up2 (up2 r1 a 1 (r1 b1 1)) a 2 ((up2 r1 a 1 (r1 b1 1)) b1 2)) b1 3)) b1 4)) a 5 ((up2 (up2 (up2 (up2 r1 a 1 (r1 b1 1)) a 2 ((up2 r1 a 1 (r1 b1 1)) b1 2)) a 3 ((up2 (up2 r1 a 1 (r1 b1 1)) a 2 ((up2 r1 a 1 (r1 b1 1)) b1 2)) b1 3)) a 4 ((up2 (up2 (up2 r1 a 1 (r1 b1 1)) a 2 ((up2 r1 a 1 (r1 b1 1)) b1 2)) a 3 ((up2 (up2 r1 a 1 (r1 b1 1)) a 2 ((up2 r1 a 1 (r1 b1 1)) b1 2)) b1 3)) b1 4)) b1 5)) b1 6)) a 7 ((up2 (up2 (up2 (up2 (up2 (up2 r1 a 1 (r1 b1 1)) a 2 ((up2 r1 a 1 (r1 b1 1)) b1 2)) a 3 ((up2 (up2 r1 a 1 (r1 b1 1)) a 2 ((up2 r1 a 1 (r1 b1 1)) b1 2)) b1 3)) a 4 ((up2 (up2 (up2 r1 a 1 (r1 b1 1)) a 2 ((up2 r1 a 1 (r1 b1 1)) b1 2)) a 3 ((up2 (up2 r1 a 1 (r1 b1 1)) a 2 ((up2 r1 a 1 (r1 b1 1)) b1 2)) b1 3)) b1 4)) a 5 ((up2 (up2 (up2 (up2 r1 a 1 (r1 b1 1)) a 2 ((up2 r1 a 1 (r1 b1 1)) b1 2)) a 3 ((up2 (up2 r1 a 1 (r1 b1 1)) a 2 ((up2 r1 a 1 (r1 b1 1)) b1 2)) b1 3)) a 4 ((up2 (up2 (up2 r1 a 1 (r1 b1 1)) a 2 ((up2 r1 a 1 (r1 b1 1)) b1 2)) a 3 ((up2 (up2 r1 a 1 (r1 b1 1)) a 2 ((up2 r1 a 1 (r1 b1 1)) b1 2)) b1 3)) b1 4)) b1 5)) a 6 ((up2 (up2 (up2 (up2 (up2 r1 a 1 (r1 b1 1)) a 2 ((up2 r1 a 1 (r1 b1 1)) b1 2)) a 3 ((up2 (up2 r1 a 1 (r1 b1 1)) a 2 ((up2 r1 a 1 (r1 b1 1)) b1 2)) b1 3)) a 4 ((up2 (up2 (up2 r1 a 1 (r1 b1 1)) a 2 ((up2 r1 a 1 (r1 b1 1)) b1 2)) a 3 ((up2 (up2 r1 a 1 (r1 b1 1)) a 2 ((up2 r1 a 1 (r1 b1 1)) b1 2)) b1 3)) b1 4)) a 5 ((up2 (up2 (up2 (up2 r1 a 1 (r1 b1 1)) a 2 ((up2 r1 a 1 (r1 b1 1)) b1 2)) a 3 ((up2 (up2 r1 a 1 (r1 b1 1)) a 2 ((up2 r1 a 1 (r1 b1 1)) b1 2)) b1 3)) a 4 ((up2 (up2 (up2 r1 a 1 (r1 b1 1)) a 2 ((up2 r1 a 1 (r1 b1 1)) b1 2)) a 3 ((up2 (up2 r1 a 1 (r1 b1 1)) a 2 ((up2 r1 a 1 (r1 b1 1)) b1 2)) b1 3)) b1 4)) b1 5)) b1 6)) b1 7)) b1 8)) b1 9)) a 10 ((up2 (up2 (up2 (up2 (up2 (up2 (up2 (up2 (up2 r1 a 1 (r1 b1 1)) a 2 ((up2 r1 a 1 (r1 b1 1)) b1 2)) a 3 ((up2 (up2 r1 a 1 (r1 b1 1)) a 2 ((up2 r1 a 1 (r1 b1 1)) b1 2)) b1 3)) a 4 ((up2 (up2 (up2 r1 a 1 (r1 b1 1)) a 2 ((up2 r1 a 1 (r1 b1 1)) b1 2)) a 3 ((up2 (up2 r1 a 1 (r1 b1 1)) a 2 ((up2 r1 a 1 (r1 b1 1)) b1 2)) b1 3)) b1 4)) a 5 ((up2 (up2 (up2 (up2 r1 a 1 (r1 b1 1)) a 2 ((up2 r1 a 1 (r1 b1 1)) b1 2)) a 3 ((up2 (up2 r1 a 1 (r1 b1 1)) a 2 ((up2 r1 a 1 (r1 b1 1)) b1 2)) b1 3)) a 4 ((up2 (up2 (up2 r1 a 1 (r1 b1 1)) a 2 ((up2 r1 a 1 (r1 b1 1)) b1 2)) a 3 ((up2 (up2 r1 a 1 (r1 b1 1)) a 2 ((up2 r1 a 1 (r1 b1 1)) b1 2)) b1 3)) b1 4)) b1 5)) a 6 ((up2 (up2 (up2 (up2 (up2 r1 a 1 (r1 b1 1)) a 2 ((up2 r1 a 1 (r1 b1 1)) b1 2)) a 3 ((up2 (up2 r1 a 1 (r1 b1 1)) a 2 ((up2 r1 a 1 (r1 b1 1)) b1 2)) b1 3)) a 4 ((up2 (up2 (up2 r1 a 1 (r1 b1 1)) a 2 ((up2 r1 a 1 (r1 b1 1)) b1 2)) a 3 ((up2 (up2 r1 a 1 (r1 b1 1)) a 2 ((up2 r1 a 1 (r1 b1 1)) b1 2)) b1 3)) b1 4)) a 5 ((up2 (up2 (up2 (up2 r1 a 1 (r1 b1 1)) a 2 ((up2 r1 a 1 (r1 b1 1)) b1 2)) a 3 ((up2 (up2 r1 a 1 (r1 b1 1)) a 2 ((up2 r1 a 1 (r1 b1 1)) b1 2)) b1 3)) a 4 ((up2 (up2 (up2 r1 a 1 (r1 b1 1)) a 2 ((up2 r1 a 1 (r1 b1 1)) b1 2)) a 3 ((up2 (up2 r1 a 1 (r1 b1 1)) a 2 ((up2 r1 a 1 (r1 b1 1)) b1 2)) b1 3)) b1 4)) b1 5)) b1 6)) a 7 ((up2 (up2 (up2 (up2 (up2 (up2 r1 a 1 (r1 b1 1)) a 2 ((up2 r1 a 1 (r1 b1 1)) b1 2)) a 3 ((up2 (up2 r1 a 1 (r1 b1 1)) a 2 ((up2 r1 a 1 (r1 b1 1)) b1 2)) b1 3)) a 4 ((up2 (up2 (up2 r1 a 1 (r1 b1 1)) a 2 ((up2 r1 a 1 (r1 b1 1)) b1 2)) a 3 ((up2 (up2 r1 a 1 (r1 b1 1)) a 2 ((up2 r1 a 1 (r1 b1 1)) b1 2)) b1 3)) b1 4)) a 5 ((up2 (up2 (up2 (up2 r1 a 1 (r1 b1 1)) a 2 ((up2 r1 a 1 (r1 b1 1)) b1 2)) a 3 ((up2 (up2 r1 a 1 (r1 b1 1)) a 2 ((up2 r1 a 1 (r1 b1 1)) b1 2)) b1 3)) a 4 ((up2 (up2 (up2 r1 a 1 (r1 b1 1)) a 2 ((up2 r1 a 1 (r1 b1 1)) b1 2)) a 3 ((up2 (up2 r1 a 1 (r1 b1 1)) a 2 ((up2 r1 a 1 (r1 b1 1)) b1 2)) b1 3)) b1 4)) b1 5)) a 6 ((up2 (up2 (up2 (up2 (up2 r1 a 1 (r1 b1 1)) a 2 ((up2 r1 a 1 (r1 b1 1)) b1 2)) a 3 ((up2 (up2 r1 a 1 (r1 b1 1)) a 2 ((up2 r1 a 1 (r1 b1 1)) b1 2)) b1 3)) a 4 ((up2 (up2 (up2 r1 a 1 (r1 b1 1)) a 2 ((up2 r1 a 1 (r1 b1 1)) b1 2)) a 3 ((up2 (up2 r1 a 1 (r1 b1 1)) a 2 ((up2 r1 a 1 (r1 b1 1)) b1 2)) b1 3)) b1 4)) a 5 ((up2 (up2 (up2 (up2 r1 a 1 (r1 b1 1)) a 2 ((up2 r1 a 1 (r1 b1 1)) b1 2)) a 3 ((up2 (up2 r1 a 1 (r1 b1 1)) a 2 ((up2 r1 a 1 (r1 b1 1)) b1 2)) b1 3)) a 4 ((up2 (up2 (up2 r1 a 1 (r1 b1 1)) a 2 ((up2 r1 a 1 (r1 b1 1)) b1 2)) a 3 ((up2 (up2 r1 a 1 (r1 b1 1)) a 2 ((up2 r1 a 1 (r1 b1 1)) b1 2)) b1 3)) b1 4)) b1 5)) b1 6)) b1 7)) a 8 ((up2 (up2 (up2 (up2 (up2 (up2 (up2 r1 a 1 (r1 b1 1)) a 2 ((up2 r1 a 1 (r1 b1 1)) b1 2)) a 3 ((up2 (up2 r1 a 1 (r1 b1 1)) a 2 ((up2 r1 a 1 (r1 b1 1)) b1 2)) b1 3)) a 4 ((up2 (up2 (up2 r1 a 1 (r1 b1 1)) a 2 ((up2 r1 a 1 (r1 b1 1)) b1 2)) a 3 ((up2 (up2 r1 a 1 (r1 b1 1)) a 2 ((up2 r1 a 1 (r1 b1 1)) b1 2)) b1 3)) b1 4)) a 5 ((up2 (up2 (up2 (up2 r1 a 1 (r1 b1 1)) a 2 ((up2 r1 a 1 (r1 b1 1)) b1 2)) a 3 ((up2 (up2 r1 a 1 (r1 b1 1)) a 2 ((up2 r1 a 1 (r1 b1 1)) b1 2)) b1 3)) a 4 ((up2 (up2 (up2 r1 a 1 (r1 b1 1)) a 2 ((up2 r1 a 1 (r1 b1 1)) b1 2)) a 3 ((up2 (up2 r1 a 1 (r1 b1 1)) a 2 ((up2 r1 a 1 (r1 b1 1)) b1 2)) b1 3)) b1 4)) b1 5)) a 6 ((up2 (up2 (up2 (up2 (up2 r1 a 1 (r1 b1 1)) a 2 ((up2 r1 a 1 (r1 b1 1)) b1 2)) a 3 ((up2 (up2 r1 a 1 (r1 b1 1)) a 2 ((up2 r1 a 1 (r1 b1 1)) b1 2)) b1 3)) a 4 ((up2 (up2 (up2 r1 a 1 (r1 b1 1)) a 2 ((up2 r1 a 1 (r1 b1 1)) b1 2)) a 3 ((up2 (up2 r1 a 1 (r1 b1 1)) a 2 ((up2 r1 a 1 (r1 b1 1)) b1 2)) b1 3)) b1 4)) a 5 ((up2 (up2 (up2 (up2 r1 a 1 (r1 b1 1)) a 2 ((up2 r1 a 1 (r1 b1 1)) b1 2)) a 3 ((up2 (up2 r1 a 1 (r1 b1 1)) a 2 ((up2 r1 a 1 (r1 b1 1)) b1 2)) b1 3)) a 4 ((up2 (up2 (up2 r1 a 1 (r1 b1 1)) a 2 ((up2 r1 a 1 (r1 b1 1)) b1 2)) a 3 ((up2 (up2 r1 a 1 (r1 b1 1)) a 2 ((up2 r1 a 1 (r1 b1 1)) b1 2)) b1 3)) b1 4)) b1 5)) b1 6)) a 7 ((up2 (up2 (up2 (up2 (up2 (up2 r1 a 1 (r1 b1 1)) a 2 ((up2 r1 a 1 (r1 b1 1)) b1 2)) a 3 ((up2 (up2 r1 a 1 (r1 b1 1)) a 2 ((up2 r1 a 1 (r1 b1 1)) b1 2)) b1 3)) a 4 ((up2 (up2 (up2 r1 a 1 (r1 b1 1)) a 2 ((up2 r1 a 1 (r1 b1 1)) b1 2)) a 3 ((up2 (up2 r1 a 1 (r1 b1 1)) a 2 ((up2 r1 a 1 (r1 b1 1)) b1 2)) b1 3)) b1 4)) a 5 ((up2 (up2 (up2 (up2 r1 a 1 (r1 b1 1)) a 2 ((up2 r1 a 1 (r1 b1 1)) b1 2)) a 3 ((up2 (up2 r1 a 1 (r1 b1 1)) a 2 ((up2 r1 a 1 (r1 b1 1)) b1 2)) b1 3)) a 4 ((up2 (up2 (up2 r1 a 1 (r1 b1 1)) a 2 ((up2 r1 a 1 (r1 b1 1)) b1 2)) a 3 ((up2 (up2 r1 a 1 (r1 b1 1)) a 2 ((up2 r1 a 1 (r1 b1 1)) b1 2)) b1 3)) b1 4)) b1 5)) a 6 ((up2 (up2 (up2 (up2 (up2 r1 a 1 (r1 b1 1)) a 2 ((up2 r1 a 1 (r1 b1 1)) b1 2)) a 3 ((up2 (up2 r1 a 1 (r1 b1 1)) a 2 ((up2 r1 a 1 (r1 b1 1)) b1 2)) b1 3)) a 4 ((up2 (up2 (up2 r1 a 1 (r1 b1 1)) a 2 ((up2 r1 a 1 (r1 b1 1)) b1 2)) a 3 ((up2 (up2 r1 a 1 (r1 b1 1)) a 2 ((up2 r1 a 1 (r1 b1 1)) b1 2)) b1 3)) b1 4)) a 5 ((up2 (up2 (up2 (up2 r1 a 1 (r1 b1 1)) a 2 ((up2 r1 a 1 (r1 b1 1)) b1 2)) a 3 ((up2 (up2 r1 a 1 (r1 b1 1)) a 2 ((up2 r1 a 1 (r1 b1 1)) b1 2)) b1 3)) a 4 ((up2 (up2 (up2 r1 a 1 (r1 b1 1)) a 2 ((up2 r1 a 1 (r1 b1 1)) b1 2)) a 3 ((up2 (up2 r1 a 1 (r1 b1 1)) a 2 ((up2 r1 a 1 (r1 b1 1)) b1 2)) b1 3)) b1 4)) b1 5)) b1 6)) b1 7)) b1 8)) a 9 ((up2 (up2 (up2 (up2 (up2 (up2 (up2 (up2 r1 a 1 (r1 b1 1)) a 2 ((up2 r1 a 1 (r1 b1 1)) b1 2)) a 3 ((up2 (up2 r1 a 1 (r1 b1 1)) a 2 ((up2 r1 a 1 (r1 b1 1)) b1 2)) b1 3)) a 4 ((up2 (up2 (up2 r1 a 1 (r1 b1 1)) a 2 ((up2 r1 a 1 (r1 b1 1)) b1 2)) a 3 ((up2 (up2 r1 a 1 (r1 b1 1)) a 2 ((up2 r1 a 1 (r1 b1 1)) b1 2)) b1 3)) b1 4)) a 5 ((up2 (up2 (up2 (up2 r1 a 1 (r1 b1 1)) a 2 ((up2 r1 a 1 (r1 b1 1)) b1 2)) a 3 ((up2 (up2 r1 a 1 (r1 b1 1)) a 2 ((up2 r1 a 1 (r1 b1 1)) b1 2)) b1 3)) a 4 ((up2 (up2 (up2 r1 a 1 (r1 b1 1)) a 2 ((up2 r1 a 1 (r1 b1 1)) b1 2)) a 3 ((up2 (up2 r1 a 1 (r1 b1 1)) a 2 ((up2 r1 a 1 (r1 b1 1)) b1 2)) b1 3)) b1 4)) b1 5)) a 6 ((up2 (up2 (up2 (up2 (up2 r1 a 1 (r1 b1 1)) a 2 ((up2 r1 a 1 (r1 b1 1)) b1 2)) a 3 ((up2 (up2 r1 a 1 (r1 b1 1)) a 2 ((up2 r1 a 1 (r1 b1 1)) b1 2)) b1 3)) a 4 ((up2 (up2 (up2 r1 a 1 (r1 b1 1)) a 2 ((up2 r1 a 1 (r1 b1 1)) b1 2)) a 3 ((up2 (up2 r1 a 1 (r1 b1 1)) a 2 ((up2 r1 a 1 (r1 b1 1)) b1 2)) b1 3)) b1 4)) a 5 ((up2 (up2 (up2 (up2 r1 a 1 (r1 b1 1)) a 2 ((up2 r1 a 1 (r1 b1 1)) b1 2)) a 3 ((up2 (up2 r1 a 1 (r1 b1 1)) a 2 ((up2 r1 a 1 (r1 b1 1)) b1 2)) b1 3)) a 4 ((up2 (up2 (up2 r1 a 1 (r1 b1 1)) a 2 ((up2 r1 a 1 (r1 b1 1)) b1 2)) a 3 ((up2 (up2 r1 a 1 (r1 b1 1)) a 2 ((up2 r1 a 1 (r1 b1 1)) b1 2)) b1 3)) b1 4)) b1 5)) b1 6)) a 7 ((up2 (up2 (up2 (up2 (up2 (up2 r1 a 1 (r1 b1 1)) a 2 ((up2 r1 a 1 (r1 b1 1)) b1 2)) a 3 ((up2 (up2 r1 a 1 (r1 b1 1)) a 2 ((up2 r1 a 1 (r1 b1 1)) b1 2)) b1 3)) a 4 ((up2 (up2 (up2 r1 a 1 (r1 b1 1)) a 2 ((up2 r1 a 1 (r1 b1 1)) b1 2)) a 3 ((up2 (up2 r1 a 1 (r1 b1 1)) a 2 ((up2 r1 a 1 (r1 b1 1)) b1 2)) b1 3)) b1 4)) a 5 ((up2 (up2 (up2 (up2 r1 a 1 (r1 b1 1)) a 2 ((up2 r1 a 1 (r1 b1 1)) b1 2)) a 3 ((up2 (up2 r1 a 1 (r1 b1 1)) a 2 ((up2 r1 a 1 (r1 b1 1)) b1 2)) b1 3)) a 4 ((up2 (up2 (up2 r1 a 1 (r1 b1 1)) a 2 ((up2 r1 a 1 (r1 b1 1)) b1 2)) a 3 ((up2 (up2 r1 a 1 (r1 b1 1)) a 2 ((up2 r1 a 1 (r1 b1 1)) b1 2)) b1 3)) b1 4)) b1 5)) a 6 ((up2 (up2 (up2 (up2 (up2 r1 a 1 (r1 b1 1)) a 2 ((up2 r1 a 1 (r1 b1 1)) b1 2)) a 3 ((up2 (up2 r1 a 1 (r1 b1 1)) a 2 ((up2 r1 a 1 (r1 b1 1)) b1 2)) b1 3)) a 4 ((up2 (up2 (up2 r1 a 1 (r1 b1 1)) a 2 ((up2 r1 a 1 (r1 b1 1)) b1 2)) a 3 ((up2 (up2 r1 a 1 (r1 b1 1)) a 2 ((up2 r1 a 1 (r1 b1 1)) b1 2)) b1 3)) b1 4)) a 5 ((up2 (up2 (up2 (up2 r1 a 1 (r1 b1 1)) a 2 ((up2 r1 a 1 (r1 b1 1)) b1 2)) a 3 ((up2 (up2 r1 a 1 (r1 b1 1)) a 2 ((up2 r1 a 1 (r1 b1 1)) b1 2)) b1 3)) a 4 ((up2 (up2 (up2 r1 a 1 (r1 b1 1)) a 2 ((up2 r1 a 1 (r1 b1 1)) b1 2)) a 3 ((up2 (up2 r1 a 1 (r1 b1 1)) a 2 ((up2 r1 a 1 (r1 b1 1)) b1 2)) b1 3)) b1 4)) b1 5)) b1 6)) b1 7)) a 8 ((up2 (up2 (up2 (up2 (up2 (up2 (up2 r1 a 1 (r1 b1 1)) a 2 ((up2 r1 a 1 (r1 b1 1)) b1 2)) a 3 ((up2 (up2 r1 a 1 (r1 b1 1)) a 2 ((up2 r1 a 1 (r1 b1 1)) b1 2)) b1 3)) a 4 ((up2 (up2 (up2 r1 a 1 (r1 b1 1)) a 2 ((up2 r1 a 1 (r1 b1 1)) b1 2)) a 3 ((up2 (up2 r1 a 1 (r1 b1 1)) a 2 ((up2 r1 a 1 (r1 b1 1)) b1 2)) b1 3)) b1 4)) a 5 ((up2 (up2 (up2 (up2 r1 a 1 (r1 b1 1)) a 2 ((up2 r1 a 1 (r1 b1 1)) b1 2)) a 3 ((up2 (up2 r1 a 1 (r1 b1 1)) a 2 ((up2 r1 a 1 (r1 b1 1)) b1 2)) b1 3)) a 4 ((up2 (up2 (up2 r1 a 1 (r1 b1 1)) a 2 ((up2 r1 a 1 (r1 b1 1)) b1 2)) a 3 ((up2 (up2 r1 a 1 (r1 b1 1)) a 2 ((up2 r1 a 1 (r1 b1 1)) b1 2)) b1 3)) b1 4)) b1 5)) a 6 ((up2 (up2 (up2 (up2 (up2 r1 a 1 (r1 b1 1)) a 2 ((up2 r1 a 1 (r1 b1 1)) b1 2)) a 3 ((up2 (up2 r1 a 1 (r1 b1 1)) a 2 ((up2 r1 a 1 (r1 b1 1)) b1 2)) b1 3)) a 4 ((up2 (up2 (up2 r1 a 1 (r1 b1 1)) a 2 ((up2 r1 a 1 (r1 b1 1)) b1 2)) a 3 ((up2 (up2 r1 a 1 (r1 b1 1)) a 2 ((up2 r1 a 1 (r1 b1 1)) b1 2)) b1 3)) b1 4)) a 5 ((up2 (up2 (up2 (up2 r1 a 1 (r1 b1 1)) a 2 ((up2 r1 a 1 (r1 b1 1)) b1 2)) a 3 ((up2 (up2 r1 a 1 (r1 b1 1)) a 2 ((up2 r1 a 1 (r1 b1 1)) b1 2)) b1 3)) a 4 ((up2 (up2 (up2 r1 a 1 (r1 b1 1)) a 2 ((up2 r1 a 1 (r1 b1 1)) b1 2)) a 3 ((up2 (up2 r1 a 1 (r1 b1 1)) a 2 ((up2 r1 a 1 (r1 b1 1)) b1 2)) b1 3)) b1 4)) b1 5)) b1 6)) a 7 ((up2 (up2 (up2 (up2 (up2 (up2 r1 a 1 (r1 b1 1)) a 2 ((up2 r1 a 1 (r1 b1 1)) b1 2)) a 3 ((up2 (up2 r1 a 1 (r1 b1 1)) a 2 ((up2 r1 a 1 (r1 b1 1)) b1 2)) b1 3)) a 4 ((up2 (up2 (up2 r1 a 1 (r1 b1 1)) a 2 ((up2 r1 a 1 (r1 b1 1)) b1 2)) a 3 ((up2 (up2 r1 a 1 (r1 b1 1)) a 2 ((up2 r1 a 1 (r1 b1 1)) b1 2)) b1 3)) b1 4)) a 5 ((up2 (up2 (up2 (up2 r1 a 1 (r1 b1 1)) a 2 ((up2 r1 a 1 (r1 b1 1)) b1 2)) a 3 ((up2 (up2 r1 a 1 (r1 b1 1)) a 2 ((up2 r1 a 1 (r1 b1 1)) b1 2)) b1 3)) a 4 ((up2 (up2 (up2 r1 a 1 (r1 b1 1)) a 2 ((up2 r1 a 1 (r1 b1 1)) b1 2)) a 3 ((up2 (up2 r1 a 1 (r1 b1 1)) a 2 ((up2 r1 a 1 (r1 b1 1)) b1 2)) b1 3)) b1 4)) b1 5)) a 6 ((up2 (up2 (up2 (up2 (up2 r1 a 1 (r1 b1 1)) a 2 ((up2 r1 a 1 (r1 b1 1)) b1 2)) a 3 ((up2 (up2 r1 a 1 (r1 b1 1)) a 2 ((up2 r1 a 1 (r1 b1 1)) b1 2)) b1 3)) a 4 ((up2 (up2 (up2 r1 a 1 (r1 b1 1)) a 2 ((up2 r1 a 1 (r1 b1 1)) b1 2)) a 3 ((up2 (up2 r1 a 1 (r1 b1 1)) a 2 ((up2 r1 a 1 (r1 b1 1)) b1 2)) b1 3)) b1 4)) a 5 ((up2 (up2 (up2 (up2 r1 a 1 (r1 b1 1)) a 2 ((up2 r1 a 1 (r1 b1 1)) b1 2)) a 3 ((up2 (up2 r1 a 1 (r1 b1 1)) a 2 ((up2 r1 a 1 (r1 b1 1)) b1 2)) b1 3)) a 4 ((up2 (up2 (up2 r1 a 1 (r1 b1 1)) a 2 ((up2 r1 a 1 (r1 b1 1)) b1 2)) a 3 ((up2 (up2 r1 a 1 (r1 b1 1)) a 2 ((up2 r1 a 1 (r1 b1 1)) b1 2)) b1 3)) b1 4)) b1 5)) b1 6)) b1 7)) b1 8)) b1 9)) b1 10)) b1 11)) a 12 ((up2 (up2 (up2 (up2 (up2 (up2 (up2 (up2 (up2 (up2 (up2 r1 a 1 (r1 b1 1)) a 2 ((up2 r1 a 1 (r1 b1 1)) b1 2)) a 3 ((up2 (up2 r1 a 1 (r1 b1 1)) a 2 ((up2 r1 a 1 (r1 b1 1)) b1 2)) b1 3)) a 4 ((up2 (up2 (up2 r1 a 1 (r1 b1 1)) a 2 ((up2 r1 a 1 (r1 b1 1)) b1 2)) a 3 ((up2 (up2 r1 a 1 (r1 b1 1)) a 2 ((up2 r1 a 1 (r1 b1 1)) b1 2)) b1 3)) b1 4)) a 5 ((up2 (up2 (up2 (up2 r1 a 1 (r1 b1 1)) a 2 ((up2 r1 a 1 (r1 b1 1)) b1 2)) a 3 ((up2 (up2 r1 a 1 (r1 b1 1)) a 2 ((up2 r1 a 1 (r1 b1 1)) b1 2)) b1 3)) a 4 ((up2 (up2 (up2 r1 a 1 (r1 b1 1)) a 2 ((up2 r1 a 1 (r1 b1 1)) b1 2)) a 3 ((up2 (up2 r1 a 1 (r1 b1 1)) a 2 ((up2 r1 a 1 (r1 b1 1)) b1 2)) b1 3)) b1 4)) b1 5)) a 6 ((up2 (up2 (up2 (up2 (up2 r1 a 1 (r1 b1 1)) a 2 ((up2 r1 a 1 (r1 b1 1)) b1 2)) a 3 ((up2 (up2 r1 a 1 (r1 b1 1)) a 2 ((up2 r1 a 1 (r1 b1 1)) b1 2)) b1 3)) a 4 ((up2 (up2 (up2 r1 a 1 (r1 b1 1)) a 2 ((up2 r1 a 1 (r1 b1 1)) b1 2)) a 3 ((up2 (up2 r1 a 1 (r1 b1 1)) a 2 ((up2 r1 a 1 (r1 b1 1)) b1 2)) b1 3)) b1 4)) a 5 ((up2 (up2 (up2 (up2 r1 a 1 (r1 b1 1)) a 2 ((up2 r1 a 1 (r1 b1 1)) b1 2)) a 3 ((up2 (up2 r1 a 1 (r1 b1 1)) a 2 ((up2 r1 a 1 (r1 b1 1)) b1 2)) b1 3)) a 4 ((up2 (up2 (up2 r1 a 1 (r1 b1 1)) a 2 ((up2 r1 a 1 (r1 b1 1)) b1 2)) a 3 ((up2 (up2 r1 a 1 (r1 b1 1)) a 2 ((up2 r1 a 1 (r1 b1 1)) b1 2)) b1 3)) b1 4)) b1 5)) b1 6)) a 7 ((up2 (up2 (up2 (up2 (up2 (up2 r1 a 1 (r1 b1 1)) a 2 ((up2 r1 a 1 (r1 b1 1)) b1 2)) a 3 ((up2 (up2 r1 a 1 (r1 b1 1)) a 2 ((up2 r1 a 1 (r1 b1 1)) b1 2)) b1 3)) a 4 ((up2 (up2 (up2 r1 a 1 (r1 b1 1)) a 2 ((up2 r1 a 1 (r1 b1 1)) b1 2)) a 3 ((up2 (up2 r1 a 1 (r1 b1 1)) a 2 ((up2 r1 a 1 (r1 b1 1)) b1 2)) b1 3)) b1 4)) a 5 ((up2 (up2 (up2 (up2 r1 a 1 (r1 b1 1)) a 2 ((up2 r1 a 1 (r1 b1 1)) b1 2)) a 3 ((up2 (up2 r1 a 1 (r1 b1 1)) a 2 ((up2 r1 a 1 (r1 b1 1)) b1 2)) b1 3)) a 4 ((up2 (up2 (up2 r1 a 1 (r1 b1 1)) a 2 ((up2 r1 a 1 (r1 b1 1)) b1 2)) a 3 ((up2 (up2 r1 a 1 (r1 b1 1)) a 2 ((up2 r1 a 1 (r1 b1 1)) b1 2)) b1 3)) b1 4)) b1 5)) a 6 ((up2 (up2 (up2 (up2 (up2 r1 a 1 (r1 b1 1)) a 2 ((up2 r1 a 1 (r1 b1 1)) b1 2)) a 3 ((up2 (up2 r1 a 1 (r1 b1 1)) a 2 ((up2 r1 a 1 (r1 b1 1)) b1 2)) b1 3)) a 4 ((up2 (up2 (up2 r1 a 1 (r1 b1 1)) a 2 ((up2 r1 a 1 (r1 b1 1)) b1 2)) a 3 ((up2 (up2 r1 a 1 (r1 b1 1)) a 2 ((up2 r1 a 1 (r1 b1 1)) b1 2)) b1 3)) b1 4)) a 5 ((up2 (up2 (up2 (up2 r1 a 1 (r1 b1 1)) a 2 ((up2 r1 a 1 (r1 b1 1)) b1 2)) a 3 ((up2 (up2 r1 a 1 (r1 b1 1)) a 2 ((up2 r1 a 1 (r1 b1 1)) b1 2)) b1 3)) a 4 ((up2 (up2 (up2 r1 a 1 (r1 b1 1)) a 2 ((up2 r1 a 1 (r1 b1 1)) b1 2)) a 3 ((up2 (up2 r1 a 1 (r1 b1 1)) a 2 ((up2 r1 a 1 (r1 b1 1)) b1 2)) b1 3)) b1 4)) b1 5)) b1 6)) b1 7)) a 8 ((up2 (up2 (up2 (up2 (up2 (up2 (up2 r1 a 1 (r1 b1 1)) a 2 ((up2 r1 a 1 (r1 b1 1)) b1 2)) a 3 ((up2 (up2 r1 a 1 (r1 b1 1)) a 2 ((up2 r1 a 1 (r1 b1 1)) b1 2)) b1 3)) a 4 ((up2 (up2 (up2 r1 a 1 (r1 b1 1)) a 2 ((up2 r1 a 1 (r1 b1 1)) b1 2)) a 3 ((up2 (up2 r1 a 1 (r1 b1 1)) a 2 ((up2 r1 a 1 (r1 b1 1)) b1 2)) b1 3)) b1 4)) a 5 ((up2 (up2 (up2 (up2 r1 a 1 (r1 b1 1)) a 2 ((up2 r1 a 1 (r1 b1 1)) b1 2)) a 3 ((up2 (up2 r1 a 1 (r1 b1 1)) a 2 ((up2 r1 a 1 (r1 b1 1)) b1 2)) b1 3)) a 4 ((up2 (up2 (up2 r1 a 1 (r1 b1 1)) a 2 ((up2 r1 a 1 (r1 b1 1)) b1 2)) a 3 ((up2 (up2 r1 a 1 (r1 b1 1)) a 2 ((up2 r1 a 1 (r1 b1 1)) b1 2)) b1 3)) b1 4)) b1 5)) a 6 ((up2 (up2 (up2 (up2 (up2 r1 a 1 (r1 b1 1)) a 2 ((up2 r1 a 1 (r1 b1 1)) b1 2)) a 3 ((up2 (up2 r1 a 1 (r1 b1 1)) a 2 ((up2 r1 a 1 (r1 b1 1)) b1 2)) b1 3)) a 4 ((up2 (up2 (up2 r1 a 1 (r1 b1 1)) a 2 ((up2 r1 a 1 (r1 b1 1)) b1 2)) a 3 ((up2 (up2 r1 a 1 (r1 b1 1)) a 2 ((up2 r1 a 1 (r1 b1 1)) b1 2)) b1 3)) b1 4)) a 5 ((up2 (up2 (up2 (up2 r1 a 1 (r1 b1 1)) a 2 ((up2 r1 a 1 (r1 b1 1)) b1 2)) a 3 ((up2 (up2 r1 a 1 (r1 b1 1)) a 2 ((up2 r1 a 1 (r1 b1 1)) b1 2)) b1 3)) a 4 ((up2 (up2 (up2 r1 a 1 (r1 b1 1)) a 2 ((up2 r1 a 1 (r1 b1 1)) b1 2)) a 3 ((up2 (up2 r1 a 1 (r1 b1 1)) a 2 ((up2 r1 a 1 (r1 b1 1)) b1 2)) b1 3)) b1 4)) b1 5)) b1 6)) a 7 ((up2 (up2 (up2 (up2 (up2 (up2 r1 a 1 (r1 b1 1)) a 2 ((up2 r1 a 1 (r1 b1 1)) b1 2)) a 3 ((up2 (up2 r1 a 1 (r1 b1 1)) a 2 ((up2 r1 a 1 (r1 b1 1)) b1 2)) b1 3)) a 4 ((up2 (up2 (up2 r1 a 1 (r1 b1 1)) a 2 ((up2 r1 a 1 (r1 b1 1)) b1 2)) a 3 ((up2 (up2 r1 a 1 (r1 b1 1)) a 2 ((up2 r1 a 1 (r1 b1 1)) b1 2)) b1 3)) b1 4)) a 5 ((up2 (up2 (up2 (up2 r1 a 1 (r1 b1 1)) a 2 ((up2 r1 a 1 (r1 b1 1)) b1 2)) a 3 ((up2 (up2 r1 a 1 (r1 b1 1)) a 2 ((up2 r1 a 1 (r1 b1 1)) b1 2)) b1 3)) a 4 ((up2 (up2 (up2 r1 a 1 (r1 b1 1)) a 2 ((up2 r1 a 1 (r1 b1 1)) b1 2)) a 3 ((up2 (up2 r1 a 1 (r1 b1 1)) a 2 ((up2 r1 a 1 (r1 b1 1)) b1 2)) b1 3)) b1 4)) b1 5)) a 6 ((up2 (up2 (up2 (up2 (up2 r1 a 1 (r1 b1 1)) a 2 ((up2 r1 a 1 (r1 b1 1)) b1 2)) a 3 ((up2 (up2 r1 a 1 (r1 b1 1)) a 2 ((up2 r1 a 1 (r1 b1 1)) b1 2)) b1 3)) a 4 ((up2 (up2 (up2 r1 a 1 (r1 b1 1)) a 2 ((up2 r1 a 1 (r1 b1 1)) b1 2)) a 3 ((up2 (up2 r1 a 1 (r1 b1 1)) a 2 ((up2 r1 a 1 (r1 b1 1)) b1 2)) b1 3)) b1 4)) a 5 ((up2 (up2 (up2 (up2 r1 a 1 (r1 b1 1)) a 2 ((up2 r1 a 1 (r1 b1 1)) b1 2)) a 3 ((up2 (up2 r1 a 1 (r1 b1 1)) a 2 ((up2 r1 a 1 (r1 b1 1)) b1 2)) b1 3)) a 4 ((up2 (up2 (up2 r1 a 1 (r1 b1 1)) a 2 ((up2 r1 a 1 (r1 b1 1)) b1 2)) a 3 ((up2 (up2 r1 a 1 (r1 b1 1)) a 2 ((up2 r1 a 1 (r1 b1 1)) b1 2)) b1 3)) b1 4)) b1 5)) b1 6)) b1 7)) b1 8)) a 9 ((up2 (up2 (up2 (up2 (up2 (up2 (up2 (up2 r1 a 1 (r1 b1 1)) a 2 ((up2 r1 a 1 (r1 b1 1)) b1 2)) a 3 ((up2 (up2 r1 a 1 (r1 b1 1)) a 2 ((up2 r1 a 1 (r1 b1 1)) b1 2)) b1 3)) a 4 ((up2 (up2 (up2 r1 a 1 (r1 b1 1)) a 2 ((up2 r1 a 1 (r1 b1 1)) b1 2)) a 3 ((up2 (up2 r1 a 1 (r1 b1 1)) a 2 ((up2 r1 a 1 (r1 b1 1)) b1 2)) b1 3)) b1 4)) a 5 ((up2 (up2 (up2 (up2 r1 a 1 (r1 b1 1)) a 2 ((up2 r1 a 1 (r1 b1 1)) b1 2)) a 3 ((up2 (up2 r1 a 1 (r1 b1 1)) a 2 ((up2 r1 a 1 (r1 b1 1)) b1 2)) b1 3)) a 4 ((up2 (up2 (up2 r1 a 1 (r1 b1 1)) a 2 ((up2 r1 a 1 (r1 b1 1)) b1 2)) a 3 ((up2 (up2 r1 a 1 (r1 b1 1)) a 2 ((up2 r1 a 1 (r1 b1 1)) b1 2)) b1 3)) b1 4)) b1 5)) a 6 ((up2 (up2 (up2 (up2 (up2 r1 a 1 (r1 b1 1)) a 2 ((up2 r1 a 1 (r1 b1 1)) b1 2)) a 3 ((up2 (up2 r1 a 1 (r1 b1 1)) a 2 ((up2 r1 a 1 (r1 b1 1)) b1 2)) b1 3)) a 4 ((up2 (up2 (up2 r1 a 1 (r1 b1 1)) a 2 ((up2 r1 a 1 (r1 b1 1)) b1 2)) a 3 ((up2 (up2 r1 a 1 (r1 b1 1)) a 2 ((up2 r1 a 1 (r1 b1 1)) b1 2)) b1 3)) b1 4)) a 5 ((up2 (up2 (up2 (up2 r1 a 1 (r1 b1 1)) a 2 ((up2 r1 a 1 (r1 b1 1)) b1 2)) a 3 ((up2 (up2 r1 a 1 (r1 b1 1)) a 2 ((up2 r1 a 1 (r1 b1 1)) b1 2)) b1 3)) a 4 ((up2 (up2 (up2 r1 a 1 (r1 b1 1)) a 2 ((up2 r1 a 1 (r1 b1 1)) b1 2)) a 3 ((up2 (up2 r1 a 1 (r1 b1 1)) a 2 ((up2 r1 a 1 (r1 b1 1)) b1 2)) b1 3)) b1 4)) b1 5)) b1 6)) a 7 ((up2 (up2 (up2 (up2 (up2 (up2 r1 a 1 (r1 b1 1)) a 2 ((up2 r1 a 1 (r1 b1 1)) b1 2)) a 3 ((up2 (up2 r1 a 1 (r1 b1 1)) a 2 ((up2 r1 a 1 (r1 b1 1)) b1 2)) b1 3)) a 4 ((up2 (up2 (up2 r1 a 1 (r1 b1 1)) a 2 ((up2 r1 a 1 (r1 b1 1)) b1 2)) a 3 ((up2 (up2 r1 a 1 (r1 b1 1)) a 2 ((up2 r1 a 1 (r1 b1 1)) b1 2)) b1 3)) b1 4)) a 5 ((up2 (up2 (up2 (up2 r1 a 1 (r1 b1 1)) a 2 ((up2 r1 a 1 (r1 b1 1)) b1 2)) a 3 ((up2 (up2 r1 a 1 (r1 b1 1)) a 2 ((up2 r1 a 1 (r1 b1 1)) b1 2)) b1 3)) a 4 ((up2 (up2 (up2 r1 a 1 (r1 b1 1)) a 2 ((up2 r1 a 1 (r1 b1 1)) b1 2)) a 3 ((up2 (up2 r1 a 1 (r1 b1 1)) a 2 ((up2 r1 a 1 (r1 b1 1)) b1 2)) b1 3)) b1 4)) b1 5)) a 6 ((up2 (up2 (up2 (up2 (up2 r1 a 1 (r1 b1 1)) a 2 ((up2 r1 a 1 (r1 b1 1)) b1 2)) a 3 ((up2 (up2 r1 a 1 (r1 b1 1)) a 2 ((up2 r1 a 1 (r1 b1 1)) b1 2)) b1 3)) a 4 ((up2 (up2 (up2 r1 a 1 (r1 b1 1)) a 2 ((up2 r1 a 1 (r1 b1 1)) b1 2)) a 3 ((up2 (up2 r1 a 1 (r1 b1 1)) a 2 ((up2 r1 a 1 (r1 b1 1)) b1 2)) b1 3)) b1 4)) a 5 ((up2 (up2 (up2 (up2 r1 a 1 (r1 b1 1)) a 2 ((up2 r1 a 1 (r1 b1 1)) b1 2)) a 3 ((up2 (up2 r1 a 1 (r1 b1 1)) a 2 ((up2 r1 a 1 (r1 b1 1)) b1 2)) b1 3)) a 4 ((up2 (up2 (up2 r1 a 1 (r1 b1 1)) a 2 ((up2 r1 a 1 (r1 b1 1)) b1 2)) a 3 ((up2 (up2 r1 a 1 (r1 b1 1)) a 2 ((up2 r1 a 1 (r1 b1 1)) b1 2)) b1 3)) b1 4)) b1 5)) b1 6)) b1 7)) a 8 ((up2 (up2 (up2 (up2 (up2 (up2 (up2 r1 a 1 (r1 b1 1)) a 2 ((up2 r1 a 1 (r1 b1 1)) b1 2)) a 3 ((up2 (up2 r1 a 1 (r1 b1 1)) a 2 ((up2 r1 a 1 (r1 b1 1)) b1 2)) b1 3)) a 4 ((up2 (up2 (up2 r1 a 1 (r1 b1 1)) a 2 ((up2 r1 a 1 (r1 b1 1)) b1 2)) a 3 ((up2 (up2 r1 a 1 (r1 b1 1)) a 2 ((up2 r1 a 1 (r1 b1 1)) b1 2)) b1 3)) b1 4)) a 5 ((up2 (up2 (up2 (up2 r1 a 1 (r1 b1 1)) a 2 ((up2 r1 a 1 (r1 b1 1)) b1 2)) a 3 ((up2 (up2 r1 a 1 (r1 b1 1)) a 2 ((up2 r1 a 1 (r1 b1 1)) b1 2)) b1 3)) a 4 ((up2 (up2 (up2 r1 a 1 (r1 b1 1)) a 2 ((up2 r1 a 1 (r1 b1 1)) b1 2)) a 3 ((up2 (up2 r1 a 1 (r1 b1 1)) a 2 ((up2 r1 a 1 (r1 b1 1)) b1 2)) b1 3)) b1 4)) b1 5)) a 6 ((up2 (up2 (up2 (up2 (up2 r1 a 1 (r1 b1 1)) a 2 ((up2 r1 a 1 (r1 b1 1)) b1 2)) a 3 ((up2 (up2 r1 a 1 (r1 b1 1)) a 2 ((up2 r1 a 1 (r1 b1 1)) b1 2)) b1 3)) a 4 ((up2 (up2 (up2 r1 a 1 (r1 b1 1)) a 2 ((up2 r1 a 1 (r1 b1 1)) b1 2)) a 3 ((up2 (up2 r1 a 1 (r1 b1 1)) a 2 ((up2 r1 a 1 (r1 b1 1)) b1 2)) b1 3)) b1 4)) a 5 ((up2 (up2 (up2 (up2 r1 a 1 (r1 b1 1)) a 2 ((up2 r1 a 1 (r1 b1 1)) b1 2)) a 3 ((up2 (up2 r1 a 1 (r1 b1 1)) a 2 ((up2 r1 a 1 (r1 b1 1)) b1 2)) b1 3)) a 4 ((up2 (up2 (up2 r1 a 1 (r1 b1 1)) a 2 ((up2 r1 a 1 (r1 b1 1)) b1 2)) a 3 ((up2 (up2 r1 a 1 (r1 b1 1)) a 2 ((up2 r1 a 1 (r1 b1 1)) b1 2)) b1 3)) b1 4)) b1 5)) b1 6)) a 7 ((up2 (up2 (up2 (up2 (up2 (up2 r1 a 1 (r1 b1 1)) a 2 ((up2 r1 a 1 (r1 b1 1)) b1 2)) a 3 ((up2 (up2 r1 a 1 (r1 b1 1)) a 2 ((up2 r1 a 1 (r1 b1 1)) b1 2)) b1 3)) a 4 ((up2 (up2 (up2 r1 a 1 (r1 b1 1)) a 2 ((up2 r1 a 1 (r1 b1 1)) b1 2)) a 3 ((up2 (up2 r1 a 1 (r1 b1 1)) a 2 ((up2 r1 a 1 (r1 b1 1)) b1 2)) b1 3)) b1 4)) a 5 ((up2 (up2 (up2 (up2 r1 a 1 (r1 b1 1)) a 2 ((up2 r1 a 1 (r1 b1 1)) b1 2)) a 3 ((up2 (up2 r1 a 1 (r1 b1 1)) a 2 ((up2 r1 a 1 (r1 b1 1)) b1 2)) b1 3)) a 4 ((up2 (up2 (up2 r1 a 1 (r1 b1 1)) a 2 ((up2 r1 a 1 (r1 b1 1)) b1 2)) a 3 ((up2 (up2 r1 a 1 (r1 b1 1)) a 2 ((up2 r1 a 1 (r1 b1 1)) b1 2)) b1 3)) b1 4)) b1 5)) a 6 ((up2 (up2 (up2 (up2 (up2 r1 a 1 (r1 b1 1)) a 2 ((up2 r1 a 1 (r1 b1 1)) b1 2)) a 3 ((up2 (up2 r1 a 1 (r1 b1 1)) a 2 ((up2 r1 a 1 (r1 b1 1)) b1 2)) b1 3)) a 4 ((up2 (up2 (up2 r1 a 1 (r1 b1 1)) a 2 ((up2 r1 a 1 (r1 b1 1)) b1 2)) a 3 ((up2 (up2 r1 a 1 (r1 b1 1)) a 2 ((up2 r1 a 1 (r1 b1 1)) b1 2)) b1 3)) b1 4)) a 5 ((up2 (up2 (up2 (up2 r1 a 1 (r1 b1 1)) a 2 ((up2 r1 a 1 (r1 b1 1)) b1 2)) a 3 ((up2 (up2 r1 a 1 (r1 b1 1)) a 2 ((up2 r1 a 1 (r1 b1 1)) b1 2)) b1 3)) a 4 ((up2 (up2 (up2 r1 a 1 (r1 b1 1)) a 2 ((up2 r1 a 1 (r1 b1 1)) b1 2)) a 3 ((up2 (up2 r1 a 1 (r1 b1 1)) a 2 ((up2 r1 a 1 (r1 b1 1)) b1 2)) b1 3)) b1 4)) b1 5)) b1 6)) b1 7)) b1 8)) b1 9)) a 10 ((up2 (up2 (up2 (up2 (up2 (up2 (up2 (up2 (up2 r1 a 1 (r1 b1 1)) a 2 ((up2 r1 a 1 (r1 b1 1)) b1 2)) a 3 ((up2 (up2 r1 a 1 (r1 b1 1)) a 2 ((up2 r1 a 1 (r1 b1 1)) b1 2)) b1 3)) a 4 ((up2 (up2 (up2 r1 a 1 (r1 b1 1)) a 2 ((up2 r1 a 1 (r1 b1 1)) b1 2)) a 3 ((up2 (up2 r1 a 1 (r1 b1 1)) a 2 ((up2 r1 a 1 (r1 b1 1)) b1 2)) b1 3)) b1 4)) a 5 ((up2 (up2 (up2 (up2 r1 a 1 (r1 b1 1)) a 2 ((up2 r1 a 1 (r1 b1 1)) b1 2)) a 3 ((up2 (up2 r1 a 1 (r1 b1 1)) a 2 ((up2 r1 a 1 (r1 b1 1)) b1 2)) b1 3)) a 4 ((up2 (up2 (up2 r1 a 1 (r1 b1 1)) a 2 ((up2 r1 a 1 (r1 b1 1)) b1 2)) a 3 ((up2 (up2 r1 a 1 (r1 b1 1)) a 2 ((up2 r1 a 1 (r1 b1 1)) b1 2)) b1 3)) b1 4)) b1 5)) a 6 ((up2 (up2 (up2 (up2 (up2 r1 a 1 (r1 b1 1)) a 2 ((up2 r1 a 1 (r1 b1 1)) b1 2)) a 3 ((up2 (up2 r1 a 1 (r1 b1 1)) a 2 ((up2 r1 a 1 (r1 b1 1)) b1 2)) b1 3)) a 4 ((up2 (up2 (up2 r1 a 1 (r1 b1 1)) a 2 ((up2 r1 a 1 (r1 b1 1)) b1 2)) a 3 ((up2 (up2 r1 a 1 (r1 b1 1)) a 2 ((up2 r1 a 1 (r1 b1 1)) b1 2)) b1 3)) b1 4)) a 5 ((up2 (up2 (up2 (up2 r1 a 1 (r1 b1 1)) a 2 ((up2 r1 a 1 (r1 b1 1)) b1 2)) a 3 ((up2 (up2 r1 a 1 (r1 b1 1)) a 2 ((up2 r1 a 1 (r1 b1 1)) b1 2)) b1 3)) a 4 ((up2 (up2 (up2 r1 a 1 (r1 b1 1)) a 2 ((up2 r1 a 1 (r1 b1 1)) b1 2)) a 3 ((up2 (up2 r1 a 1 (r1 b1 1)) a 2 ((up2 r1 a 1 (r1 b1 1)) b1 2)) b1 3)) b1 4)) b1 5)) b1 6)) a 7 ((up2 (up2 (up2 (up2 (up2 (up2 r1 a 1 (r1 b1 1)) a 2 ((up2 r1 a 1 (r1 b1 1)) b1 2)) a 3 ((up2 (up2 r1 a 1 (r1 b1 1)) a 2 ((up2 r1 a 1 (r1 b1 1)) b1 2)) b1 3)) a 4 ((up2 (up2 (up2 r1 a 1 (r1 b1 1)) a 2 ((up2 r1 a 1 (r1 b1 1)) b1 2)) a 3 ((up2 (up2 r1 a 1 (r1 b1 1)) a 2 ((up2 r1 a 1 (r1 b1 1)) b1 2)) b1 3)) b1 4)) a 5 ((up2 (up2 (up2 (up2 r1 a 1 (r1 b1 1)) a 2 ((up2 r1 a 1 (r1 b1 1)) b1 2)) a 3 ((up2 (up2 r1 a 1 (r1 b1 1)) a 2 ((up2 r1 a 1 (r1 b1 1)) b1 2)) b1 3)) a 4 ((up2 (up2 (up2 r1 a 1 (r1 b1 1)) a 2 ((up2 r1 a 1 (r1 b1 1)) b1 2)) a 3 ((up2 (up2 r1 a 1 (r1 b1 1)) a 2 ((up2 r1 a 1 (r1 b1 1)) b1 2)) b1 3)) b1 4)) b1 5)) a 6 ((up2 (up2 (up2 (up2 (up2 r1 a 1 (r1 b1 1)) a 2 ((up2 r1 a 1 (r1 b1 1)) b1 2)) a 3 ((up2 (up2 r1 a 1 (r1 b1 1)) a 2 ((up2 r1 a 1 (r1 b1 1)) b1 2)) b1 3)) a 4 ((up2 (up2 (up2 r1 a 1 (r1 b1 1)) a 2 ((up2 r1 a 1 (r1 b1 1)) b1 2)) a 3 ((up2 (up2 r1 a 1 (r1 b1 1)) a 2 ((up2 r1 a 1 (r1 b1 1)) b1 2)) b1 3)) b1 4)) a 5 ((up2 (up2 (up2 (up2 r1 a 1 (r1 b1 1)) a 2 ((up2 r1 a 1 (r1 b1 1)) b1 2)) a 3 ((up2 (up2 r1 a 1 (r1 b1 1)) a 2 ((up2 r1 a 1 (r1 b1 1)) b1 2)) b1 3)) a 4 ((up2 (up2 (up2 r1 a 1 (r1 b1 1)) a 2 ((up2 r1 a 1 (r1 b1 1)) b1 2)) a 3 ((up2 (up2 r1 a 1 (r1 b1 1)) a 2 ((up2 r1 a 1 (r1 b1 1)) b1 2)) b1 3)) b1 4)) b1 5)) b1 6)) b1 7)) a 8 ((up2 (up2 (up2 (up2 (up2 (up2 (up2 r1 a 1 (r1 b1 1)) a 2 ((up2 r1 a 1 (r1 b1 1)) b1 2)) a 3 ((up2 (up2 r1 a 1 (r1 b1 1)) a 2 ((up2 r1 a 1 (r1 b1 1)) b1 2)) b1 3)) a 4 ((up2 (up2 (up2 r1 a 1 (r1 b1 1)) a 2 ((up2 r1 a 1 (r1 b1 1)) b1 2)) a 3 ((up2 (up2 r1 a 1 (r1 b1 1)) a 2 ((up2 r1 a 1 (r1 b1 1)) b1 2)) b1 3)) b1 4)) a 5 ((up2 (up2 (up2 (up2 r1 a 1 (r1 b1 1)) a 2 ((up2 r1 a 1 (r1 b1 1)) b1 2)) a 3 ((up2 (up2 r1 a 1 (r1 b1 1)) a 2 ((up2 r1 a 1 (r1 b1 1)) b1 2)) b1 3)) a 4 ((up2 (up2 (up2 r1 a 1 (r1 b1 1)) a 2 ((up2 r1 a 1 (r1 b1 1)) b1 2)) a 3 ((up2 (up2 r1 a 1 (r1 b1 1)) a 2 ((up2 r1 a 1 (r1 b1 1)) b1 2)) b1 3)) b1 4)) b1 5)) a 6 ((up2 (up2 (up2 (up2 (up2 r1 a 1 (r1 b1 1)) a 2 ((up2 r1 a 1 (r1 b1 1)) b1 2)) a 3 ((up2 (up2 r1 a 1 (r1 b1 1)) a 2 ((up2 r1 a 1 (r1 b1 1)) b1 2)) b1 3)) a 4 ((up2 (up2 (up2 r1 a 1 (r1 b1 1)) a 2 ((up2 r1 a 1 (r1 b1 1)) b1 2)) a 3 ((up2 (up2 r1 a 1 (r1 b1 1)) a 2 ((up2 r1 a 1 (r1 b1 1)) b1 2)) b1 3)) b1 4)) a 5 ((up2 (up2 (up2 (up2 r1 a 1 (r1 b1 1)) a 2 ((up2 r1 a 1 (r1 b1 1)) b1 2)) a 3 ((up2 (up2 r1 a 1 (r1 b1 1)) a 2 ((up2 r1 a 1 (r1 b1 1)) b1 2)) b1 3)) a 4 ((up2 (up2 (up2 r1 a 1 (r1 b1 1)) a 2 ((up2 r1 a 1 (r1 b1 1)) b1 2)) a 3 ((up2 (up2 r1 a 1 (r1 b1 1)) a 2 ((up2 r1 a 1 (r1 b1 1)) b1 2)) b1 3)) b1 4)) b1 5)) b1 6)) a 7 ((up2 (up2 (up2 (up2 (up2 (up2 r1 a 1 (r1 b1 1)) a 2 ((up2 r1 a 1 (r1 b1 1)) b1 2)) a 3 ((up2 (up2 r1 a 1 (r1 b1 1)) a 2 ((up2 r1 a 1 (r1 b1 1)) b1 2)) b1 3)) a 4 ((up2 (up2 (up2 r1 a 1 (r1 b1 1)) a 2 ((up2 r1 a 1 (r1 b1 1)) b1 2)) a 3 ((up2 (up2 r1 a 1 (r1 b1 1)) a 2 ((up2 r1 a 1 (r1 b1 1)) b1 2)) b1 3)) b1 4)) a 5 ((up2 (up2 (up2 (up2 r1 a 1 (r1 b1 1)) a 2 ((up2 r1 a 1 (r1 b1 1)) b1 2)) a 3 ((up2 (up2 r1 a 1 (r1 b1 1)) a 2 ((up2 r1 a 1 (r1 b1 1)) b1 2)) b1 3)) a 4 ((up2 (up2 (up2 r1 a 1 (r1 b1 1)) a 2 ((up2 r1 a 1 (r1 b1 1)) b1 2)) a 3 ((up2 (up2 r1 a 1 (r1 b1 1)) a 2 ((up2 r1 a 1 (r1 b1 1)) b1 2)) b1 3)) b1 4)) b1 5)) a 6 ((up2 (up2 (up2 (up2 (up2 r1 a 1 (r1 b1 1)) a 2 ((up2 r1 a 1 (r1 b1 1)) b1 2)) a 3 ((up2 (up2 r1 a 1 (r1 b1 1)) a 2 ((up2 r1 a 1 (r1 b1 1)) b1 2)) b1 3)) a 4 ((up2 (up2 (up2 r1 a 1 (r1 b1 1)) a 2 ((up2 r1 a 1 (r1 b1 1)) b1 2)) a 3 ((up2 (up2 r1 a 1 (r1 b1 1)) a 2 ((up2 r1 a 1 (r1 b1 1)) b1 2)) b1 3)) b1 4)) a 5 ((up2 (up2 (up2 (up2 r1 a 1 (r1 b1 1)) a 2 ((up2 r1 a 1 (r1 b1 1)) b1 2)) a 3 ((up2 (up2 r1 a 1 (r1 b1 1)) a 2 ((up2 r1 a 1 (r1 b1 1)) b1 2)) b1 3)) a 4 ((up2 (up2 (up2 r1 a 1 (r1 b1 1)) a 2 ((up2 r1 a 1 (r1 b1 1)) b1 2)) a 3 ((up2 (up2 r1 a 1 (r1 b1 1)) a 2 ((up2 r1 a 1 (r1 b1 1)) b1 2)) b1 3)) b1 4)) b1 5)) b1 6)) b1 7)) b1 8)) a 9 ((up2 (up2 (up2 (up2 (up2 (up2 (up2 (up2 r1 a 1 (r1 b1 1)) a 2 ((up2 r1 a 1 (r1 b1 1)) b1 2)) a 3 ((up2 (up2 r1 a 1 (r1 b1 1)) a 2 ((up2 r1 a 1 (r1 b1 1)) b1 2)) b1 3)) a 4 ((up2 (up2 (up2 r1 a 1 (r1 b1 1)) a 2 ((up2 r1 a 1 (r1 b1 1)) b1 2)) a 3 ((up2 (up2 r1 a 1 (r1 b1 1)) a 2 ((up2 r1 a 1 (r1 b1 1)) b1 2)) b1 3)) b1 4)) a 5 ((up2 (up2 (up2 (up2 r1 a 1 (r1 b1 1)) a 2 ((up2 r1 a 1 (r1 b1 1)) b1 2)) a 3 ((up2 (up2 r1 a 1 (r1 b1 1)) a 2 ((up2 r1 a 1 (r1 b1 1)) b1 2)) b1 3)) a 4 ((up2 (up2 (up2 r1 a 1 (r1 b1 1)) a 2 ((up2 r1 a 1 (r1 b1 1)) b1 2)) a 3 ((up2 (up2 r1 a 1 (r1 b1 1)) a 2 ((up2 r1 a 1 (r1 b1 1)) b1 2)) b1 3)) b1 4)) b1 5)) a 6 ((up2 (up2 (up2 (up2 (up2 r1 a 1 (r1 b1 1)) a 2 ((up2 r1 a 1 (r1 b1 1)) b1 2)) a 3 ((up2 (up2 r1 a 1 (r1 b1 1)) a 2 ((up2 r1 a 1 (r1 b1 1)) b1 2)) b1 3)) a 4 ((up2 (up2 (up2 r1 a 1 (r1 b1 1)) a 2 ((up2 r1 a 1 (r1 b1 1)) b1 2)) a 3 ((up2 (up2 r1 a 1 (r1 b1 1)) a 2 ((up2 r1 a 1 (r1 b1 1)) b1 2)) b1 3)) b1 4)) a 5 ((up2 (up2 (up2 (up2 r1 a 1 (r1 b1 1)) a 2 ((up2 r1 a 1 (r1 b1 1)) b1 2)) a 3 ((up2 (up2 r1 a 1 (r1 b1 1)) a 2 ((up2 r1 a 1 (r1 b1 1)) b1 2)) b1 3)) a 4 ((up2 (up2 (up2 r1 a 1 (r1 b1 1)) a 2 ((up2 r1 a 1 (r1 b1 1)) b1 2)) a 3 ((up2 (up2 r1 a 1 (r1 b1 1)) a 2 ((up2 r1 a 1 (r1 b1 1)) b1 2)) b1 3)) b1 4)) b1 5)) b1 6)) a 7 ((up2 (up2 (up2 (up2 (up2 (up2 r1 a 1 (r1 b1 1)) a 2 ((up2 r1 a 1 (r1 b1 1)) b1 2)) a 3 ((up2 (up2 r1 a 1 (r1 b1 1)) a 2 ((up2 r1 a 1 (r1 b1 1)) b1 2)) b1 3)) a 4 ((up2 (up2 (up2 r1 a 1 (r1 b1 1)) a 2 ((up2 r1 a 1 (r1 b1 1)) b1 2)) a 3 ((up2 (up2 r1 a 1 (r1 b1 1)) a 2 ((up2 r1 a 1 (r1 b1 1)) b1 2)) b1 3)) b1 4)) a 5 ((up2 (up2 (up2 (up2 r1 a 1 (r1 b1 1)) a 2 ((up2 r1 a 1 (r1 b1 1)) b1 2)) a 3 ((up2 (up2 r1 a 1 (r1 b1 1)) a 2 ((up2 r1 a 1 (r1 b1 1)) b1 2)) b1 3)) a 4 ((up2 (up2 (up2 r1 a 1 (r1 b1 1)) a 2 ((up2 r1 a 1 (r1 b1 1)) b1 2)) a 3 ((up2 (up2 r1 a 1 (r1 b1 1)) a 2 ((up2 r1 a 1 (r1 b1 1)) b1 2)) b1 3)) b1 4)) b1 5)) a 6 ((up2 (up2 (up2 (up2 (up2 r1 a 1 (r1 b1 1)) a 2 ((up2 r1 a 1 (r1 b1 1)) b1 2)) a 3 ((up2 (up2 r1 a 1 (r1 b1 1)) a 2 ((up2 r1 a 1 (r1 b1 1)) b1 2)) b1 3)) a 4 ((up2 (up2 (up2 r1 a 1 (r1 b1 1)) a 2 ((up2 r1 a 1 (r1 b1 1)) b1 2)) a 3 ((up2 (up2 r1 a 1 (r1 b1 1)) a 2 ((up2 r1 a 1 (r1 b1 1)) b1 2)) b1 3)) b1 4)) a 5 ((up2 (up2 (up2 (up2 r1 a 1 (r1 b1 1)) a 2 ((up2 r1 a 1 (r1 b1 1)) b1 2)) a 3 ((up2 (up2 r1 a 1 (r1 b1 1)) a 2 ((up2 r1 a 1 (r1 b1 1)) b1 2)) b1 3)) a 4 ((up2 (up2 (up2 r1 a 1 (r1 b1 1)) a 2 ((up2 r1 a 1 (r1 b1 1)) b1 2)) a 3 ((up2 (up2 r1 a 1 (r1 b1 1)) a 2 ((up2 r1 a 1 (r1 b1 1)) b1 2)) b1 3)) b1 4)) b1 5)) b1 6)) b1 7)) a 8 ((up2 (up2 (up2 (up2 (up2 (up2 (up2 r1 a 1 (r1 b1 1)) a 2 ((up2 r1 a 1 (r1 b1 1)) b1 2)) a 3 ((up2 (up2 r1 a 1 (r1 b1 1)) a 2 ((up2 r1 a 1 (r1 b1 1)) b1 2)) b1 3)) a 4 ((up2 (up2 (up2 r1 a 1 (r1 b1 1)) a 2 ((up2 r1 a 1 (r1 b1 1)) b1 2)) a 3 ((up2 (up2 r1 a 1 (r1 b1 1)) a 2 ((up2 r1 a 1 (r1 b1 1)) b1 2)) b1 3)) b1 4)) a 5 ((up2 (up2 (up2 (up2 r1 a 1 (r1 b1 1)) a 2 ((up2 r1 a 1 (r1 b1 1)) b1 2)) a 3 ((up2 (up2 r1 a 1 (r1 b1 1)) a 2 ((up2 r1 a 1 (r1 b1 1)) b1 2)) b1 3)) a 4 ((up2 (up2 (up2 r1 a 1 (r1 b1 1)) a 2 ((up2 r1 a 1 (r1 b1 1)) b1 2)) a 3 ((up2 (up2 r1 a 1 (r1 b1 1)) a 2 ((up2 r1 a 1 (r1 b1 1)) b1 2)) b1 3)) b1 4)) b1 5)) a 6 ((up2 (up2 (up2 (up2 (up2 r1 a 1 (r1 b1 1)) a 2 ((up2 r1 a 1 (r1 b1 1)) b1 2)) a 3 ((up2 (up2 r1 a 1 (r1 b1 1)) a 2 ((up2 r1 a 1 (r1 b1 1)) b1 2)) b1 3)) a 4 ((up2 (up2 (up2 r1 a 1 (r1 b1 1)) a 2 ((up2 r1 a 1 (r1 b1 1)) b1 2)) a 3 ((up2 (up2 r1 a 1 (r1 b1 1)) a 2 ((up2 r1 a 1 (r1 b1 1)) b1 2)) b1 3)) b1 4)) a 5 ((up2 (up2 (up2 (up2 r1 a 1 (r1 b1 1)) a 2 ((up2 r1 a 1 (r1 b1 1)) b1 2)) a 3 ((up2 (up2 r1 a 1 (r1 b1 1)) a 2 ((up2 r1 a 1 (r1 b1 1)) b1 2)) b1 3)) a 4 ((up2 (up2 (up2 r1 a 1 (r1 b1 1)) a 2 ((up2 r1 a 1 (r1 b1 1)) b1 2)) a 3 ((up2 (up2 r1 a 1 (r1 b1 1)) a 2 ((up2 r1 a 1 (r1 b1 1)) b1 2)) b1 3)) b1 4)) b1 5)) b1 6)) a 7 ((up2 (up2 (up2 (up2 (up2 (up2 r1 a 1 (r1 b1 1)) a 2 ((up2 r1 a 1 (r1 b1 1)) b1 2)) a 3 ((up2 (up2 r1 a 1 (r1 b1 1)) a 2 ((up2 r1 a 1 (r1 b1 1)) b1 2)) b1 3)) a 4 ((up2 (up2 (up2 r1 a 1 (r1 b1 1)) a 2 ((up2 r1 a 1 (r1 b1 1)) b1 2)) a 3 ((up2 (up2 r1 a 1 (r1 b1 1)) a 2 ((up2 r1 a 1 (r1 b1 1)) b1 2)) b1 3)) b1 4)) a 5 ((up2 (up2 (up2 (up2 r1 a 1 (r1 b1 1)) a 2 ((up2 r1 a 1 (r1 b1 1)) b1 2)) a 3 ((up2 (up2 r1 a 1 (r1 b1 1)) a 2 ((up2 r1 a 1 (r1 b1 1)) b1 2)) b1 3)) a 4 ((up2 (up2 (up2 r1 a 1 (r1 b1 1)) a 2 ((up2 r1 a 1 (r1 b1 1)) b1 2)) a 3 ((up2 (up2 r1 a 1 (r1 b1 1)) a 2 ((up2 r1 a 1 (r1 b1 1)) b1 2)) b1 3)) b1 4)) b1 5)) a 6 ((up2 (up2 (up2 (up2 (up2 r1 a 1 (r1 b1 1)) a 2 ((up2 r1 a 1 (r1 b1 1)) b1 2)) a 3 ((up2 (up2 r1 a 1 (r1 b1 1)) a 2 ((up2 r1 a 1 (r1 b1 1)) b1 2)) b1 3)) a 4 ((up2 (up2 (up2 r1 a 1 (r1 b1 1)) a 2 ((up2 r1 a 1 (r1 b1 1)) b1 2)) a 3 ((up2 (up2 r1 a 1 (r1 b1 1)) a 2 ((up2 r1 a 1 (r1 b1 1)) b1 2)) b1 3)) b1 4)) a 5 ((up2 (up2 (up2 (up2 r1 a 1 (r1 b1 1)) a 2 ((up2 r1 a 1 (r1 b1 1)) b1 2)) a 3 ((up2 (up2 r1 a 1 (r1 b1 1)) a 2 ((up2 r1 a 1 (r1 b1 1)) b1 2)) b1 3)) a 4 ((up2 (up2 (up2 r1 a 1 (r1 b1 1)) a 2 ((up2 r1 a 1 (r1 b1 1)) b1 2)) a 3 ((up2 (up2 r1 a 1 (r1 b1 1)) a 2 ((up2 r1 a 1 (r1 b1 1)) b1 2)) b1 3)) b1 4)) b1 5)) b1 6)) b1 7)) b1 8)) b1 9)) b1 10)) a 11 ((up2 (up2 (up2 (up2 (up2 (up2 (up2 (up2 (up2 (up2 r1 a 1 (r1 b1 1)) a 2 ((up2 r1 a 1 (r1 b1 1)) b1 2)) a 3 ((up2 (up2 r1 a 1 (r1 b1 1)) a 2 ((up2 r1 a 1 (r1 b1 1)) b1 2)) b1 3)) a 4 ((up2 (up2 (up2 r1 a 1 (r1 b1 1)) a 2 ((up2 r1 a 1 (r1 b1 1)) b1 2)) a 3 ((up2 (up2 r1 a 1 (r1 b1 1)) a 2 ((up2 r1 a 1 (r1 b1 1)) b1 2)) b1 3)) b1 4)) a 5 ((up2 (up2 (up2 (up2 r1 a 1 (r1 b1 1)) a 2 ((up2 r1 a 1 (r1 b1 1)) b1 2)) a 3 ((up2 (up2 r1 a 1 (r1 b1 1)) a 2 ((up2 r1 a 1 (r1 b1 1)) b1 2)) b1 3)) a 4 ((up2 (up2 (up2 r1 a 1 (r1 b1 1)) a 2 ((up2 r1 a 1 (r1 b1 1)) b1 2)) a 3 ((up2 (up2 r1 a 1 (r1 b1 1)) a 2 ((up2 r1 a 1 (r1 b1 1)) b1 2)) b1 3)) b1 4)) b1 5)) a 6 ((up2 (up2 (up2 (up2 (up2 r1 a 1 (r1 b1 1)) a 2 ((up2 r1 a 1 (r1 b1 1)) b1 2)) a 3 ((up2 (up2 r1 a 1 (r1 b1 1)) a 2 ((up2 r1 a 1 (r1 b1 1)) b1 2)) b1 3)) a 4 ((up2 (up2 (up2 r1 a 1 (r1 b1 1)) a 2 ((up2 r1 a 1 (r1 b1 1)) b1 2)) a 3 ((up2 (up2 r1 a 1 (r1 b1 1)) a 2 ((up2 r1 a 1 (r1 b1 1)) b1 2)) b1 3)) b1 4)) a 5 ((up2 (up2 (up2 (up2 r1 a 1 (r1 b1 1)) a 2 ((up2 r1 a 1 (r1 b1 1)) b1 2)) a 3 ((up2 (up2 r1 a 1 (r1 b1 1)) a 2 ((up2 r1 a 1 (r1 b1 1)) b1 2)) b1 3)) a 4 ((up2 (up2 (up2 r1 a 1 (r1 b1 1)) a 2 ((up2 r1 a 1 (r1 b1 1)) b1 2)) a 3 ((up2 (up2 r1 a 1 (r1 b1 1)) a 2 ((up2 r1 a 1 (r1 b1 1)) b1 2)) b1 3)) b1 4)) b1 5)) b1 6)) a 7 ((up2 (up2 (up2 (up2 (up2 (up2 r1 a 1 (r1 b1 1)) a 2 ((up2 r1 a 1 (r1 b1 1)) b1 2)) a 3 ((up2 (up2 r1 a 1 (r1 b1 1)) a 2 ((up2 r1 a 1 (r1 b1 1)) b1 2)) b1 3)) a 4 ((up2 (up2 (up2 r1 a 1 (r1 b1 1)) a 2 ((up2 r1 a 1 (r1 b1 1)) b1 2)) a 3 ((up2 (up2 r1 a 1 (r1 b1 1)) a 2 ((up2 r1 a 1 (r1 b1 1)) b1 2)) b1 3)) b1 4)) a 5 ((up2 (up2 (up2 (up2 r1 a 1 (r1 b1 1)) a 2 ((up2 r1 a 1 (r1 b1 1)) b1 2)) a 3 ((up2 (up2 r1 a 1 (r1 b1 1)) a 2 ((up2 r1 a 1 (r1 b1 1)) b1 2)) b1 3)) a 4 ((up2 (up2 (up2 r1 a 1 (r1 b1 1)) a 2 ((up2 r1 a 1 (r1 b1 1)) b1 2)) a 3 ((up2 (up2 r1 a 1 (r1 b1 1)) a 2 ((up2 r1 a 1 (r1 b1 1)) b1 2)) b1 3)) b1 4)) b1 5)) a 6 ((up2 (up2 (up2 (up2 (up2 r1 a 1 (r1 b1 1)) a 2 ((up2 r1 a 1 (r1 b1 1)) b1 2)) a 3 ((up2 (up2 r1 a 1 (r1 b1 1)) a 2 ((up2 r1 a 1 (r1 b1 1)) b1 2)) b1 3)) a 4 ((up2 (up2 (up2 r1 a 1 (r1 b1 1)) a 2 ((up2 r1 a 1 (r1 b1 1)) b1 2)) a 3 ((up2 (up2 r1 a 1 (r1 b1 1)) a 2 ((up2 r1 a 1 (r1 b1 1)) b1 2)) b1 3)) b1 4)) a 5 ((up2 (up2 (up2 (up2 r1 a 1 (r1 b1 1)) a 2 ((up2 r1 a 1 (r1 b1 1)) b1 2)) a 3 ((up2 (up2 r1 a 1 (r1 b1 1)) a 2 ((up2 r1 a 1 (r1 b1 1)) b1 2)) b1 3)) a 4 ((up2 (up2 (up2 r1 a 1 (r1 b1 1)) a 2 ((up2 r1 a 1 (r1 b1 1)) b1 2)) a 3 ((up2 (up2 r1 a 1 (r1 b1 1)) a 2 ((up2 r1 a 1 (r1 b1 1)) b1 2)) b1 3)) b1 4)) b1 5)) b1 6)) b1 7)) a 8 ((up2 (up2 (up2 (up2 (up2 (up2 (up2 r1 a 1 (r1 b1 1)) a 2 ((up2 r1 a 1 (r1 b1 1)) b1 2)) a 3 ((up2 (up2 r1 a 1 (r1 b1 1)) a 2 ((up2 r1 a 1 (r1 b1 1)) b1 2)) b1 3)) a 4 ((up2 (up2 (up2 r1 a 1 (r1 b1 1)) a 2 ((up2 r1 a 1 (r1 b1 1)) b1 2)) a 3 ((up2 (up2 r1 a 1 (r1 b1 1)) a 2 ((up2 r1 a 1 (r1 b1 1)) b1 2)) b1 3)) b1 4)) a 5 ((up2 (up2 (up2 (up2 r1 a 1 (r1 b1 1)) a 2 ((up2 r1 a 1 (r1 b1 1)) b1 2)) a 3 ((up2 (up2 r1 a 1 (r1 b1 1)) a 2 ((up2 r1 a 1 (r1 b1 1)) b1 2)) b1 3)) a 4 ((up2 (up2 (up2 r1 a 1 (r1 b1 1)) a 2 ((up2 r1 a 1 (r1 b1 1)) b1 2)) a 3 ((up2 (up2 r1 a 1 (r1 b1 1)) a 2 ((up2 r1 a 1 (r1 b1 1)) b1 2)) b1 3)) b1 4)) b1 5)) a 6 ((up2 (up2 (up2 (up2 (up2 r1 a 1 (r1 b1 1)) a 2 ((up2 r1 a 1 (r1 b1 1)) b1 2)) a 3 ((up2 (up2 r1 a 1 (r1 b1 1)) a 2 ((up2 r1 a 1 (r1 b1 1)) b1 2)) b1 3)) a 4 ((up2 (up2 (up2 r1 a 1 (r1 b1 1)) a 2 ((up2 r1 a 1 (r1 b1 1)) b1 2)) a 3 ((up2 (up2 r1 a 1 (r1 b1 1)) a 2 ((up2 r1 a 1 (r1 b1 1)) b1 2)) b1 3)) b1 4)) a 5 ((up2 (up2 (up2 (up2 r1 a 1 (r1 b1 1)) a 2 ((up2 r1 a 1 (r1 b1 1)) b1 2)) a 3 ((up2 (up2 r1 a 1 (r1 b1 1)) a 2 ((up2 r1 a 1 (r1 b1 1)) b1 2)) b1 3)) a 4 ((up2 (up2 (up2 r1 a 1 (r1 b1 1)) a 2 ((up2 r1 a 1 (r1 b1 1)) b1 2)) a 3 ((up2 (up2 r1 a 1 (r1 b1 1)) a 2 ((up2 r1 a 1 (r1 b1 1)) b1 2)) b1 3)) b1 4)) b1 5)) b1 6)) a 7 ((up2 (up2 (up2 (up2 (up2 (up2 r1 a 1 (r1 b1 1)) a 2 ((up2 r1 a 1 (r1 b1 1)) b1 2)) a 3 ((up2 (up2 r1 a 1 (r1 b1 1)) a 2 ((up2 r1 a 1 (r1 b1 1)) b1 2)) b1 3)) a 4 ((up2 (up2 (up2 r1 a 1 (r1 b1 1)) a 2 ((up2 r1 a 1 (r1 b1 1)) b1 2)) a 3 ((up2 (up2 r1 a 1 (r1 b1 1)) a 2 ((up2 r1 a 1 (r1 b1 1)) b1 2)) b1 3)) b1 4)) a 5 ((up2 (up2 (up2 (up2 r1 a 1 (r1 b1 1)) a 2 ((up2 r1 a 1 (r1 b1 1)) b1 2)) a 3 ((up2 (up2 r1 a 1 (r1 b1 1)) a 2 ((up2 r1 a 1 (r1 b1 1)) b1 2)) b1 3)) a 4 ((up2 (up2 (up2 r1 a 1 (r1 b1 1)) a 2 ((up2 r1 a 1 (r1 b1 1)) b1 2)) a 3 ((up2 (up2 r1 a 1 (r1 b1 1)) a 2 ((up2 r1 a 1 (r1 b1 1)) b1 2)) b1 3)) b1 4)) b1 5)) a 6 ((up2 (up2 (up2 (up2 (up2 r1 a 1 (r1 b1 1)) a 2 ((up2 r1 a 1 (r1 b1 1)) b1 2)) a 3 ((up2 (up2 r1 a 1 (r1 b1 1)) a 2 ((up2 r1 a 1 (r1 b1 1)) b1 2)) b1 3)) a 4 ((up2 (up2 (up2 r1 a 1 (r1 b1 1)) a 2 ((up2 r1 a 1 (r1 b1 1)) b1 2)) a 3 ((up2 (up2 r1 a 1 (r1 b1 1)) a 2 ((up2 r1 a 1 (r1 b1 1)) b1 2)) b1 3)) b1 4)) a 5 ((up2 (up2 (up2 (up2 r1 a 1 (r1 b1 1)) a 2 ((up2 r1 a 1 (r1 b1 1)) b1 2)) a 3 ((up2 (up2 r1 a 1 (r1 b1 1)) a 2 ((up2 r1 a 1 (r1 b1 1)) b1 2)) b1 3)) a 4 ((up2 (up2 (up2 r1 a 1 (r1 b1 1)) a 2 ((up2 r1 a 1 (r1 b1 1)) b1 2)) a 3 ((up2 (up2 r1 a 1 (r1 b1 1)) a 2 ((up2 r1 a 1 (r1 b1 1)) b1 2)) b1 3)) b1 4)) b1 5)) b1 6)) b1 7)) b1 8)) a 9 ((up2 (up2 (up2 (up2 (up2 (up2 (up2 (up2 r1 a 1 (r1 b1 1)) a 2 ((up2 r1 a 1 (r1 b1 1)) b1 2)) a 3 ((up2 (up2 r1 a 1 (r1 b1 1)) a 2 ((up2 r1 a 1 (r1 b1 1)) b1 2)) b1 3)) a 4 ((up2 (up2 (up2 r1 a 1 (r1 b1 1)) a 2 ((up2 r1 a 1 (r1 b1 1)) b1 2)) a 3 ((up2 (up2 r1 a 1 (r1 b1 1)) a 2 ((up2 r1 a 1 (r1 b1 1)) b1 2)) b1 3)) b1 4)) a 5 ((up2 (up2 (up2 (up2 r1 a 1 (r1 b1 1)) a 2 ((up2 r1 a 1 (r1 b1 1)) b1 2)) a 3 ((up2 (up2 r1 a 1 (r1 b1 1)) a 2 ((up2 r1 a 1 (r1 b1 1)) b1 2)) b1 3)) a 4 ((up2 (up2 (up2 r1 a 1 (r1 b1 1)) a 2 ((up2 r1 a 1 (r1 b1 1)) b1 2)) a 3 ((up2 (up2 r1 a 1 (r1 b1 1)) a 2 ((up2 r1 a 1 (r1 b1 1)) b1 2)) b1 3)) b1 4)) b1 5)) a 6 ((up2 (up2 (up2 (up2 (up2 r1 a 1 (r1 b1 1)) a 2 ((up2 r1 a 1 (r1 b1 1)) b1 2)) a 3 ((up2 (up2 r1 a 1 (r1 b1 1)) a 2 ((up2 r1 a 1 (r1 b1 1)) b1 2)) b1 3)) a 4 ((up2 (up2 (up2 r1 a 1 (r1 b1 1)) a 2 ((up2 r1 a 1 (r1 b1 1)) b1 2)) a 3 ((up2 (up2 r1 a 1 (r1 b1 1)) a 2 ((up2 r1 a 1 (r1 b1 1)) b1 2)) b1 3)) b1 4)) a 5 ((up2 (up2 (up2 (up2 r1 a 1 (r1 b1 1)) a 2 ((up2 r1 a 1 (r1 b1 1)) b1 2)) a 3 ((up2 (up2 r1 a 1 (r1 b1 1)) a 2 ((up2 r1 a 1 (r1 b1 1)) b1 2)) b1 3)) a 4 ((up2 (up2 (up2 r1 a 1 (r1 b1 1)) a 2 ((up2 r1 a 1 (r1 b1 1)) b1 2)) a 3 ((up2 (up2 r1 a 1 (r1 b1 1)) a 2 ((up2 r1 a 1 (r1 b1 1)) b1 2)) b1 3)) b1 4)) b1 5)) b1 6)) a 7 ((up2 (up2 (up2 (up2 (up2 (up2 r1 a 1 (r1 b1 1)) a 2 ((up2 r1 a 1 (r1 b1 1)) b1 2)) a 3 ((up2 (up2 r1 a 1 (r1 b1 1)) a 2 ((up2 r1 a 1 (r1 b1 1)) b1 2)) b1 3)) a 4 ((up2 (up2 (up2 r1 a 1 (r1 b1 1)) a 2 ((up2 r1 a 1 (r1 b1 1)) b1 2)) a 3 ((up2 (up2 r1 a 1 (r1 b1 1)) a 2 ((up2 r1 a 1 (r1 b1 1)) b1 2)) b1 3)) b1 4)) a 5 ((up2 (up2 (up2 (up2 r1 a 1 (r1 b1 1)) a 2 ((up2 r1 a 1 (r1 b1 1)) b1 2)) a 3 ((up2 (up2 r1 a 1 (r1 b1 1)) a 2 ((up2 r1 a 1 (r1 b1 1)) b1 2)) b1 3)) a 4 ((up2 (up2 (up2 r1 a 1 (r1 b1 1)) a 2 ((up2 r1 a 1 (r1 b1 1)) b1 2)) a 3 ((up2 (up2 r1 a 1 (r1 b1 1)) a 2 ((up2 r1 a 1 (r1 b1 1)) b1 2)) b1 3)) b1 4)) b1 5)) a 6 ((up2 (up2 (up2 (up2 (up2 r1 a 1 (r1 b1 1)) a 2 ((up2 r1 a 1 (r1 b1 1)) b1 2)) a 3 ((up2 (up2 r1 a 1 (r1 b1 1)) a 2 ((up2 r1 a 1 (r1 b1 1)) b1 2)) b1 3)) a 4 ((up2 (up2 (up2 r1 a 1 (r1 b1 1)) a 2 ((up2 r1 a 1 (r1 b1 1)) b1 2)) a 3 ((up2 (up2 r1 a 1 (r1 b1 1)) a 2 ((up2 r1 a 1 (r1 b1 1)) b1 2)) b1 3)) b1 4)) a 5 ((up2 (up2 (up2 (up2 r1 a 1 (r1 b1 1)) a 2 ((up2 r1 a 1 (r1 b1 1)) b1 2)) a 3 ((up2 (up2 r1 a 1 (r1 b1 1)) a 2 ((up2 r1 a 1 (r1 b1 1)) b1 2)) b1 3)) a 4 ((up2 (up2 (up2 r1 a 1 (r1 b1 1)) a 2 ((up2 r1 a 1 (r1 b1 1)) b1 2)) a 3 ((up2 (up2 r1 a 1 (r1 b1 1)) a 2 ((up2 r1 a 1 (r1 b1 1)) b1 2)) b1 3)) b1 4)) b1 5)) b1 6)) b1 7)) a 8 ((up2 (up2 (up2 (up2 (up2 (up2 (up2 r1 a 1 (r1 b1 1)) a 2 ((up2 r1 a 1 (r1 b1 1)) b1 2)) a 3 ((up2 (up2 r1 a 1 (r1 b1 1)) a 2 ((up2 r1 a 1 (r1 b1 1)) b1 2)) b1 3)) a 4 ((up2 (up2 (up2 r1 a 1 (r1 b1 1)) a 2 ((up2 r1 a 1 (r1 b1 1)) b1 2)) a 3 ((up2 (up2 r1 a 1 (r1 b1 1)) a 2 ((up2 r1 a 1 (r1 b1 1)) b1 2)) b1 3)) b1 4)) a 5 ((up2 (up2 (up2 (up2 r1 a 1 (r1 b1 1)) a 2 ((up2 r1 a 1 (r1 b1 1)) b1 2)) a 3 ((up2 (up2 r1 a 1 (r1 b1 1)) a 2 ((up2 r1 a 1 (r1 b1 1)) b1 2)) b1 3)) a 4 ((up2 (up2 (up2 r1 a 1 (r1 b1 1)) a 2 ((up2 r1 a 1 (r1 b1 1)) b1 2)) a 3 ((up2 (up2 r1 a 1 (r1 b1 1)) a 2 ((up2 r1 a 1 (r1 b1 1)) b1 2)) b1 3)) b1 4)) b1 5)) a 6 ((up2 (up2 (up2 (up2 (up2 r1 a 1 (r1 b1 1)) a 2 ((up2 r1 a 1 (r1 b1 1)) b1 2)) a 3 ((up2 (up2 r1 a 1 (r1 b1 1)) a 2 ((up2 r1 a 1 (r1 b1 1)) b1 2)) b1 3)) a 4 ((up2 (up2 (up2 r1 a 1 (r1 b1 1)) a 2 ((up2 r1 a 1 (r1 b1 1)) b1 2)) a 3 ((up2 (up2 r1 a 1 (r1 b1 1)) a 2 ((up2 r1 a 1 (r1 b1 1)) b1 2)) b1 3)) b1 4)) a 5 ((up2 (up2 (up2 (up2 r1 a 1 (r1 b1 1)) a 2 ((up2 r1 a 1 (r1 b1 1)) b1 2)) a 3 ((up2 (up2 r1 a 1 (r1 b1 1)) a 2 ((up2 r1 a 1 (r1 b1 1)) b1 2)) b1 3)) a 4 ((up2 (up2 (up2 r1 a 1 (r1 b1 1)) a 2 ((up2 r1 a 1 (r1 b1 1)) b1 2)) a 3 ((up2 (up2 r1 a 1 (r1 b1 1)) a 2 ((up2 r1 a 1 (r1 b1 1)) b1 2)) b1 3)) b1 4)) b1 5)) b1 6)) a 7 ((up2 (up2 (up2 (up2 (up2 (up2 r1 a 1 (r1 b1 1)) a 2 ((up2 r1 a 1 (r1 b1 1)) b1 2)) a 3 ((up2 (up2 r1 a 1 (r1 b1 1)) a 2 ((up2 r1 a 1 (r1 b1 1)) b1 2)) b1 3)) a 4 ((up2 (up2 (up2 r1 a 1 (r1 b1 1)) a 2 ((up2 r1 a 1 (r1 b1 1)) b1 2)) a 3 ((up2 (up2 r1 a 1 (r1 b1 1)) a 2 ((up2 r1 a 1 (r1 b1 1)) b1 2)) b1 3)) b1 4)) a 5 ((up2 (up2 (up2 (up2 r1 a 1 (r1 b1 1)) a 2 ((up2 r1 a 1 (r1 b1 1)) b1 2)) a 3 ((up2 (up2 r1 a 1 (r1 b1 1)) a 2 ((up2 r1 a 1 (r1 b1 1)) b1 2)) b1 3)) a 4 ((up2 (up2 (up2 r1 a 1 (r1 b1 1)) a 2 ((up2 r1 a 1 (r1 b1 1)) b1 2)) a 3 ((up2 (up2 r1 a 1 (r1 b1 1)) a 2 ((up2 r1 a 1 (r1 b1 1)) b1 2)) b1 3)) b1 4)) b1 5)) a 6 ((up2 (up2 (up2 (up2 (up2 r1 a 1 (r1 b1 1)) a 2 ((up2 r1 a 1 (r1 b1 1)) b1 2)) a 3 ((up2 (up2 r1 a 1 (r1 b1 1)) a 2 ((up2 r1 a 1 (r1 b1 1)) b1 2)) b1 3)) a 4 ((up2 (up2 (up2 r1 a 1 (r1 b1 1)) a 2 ((up2 r1 a 1 (r1 b1 1)) b1 2)) a 3 ((up2 (up2 r1 a 1 (r1 b1 1)) a 2 ((up2 r1 a 1 (r1 b1 1)) b1 2)) b1 3)) b1 4)) a 5 ((up2 (up2 (up2 (up2 r1 a 1 (r1 b1 1)) a 2 ((up2 r1 a 1 (r1 b1 1)) b1 2)) a 3 ((up2 (up2 r1 a 1 (r1 b1 1)) a 2 ((up2 r1 a 1 (r1 b1 1)) b1 2)) b1 3)) a 4 ((up2 (up2 (up2 r1 a 1 (r1 b1 1)) a 2 ((up2 r1 a 1 (r1 b1 1)) b1 2)) a 3 ((up2 (up2 r1 a 1 (r1 b1 1)) a 2 ((up2 r1 a 1 (r1 b1 1)) b1 2)) b1 3)) b1 4)) b1 5)) b1 6)) b1 7)) b1 8)) b1 9)) a 10 ((up2 (up2 (up2 (up2 (up2 (up2 (up2 (up2 (up2 r1 a 1 (r1 b1 1)) a 2 ((up2 r1 a 1 (r1 b1 1)) b1 2)) a 3 ((up2 (up2 r1 a 1 (r1 b1 1)) a 2 ((up2 r1 a 1 (r1 b1 1)) b1 2)) b1 3)) a 4 ((up2 (up2 (up2 r1 a 1 (r1 b1 1)) a 2 ((up2 r1 a 1 (r1 b1 1)) b1 2)) a 3 ((up2 (up2 r1 a 1 (r1 b1 1)) a 2 ((up2 r1 a 1 (r1 b1 1)) b1 2)) b1 3)) b1 4)) a 5 ((up2 (up2 (up2 (up2 r1 a 1 (r1 b1 1)) a 2 ((up2 r1 a 1 (r1 b1 1)) b1 2)) a 3 ((up2 (up2 r1 a 1 (r1 b1 1)) a 2 ((up2 r1 a 1 (r1 b1 1)) b1 2)) b1 3)) a 4 ((up2 (up2 (up2 r1 a 1 (r1 b1 1)) a 2 ((up2 r1 a 1 (r1 b1 1)) b1 2)) a 3 ((up2 (up2 r1 a 1 (r1 b1 1)) a 2 ((up2 r1 a 1 (r1 b1 1)) b1 2)) b1 3)) b1 4)) b1 5)) a 6 ((up2 (up2 (up2 (up2 (up2 r1 a 1 (r1 b1 1)) a 2 ((up2 r1 a 1 (r1 b1 1)) b1 2)) a 3 ((up2 (up2 r1 a 1 (r1 b1 1)) a 2 ((up2 r1 a 1 (r1 b1 1)) b1 2)) b1 3)) a 4 ((up2 (up2 (up2 r1 a 1 (r1 b1 1)) a 2 ((up2 r1 a 1 (r1 b1 1)) b1 2)) a 3 ((up2 (up2 r1 a 1 (r1 b1 1)) a 2 ((up2 r1 a 1 (r1 b1 1)) b1 2)) b1 3)) b1 4)) a 5 ((up2 (up2 (up2 (up2 r1 a 1 (r1 b1 1)) a 2 ((up2 r1 a 1 (r1 b1 1)) b1 2)) a 3 ((up2 (up2 r1 a 1 (r1 b1 1)) a 2 ((up2 r1 a 1 (r1 b1 1)) b1 2)) b1 3)) a 4 ((up2 (up2 (up2 r1 a 1 (r1 b1 1)) a 2 ((up2 r1 a 1 (r1 b1 1)) b1 2)) a 3 ((up2 (up2 r1 a 1 (r1 b1 1)) a 2 ((up2 r1 a 1 (r1 b1 1)) b1 2)) b1 3)) b1 4)) b1 5)) b1 6)) a 7 ((up2 (up2 (up2 (up2 (up2 (up2 r1 a 1 (r1 b1 1)) a 2 ((up2 r1 a 1 (r1 b1 1)) b1 2)) a 3 ((up2 (up2 r1 a 1 (r1 b1 1)) a 2 ((up2 r1 a 1 (r1 b1 1)) b1 2)) b1 3)) a 4 ((up2 (up2 (up2 r1 a 1 (r1 b1 1)) a 2 ((up2 r1 a 1 (r1 b1 1)) b1 2)) a 3 ((up2 (up2 r1 a 1 (r1 b1 1)) a 2 ((up2 r1 a 1 (r1 b1 1)) b1 2)) b1 3)) b1 4)) a 5 ((up2 (up2 (up2 (up2 r1 a 1 (r1 b1 1)) a 2 ((up2 r1 a 1 (r1 b1 1)) b1 2)) a 3 ((up2 (up2 r1 a 1 (r1 b1 1)) a 2 ((up2 r1 a 1 (r1 b1 1)) b1 2)) b1 3)) a 4 ((up2 (up2 (up2 r1 a 1 (r1 b1 1)) a 2 ((up2 r1 a 1 (r1 b1 1)) b1 2)) a 3 ((up2 (up2 r1 a 1 (r1 b1 1)) a 2 ((up2 r1 a 1 (r1 b1 1)) b1 2)) b1 3)) b1 4)) b1 5)) a 6 ((up2 (up2 (up2 (up2 (up2 r1 a 1 (r1 b1 1)) a 2 ((up2 r1 a 1 (r1 b1 1)) b1 2)) a 3 ((up2 (up2 r1 a 1 (r1 b1 1)) a 2 ((up2 r1 a 1 (r1 b1 1)) b1 2)) b1 3)) a 4 ((up2 (up2 (up2 r1 a 1 (r1 b1 1)) a 2 ((up2 r1 a 1 (r1 b1 1)) b1 2)) a 3 ((up2 (up2 r1 a 1 (r1 b1 1)) a 2 ((up2 r1 a 1 (r1 b1 1)) b1 2)) b1 3)) b1 4)) a 5 ((up2 (up2 (up2 (up2 r1 a 1 (r1 b1 1)) a 2 ((up2 r1 a 1 (r1 b1 1)) b1 2)) a 3 ((up2 (up2 r1 a 1 (r1 b1 1)) a 2 ((up2 r1 a 1 (r1 b1 1)) b1 2)) b1 3)) a 4 ((up2 (up2 (up2 r1 a 1 (r1 b1 1)) a 2 ((up2 r1 a 1 (r1 b1 1)) b1 2)) a 3 ((up2 (up2 r1 a 1 (r1 b1 1)) a 2 ((up2 r1 a 1 (r1 b1 1)) b1 2)) b1 3)) b1 4)) b1 5)) b1 6)) b1 7)) a 8 ((up2 (up2 (up2 (up2 (up2 (up2 (up2 r1 a 1 (r1 b1 1)) a 2 ((up2 r1 a 1 (r1 b1 1)) b1 2)) a 3 ((up2 (up2 r1 a 1 (r1 b1 1)) a 2 ((up2 r1 a 1 (r1 b1 1)) b1 2)) b1 3)) a 4 ((up2 (up2 (up2 r1 a 1 (r1 b1 1)) a 2 ((up2 r1 a 1 (r1 b1 1)) b1 2)) a 3 ((up2 (up2 r1 a 1 (r1 b1 1)) a 2 ((up2 r1 a 1 (r1 b1 1)) b1 2)) b1 3)) b1 4)) a 5 ((up2 (up2 (up2 (up2 r1 a 1 (r1 b1 1)) a 2 ((up2 r1 a 1 (r1 b1 1)) b1 2)) a 3 ((up2 (up2 r1 a 1 (r1 b1 1)) a 2 ((up2 r1 a 1 (r1 b1 1)) b1 2)) b1 3)) a 4 ((up2 (up2 (up2 r1 a 1 (r1 b1 1)) a 2 ((up2 r1 a 1 (r1 b1 1)) b1 2)) a 3 ((up2 (up2 r1 a 1 (r1 b1 1)) a 2 ((up2 r1 a 1 (r1 b1 1)) b1 2)) b1 3)) b1 4)) b1 5)) a 6 ((up2 (up2 (up2 (up2 (up2 r1 a 1 (r1 b1 1)) a 2 ((up2 r1 a 1 (r1 b1 1)) b1 2)) a 3 ((up2 (up2 r1 a 1 (r1 b1 1)) a 2 ((up2 r1 a 1 (r1 b1 1)) b1 2)) b1 3)) a 4 ((up2 (up2 (up2 r1 a 1 (r1 b1 1)) a 2 ((up2 r1 a 1 (r1 b1 1)) b1 2)) a 3 ((up2 (up2 r1 a 1 (r1 b1 1)) a 2 ((up2 r1 a 1 (r1 b1 1)) b1 2)) b1 3)) b1 4)) a 5 ((up2 (up2 (up2 (up2 r1 a 1 (r1 b1 1)) a 2 ((up2 r1 a 1 (r1 b1 1)) b1 2)) a 3 ((up2 (up2 r1 a 1 (r1 b1 1)) a 2 ((up2 r1 a 1 (r1 b1 1)) b1 2)) b1 3)) a 4 ((up2 (up2 (up2 r1 a 1 (r1 b1 1)) a 2 ((up2 r1 a 1 (r1 b1 1)) b1 2)) a 3 ((up2 (up2 r1 a 1 (r1 b1 1)) a 2 ((up2 r1 a 1 (r1 b1 1)) b1 2)) b1 3)) b1 4)) b1 5)) b1 6)) a 7 ((up2 (up2 (up2 (up2 (up2 (up2 r1 a 1 (r1 b1 1)) a 2 ((up2 r1 a 1 (r1 b1 1)) b1 2)) a 3 ((up2 (up2 r1 a 1 (r1 b1 1)) a 2 ((up2 r1 a 1 (r1 b1 1)) b1 2)) b1 3)) a 4 ((up2 (up2 (up2 r1 a 1 (r1 b1 1)) a 2 ((up2 r1 a 1 (r1 b1 1)) b1 2)) a 3 ((up2 (up2 r1 a 1 (r1 b1 1)) a 2 ((up2 r1 a 1 (r1 b1 1)) b1 2)) b1 3)) b1 4)) a 5 ((up2 (up2 (up2 (up2 r1 a 1 (r1 b1 1)) a 2 ((up2 r1 a 1 (r1 b1 1)) b1 2)) a 3 ((up2 (up2 r1 a 1 (r1 b1 1)) a 2 ((up2 r1 a 1 (r1 b1 1)) b1 2)) b1 3)) a 4 ((up2 (up2 (up2 r1 a 1 (r1 b1 1)) a 2 ((up2 r1 a 1 (r1 b1 1)) b1 2)) a 3 ((up2 (up2 r1 a 1 (r1 b1 1)) a 2 ((up2 r1 a 1 (r1 b1 1)) b1 2)) b1 3)) b1 4)) b1 5)) a 6 ((up2 (up2 (up2 (up2 (up2 r1 a 1 (r1 b1 1)) a 2 ((up2 r1 a 1 (r1 b1 1)) b1 2)) a 3 ((up2 (up2 r1 a 1 (r1 b1 1)) a 2 ((up2 r1 a 1 (r1 b1 1)) b1 2)) b1 3)) a 4 ((up2 (up2 (up2 r1 a 1 (r1 b1 1)) a 2 ((up2 r1 a 1 (r1 b1 1)) b1 2)) a 3 ((up2 (up2 r1 a 1 (r1 b1 1)) a 2 ((up2 r1 a 1 (r1 b1 1)) b1 2)) b1 3)) b1 4)) a 5 ((up2 (up2 (up2 (up2 r1 a 1 (r1 b1 1)) a 2 ((up2 r1 a 1 (r1 b1 1)) b1 2)) a 3 ((up2 (up2 r1 a 1 (r1 b1 1)) a 2 ((up2 r1 a 1 (r1 b1 1)) b1 2)) b1 3)) a 4 ((up2 (up2 (up2 r1 a 1 (r1 b1 1)) a 2 ((up2 r1 a 1 (r1 b1 1)) b1 2)) a 3 ((up2 (up2 r1 a 1 (r1 b1 1)) a 2 ((up2 r1 a 1 (r1 b1 1)) b1 2)) b1 3)) b1 4)) b1 5)) b1 6)) b1 7)) b1 8)) a 9 ((up2 (up2 (up2 (up2 (up2 (up2 (up2 (up2 r1 a 1 (r1 b1 1)) a 2 ((up2 r1 a 1 (r1 b1 1)) b1 2)) a 3 ((up2 (up2 r1 a 1 (r1 b1 1)) a 2 ((up2 r1 a 1 (r1 b1 1)) b1 2)) b1 3)) a 4 ((up2 (up2 (up2 r1 a 1 (r1 b1 1)) a 2 ((up2 r1 a 1 (r1 b1 1)) b1 2)) a 3 ((up2 (up2 r1 a 1 (r1 b1 1)) a 2 ((up2 r1 a 1 (r1 b1 1)) b1 2)) b1 3)) b1 4)) a 5 ((up2 (up2 (up2 (up2 r1 a 1 (r1 b1 1)) a 2 ((up2 r1 a 1 (r1 b1 1)) b1 2)) a 3 ((up2 (up2 r1 a 1 (r1 b1 1)) a 2 ((up2 r1 a 1 (r1 b1 1)) b1 2)) b1 3)) a 4 ((up2 (up2 (up2 r1 a 1 (r1 b1 1)) a 2 ((up2 r1 a 1 (r1 b1 1)) b1 2)) a 3 ((up2 (up2 r1 a 1 (r1 b1 1)) a 2 ((up2 r1 a 1 (r1 b1 1)) b1 2)) b1 3)) b1 4)) b1 5)) a 6 ((up2 (up2 (up2 (up2 (up2 r1 a 1 (r1 b1 1)) a 2 ((up2 r1 a 1 (r1 b1 1)) b1 2)) a 3 ((up2 (up2 r1 a 1 (r1 b1 1)) a 2 ((up2 r1 a 1 (r1 b1 1)) b1 2)) b1 3)) a 4 ((up2 (up2 (up2 r1 a 1 (r1 b1 1)) a 2 ((up2 r1 a 1 (r1 b1 1)) b1 2)) a 3 ((up2 (up2 r1 a 1 (r1 b1 1)) a 2 ((up2 r1 a 1 (r1 b1 1)) b1 2)) b1 3)) b1 4)) a 5 ((up2 (up2 (up2 (up2 r1 a 1 (r1 b1 1)) a 2 ((up2 r1 a 1 (r1 b1 1)) b1 2)) a 3 ((up2 (up2 r1 a 1 (r1 b1 1)) a 2 ((up2 r1 a 1 (r1 b1 1)) b1 2)) b1 3)) a 4 ((up2 (up2 (up2 r1 a 1 (r1 b1 1)) a 2 ((up2 r1 a 1 (r1 b1 1)) b1 2)) a 3 ((up2 (up2 r1 a 1 (r1 b1 1)) a 2 ((up2 r1 a 1 (r1 b1 1)) b1 2)) b1 3)) b1 4)) b1 5)) b1 6)) a 7 ((up2 (up2 (up2 (up2 (up2 (up2 r1 a 1 (r1 b1 1)) a 2 ((up2 r1 a 1 (r1 b1 1)) b1 2)) a 3 ((up2 (up2 r1 a 1 (r1 b1 1)) a 2 ((up2 r1 a 1 (r1 b1 1)) b1 2)) b1 3)) a 4 ((up2 (up2 (up2 r1 a 1 (r1 b1 1)) a 2 ((up2 r1 a 1 (r1 b1 1)) b1 2)) a 3 ((up2 (up2 r1 a 1 (r1 b1 1)) a 2 ((up2 r1 a 1 (r1 b1 1)) b1 2)) b1 3)) b1 4)) a 5 ((up2 (up2 (up2 (up2 r1 a 1 (r1 b1 1)) a 2 ((up2 r1 a 1 (r1 b1 1)) b1 2)) a 3 ((up2 (up2 r1 a 1 (r1 b1 1)) a 2 ((up2 r1 a 1 (r1 b1 1)) b1 2)) b1 3)) a 4 ((up2 (up2 (up2 r1 a 1 (r1 b1 1)) a 2 ((up2 r1 a 1 (r1 b1 1)) b1 2)) a 3 ((up2 (up2 r1 a 1 (r1 b1 1)) a 2 ((up2 r1 a 1 (r1 b1 1)) b1 2)) b1 3)) b1 4)) b1 5)) a 6 ((up2 (up2 (up2 (up2 (up2 r1 a 1 (r1 b1 1)) a 2 ((up2 r1 a 1 (r1 b1 1)) b1 2)) a 3 ((up2 (up2 r1 a 1 (r1 b1 1)) a 2 ((up2 r1 a 1 (r1 b1 1)) b1 2)) b1 3)) a 4 ((up2 (up2 (up2 r1 a 1 (r1 b1 1)) a 2 ((up2 r1 a 1 (r1 b1 1)) b1 2)) a 3 ((up2 (up2 r1 a 1 (r1 b1 1)) a 2 ((up2 r1 a 1 (r1 b1 1)) b1 2)) b1 3)) b1 4)) a 5 ((up2 (up2 (up2 (up2 r1 a 1 (r1 b1 1)) a 2 ((up2 r1 a 1 (r1 b1 1)) b1 2)) a 3 ((up2 (up2 r1 a 1 (r1 b1 1)) a 2 ((up2 r1 a 1 (r1 b1 1)) b1 2)) b1 3)) a 4 ((up2 (up2 (up2 r1 a 1 (r1 b1 1)) a 2 ((up2 r1 a 1 (r1 b1 1)) b1 2)) a 3 ((up2 (up2 r1 a 1 (r1 b1 1)) a 2 ((up2 r1 a 1 (r1 b1 1)) b1 2)) b1 3)) b1 4)) b1 5)) b1 6)) b1 7)) a 8 ((up2 (up2 (up2 (up2 (up2 (up2 (up2 r1 a 1 (r1 b1 1)) a 2 ((up2 r1 a 1 (r1 b1 1)) b1 2)) a 3 ((up2 (up2 r1 a 1 (r1 b1 1)) a 2 ((up2 r1 a 1 (r1 b1 1)) b1 2)) b1 3)) a 4 ((up2 (up2 (up2 r1 a 1 (r1 b1 1)) a 2 ((up2 r1 a 1 (r1 b1 1)) b1 2)) a 3 ((up2 (up2 r1 a 1 (r1 b1 1)) a 2 ((up2 r1 a 1 (r1 b1 1)) b1 2)) b1 3)) b1 4)) a 5 ((up2 (up2 (up2 (up2 r1 a 1 (r1 b1 1)) a 2 ((up2 r1 a 1 (r1 b1 1)) b1 2)) a 3 ((up2 (up2 r1 a 1 (r1 b1 1)) a 2 ((up2 r1 a 1 (r1 b1 1)) b1 2)) b1 3)) a 4 ((up2 (up2 (up2 r1 a 1 (r1 b1 1)) a 2 ((up2 r1 a 1 (r1 b1 1)) b1 2)) a 3 ((up2 (up2 r1 a 1 (r1 b1 1)) a 2 ((up2 r1 a 1 (r1 b1 1)) b1 2)) b1 3)) b1 4)) b1 5)) a 6 ((up2 (up2 (up2 (up2 (up2 r1 a 1 (r1 b1 1)) a 2 ((up2 r1 a 1 (r1 b1 1)) b1 2)) a 3 ((up2 (up2 r1 a 1 (r1 b1 1)) a 2 ((up2 r1 a 1 (r1 b1 1)) b1 2)) b1 3)) a 4 ((up2 (up2 (up2 r1 a 1 (r1 b1 1)) a 2 ((up2 r1 a 1 (r1 b1 1)) b1 2)) a 3 ((up2 (up2 r1 a 1 (r1 b1 1)) a 2 ((up2 r1 a 1 (r1 b1 1)) b1 2)) b1 3)) b1 4)) a 5 ((up2 (up2 (up2 (up2 r1 a 1 (r1 b1 1)) a 2 ((up2 r1 a 1 (r1 b1 1)) b1 2)) a 3 ((up2 (up2 r1 a 1 (r1 b1 1)) a 2 ((up2 r1 a 1 (r1 b1 1)) b1 2)) b1 3)) a 4 ((up2 (up2 (up2 r1 a 1 (r1 b1 1)) a 2 ((up2 r1 a 1 (r1 b1 1)) b1 2)) a 3 ((up2 (up2 r1 a 1 (r1 b1 1)) a 2 ((up2 r1 a 1 (r1 b1 1)) b1 2)) b1 3)) b1 4)) b1 5)) b1 6)) a 7 ((up2 (up2 (up2 (up2 (up2 (up2 r1 a 1 (r1 b1 1)) a 2 ((up2 r1 a 1 (r1 b1 1)) b1 2)) a 3 ((up2 (up2 r1 a 1 (r1 b1 1)) a 2 ((up2 r1 a 1 (r1 b1 1)) b1 2)) b1 3)) a 4 ((up2 (up2 (up2 r1 a 1 (r1 b1 1)) a 2 ((up2 r1 a 1 (r1 b1 1)) b1 2)) a 3 ((up2 (up2 r1 a 1 (r1 b1 1)) a 2 ((up2 r1 a 1 (r1 b1 1)) b1 2)) b1 3)) b1 4)) a 5 ((up2 (up2 (up2 (up2 r1 a 1 (r1 b1 1)) a 2 ((up2 r1 a 1 (r1 b1 1)) b1 2)) a 3 ((up2 (up2 r1 a 1 (r1 b1 1)) a 2 ((up2 r1 a 1 (r1 b1 1)) b1 2)) b1 3)) a 4 ((up2 (up2 (up2 r1 a 1 (r1 b1 1)) a 2 ((up2 r1 a 1 (r1 b1 1)) b1 2)) a 3 ((up2 (up2 r1 a 1 (r1 b1 1)) a 2 ((up2 r1 a 1 (r1 b1 1)) b1 2)) b1 3)) b1 4)) b1 5)) a 6 ((up2 (up2 (up2 (up2 (up2 r1 a 1 (r1 b1 1)) a 2 ((up2 r1 a 1 (r1 b1 1)) b1 2)) a 3 ((up2 (up2 r1 a 1 (r1 b1 1)) a 2 ((up2 r1 a 1 (r1 b1 1)) b1 2)) b1 3)) a 4 ((up2 (up2 (up2 r1 a 1 (r1 b1 1)) a 2 ((up2 r1 a 1 (r1 b1 1)) b1 2)) a 3 ((up2 (up2 r1 a 1 (r1 b1 1)) a 2 ((up2 r1 a 1 (r1 b1 1)) b1 2)) b1 3)) b1 4)) a 5 ((up2 (up2 (up2 (up2 r1 a 1 (r1 b1 1)) a 2 ((up2 r1 a 1 (r1 b1 1)) b1 2)) a 3 ((up2 (up2 r1 a 1 (r1 b1 1)) a 2 ((up2 r1 a 1 (r1 b1 1)) b1 2)) b1 3)) a 4 ((up2 (up2 (up2 r1 a 1 (r1 b1 1)) a 2 ((up2 r1 a 1 (r1 b1 1)) b1 2)) a 3 ((up2 (up2 r1 a 1 (r1 b1 1)) a 2 ((up2 r1 a 1 (r1 b1 1)) b1 2)) b1 3)) b1 4)) b1 5)) b1 6)) b1 7)) b1 8)) b1 9)) b1 10)) b1 11)) b1 12)) a 13 ((up2 (up2 (up2 (up2 (up2 (up2 (up2 (up2 (up2 (up2 (up2 (up2 r1 a 1 (r1 b1 1)) a 2 ((up2 r1 a 1 (r1 b1 1)) b1 2)) a 3 ((up2 (up2 r1 a 1 (r1 b1 1)) a 2 ((up2 r1 a 1 (r1 b1 1)) b1 2)) b1 3)) a 4 ((up2 (up2 (up2 r1 a 1 (r1 b1 1)) a 2 ((up2 r1 a 1 (r1 b1 1)) b1 2)) a 3 ((up2 (up2 r1 a 1 (r1 b1 1)) a 2 ((up2 r1 a 1 (r1 b1 1)) b1 2)) b1 3)) b1 4)) a 5 ((up2 (up2 (up2 (up2 r1 a 1 (r1 b1 1)) a 2 ((up2 r1 a 1 (r1 b1 1)) b1 2)) a 3 ((up2 (up2 r1 a 1 (r1 b1 1)) a 2 ((up2 r1 a 1 (r1 b1 1)) b1 2)) b1 3)) a 4 ((up2 (up2 (up2 r1 a 1 (r1 b1 1)) a 2 ((up2 r1 a 1 (r1 b1 1)) b1 2)) a 3 ((up2 (up2 r1 a 1 (r1 b1 1)) a 2 ((up2 r1 a 1 (r1 b1 1)) b1 2)) b1 3)) b1 4)) b1 5)) a 6 ((up2 (up2 (up2 (up2 (up2 r1 a 1 (r1 b1 1)) a 2 ((up2 r1 a 1 (r1 b1 1)) b1 2)) a 3 ((up2 (up2 r1 a 1 (r1 b1 1)) a 2 ((up2 r1 a 1 (r1 b1 1)) b1 2)) b1 3)) a 4 ((up2 (up2 (up2 r1 a 1 (r1 b1 1)) a 2 ((up2 r1 a 1 (r1 b1 1)) b1 2)) a 3 ((up2 (up2 r1 a 1 (r1 b1 1)) a 2 ((up2 r1 a 1 (r1 b1 1)) b1 2)) b1 3)) b1 4)) a 5 ((up2 (up2 (up2 (up2 r1 a 1 (r1 b1 1)) a 2 ((up2 r1 a 1 (r1 b1 1)) b1 2)) a 3 ((up2 (up2 r1 a 1 (r1 b1 1)) a 2 ((up2 r1 a 1 (r1 b1 1)) b1 2)) b1 3)) a 4 ((up2 (up2 (up2 r1 a 1 (r1 b1 1)) a 2 ((up2 r1 a 1 (r1 b1 1)) b1 2)) a 3 ((up2 (up2 r1 a 1 (r1 b1 1)) a 2 ((up2 r1 a 1 (r1 b1 1)) b1 2)) b1 3)) b1 4)) b1 5)) b1 6)) a 7 ((up2 (up2 (up2 (up2 (up2 (up2 r1 a 1 (r1 b1 1)) a 2 ((up2 r1 a 1 (r1 b1 1)) b1 2)) a 3 ((up2 (up2 r1 a 1 (r1 b1 1)) a 2 ((up2 r1 a 1 (r1 b1 1)) b1 2)) b1 3)) a 4 ((up2 (up2 (up2 r1 a 1 (r1 b1 1)) a 2 ((up2 r1 a 1 (r1 b1 1)) b1 2)) a 3 ((up2 (up2 r1 a 1 (r1 b1 1)) a 2 ((up2 r1 a 1 (r1 b1 1)) b1 2)) b1 3)) b1 4)) a 5 ((up2 (up2 (up2 (up2 r1 a 1 (r1 b1 1)) a 2 ((up2 r1 a 1 (r1 b1 1)) b1 2)) a 3 ((up2 (up2 r1 a 1 (r1 b1 1)) a 2 ((up2 r1 a 1 (r1 b1 1)) b1 2)) b1 3)) a 4 ((up2 (up2 (up2 r1 a 1 (r1 b1 1)) a 2 ((up2 r1 a 1 (r1 b1 1)) b1 2)) a 3 ((up2 (up2 r1 a 1 (r1 b1 1)) a 2 ((up2 r1 a 1 (r1 b1 1)) b1 2)) b1 3)) b1 4)) b1 5)) a 6 ((up2 (up2 (up2 (up2 (up2 r1 a 1 (r1 b1 1)) a 2 ((up2 r1 a 1 (r1 b1 1)) b1 2)) a 3 ((up2 (up2 r1 a 1 (r1 b1 1)) a 2 ((up2 r1 a 1 (r1 b1 1)) b1 2)) b1 3)) a 4 ((up2 (up2 (up2 r1 a 1 (r1 b1 1)) a 2 ((up2 r1 a 1 (r1 b1 1)) b1 2)) a 3 ((up2 (up2 r1 a 1 (r1 b1 1)) a 2 ((up2 r1 a 1 (r1 b1 1)) b1 2)) b1 3)) b1 4)) a 5 ((up2 (up2 (up2 (up2 r1 a 1 (r1 b1 1)) a 2 ((up2 r1 a 1 (r1 b1 1)) b1 2)) a 3 ((up2 (up2 r1 a 1 (r1 b1 1)) a 2 ((up2 r1 a 1 (r1 b1 1)) b1 2)) b1 3)) a 4 ((up2 (up2 (up2 r1 a 1 (r1 b1 1)) a 2 ((up2 r1 a 1 (r1 b1 1)) b1 2)) a 3 ((up2 (up2 r1 a 1 (r1 b1 1)) a 2 ((up2 r1 a 1 (r1 b1 1)) b1 2)) b1 3)) b1 4)) b1 5)) b1 6)) b1 7)) a 8 ((up2 (up2 (up2 (up2 (up2 (up2 (up2 r1 a 1 (r1 b1 1)) a 2 ((up2 r1 a 1 (r1 b1 1)) b1 2)) a 3 ((up2 (up2 r1 a 1 (r1 b1 1)) a 2 ((up2 r1 a 1 (r1 b1 1)) b1 2)) b1 3)) a 4 ((up2 (up2 (up2 r1 a 1 (r1 b1 1)) a 2 ((up2 r1 a 1 (r1 b1 1)) b1 2)) a 3 ((up2 (up2 r1 a 1 (r1 b1 1)) a 2 ((up2 r1 a 1 (r1 b1 1)) b1 2)) b1 3)) b1 4)) a 5 ((up2 (up2 (up2 (up2 r1 a 1 (r1 b1 1)) a 2 ((up2 r1 a 1 (r1 b1 1)) b1 2)) a 3 ((up2 (up2 r1 a 1 (r1 b1 1)) a 2 ((up2 r1 a 1 (r1 b1 1)) b1 2)) b1 3)) a 4 ((up2 (up2 (up2 r1 a 1 (r1 b1 1)) a 2 ((up2 r1 a 1 (r1 b1 1)) b1 2)) a 3 ((up2 (up2 r1 a 1 (r1 b1 1)) a 2 ((up2 r1 a 1 (r1 b1 1)) b1 2)) b1 3)) b1 4)) b1 5)) a 6 ((up2 (up2 (up2 (up2 (up2 r1 a 1 (r1 b1 1)) a 2 ((up2 r1 a 1 (r1 b1 1)) b1 2)) a 3 ((up2 (up2 r1 a 1 (r1 b1 1)) a 2 ((up2 r1 a 1 (r1 b1 1)) b1 2)) b1 3)) a 4 ((up2 (up2 (up2 r1 a 1 (r1 b1 1)) a 2 ((up2 r1 a 1 (r1 b1 1)) b1 2)) a 3 ((up2 (up2 r1 a 1 (r1 b1 1)) a 2 ((up2 r1 a 1 (r1 b1 1)) b1 2)) b1 3)) b1 4)) a 5 ((up2 (up2 (up2 (up2 r1 a 1 (r1 b1 1)) a 2 ((up2 r1 a 1 (r1 b1 1)) b1 2)) a 3 ((up2 (up2 r1 a 1 (r1 b1 1)) a 2 ((up2 r1 a 1 (r1 b1 1)) b1 2)) b1 3)) a 4 ((up2 (up2 (up2 r1 a 1 (r1 b1 1)) a 2 ((up2 r1 a 1 (r1 b1 1)) b1 2)) a 3 ((up2 (up2 r1 a 1 (r1 b1 1)) a 2 ((up2 r1 a 1 (r1 b1 1)) b1 2)) b1 3)) b1 4)) b1 5)) b1 6)) a 7 ((up2 (up2 (up2 (up2 (up2 (up2 r1 a 1 (r1 b1 1)) a 2 ((up2 r1 a 1 (r1 b1 1)) b1 2)) a 3 ((up2 (up2 r1 a 1 (r1 b1 1)) a 2 ((up2 r1 a 1 (r1 b1 1)) b1 2)) b1 3)) a 4 ((up2 (up2 (up2 r1 a 1 (r1 b1 1)) a 2 ((up2 r1 a 1 (r1 b1 1)) b1 2)) a 3 ((up2 (up2 r1 a 1 (r1 b1 1)) a 2 ((up2 r1 a 1 (r1 b1 1)) b1 2)) b1 3)) b1 4)) a 5 ((up2 (up2 (up2 (up2 r1 a 1 (r1 b1 1)) a 2 ((up2 r1 a 1 (r1 b1 1)) b1 2)) a 3 ((up2 (up2 r1 a 1 (r1 b1 1)) a 2 ((up2 r1 a 1 (r1 b1 1)) b1 2)) b1 3)) a 4 ((up2 (up2 (up2 r1 a 1 (r1 b1 1)) a 2 ((up2 r1 a 1 (r1 b1 1)) b1 2)) a 3 ((up2 (up2 r1 a 1 (r1 b1 1)) a 2 ((up2 r1 a 1 (r1 b1 1)) b1 2)) b1 3)) b1 4)) b1 5)) a 6 ((up2 (up2 (up2 (up2 (up2 r1 a 1 (r1 b1 1)) a 2 ((up2 r1 a 1 (r1 b1 1)) b1 2)) a 3 ((up2 (up2 r1 a 1 (r1 b1 1)) a 2 ((up2 r1 a 1 (r1 b1 1)) b1 2)) b1 3)) a 4 ((up2 (up2 (up2 r1 a 1 (r1 b1 1)) a 2 ((up2 r1 a 1 (r1 b1 1)) b1 2)) a 3 ((up2 (up2 r1 a 1 (r1 b1 1)) a 2 ((up2 r1 a 1 (r1 b1 1)) b1 2)) b1 3)) b1 4)) a 5 ((up2 (up2 (up2 (up2 r1 a 1 (r1 b1 1)) a 2 ((up2 r1 a 1 (r1 b1 1)) b1 2)) a 3 ((up2 (up2 r1 a 1 (r1 b1 1)) a 2 ((up2 r1 a 1 (r1 b1 1)) b1 2)) b1 3)) a 4 ((up2 (up2 (up2 r1 a 1 (r1 b1 1)) a 2 ((up2 r1 a 1 (r1 b1 1)) b1 2)) a 3 ((up2 (up2 r1 a 1 (r1 b1 1)) a 2 ((up2 r1 a 1 (r1 b1 1)) b1 2)) b1 3)) b1 4)) b1 5)) b1 6)) b1 7)) b1 8)) a 9 ((up2 (up2 (up2 (up2 (up2 (up2 (up2 (up2 r1 a 1 (r1 b1 1)) a 2 ((up2 r1 a 1 (r1 b1 1)) b1 2)) a 3 ((up2 (up2 r1 a 1 (r1 b1 1)) a 2 ((up2 r1 a 1 (r1 b1 1)) b1 2)) b1 3)) a 4 ((up2 (up2 (up2 r1 a 1 (r1 b1 1)) a 2 ((up2 r1 a 1 (r1 b1 1)) b1 2)) a 3 ((up2 (up2 r1 a 1 (r1 b1 1)) a 2 ((up2 r1 a 1 (r1 b1 1)) b1 2)) b1 3)) b1 4)) a 5 ((up2 (up2 (up2 (up2 r1 a 1 (r1 b1 1)) a 2 ((up2 r1 a 1 (r1 b1 1)) b1 2)) a 3 ((up2 (up2 r1 a 1 (r1 b1 1)) a 2 ((up2 r1 a 1 (r1 b1 1)) b1 2)) b1 3)) a 4 ((up2 (up2 (up2 r1 a 1 (r1 b1 1)) a 2 ((up2 r1 a 1 (r1 b1 1)) b1 2)) a 3 ((up2 (up2 r1 a 1 (r1 b1 1)) a 2 ((up2 r1 a 1 (r1 b1 1)) b1 2)) b1 3)) b1 4)) b1 5)) a 6 ((up2 (up2 (up2 (up2 (up2 r1 a 1 (r1 b1 1)) a 2 ((up2 r1 a 1 (r1 b1 1)) b1 2)) a 3 ((up2 (up2 r1 a 1 (r1 b1 1)) a 2 ((up2 r1 a 1 (r1 b1 1)) b1 2)) b1 3)) a 4 ((up2 (up2 (up2 r1 a 1 (r1 b1 1)) a 2 ((up2 r1 a 1 (r1 b1 1)) b1 2)) a 3 ((up2 (up2 r1 a 1 (r1 b1 1)) a 2 ((up2 r1 a 1 (r1 b1 1)) b1 2)) b1 3)) b1 4)) a 5 ((up2 (up2 (up2 (up2 r1 a 1 (r1 b1 1)) a 2 ((up2 r1 a 1 (r1 b1 1)) b1 2)) a 3 ((up2 (up2 r1 a 1 (r1 b1 1)) a 2 ((up2 r1 a 1 (r1 b1 1)) b1 2)) b1 3)) a 4 ((up2 (up2 (up2 r1 a 1 (r1 b1 1)) a 2 ((up2 r1 a 1 (r1 b1 1)) b1 2)) a 3 ((up2 (up2 r1 a 1 (r1 b1 1)) a 2 ((up2 r1 a 1 (r1 b1 1)) b1 2)) b1 3)) b1 4)) b1 5)) b1 6)) a 7 ((up2 (up2 (up2 (up2 (up2 (up2 r1 a 1 (r1 b1 1)) a 2 ((up2 r1 a 1 (r1 b1 1)) b1 2)) a 3 ((up2 (up2 r1 a 1 (r1 b1 1)) a 2 ((up2 r1 a 1 (r1 b1 1)) b1 2)) b1 3)) a 4 ((up2 (up2 (up2 r1 a 1 (r1 b1 1)) a 2 ((up2 r1 a 1 (r1 b1 1)) b1 2)) a 3 ((up2 (up2 r1 a 1 (r1 b1 1)) a 2 ((up2 r1 a 1 (r1 b1 1)) b1 2)) b1 3)) b1 4)) a 5 ((up2 (up2 (up2 (up2 r1 a 1 (r1 b1 1)) a 2 ((up2 r1 a 1 (r1 b1 1)) b1 2)) a 3 ((up2 (up2 r1 a 1 (r1 b1 1)) a 2 ((up2 r1 a 1 (r1 b1 1)) b1 2)) b1 3)) a 4 ((up2 (up2 (up2 r1 a 1 (r1 b1 1)) a 2 ((up2 r1 a 1 (r1 b1 1)) b1 2)) a 3 ((up2 (up2 r1 a 1 (r1 b1 1)) a 2 ((up2 r1 a 1 (r1 b1 1)) b1 2)) b1 3)) b1 4)) b1 5)) a 6 ((up2 (up2 (up2 (up2 (up2 r1 a 1 (r1 b1 1)) a 2 ((up2 r1 a 1 (r1 b1 1)) b1 2)) a 3 ((up2 (up2 r1 a 1 (r1 b1 1)) a 2 ((up2 r1 a 1 (r1 b1 1)) b1 2)) b1 3)) a 4 ((up2 (up2 (up2 r1 a 1 (r1 b1 1)) a 2 ((up2 r1 a 1 (r1 b1 1)) b1 2)) a 3 ((up2 (up2 r1 a 1 (r1 b1 1)) a 2 ((up2 r1 a 1 (r1 b1 1)) b1 2)) b1 3)) b1 4)) a 5 ((up2 (up2 (up2 (up2 r1 a 1 (r1 b1 1)) a 2 ((up2 r1 a 1 (r1 b1 1)) b1 2)) a 3 ((up2 (up2 r1 a 1 (r1 b1 1)) a 2 ((up2 r1 a 1 (r1 b1 1)) b1 2)) b1 3)) a 4 ((up2 (up2 (up2 r1 a 1 (r1 b1 1)) a 2 ((up2 r1 a 1 (r1 b1 1)) b1 2)) a 3 ((up2 (up2 r1 a 1 (r1 b1 1)) a 2 ((up2 r1 a 1 (r1 b1 1)) b1 2)) b1 3)) b1 4)) b1 5)) b1 6)) b1 7)) a 8 ((up2 (up2 (up2 (up2 (up2 (up2 (up2 r1 a 1 (r1 b1 1)) a 2 ((up2 r1 a 1 (r1 b1 1)) b1 2)) a 3 ((up2 (up2 r1 a 1 (r1 b1 1)) a 2 ((up2 r1 a 1 (r1 b1 1)) b1 2)) b1 3)) a 4 ((up2 (up2 (up2 r1 a 1 (r1 b1 1)) a 2 ((up2 r1 a 1 (r1 b1 1)) b1 2)) a 3 ((up2 (up2 r1 a 1 (r1 b1 1)) a 2 ((up2 r1 a 1 (r1 b1 1)) b1 2)) b1 3)) b1 4)) a 5 ((up2 (up2 (up2 (up2 r1 a 1 (r1 b1 1)) a 2 ((up2 r1 a 1 (r1 b1 1)) b1 2)) a 3 ((up2 (up2 r1 a 1 (r1 b1 1)) a 2 ((up2 r1 a 1 (r1 b1 1)) b1 2)) b1 3)) a 4 ((up2 (up2 (up2 r1 a 1 (r1 b1 1)) a 2 ((up2 r1 a 1 (r1 b1 1)) b1 2)) a 3 ((up2 (up2 r1 a 1 (r1 b1 1)) a 2 ((up2 r1 a 1 (r1 b1 1)) b1 2)) b1 3)) b1 4)) b1 5)) a 6 ((up2 (up2 (up2 (up2 (up2 r1 a 1 (r1 b1 1)) a 2 ((up2 r1 a 1 (r1 b1 1)) b1 2)) a 3 ((up2 (up2 r1 a 1 (r1 b1 1)) a 2 ((up2 r1 a 1 (r1 b1 1)) b1 2)) b1 3)) a 4 ((up2 (up2 (up2 r1 a 1 (r1 b1 1)) a 2 ((up2 r1 a 1 (r1 b1 1)) b1 2)) a 3 ((up2 (up2 r1 a 1 (r1 b1 1)) a 2 ((up2 r1 a 1 (r1 b1 1)) b1 2)) b1 3)) b1 4)) a 5 ((up2 (up2 (up2 (up2 r1 a 1 (r1 b1 1)) a 2 ((up2 r1 a 1 (r1 b1 1)) b1 2)) a 3 ((up2 (up2 r1 a 1 (r1 b1 1)) a 2 ((up2 r1 a 1 (r1 b1 1)) b1 2)) b1 3)) a 4 ((up2 (up2 (up2 r1 a 1 (r1 b1 1)) a 2 ((up2 r1 a 1 (r1 b1 1)) b1 2)) a 3 ((up2 (up2 r1 a 1 (r1 b1 1)) a 2 ((up2 r1 a 1 (r1 b1 1)) b1 2)) b1 3)) b1 4)) b1 5)) b1 6)) a 7 ((up2 (up2 (up2 (up2 (up2 (up2 r1 a 1 (r1 b1 1)) a 2 ((up2 r1 a 1 (r1 b1 1)) b1 2)) a 3 ((up2 (up2 r1 a 1 (r1 b1 1)) a 2 ((up2 r1 a 1 (r1 b1 1)) b1 2)) b1 3)) a 4 ((up2 (up2 (up2 r1 a 1 (r1 b1 1)) a 2 ((up2 r1 a 1 (r1 b1 1)) b1 2)) a 3 ((up2 (up2 r1 a 1 (r1 b1 1)) a 2 ((up2 r1 a 1 (r1 b1 1)) b1 2)) b1 3)) b1 4)) a 5 ((up2 (up2 (up2 (up2 r1 a 1 (r1 b1 1)) a 2 ((up2 r1 a 1 (r1 b1 1)) b1 2)) a 3 ((up2 (up2 r1 a 1 (r1 b1 1)) a 2 ((up2 r1 a 1 (r1 b1 1)) b1 2)) b1 3)) a 4 ((up2 (up2 (up2 r1 a 1 (r1 b1 1)) a 2 ((up2 r1 a 1 (r1 b1 1)) b1 2)) a 3 ((up2 (up2 r1 a 1 (r1 b1 1)) a 2 ((up2 r1 a 1 (r1 b1 1)) b1 2)) b1 3)) b1 4)) b1 5)) a 6 ((up2 (up2 (up2 (up2 (up2 r1 a 1 (r1 b1 1)) a 2 ((up2 r1 a 1 (r1 b1 1)) b1 2)) a 3 ((up2 (up2 r1 a 1 (r1 b1 1)) a 2 ((up2 r1 a 1 (r1 b1 1)) b1 2)) b1 3)) a 4 ((up2 (up2 (up2 r1 a 1 (r1 b1 1)) a 2 ((up2 r1 a 1 (r1 b1 1)) b1 2)) a 3 ((up2 (up2 r1 a 1 (r1 b1 1)) a 2 ((up2 r1 a 1 (r1 b1 1)) b1 2)) b1 3)) b1 4)) a 5 ((up2 (up2 (up2 (up2 r1 a 1 (r1 b1 1)) a 2 ((up2 r1 a 1 (r1 b1 1)) b1 2)) a 3 ((up2 (up2 r1 a 1 (r1 b1 1)) a 2 ((up2 r1 a 1 (r1 b1 1)) b1 2)) b1 3)) a 4 ((up2 (up2 (up2 r1 a 1 (r1 b1 1)) a 2 ((up2 r1 a 1 (r1 b1 1)) b1 2)) a 3 ((up2 (up2 r1 a 1 (r1 b1 1)) a 2 ((up2 r1 a 1 (r1 b1 1)) b1 2)) b1 3)) b1 4)) b1 5)) b1 6)) b1 7)) b1 8)) b1 9)) a 10 ((up2 (up2 (up2 (up2 (up2 (up2 (up2 (up2 (up2 r1 a 1 (r1 b1 1)) a 2 ((up2 r1 a 1 (r1 b1 1)) b1 2)) a 3 ((up2 (up2 r1 a 1 (r1 b1 1)) a 2 ((up2 r1 a 1 (r1 b1 1)) b1 2)) b1 3)) a 4 ((up2 (up2 (up2 r1 a 1 (r1 b1 1)) a 2 ((up2 r1 a 1 (r1 b1 1)) b1 2)) a 3 ((up2 (up2 r1 a 1 (r1 b1 1)) a 2 ((up2 r1 a 1 (r1 b1 1)) b1 2)) b1 3)) b1 4)) a 5 ((up2 (up2 (up2 (up2 r1 a 1 (r1 b1 1)) a 2 ((up2 r1 a 1 (r1 b1 1)) b1 2)) a 3 ((up2 (up2 r1 a 1 (r1 b1 1)) a 2 ((up2 r1 a 1 (r1 b1 1)) b1 2)) b1 3)) a 4 ((up2 (up2 (up2 r1 a 1 (r1 b1 1)) a 2 ((up2 r1 a 1 (r1 b1 1)) b1 2)) a 3 ((up2 (up2 r1 a 1 (r1 b1 1)) a 2 ((up2 r1 a 1 (r1 b1 1)) b1 2)) b1 3)) b1 4)) b1 5)) a 6 ((up2 (up2 (up2 (up2 (up2 r1 a 1 (r1 b1 1)) a 2 ((up2 r1 a 1 (r1 b1 1)) b1 2)) a 3 ((up2 (up2 r1 a 1 (r1 b1 1)) a 2 ((up2 r1 a 1 (r1 b1 1)) b1 2)) b1 3)) a 4 ((up2 (up2 (up2 r1 a 1 (r1 b1 1)) a 2 ((up2 r1 a 1 (r1 b1 1)) b1 2)) a 3 ((up2 (up2 r1 a 1 (r1 b1 1)) a 2 ((up2 r1 a 1 (r1 b1 1)) b1 2)) b1 3)) b1 4)) a 5 ((up2 (up2 (up2 (up2 r1 a 1 (r1 b1 1)) a 2 ((up2 r1 a 1 (r1 b1 1)) b1 2)) a 3 ((up2 (up2 r1 a 1 (r1 b1 1)) a 2 ((up2 r1 a 1 (r1 b1 1)) b1 2)) b1 3)) a 4 ((up2 (up2 (up2 r1 a 1 (r1 b1 1)) a 2 ((up2 r1 a 1 (r1 b1 1)) b1 2)) a 3 ((up2 (up2 r1 a 1 (r1 b1 1)) a 2 ((up2 r1 a 1 (r1 b1 1)) b1 2)) b1 3)) b1 4)) b1 5)) b1 6)) a 7 ((up2 (up2 (up2 (up2 (up2 (up2 r1 a 1 (r1 b1 1)) a 2 ((up2 r1 a 1 (r1 b1 1)) b1 2)) a 3 ((up2 (up2 r1 a 1 (r1 b1 1)) a 2 ((up2 r1 a 1 (r1 b1 1)) b1 2)) b1 3)) a 4 ((up2 (up2 (up2 r1 a 1 (r1 b1 1)) a 2 ((up2 r1 a 1 (r1 b1 1)) b1 2)) a 3 ((up2 (up2 r1 a 1 (r1 b1 1)) a 2 ((up2 r1 a 1 (r1 b1 1)) b1 2)) b1 3)) b1 4)) a 5 ((up2 (up2 (up2 (up2 r1 a 1 (r1 b1 1)) a 2 ((up2 r1 a 1 (r1 b1 1)) b1 2)) a 3 ((up2 (up2 r1 a 1 (r1 b1 1)) a 2 ((up2 r1 a 1 (r1 b1 1)) b1 2)) b1 3)) a 4 ((up2 (up2 (up2 r1 a 1 (r1 b1 1)) a 2 ((up2 r1 a 1 (r1 b1 1)) b1 2)) a 3 ((up2 (up2 r1 a 1 (r1 b1 1)) a 2 ((up2 r1 a 1 (r1 b1 1)) b1 2)) b1 3)) b1 4)) b1 5)) a 6 ((up2 (up2 (up2 (up2 (up2 r1 a 1 (r1 b1 1)) a 2 ((up2 r1 a 1 (r1 b1 1)) b1 2)) a 3 ((up2 (up2 r1 a 1 (r1 b1 1)) a 2 ((up2 r1 a 1 (r1 b1 1)) b1 2)) b1 3)) a 4 ((up2 (up2 (up2 r1 a 1 (r1 b1 1)) a 2 ((up2 r1 a 1 (r1 b1 1)) b1 2)) a 3 ((up2 (up2 r1 a 1 (r1 b1 1)) a 2 ((up2 r1 a 1 (r1 b1 1)) b1 2)) b1 3)) b1 4)) a 5 ((up2 (up2 (up2 (up2 r1 a 1 (r1 b1 1)) a 2 ((up2 r1 a 1 (r1 b1 1)) b1 2)) a 3 ((up2 (up2 r1 a 1 (r1 b1 1)) a 2 ((up2 r1 a 1 (r1 b1 1)) b1 2)) b1 3)) a 4 ((up2 (up2 (up2 r1 a 1 (r1 b1 1)) a 2 ((up2 r1 a 1 (r1 b1 1)) b1 2)) a 3 ((up2 (up2 r1 a 1 (r1 b1 1)) a 2 ((up2 r1 a 1 (r1 b1 1)) b1 2)) b1 3)) b1 4)) b1 5)) b1 6)) b1 7)) a 8 ((up2 (up2 (up2 (up2 (up2 (up2 (up2 r1 a 1 (r1 b1 1)) a 2 ((up2 r1 a 1 (r1 b1 1)) b1 2)) a 3 ((up2 (up2 r1 a 1 (r1 b1 1)) a 2 ((up2 r1 a 1 (r1 b1 1)) b1 2)) b1 3)) a 4 ((up2 (up2 (up2 r1 a 1 (r1 b1 1)) a 2 ((up2 r1 a 1 (r1 b1 1)) b1 2)) a 3 ((up2 (up2 r1 a 1 (r1 b1 1)) a 2 ((up2 r1 a 1 (r1 b1 1)) b1 2)) b1 3)) b1 4)) a 5 ((up2 (up2 (up2 (up2 r1 a 1 (r1 b1 1)) a 2 ((up2 r1 a 1 (r1 b1 1)) b1 2)) a 3 ((up2 (up2 r1 a 1 (r1 b1 1)) a 2 ((up2 r1 a 1 (r1 b1 1)) b1 2)) b1 3)) a 4 ((up2 (up2 (up2 r1 a 1 (r1 b1 1)) a 2 ((up2 r1 a 1 (r1 b1 1)) b1 2)) a 3 ((up2 (up2 r1 a 1 (r1 b1 1)) a 2 ((up2 r1 a 1 (r1 b1 1)) b1 2)) b1 3)) b1 4)) b1 5)) a 6 ((up2 (up2 (up2 (up2 (up2 r1 a 1 (r1 b1 1)) a 2 ((up2 r1 a 1 (r1 b1 1)) b1 2)) a 3 ((up2 (up2 r1 a 1 (r1 b1 1)) a 2 ((up2 r1 a 1 (r1 b1 1)) b1 2)) b1 3)) a 4 ((up2 (up2 (up2 r1 a 1 (r1 b1 1)) a 2 ((up2 r1 a 1 (r1 b1 1)) b1 2)) a 3 ((up2 (up2 r1 a 1 (r1 b1 1)) a 2 ((up2 r1 a 1 (r1 b1 1)) b1 2)) b1 3)) b1 4)) a 5 ((up2 (up2 (up2 (up2 r1 a 1 (r1 b1 1)) a 2 ((up2 r1 a 1 (r1 b1 1)) b1 2)) a 3 ((up2 (up2 r1 a 1 (r1 b1 1)) a 2 ((up2 r1 a 1 (r1 b1 1)) b1 2)) b1 3)) a 4 ((up2 (up2 (up2 r1 a 1 (r1 b1 1)) a 2 ((up2 r1 a 1 (r1 b1 1)) b1 2)) a 3 ((up2 (up2 r1 a 1 (r1 b1 1)) a 2 ((up2 r1 a 1 (r1 b1 1)) b1 2)) b1 3)) b1 4)) b1 5)) b1 6)) a 7 ((up2 (up2 (up2 (up2 (up2 (up2 r1 a 1 (r1 b1 1)) a 2 ((up2 r1 a 1 (r1 b1 1)) b1 2)) a 3 ((up2 (up2 r1 a 1 (r1 b1 1)) a 2 ((up2 r1 a 1 (r1 b1 1)) b1 2)) b1 3)) a 4 ((up2 (up2 (up2 r1 a 1 (r1 b1 1)) a 2 ((up2 r1 a 1 (r1 b1 1)) b1 2)) a 3 ((up2 (up2 r1 a 1 (r1 b1 1)) a 2 ((up2 r1 a 1 (r1 b1 1)) b1 2)) b1 3)) b1 4)) a 5 ((up2 (up2 (up2 (up2 r1 a 1 (r1 b1 1)) a 2 ((up2 r1 a 1 (r1 b1 1)) b1 2)) a 3 ((up2 (up2 r1 a 1 (r1 b1 1)) a 2 ((up2 r1 a 1 (r1 b1 1)) b1 2)) b1 3)) a 4 ((up2 (up2 (up2 r1 a 1 (r1 b1 1)) a 2 ((up2 r1 a 1 (r1 b1 1)) b1 2)) a 3 ((up2 (up2 r1 a 1 (r1 b1 1)) a 2 ((up2 r1 a 1 (r1 b1 1)) b1 2)) b1 3)) b1 4)) b1 5)) a 6 ((up2 (up2 (up2 (up2 (up2 r1 a 1 (r1 b1 1)) a 2 ((up2 r1 a 1 (r1 b1 1)) b1 2)) a 3 ((up2 (up2 r1 a 1 (r1 b1 1)) a 2 ((up2 r1 a 1 (r1 b1 1)) b1 2)) b1 3)) a 4 ((up2 (up2 (up2 r1 a 1 (r1 b1 1)) a 2 ((up2 r1 a 1 (r1 b1 1)) b1 2)) a 3 ((up2 (up2 r1 a 1 (r1 b1 1)) a 2 ((up2 r1 a 1 (r1 b1 1)) b1 2)) b1 3)) b1 4)) a 5 ((up2 (up2 (up2 (up2 r1 a 1 (r1 b1 1)) a 2 ((up2 r1 a 1 (r1 b1 1)) b1 2)) a 3 ((up2 (up2 r1 a 1 (r1 b1 1)) a 2 ((up2 r1 a 1 (r1 b1 1)) b1 2)) b1 3)) a 4 ((up2 (up2 (up2 r1 a 1 (r1 b1 1)) a 2 ((up2 r1 a 1 (r1 b1 1)) b1 2)) a 3 ((up2 (up2 r1 a 1 (r1 b1 1)) a 2 ((up2 r1 a 1 (r1 b1 1)) b1 2)) b1 3)) b1 4)) b1 5)) b1 6)) b1 7)) b1 8)) a 9 ((up2 (up2 (up2 (up2 (up2 (up2 (up2 (up2 r1 a 1 (r1 b1 1)) a 2 ((up2 r1 a 1 (r1 b1 1)) b1 2)) a 3 ((up2 (up2 r1 a 1 (r1 b1 1)) a 2 ((up2 r1 a 1 (r1 b1 1)) b1 2)) b1 3)) a 4 ((up2 (up2 (up2 r1 a 1 (r1 b1 1)) a 2 ((up2 r1 a 1 (r1 b1 1)) b1 2)) a 3 ((up2 (up2 r1 a 1 (r1 b1 1)) a 2 ((up2 r1 a 1 (r1 b1 1)) b1 2)) b1 3)) b1 4)) a 5 ((up2 (up2 (up2 (up2 r1 a 1 (r1 b1 1)) a 2 ((up2 r1 a 1 (r1 b1 1)) b1 2)) a 3 ((up2 (up2 r1 a 1 (r1 b1 1)) a 2 ((up2 r1 a 1 (r1 b1 1)) b1 2)) b1 3)) a 4 ((up2 (up2 (up2 r1 a 1 (r1 b1 1)) a 2 ((up2 r1 a 1 (r1 b1 1)) b1 2)) a 3 ((up2 (up2 r1 a 1 (r1 b1 1)) a 2 ((up2 r1 a 1 (r1 b1 1)) b1 2)) b1 3)) b1 4)) b1 5)) a 6 ((up2 (up2 (up2 (up2 (up2 r1 a 1 (r1 b1 1)) a 2 ((up2 r1 a 1 (r1 b1 1)) b1 2)) a 3 ((up2 (up2 r1 a 1 (r1 b1 1)) a 2 ((up2 r1 a 1 (r1 b1 1)) b1 2)) b1 3)) a 4 ((up2 (up2 (up2 r1 a 1 (r1 b1 1)) a 2 ((up2 r1 a 1 (r1 b1 1)) b1 2)) a 3 ((up2 (up2 r1 a 1 (r1 b1 1)) a 2 ((up2 r1 a 1 (r1 b1 1)) b1 2)) b1 3)) b1 4)) a 5 ((up2 (up2 (up2 (up2 r1 a 1 (r1 b1 1)) a 2 ((up2 r1 a 1 (r1 b1 1)) b1 2)) a 3 ((up2 (up2 r1 a 1 (r1 b1 1)) a 2 ((up2 r1 a 1 (r1 b1 1)) b1 2)) b1 3)) a 4 ((up2 (up2 (up2 r1 a 1 (r1 b1 1)) a 2 ((up2 r1 a 1 (r1 b1 1)) b1 2)) a 3 ((up2 (up2 r1 a 1 (r1 b1 1)) a 2 ((up2 r1 a 1 (r1 b1 1)) b1 2)) b1 3)) b1 4)) b1 5)) b1 6)) a 7 ((up2 (up2 (up2 (up2 (up2 (up2 r1 a 1 (r1 b1 1)) a 2 ((up2 r1 a 1 (r1 b1 1)) b1 2)) a 3 ((up2 (up2 r1 a 1 (r1 b1 1)) a 2 ((up2 r1 a 1 (r1 b1 1)) b1 2)) b1 3)) a 4 ((up2 (up2 (up2 r1 a 1 (r1 b1 1)) a 2 ((up2 r1 a 1 (r1 b1 1)) b1 2)) a 3 ((up2 (up2 r1 a 1 (r1 b1 1)) a 2 ((up2 r1 a 1 (r1 b1 1)) b1 2)) b1 3)) b1 4)) a 5 ((up2 (up2 (up2 (up2 r1 a 1 (r1 b1 1)) a 2 ((up2 r1 a 1 (r1 b1 1)) b1 2)) a 3 ((up2 (up2 r1 a 1 (r1 b1 1)) a 2 ((up2 r1 a 1 (r1 b1 1)) b1 2)) b1 3)) a 4 ((up2 (up2 (up2 r1 a 1 (r1 b1 1)) a 2 ((up2 r1 a 1 (r1 b1 1)) b1 2)) a 3 ((up2 (up2 r1 a 1 (r1 b1 1)) a 2 ((up2 r1 a 1 (r1 b1 1)) b1 2)) b1 3)) b1 4)) b1 5)) a 6 ((up2 (up2 (up2 (up2 (up2 r1 a 1 (r1 b1 1)) a 2 ((up2 r1 a 1 (r1 b1 1)) b1 2)) a 3 ((up2 (up2 r1 a 1 (r1 b1 1)) a 2 ((up2 r1 a 1 (r1 b1 1)) b1 2)) b1 3)) a 4 ((up2 (up2 (up2 r1 a 1 (r1 b1 1)) a 2 ((up2 r1 a 1 (r1 b1 1)) b1 2)) a 3 ((up2 (up2 r1 a 1 (r1 b1 1)) a 2 ((up2 r1 a 1 (r1 b1 1)) b1 2)) b1 3)) b1 4)) a 5 ((up2 (up2 (up2 (up2 r1 a 1 (r1 b1 1)) a 2 ((up2 r1 a 1 (r1 b1 1)) b1 2)) a 3 ((up2 (up2 r1 a 1 (r1 b1 1)) a 2 ((up2 r1 a 1 (r1 b1 1)) b1 2)) b1 3)) a 4 ((up2 (up2 (up2 r1 a 1 (r1 b1 1)) a 2 ((up2 r1 a 1 (r1 b1 1)) b1 2)) a 3 ((up2 (up2 r1 a 1 (r1 b1 1)) a 2 ((up2 r1 a 1 (r1 b1 1)) b1 2)) b1 3)) b1 4)) b1 5)) b1 6)) b1 7)) a 8 ((up2 (up2 (up2 (up2 (up2 (up2 (up2 r1 a 1 (r1 b1 1)) a 2 ((up2 r1 a 1 (r1 b1 1)) b1 2)) a 3 ((up2 (up2 r1 a 1 (r1 b1 1)) a 2 ((up2 r1 a 1 (r1 b1 1)) b1 2)) b1 3)) a 4 ((up2 (up2 (up2 r1 a 1 (r1 b1 1)) a 2 ((up2 r1 a 1 (r1 b1 1)) b1 2)) a 3 ((up2 (up2 r1 a 1 (r1 b1 1)) a 2 ((up2 r1 a 1 (r1 b1 1)) b1 2)) b1 3)) b1 4)) a 5 ((up2 (up2 (up2 (up2 r1 a 1 (r1 b1 1)) a 2 ((up2 r1 a 1 (r1 b1 1)) b1 2)) a 3 ((up2 (up2 r1 a 1 (r1 b1 1)) a 2 ((up2 r1 a 1 (r1 b1 1)) b1 2)) b1 3)) a 4 ((up2 (up2 (up2 r1 a 1 (r1 b1 1)) a 2 ((up2 r1 a 1 (r1 b1 1)) b1 2)) a 3 ((up2 (up2 r1 a 1 (r1 b1 1)) a 2 ((up2 r1 a 1 (r1 b1 1)) b1 2)) b1 3)) b1 4)) b1 5)) a 6 ((up2 (up2 (up2 (up2 (up2 r1 a 1 (r1 b1 1)) a 2 ((up2 r1 a 1 (r1 b1 1)) b1 2)) a 3 ((up2 (up2 r1 a 1 (r1 b1 1)) a 2 ((up2 r1 a 1 (r1 b1 1)) b1 2)) b1 3)) a 4 ((up2 (up2 (up2 r1 a 1 (r1 b1 1)) a 2 ((up2 r1 a 1 (r1 b1 1)) b1 2)) a 3 ((up2 (up2 r1 a 1 (r1 b1 1)) a 2 ((up2 r1 a 1 (r1 b1 1)) b1 2)) b1 3)) b1 4)) a 5 ((up2 (up2 (up2 (up2 r1 a 1 (r1 b1 1)) a 2 ((up2 r1 a 1 (r1 b1 1)) b1 2)) a 3 ((up2 (up2 r1 a 1 (r1 b1 1)) a 2 ((up2 r1 a 1 (r1 b1 1)) b1 2)) b1 3)) a 4 ((up2 (up2 (up2 r1 a 1 (r1 b1 1)) a 2 ((up2 r1 a 1 (r1 b1 1)) b1 2)) a 3 ((up2 (up2 r1 a 1 (r1 b1 1)) a 2 ((up2 r1 a 1 (r1 b1 1)) b1 2)) b1 3)) b1 4)) b1 5)) b1 6)) a 7 ((up2 (up2 (up2 (up2 (up2 (up2 r1 a 1 (r1 b1 1)) a 2 ((up2 r1 a 1 (r1 b1 1)) b1 2)) a 3 ((up2 (up2 r1 a 1 (r1 b1 1)) a 2 ((up2 r1 a 1 (r1 b1 1)) b1 2)) b1 3)) a 4 ((up2 (up2 (up2 r1 a 1 (r1 b1 1)) a 2 ((up2 r1 a 1 (r1 b1 1)) b1 2)) a 3 ((up2 (up2 r1 a 1 (r1 b1 1)) a 2 ((up2 r1 a 1 (r1 b1 1)) b1 2)) b1 3)) b1 4)) a 5 ((up2 (up2 (up2 (up2 r1 a 1 (r1 b1 1)) a 2 ((up2 r1 a 1 (r1 b1 1)) b1 2)) a 3 ((up2 (up2 r1 a 1 (r1 b1 1)) a 2 ((up2 r1 a 1 (r1 b1 1)) b1 2)) b1 3)) a 4 ((up2 (up2 (up2 r1 a 1 (r1 b1 1)) a 2 ((up2 r1 a 1 (r1 b1 1)) b1 2)) a 3 ((up2 (up2 r1 a 1 (r1 b1 1)) a 2 ((up2 r1 a 1 (r1 b1 1)) b1 2)) b1 3)) b1 4)) b1 5)) a 6 ((up2 (up2 (up2 (up2 (up2 r1 a 1 (r1 b1 1)) a 2 ((up2 r1 a 1 (r1 b1 1)) b1 2)) a 3 ((up2 (up2 r1 a 1 (r1 b1 1)) a 2 ((up2 r1 a 1 (r1 b1 1)) b1 2)) b1 3)) a 4 ((up2 (up2 (up2 r1 a 1 (r1 b1 1)) a 2 ((up2 r1 a 1 (r1 b1 1)) b1 2)) a 3 ((up2 (up2 r1 a 1 (r1 b1 1)) a 2 ((up2 r1 a 1 (r1 b1 1)) b1 2)) b1 3)) b1 4)) a 5 ((up2 (up2 (up2 (up2 r1 a 1 (r1 b1 1)) a 2 ((up2 r1 a 1 (r1 b1 1)) b1 2)) a 3 ((up2 (up2 r1 a 1 (r1 b1 1)) a 2 ((up2 r1 a 1 (r1 b1 1)) b1 2)) b1 3)) a 4 ((up2 (up2 (up2 r1 a 1 (r1 b1 1)) a 2 ((up2 r1 a 1 (r1 b1 1)) b1 2)) a 3 ((up2 (up2 r1 a 1 (r1 b1 1)) a 2 ((up2 r1 a 1 (r1 b1 1)) b1 2)) b1 3)) b1 4)) b1 5)) b1 6)) b1 7)) b1 8)) b1 9)) b1 10)) a 11 ((up2 (up2 (up2 (up2 (up2 (up2 (up2 (up2 (up2 (up2 r1 a 1 (r1 b1 1)) a 2 ((up2 r1 a 1 (r1 b1 1)) b1 2)) a 3 ((up2 (up2 r1 a 1 (r1 b1 1)) a 2 ((up2 r1 a 1 (r1 b1 1)) b1 2)) b1 3)) a 4 ((up2 (up2 (up2 r1 a 1 (r1 b1 1)) a 2 ((up2 r1 a 1 (r1 b1 1)) b1 2)) a 3 ((up2 (up2 r1 a 1 (r1 b1 1)) a 2 ((up2 r1 a 1 (r1 b1 1)) b1 2)) b1 3)) b1 4)) a 5 ((up2 (up2 (up2 (up2 r1 a 1 (r1 b1 1)) a 2 ((up2 r1 a 1 (r1 b1 1)) b1 2)) a 3 ((up2 (up2 r1 a 1 (r1 b1 1)) a 2 ((up2 r1 a 1 (r1 b1 1)) b1 2)) b1 3)) a 4 ((up2 (up2 (up2 r1 a 1 (r1 b1 1)) a 2 ((up2 r1 a 1 (r1 b1 1)) b1 2)) a 3 ((up2 (up2 r1 a 1 (r1 b1 1)) a 2 ((up2 r1 a 1 (r1 b1 1)) b1 2)) b1 3)) b1 4)) b1 5)) a 6 ((up2 (up2 (up2 (up2 (up2 r1 a 1 (r1 b1 1)) a 2 ((up2 r1 a 1 (r1 b1 1)) b1 2)) a 3 ((up2 (up2 r1 a 1 (r1 b1 1)) a 2 ((up2 r1 a 1 (r1 b1 1)) b1 2)) b1 3)) a 4 ((up2 (up2 (up2 r1 a 1 (r1 b1 1)) a 2 ((up2 r1 a 1 (r1 b1 1)) b1 2)) a 3 ((up2 (up2 r1 a 1 (r1 b1 1)) a 2 ((up2 r1 a 1 (r1 b1 1)) b1 2)) b1 3)) b1 4)) a 5 ((up2 (up2 (up2 (up2 r1 a 1 (r1 b1 1)) a 2 ((up2 r1 a 1 (r1 b1 1)) b1 2)) a 3 ((up2 (up2 r1 a 1 (r1 b1 1)) a 2 ((up2 r1 a 1 (r1 b1 1)) b1 2)) b1 3)) a 4 ((up2 (up2 (up2 r1 a 1 (r1 b1 1)) a 2 ((up2 r1 a 1 (r1 b1 1)) b1 2)) a 3 ((up2 (up2 r1 a 1 (r1 b1 1)) a 2 ((up2 r1 a 1 (r1 b1 1)) b1 2)) b1 3)) b1 4)) b1 5)) b1 6)) a 7 ((up2 (up2 (up2 (up2 (up2 (up2 r1 a 1 (r1 b1 1)) a 2 ((up2 r1 a 1 (r1 b1 1)) b1 2)) a 3 ((up2 (up2 r1 a 1 (r1 b1 1)) a 2 ((up2 r1 a 1 (r1 b1 1)) b1 2)) b1 3)) a 4 ((up2 (up2 (up2 r1 a 1 (r1 b1 1)) a 2 ((up2 r1 a 1 (r1 b1 1)) b1 2)) a 3 ((up2 (up2 r1 a 1 (r1 b1 1)) a 2 ((up2 r1 a 1 (r1 b1 1)) b1 2)) b1 3)) b1 4)) a 5 ((up2 (up2 (up2 (up2 r1 a 1 (r1 b1 1)) a 2 ((up2 r1 a 1 (r1 b1 1)) b1 2)) a 3 ((up2 (up2 r1 a 1 (r1 b1 1)) a 2 ((up2 r1 a 1 (r1 b1 1)) b1 2)) b1 3)) a 4 ((up2 (up2 (up2 r1 a 1 (r1 b1 1)) a 2 ((up2 r1 a 1 (r1 b1 1)) b1 2)) a 3 ((up2 (up2 r1 a 1 (r1 b1 1)) a 2 ((up2 r1 a 1 (r1 b1 1)) b1 2)) b1 3)) b1 4)) b1 5)) a 6 ((up2 (up2 (up2 (up2 (up2 r1 a 1 (r1 b1 1)) a 2 ((up2 r1 a 1 (r1 b1 1)) b1 2)) a 3 ((up2 (up2 r1 a 1 (r1 b1 1)) a 2 ((up2 r1 a 1 (r1 b1 1)) b1 2)) b1 3)) a 4 ((up2 (up2 (up2 r1 a 1 (r1 b1 1)) a 2 ((up2 r1 a 1 (r1 b1 1)) b1 2)) a 3 ((up2 (up2 r1 a 1 (r1 b1 1)) a 2 ((up2 r1 a 1 (r1 b1 1)) b1 2)) b1 3)) b1 4)) a 5 ((up2 (up2 (up2 (up2 r1 a 1 (r1 b1 1)) a 2 ((up2 r1 a 1 (r1 b1 1)) b1 2)) a 3 ((up2 (up2 r1 a 1 (r1 b1 1)) a 2 ((up2 r1 a 1 (r1 b1 1)) b1 2)) b1 3)) a 4 ((up2 (up2 (up2 r1 a 1 (r1 b1 1)) a 2 ((up2 r1 a 1 (r1 b1 1)) b1 2)) a 3 ((up2 (up2 r1 a 1 (r1 b1 1)) a 2 ((up2 r1 a 1 (r1 b1 1)) b1 2)) b1 3)) b1 4)) b1 5)) b1 6)) b1 7)) a 8 ((up2 (up2 (up2 (up2 (up2 (up2 (up2 r1 a 1 (r1 b1 1)) a 2 ((up2 r1 a 1 (r1 b1 1)) b1 2)) a 3 ((up2 (up2 r1 a 1 (r1 b1 1)) a 2 ((up2 r1 a 1 (r1 b1 1)) b1 2)) b1 3)) a 4 ((up2 (up2 (up2 r1 a 1 (r1 b1 1)) a 2 ((up2 r1 a 1 (r1 b1 1)) b1 2)) a 3 ((up2 (up2 r1 a 1 (r1 b1 1)) a 2 ((up2 r1 a 1 (r1 b1 1)) b1 2)) b1 3)) b1 4)) a 5 ((up2 (up2 (up2 (up2 r1 a 1 (r1 b1 1)) a 2 ((up2 r1 a 1 (r1 b1 1)) b1 2)) a 3 ((up2 (up2 r1 a 1 (r1 b1 1)) a 2 ((up2 r1 a 1 (r1 b1 1)) b1 2)) b1 3)) a 4 ((up2 (up2 (up2 r1 a 1 (r1 b1 1)) a 2 ((up2 r1 a 1 (r1 b1 1)) b1 2)) a 3 ((up2 (up2 r1 a 1 (r1 b1 1)) a 2 ((up2 r1 a 1 (r1 b1 1)) b1 2)) b1 3)) b1 4)) b1 5)) a 6 ((up2 (up2 (up2 (up2 (up2 r1 a 1 (r1 b1 1)) a 2 ((up2 r1 a 1 (r1 b1 1)) b1 2)) a 3 ((up2 (up2 r1 a 1 (r1 b1 1)) a 2 ((up2 r1 a 1 (r1 b1 1)) b1 2)) b1 3)) a 4 ((up2 (up2 (up2 r1 a 1 (r1 b1 1)) a 2 ((up2 r1 a 1 (r1 b1 1)) b1 2)) a 3 ((up2 (up2 r1 a 1 (r1 b1 1)) a 2 ((up2 r1 a 1 (r1 b1 1)) b1 2)) b1 3)) b1 4)) a 5 ((up2 (up2 (up2 (up2 r1 a 1 (r1 b1 1)) a 2 ((up2 r1 a 1 (r1 b1 1)) b1 2)) a 3 ((up2 (up2 r1 a 1 (r1 b1 1)) a 2 ((up2 r1 a 1 (r1 b1 1)) b1 2)) b1 3)) a 4 ((up2 (up2 (up2 r1 a 1 (r1 b1 1)) a 2 ((up2 r1 a 1 (r1 b1 1)) b1 2)) a 3 ((up2 (up2 r1 a 1 (r1 b1 1)) a 2 ((up2 r1 a 1 (r1 b1 1)) b1 2)) b1 3)) b1 4)) b1 5)) b1 6)) a 7 ((up2 (up2 (up2 (up2 (up2 (up2 r1 a 1 (r1 b1 1)) a 2 ((up2 r1 a 1 (r1 b1 1)) b1 2)) a 3 ((up2 (up2 r1 a 1 (r1 b1 1)) a 2 ((up2 r1 a 1 (r1 b1 1)) b1 2)) b1 3)) a 4 ((up2 (up2 (up2 r1 a 1 (r1 b1 1)) a 2 ((up2 r1 a 1 (r1 b1 1)) b1 2)) a 3 ((up2 (up2 r1 a 1 (r1 b1 1)) a 2 ((up2 r1 a 1 (r1 b1 1)) b1 2)) b1 3)) b1 4)) a 5 ((up2 (up2 (up2 (up2 r1 a 1 (r1 b1 1)) a 2 ((up2 r1 a 1 (r1 b1 1)) b1 2)) a 3 ((up2 (up2 r1 a 1 (r1 b1 1)) a 2 ((up2 r1 a 1 (r1 b1 1)) b1 2)) b1 3)) a 4 ((up2 (up2 (up2 r1 a 1 (r1 b1 1)) a 2 ((up2 r1 a 1 (r1 b1 1)) b1 2)) a 3 ((up2 (up2 r1 a 1 (r1 b1 1)) a 2 ((up2 r1 a 1 (r1 b1 1)) b1 2)) b1 3)) b1 4)) b1 5)) a 6 ((up2 (up2 (up2 (up2 (up2 r1 a 1 (r1 b1 1)) a 2 ((up2 r1 a 1 (r1 b1 1)) b1 2)) a 3 ((up2 (up2 r1 a 1 (r1 b1 1)) a 2 ((up2 r1 a 1 (r1 b1 1)) b1 2)) b1 3)) a 4 ((up2 (up2 (up2 r1 a 1 (r1 b1 1)) a 2 ((up2 r1 a 1 (r1 b1 1)) b1 2)) a 3 ((up2 (up2 r1 a 1 (r1 b1 1)) a 2 ((up2 r1 a 1 (r1 b1 1)) b1 2)) b1 3)) b1 4)) a 5 ((up2 (up2 (up2 (up2 r1 a 1 (r1 b1 1)) a 2 ((up2 r1 a 1 (r1 b1 1)) b1 2)) a 3 ((up2 (up2 r1 a 1 (r1 b1 1)) a 2 ((up2 r1 a 1 (r1 b1 1)) b1 2)) b1 3)) a 4 ((up2 (up2 (up2 r1 a 1 (r1 b1 1)) a 2 ((up2 r1 a 1 (r1 b1 1)) b1 2)) a 3 ((up2 (up2 r1 a 1 (r1 b1 1)) a 2 ((up2 r1 a 1 (r1 b1 1)) b1 2)) b1 3)) b1 4)) b1 5)) b1 6)) b1 7)) b1 8)) a 9 ((up2 (up2 (up2 (up2 (up2 (up2 (up2 (up2 r1 a 1 (r1 b1 1)) a 2 ((up2 r1 a 1 (r1 b1 1)) b1 2)) a 3 ((up2 (up2 r1 a 1 (r1 b1 1)) a 2 ((up2 r1 a 1 (r1 b1 1)) b1 2)) b1 3)) a 4 ((up2 (up2 (up2 r1 a 1 (r1 b1 1)) a 2 ((up2 r1 a 1 (r1 b1 1)) b1 2)) a 3 ((up2 (up2 r1 a 1 (r1 b1 1)) a 2 ((up2 r1 a 1 (r1 b1 1)) b1 2)) b1 3)) b1 4)) a 5 ((up2 (up2 (up2 (up2 r1 a 1 (r1 b1 1)) a 2 ((up2 r1 a 1 (r1 b1 1)) b1 2)) a 3 ((up2 (up2 r1 a 1 (r1 b1 1)) a 2 ((up2 r1 a 1 (r1 b1 1)) b1 2)) b1 3)) a 4 ((up2 (up2 (up2 r1 a 1 (r1 b1 1)) a 2 ((up2 r1 a 1 (r1 b1 1)) b1 2)) a 3 ((up2 (up2 r1 a 1 (r1 b1 1)) a 2 ((up2 r1 a 1 (r1 b1 1)) b1 2)) b1 3)) b1 4)) b1 5)) a 6 ((up2 (up2 (up2 (up2 (up2 r1 a 1 (r1 b1 1)) a 2 ((up2 r1 a 1 (r1 b1 1)) b1 2)) a 3 ((up2 (up2 r1 a 1 (r1 b1 1)) a 2 ((up2 r1 a 1 (r1 b1 1)) b1 2)) b1 3)) a 4 ((up2 (up2 (up2 r1 a 1 (r1 b1 1)) a 2 ((up2 r1 a 1 (r1 b1 1)) b1 2)) a 3 ((up2 (up2 r1 a 1 (r1 b1 1)) a 2 ((up2 r1 a 1 (r1 b1 1)) b1 2)) b1 3)) b1 4)) a 5 ((up2 (up2 (up2 (up2 r1 a 1 (r1 b1 1)) a 2 ((up2 r1 a 1 (r1 b1 1)) b1 2)) a 3 ((up2 (up2 r1 a 1 (r1 b1 1)) a 2 ((up2 r1 a 1 (r1 b1 1)) b1 2)) b1 3)) a 4 ((up2 (up2 (up2 r1 a 1 (r1 b1 1)) a 2 ((up2 r1 a 1 (r1 b1 1)) b1 2)) a 3 ((up2 (up2 r1 a 1 (r1 b1 1)) a 2 ((up2 r1 a 1 (r1 b1 1)) b1 2)) b1 3)) b1 4)) b1 5)) b1 6)) a 7 ((up2 (up2 (up2 (up2 (up2 (up2 r1 a 1 (r1 b1 1)) a 2 ((up2 r1 a 1 (r1 b1 1)) b1 2)) a 3 ((up2 (up2 r1 a 1 (r1 b1 1)) a 2 ((up2 r1 a 1 (r1 b1 1)) b1 2)) b1 3)) a 4 ((up2 (up2 (up2 r1 a 1 (r1 b1 1)) a 2 ((up2 r1 a 1 (r1 b1 1)) b1 2)) a 3 ((up2 (up2 r1 a 1 (r1 b1 1)) a 2 ((up2 r1 a 1 (r1 b1 1)) b1 2)) b1 3)) b1 4)) a 5 ((up2 (up2 (up2 (up2 r1 a 1 (r1 b1 1)) a 2 ((up2 r1 a 1 (r1 b1 1)) b1 2)) a 3 ((up2 (up2 r1 a 1 (r1 b1 1)) a 2 ((up2 r1 a 1 (r1 b1 1)) b1 2)) b1 3)) a 4 ((up2 (up2 (up2 r1 a 1 (r1 b1 1)) a 2 ((up2 r1 a 1 (r1 b1 1)) b1 2)) a 3 ((up2 (up2 r1 a 1 (r1 b1 1)) a 2 ((up2 r1 a 1 (r1 b1 1)) b1 2)) b1 3)) b1 4)) b1 5)) a 6 ((up2 (up2 (up2 (up2 (up2 r1 a 1 (r1 b1 1)) a 2 ((up2 r1 a 1 (r1 b1 1)) b1 2)) a 3 ((up2 (up2 r1 a 1 (r1 b1 1)) a 2 ((up2 r1 a 1 (r1 b1 1)) b1 2)) b1 3)) a 4 ((up2 (up2 (up2 r1 a 1 (r1 b1 1)) a 2 ((up2 r1 a 1 (r1 b1 1)) b1 2)) a 3 ((up2 (up2 r1 a 1 (r1 b1 1)) a 2 ((up2 r1 a 1 (r1 b1 1)) b1 2)) b1 3)) b1 4)) a 5 ((up2 (up2 (up2 (up2 r1 a 1 (r1 b1 1)) a 2 ((up2 r1 a 1 (r1 b1 1)) b1 2)) a 3 ((up2 (up2 r1 a 1 (r1 b1 1)) a 2 ((up2 r1 a 1 (r1 b1 1)) b1 2)) b1 3)) a 4 ((up2 (up2 (up2 r1 a 1 (r1 b1 1)) a 2 ((up2 r1 a 1 (r1 b1 1)) b1 2)) a 3 ((up2 (up2 r1 a 1 (r1 b1 1)) a 2 ((up2 r1 a 1 (r1 b1 1)) b1 2)) b1 3)) b1 4)) b1 5)) b1 6)) b1 7)) a 8 ((up2 (up2 (up2 (up2 (up2 (up2 (up2 r1 a 1 (r1 b1 1)) a 2 ((up2 r1 a 1 (r1 b1 1)) b1 2)) a 3 ((up2 (up2 r1 a 1 (r1 b1 1)) a 2 ((up2 r1 a 1 (r1 b1 1)) b1 2)) b1 3)) a 4 ((up2 (up2 (up2 r1 a 1 (r1 b1 1)) a 2 ((up2 r1 a 1 (r1 b1 1)) b1 2)) a 3 ((up2 (up2 r1 a 1 (r1 b1 1)) a 2 ((up2 r1 a 1 (r1 b1 1)) b1 2)) b1 3)) b1 4)) a 5 ((up2 (up2 (up2 (up2 r1 a 1 (r1 b1 1)) a 2 ((up2 r1 a 1 (r1 b1 1)) b1 2)) a 3 ((up2 (up2 r1 a 1 (r1 b1 1)) a 2 ((up2 r1 a 1 (r1 b1 1)) b1 2)) b1 3)) a 4 ((up2 (up2 (up2 r1 a 1 (r1 b1 1)) a 2 ((up2 r1 a 1 (r1 b1 1)) b1 2)) a 3 ((up2 (up2 r1 a 1 (r1 b1 1)) a 2 ((up2 r1 a 1 (r1 b1 1)) b1 2)) b1 3)) b1 4)) b1 5)) a 6 ((up2 (up2 (up2 (up2 (up2 r1 a 1 (r1 b1 1)) a 2 ((up2 r1 a 1 (r1 b1 1)) b1 2)) a 3 ((up2 (up2 r1 a 1 (r1 b1 1)) a 2 ((up2 r1 a 1 (r1 b1 1)) b1 2)) b1 3)) a 4 ((up2 (up2 (up2 r1 a 1 (r1 b1 1)) a 2 ((up2 r1 a 1 (r1 b1 1)) b1 2)) a 3 ((up2 (up2 r1 a 1 (r1 b1 1)) a 2 ((up2 r1 a 1 (r1 b1 1)) b1 2)) b1 3)) b1 4)) a 5 ((up2 (up2 (up2 (up2 r1 a 1 (r1 b1 1)) a 2 ((up2 r1 a 1 (r1 b1 1)) b1 2)) a 3 ((up2 (up2 r1 a 1 (r1 b1 1)) a 2 ((up2 r1 a 1 (r1 b1 1)) b1 2)) b1 3)) a 4 ((up2 (up2 (up2 r1 a 1 (r1 b1 1)) a 2 ((up2 r1 a 1 (r1 b1 1)) b1 2)) a 3 ((up2 (up2 r1 a 1 (r1 b1 1)) a 2 ((up2 r1 a 1 (r1 b1 1)) b1 2)) b1 3)) b1 4)) b1 5)) b1 6)) a 7 ((up2 (up2 (up2 (up2 (up2 (up2 r1 a 1 (r1 b1 1)) a 2 ((up2 r1 a 1 (r1 b1 1)) b1 2)) a 3 ((up2 (up2 r1 a 1 (r1 b1 1)) a 2 ((up2 r1 a 1 (r1 b1 1)) b1 2)) b1 3)) a 4 ((up2 (up2 (up2 r1 a 1 (r1 b1 1)) a 2 ((up2 r1 a 1 (r1 b1 1)) b1 2)) a 3 ((up2 (up2 r1 a 1 (r1 b1 1)) a 2 ((up2 r1 a 1 (r1 b1 1)) b1 2)) b1 3)) b1 4)) a 5 ((up2 (up2 (up2 (up2 r1 a 1 (r1 b1 1)) a 2 ((up2 r1 a 1 (r1 b1 1)) b1 2)) a 3 ((up2 (up2 r1 a 1 (r1 b1 1)) a 2 ((up2 r1 a 1 (r1 b1 1)) b1 2)) b1 3)) a 4 ((up2 (up2 (up2 r1 a 1 (r1 b1 1)) a 2 ((up2 r1 a 1 (r1 b1 1)) b1 2)) a 3 ((up2 (up2 r1 a 1 (r1 b1 1)) a 2 ((up2 r1 a 1 (r1 b1 1)) b1 2)) b1 3)) b1 4)) b1 5)) a 6 ((up2 (up2 (up2 (up2 (up2 r1 a 1 (r1 b1 1)) a 2 ((up2 r1 a 1 (r1 b1 1)) b1 2)) a 3 ((up2 (up2 r1 a 1 (r1 b1 1)) a 2 ((up2 r1 a 1 (r1 b1 1)) b1 2)) b1 3)) a 4 ((up2 (up2 (up2 r1 a 1 (r1 b1 1)) a 2 ((up2 r1 a 1 (r1 b1 1)) b1 2)) a 3 ((up2 (up2 r1 a 1 (r1 b1 1)) a 2 ((up2 r1 a 1 (r1 b1 1)) b1 2)) b1 3)) b1 4)) a 5 ((up2 (up2 (up2 (up2 r1 a 1 (r1 b1 1)) a 2 ((up2 r1 a 1 (r1 b1 1)) b1 2)) a 3 ((up2 (up2 r1 a 1 (r1 b1 1)) a 2 ((up2 r1 a 1 (r1 b1 1)) b1 2)) b1 3)) a 4 ((up2 (up2 (up2 r1 a 1 (r1 b1 1)) a 2 ((up2 r1 a 1 (r1 b1 1)) b1 2)) a 3 ((up2 (up2 r1 a 1 (r1 b1 1)) a 2 ((up2 r1 a 1 (r1 b1 1)) b1 2)) b1 3)) b1 4)) b1 5)) b1 6)) b1 7)) b1 8)) b1 9)) a 10 ((up2 (up2 (up2 (up2 (up2 (up2 (up2 (up2 (up2 r1 a 1 (r1 b1 1)) a 2 ((up2 r1 a 1 (r1 b1 1)) b1 2)) a 3 ((up2 (up2 r1 a 1 (r1 b1 1)) a 2 ((up2 r1 a 1 (r1 b1 1)) b1 2)) b1 3)) a 4 ((up2 (up2 (up2 r1 a 1 (r1 b1 1)) a 2 ((up2 r1 a 1 (r1 b1 1)) b1 2)) a 3 ((up2 (up2 r1 a 1 (r1 b1 1)) a 2 ((up2 r1 a 1 (r1 b1 1)) b1 2)) b1 3)) b1 4)) a 5 ((up2 (up2 (up2 (up2 r1 a 1 (r1 b1 1)) a 2 ((up2 r1 a 1 (r1 b1 1)) b1 2)) a 3 ((up2 (up2 r1 a 1 (r1 b1 1)) a 2 ((up2 r1 a 1 (r1 b1 1)) b1 2)) b1 3)) a 4 ((up2 (up2 (up2 r1 a 1 (r1 b1 1)) a 2 ((up2 r1 a 1 (r1 b1 1)) b1 2)) a 3 ((up2 (up2 r1 a 1 (r1 b1 1)) a 2 ((up2 r1 a 1 (r1 b1 1)) b1 2)) b1 3)) b1 4)) b1 5)) a 6 ((up2 (up2 (up2 (up2 (up2 r1 a 1 (r1 b1 1)) a 2 ((up2 r1 a 1 (r1 b1 1)) b1 2)) a 3 ((up2 (up2 r1 a 1 (r1 b1 1)) a 2 ((up2 r1 a 1 (r1 b1 1)) b1 2)) b1 3)) a 4 ((up2 (up2 (up2 r1 a 1 (r1 b1 1)) a 2 ((up2 r1 a 1 (r1 b1 1)) b1 2)) a 3 ((up2 (up2 r1 a 1 (r1 b1 1)) a 2 ((up2 r1 a 1 (r1 b1 1)) b1 2)) b1 3)) b1 4)) a 5 ((up2 (up2 (up2 (up2 r1 a 1 (r1 b1 1)) a 2 ((up2 r1 a 1 (r1 b1 1)) b1 2)) a 3 ((up2 (up2 r1 a 1 (r1 b1 1)) a 2 ((up2 r1 a 1 (r1 b1 1)) b1 2)) b1 3)) a 4 ((up2 (up2 (up2 r1 a 1 (r1 b1 1)) a 2 ((up2 r1 a 1 (r1 b1 1)) b1 2)) a 3 ((up2 (up2 r1 a 1 (r1 b1 1)) a 2 ((up2 r1 a 1 (r1 b1 1)) b1 2)) b1 3)) b1 4)) b1 5)) b1 6)) a 7 ((up2 (up2 (up2 (up2 (up2 (up2 r1 a 1 (r1 b1 1)) a 2 ((up2 r1 a 1 (r1 b1 1)) b1 2)) a 3 ((up2 (up2 r1 a 1 (r1 b1 1)) a 2 ((up2 r1 a 1 (r1 b1 1)) b1 2)) b1 3)) a 4 ((up2 (up2 (up2 r1 a 1 (r1 b1 1)) a 2 ((up2 r1 a 1 (r1 b1 1)) b1 2)) a 3 ((up2 (up2 r1 a 1 (r1 b1 1)) a 2 ((up2 r1 a 1 (r1 b1 1)) b1 2)) b1 3)) b1 4)) a 5 ((up2 (up2 (up2 (up2 r1 a 1 (r1 b1 1)) a 2 ((up2 r1 a 1 (r1 b1 1)) b1 2)) a 3 ((up2 (up2 r1 a 1 (r1 b1 1)) a 2 ((up2 r1 a 1 (r1 b1 1)) b1 2)) b1 3)) a 4 ((up2 (up2 (up2 r1 a 1 (r1 b1 1)) a 2 ((up2 r1 a 1 (r1 b1 1)) b1 2)) a 3 ((up2 (up2 r1 a 1 (r1 b1 1)) a 2 ((up2 r1 a 1 (r1 b1 1)) b1 2)) b1 3)) b1 4)) b1 5)) a 6 ((up2 (up2 (up2 (up2 (up2 r1 a 1 (r1 b1 1)) a 2 ((up2 r1 a 1 (r1 b1 1)) b1 2)) a 3 ((up2 (up2 r1 a 1 (r1 b1 1)) a 2 ((up2 r1 a 1 (r1 b1 1)) b1 2)) b1 3)) a 4 ((up2 (up2 (up2 r1 a 1 (r1 b1 1)) a 2 ((up2 r1 a 1 (r1 b1 1)) b1 2)) a 3 ((up2 (up2 r1 a 1 (r1 b1 1)) a 2 ((up2 r1 a 1 (r1 b1 1)) b1 2)) b1 3)) b1 4)) a 5 ((up2 (up2 (up2 (up2 r1 a 1 (r1 b1 1)) a 2 ((up2 r1 a 1 (r1 b1 1)) b1 2)) a 3 ((up2 (up2 r1 a 1 (r1 b1 1)) a 2 ((up2 r1 a 1 (r1 b1 1)) b1 2)) b1 3)) a 4 ((up2 (up2 (up2 r1 a 1 (r1 b1 1)) a 2 ((up2 r1 a 1 (r1 b1 1)) b1 2)) a 3 ((up2 (up2 r1 a 1 (r1 b1 1)) a 2 ((up2 r1 a 1 (r1 b1 1)) b1 2)) b1 3)) b1 4)) b1 5)) b1 6)) b1 7)) a 8 ((up2 (up2 (up2 (up2 (up2 (up2 (up2 r1 a 1 (r1 b1 1)) a 2 ((up2 r1 a 1 (r1 b1 1)) b1 2)) a 3 ((up2 (up2 r1 a 1 (r1 b1 1)) a 2 ((up2 r1 a 1 (r1 b1 1)) b1 2)) b1 3)) a 4 ((up2 (up2 (up2 r1 a 1 (r1 b1 1)) a 2 ((up2 r1 a 1 (r1 b1 1)) b1 2)) a 3 ((up2 (up2 r1 a 1 (r1 b1 1)) a 2 ((up2 r1 a 1 (r1 b1 1)) b1 2)) b1 3)) b1 4)) a 5 ((up2 (up2 (up2 (up2 r1 a 1 (r1 b1 1)) a 2 ((up2 r1 a 1 (r1 b1 1)) b1 2)) a 3 ((up2 (up2 r1 a 1 (r1 b1 1)) a 2 ((up2 r1 a 1 (r1 b1 1)) b1 2)) b1 3)) a 4 ((up2 (up2 (up2 r1 a 1 (r1 b1 1)) a 2 ((up2 r1 a 1 (r1 b1 1)) b1 2)) a 3 ((up2 (up2 r1 a 1 (r1 b1 1)) a 2 ((up2 r1 a 1 (r1 b1 1)) b1 2)) b1 3)) b1 4)) b1 5)) a 6 ((up2 (up2 (up2 (up2 (up2 r1 a 1 (r1 b1 1)) a 2 ((up2 r1 a 1 (r1 b1 1)) b1 2)) a 3 ((up2 (up2 r1 a 1 (r1 b1 1)) a 2 ((up2 r1 a 1 (r1 b1 1)) b1 2)) b1 3)) a 4 ((up2 (up2 (up2 r1 a 1 (r1 b1 1)) a 2 ((up2 r1 a 1 (r1 b1 1)) b1 2)) a 3 ((up2 (up2 r1 a 1 (r1 b1 1)) a 2 ((up2 r1 a 1 (r1 b1 1)) b1 2)) b1 3)) b1 4)) a 5 ((up2 (up2 (up2 (up2 r1 a 1 (r1 b1 1)) a 2 ((up2 r1 a 1 (r1 b1 1)) b1 2)) a 3 ((up2 (up2 r1 a 1 (r1 b1 1)) a 2 ((up2 r1 a 1 (r1 b1 1)) b1 2)) b1 3)) a 4 ((up2 (up2 (up2 r1 a 1 (r1 b1 1)) a 2 ((up2 r1 a 1 (r1 b1 1)) b1 2)) a 3 ((up2 (up2 r1 a 1 (r1 b1 1)) a 2 ((up2 r1 a 1 (r1 b1 1)) b1 2)) b1 3)) b1 4)) b1 5)) b1 6)) a 7 ((up2 (up2 (up2 (up2 (up2 (up2 r1 a 1 (r1 b1 1)) a 2 ((up2 r1 a 1 (r1 b1 1)) b1 2)) a 3 ((up2 (up2 r1 a 1 (r1 b1 1)) a 2 ((up2 r1 a 1 (r1 b1 1)) b1 2)) b1 3)) a 4 ((up2 (up2 (up2 r1 a 1 (r1 b1 1)) a 2 ((up2 r1 a 1 (r1 b1 1)) b1 2)) a 3 ((up2 (up2 r1 a 1 (r1 b1 1)) a 2 ((up2 r1 a 1 (r1 b1 1)) b1 2)) b1 3)) b1 4)) a 5 ((up2 (up2 (up2 (up2 r1 a 1 (r1 b1 1)) a 2 ((up2 r1 a 1 (r1 b1 1)) b1 2)) a 3 ((up2 (up2 r1 a 1 (r1 b1 1)) a 2 ((up2 r1 a 1 (r1 b1 1)) b1 2)) b1 3)) a 4 ((up2 (up2 (up2 r1 a 1 (r1 b1 1)) a 2 ((up2 r1 a 1 (r1 b1 1)) b1 2)) a 3 ((up2 (up2 r1 a 1 (r1 b1 1)) a 2 ((up2 r1 a 1 (r1 b1 1)) b1 2)) b1 3)) b1 4)) b1 5)) a 6 ((up2 (up2 (up2 (up2 (up2 r1 a 1 (r1 b1 1)) a 2 ((up2 r1 a 1 (r1 b1 1)) b1 2)) a 3 ((up2 (up2 r1 a 1 (r1 b1 1)) a 2 ((up2 r1 a 1 (r1 b1 1)) b1 2)) b1 3)) a 4 ((up2 (up2 (up2 r1 a 1 (r1 b1 1)) a 2 ((up2 r1 a 1 (r1 b1 1)) b1 2)) a 3 ((up2 (up2 r1 a 1 (r1 b1 1)) a 2 ((up2 r1 a 1 (r1 b1 1)) b1 2)) b1 3)) b1 4)) a 5 ((up2 (up2 (up2 (up2 r1 a 1 (r1 b1 1)) a 2 ((up2 r1 a 1 (r1 b1 1)) b1 2)) a 3 ((up2 (up2 r1 a 1 (r1 b1 1)) a 2 ((up2 r1 a 1 (r1 b1 1)) b1 2)) b1 3)) a 4 ((up2 (up2 (up2 r1 a 1 (r1 b1 1)) a 2 ((up2 r1 a 1 (r1 b1 1)) b1 2)) a 3 ((up2 (up2 r1 a 1 (r1 b1 1)) a 2 ((up2 r1 a 1 (r1 b1 1)) b1 2)) b1 3)) b1 4)) b1 5)) b1 6)) b1 7)) b1 8)) a 9 ((up2 (up2 (up2 (up2 (up2 (up2 (up2 (up2 r1 a 1 (r1 b1 1)) a 2 ((up2 r1 a 1 (r1 b1 1)) b1 2)) a 3 ((up2 (up2 r1 a 1 (r1 b1 1)) a 2 ((up2 r1 a 1 (r1 b1 1)) b1 2)) b1 3)) a 4 ((up2 (up2 (up2 r1 a 1 (r1 b1 1)) a 2 ((up2 r1 a 1 (r1 b1 1)) b1 2)) a 3 ((up2 (up2 r1 a 1 (r1 b1 1)) a 2 ((up2 r1 a 1 (r1 b1 1)) b1 2)) b1 3)) b1 4)) a 5 ((up2 (up2 (up2 (up2 r1 a 1 (r1 b1 1)) a 2 ((up2 r1 a 1 (r1 b1 1)) b1 2)) a 3 ((up2 (up2 r1 a 1 (r1 b1 1)) a 2 ((up2 r1 a 1 (r1 b1 1)) b1 2)) b1 3)) a 4 ((up2 (up2 (up2 r1 a 1 (r1 b1 1)) a 2 ((up2 r1 a 1 (r1 b1 1)) b1 2)) a 3 ((up2 (up2 r1 a 1 (r1 b1 1)) a 2 ((up2 r1 a 1 (r1 b1 1)) b1 2)) b1 3)) b1 4)) b1 5)) a 6 ((up2 (up2 (up2 (up2 (up2 r1 a 1 (r1 b1 1)) a 2 ((up2 r1 a 1 (r1 b1 1)) b1 2)) a 3 ((up2 (up2 r1 a 1 (r1 b1 1)) a 2 ((up2 r1 a 1 (r1 b1 1)) b1 2)) b1 3)) a 4 ((up2 (up2 (up2 r1 a 1 (r1 b1 1)) a 2 ((up2 r1 a 1 (r1 b1 1)) b1 2)) a 3 ((up2 (up2 r1 a 1 (r1 b1 1)) a 2 ((up2 r1 a 1 (r1 b1 1)) b1 2)) b1 3)) b1 4)) a 5 ((up2 (up2 (up2 (up2 r1 a 1 (r1 b1 1)) a 2 ((up2 r1 a 1 (r1 b1 1)) b1 2)) a 3 ((up2 (up2 r1 a 1 (r1 b1 1)) a 2 ((up2 r1 a 1 (r1 b1 1)) b1 2)) b1 3)) a 4 ((up2 (up2 (up2 r1 a 1 (r1 b1 1)) a 2 ((up2 r1 a 1 (r1 b1 1)) b1 2)) a 3 ((up2 (up2 r1 a 1 (r1 b1 1)) a 2 ((up2 r1 a 1 (r1 b1 1)) b1 2)) b1 3)) b1 4)) b1 5)) b1 6)) a 7 ((up2 (up2 (up2 (up2 (up2 (up2 r1 a 1 (r1 b1 1)) a 2 ((up2 r1 a 1 (r1 b1 1)) b1 2)) a 3 ((up2 (up2 r1 a 1 (r1 b1 1)) a 2 ((up2 r1 a 1 (r1 b1 1)) b1 2)) b1 3)) a 4 ((up2 (up2 (up2 r1 a 1 (r1 b1 1)) a 2 ((up2 r1 a 1 (r1 b1 1)) b1 2)) a 3 ((up2 (up2 r1 a 1 (r1 b1 1)) a 2 ((up2 r1 a 1 (r1 b1 1)) b1 2)) b1 3)) b1 4)) a 5 ((up2 (up2 (up2 (up2 r1 a 1 (r1 b1 1)) a 2 ((up2 r1 a 1 (r1 b1 1)) b1 2)) a 3 ((up2 (up2 r1 a 1 (r1 b1 1)) a 2 ((up2 r1 a 1 (r1 b1 1)) b1 2)) b1 3)) a 4 ((up2 (up2 (up2 r1 a 1 (r1 b1 1)) a 2 ((up2 r1 a 1 (r1 b1 1)) b1 2)) a 3 ((up2 (up2 r1 a 1 (r1 b1 1)) a 2 ((up2 r1 a 1 (r1 b1 1)) b1 2)) b1 3)) b1 4)) b1 5)) a 6 ((up2 (up2 (up2 (up2 (up2 r1 a 1 (r1 b1 1)) a 2 ((up2 r1 a 1 (r1 b1 1)) b1 2)) a 3 ((up2 (up2 r1 a 1 (r1 b1 1)) a 2 ((up2 r1 a 1 (r1 b1 1)) b1 2)) b1 3)) a 4 ((up2 (up2 (up2 r1 a 1 (r1 b1 1)) a 2 ((up2 r1 a 1 (r1 b1 1)) b1 2)) a 3 ((up2 (up2 r1 a 1 (r1 b1 1)) a 2 ((up2 r1 a 1 (r1 b1 1)) b1 2)) b1 3)) b1 4)) a 5 ((up2 (up2 (up2 (up2 r1 a 1 (r1 b1 1)) a 2 ((up2 r1 a 1 (r1 b1 1)) b1 2)) a 3 ((up2 (up2 r1 a 1 (r1 b1 1)) a 2 ((up2 r1 a 1 (r1 b1 1)) b1 2)) b1 3)) a 4 ((up2 (up2 (up2 r1 a 1 (r1 b1 1)) a 2 ((up2 r1 a 1 (r1 b1 1)) b1 2)) a 3 ((up2 (up2 r1 a 1 (r1 b1 1)) a 2 ((up2 r1 a 1 (r1 b1 1)) b1 2)) b1 3)) b1 4)) b1 5)) b1 6)) b1 7)) a 8 ((up2 (up2 (up2 (up2 (up2 (up2 (up2 r1 a 1 (r1 b1 1)) a 2 ((up2 r1 a 1 (r1 b1 1)) b1 2)) a 3 ((up2 (up2 r1 a 1 (r1 b1 1)) a 2 ((up2 r1 a 1 (r1 b1 1)) b1 2)) b1 3)) a 4 ((up2 (up2 (up2 r1 a 1 (r1 b1 1)) a 2 ((up2 r1 a 1 (r1 b1 1)) b1 2)) a 3 ((up2 (up2 r1 a 1 (r1 b1 1)) a 2 ((up2 r1 a 1 (r1 b1 1)) b1 2)) b1 3)) b1 4)) a 5 ((up2 (up2 (up2 (up2 r1 a 1 (r1 b1 1)) a 2 ((up2 r1 a 1 (r1 b1 1)) b1 2)) a 3 ((up2 (up2 r1 a 1 (r1 b1 1)) a 2 ((up2 r1 a 1 (r1 b1 1)) b1 2)) b1 3)) a 4 ((up2 (up2 (up2 r1 a 1 (r1 b1 1)) a 2 ((up2 r1 a 1 (r1 b1 1)) b1 2)) a 3 ((up2 (up2 r1 a 1 (r1 b1 1)) a 2 ((up2 r1 a 1 (r1 b1 1)) b1 2)) b1 3)) b1 4)) b1 5)) a 6 ((up2 (up2 (up2 (up2 (up2 r1 a 1 (r1 b1 1)) a 2 ((up2 r1 a 1 (r1 b1 1)) b1 2)) a 3 ((up2 (up2 r1 a 1 (r1 b1 1)) a 2 ((up2 r1 a 1 (r1 b1 1)) b1 2)) b1 3)) a 4 ((up2 (up2 (up2 r1 a 1 (r1 b1 1)) a 2 ((up2 r1 a 1 (r1 b1 1)) b1 2)) a 3 ((up2 (up2 r1 a 1 (r1 b1 1)) a 2 ((up2 r1 a 1 (r1 b1 1)) b1 2)) b1 3)) b1 4)) a 5 ((up2 (up2 (up2 (up2 r1 a 1 (r1 b1 1)) a 2 ((up2 r1 a 1 (r1 b1 1)) b1 2)) a 3 ((up2 (up2 r1 a 1 (r1 b1 1)) a 2 ((up2 r1 a 1 (r1 b1 1)) b1 2)) b1 3)) a 4 ((up2 (up2 (up2 r1 a 1 (r1 b1 1)) a 2 ((up2 r1 a 1 (r1 b1 1)) b1 2)) a 3 ((up2 (up2 r1 a 1 (r1 b1 1)) a 2 ((up2 r1 a 1 (r1 b1 1)) b1 2)) b1 3)) b1 4)) b1 5)) b1 6)) a 7 ((up2 (up2 (up2 (up2 (up2 (up2 r1 a 1 (r1 b1 1)) a 2 ((up2 r1 a 1 (r1 b1 1)) b1 2)) a 3 ((up2 (up2 r1 a 1 (r1 b1 1)) a 2 ((up2 r1 a 1 (r1 b1 1)) b1 2)) b1 3)) a 4 ((up2 (up2 (up2 r1 a 1 (r1 b1 1)) a 2 ((up2 r1 a 1 (r1 b1 1)) b1 2)) a 3 ((up2 (up2 r1 a 1 (r1 b1 1)) a 2 ((up2 r1 a 1 (r1 b1 1)) b1 2)) b1 3)) b1 4)) a 5 ((up2 (up2 (up2 (up2 r1 a 1 (r1 b1 1)) a 2 ((up2 r1 a 1 (r1 b1 1)) b1 2)) a 3 ((up2 (up2 r1 a 1 (r1 b1 1)) a 2 ((up2 r1 a 1 (r1 b1 1)) b1 2)) b1 3)) a 4 ((up2 (up2 (up2 r1 a 1 (r1 b1 1)) a 2 ((up2 r1 a 1 (r1 b1 1)) b1 2)) a 3 ((up2 (up2 r1 a 1 (r1 b1 1)) a 2 ((up2 r1 a 1 (r1 b1 1)) b1 2)) b1 3)) b1 4)) b1 5)) a 6 ((up2 (up2 (up2 (up2 (up2 r1 a 1 (r1 b1 1)) a 2 ((up2 r1 a 1 (r1 b1 1)) b1 2)) a 3 ((up2 (up2 r1 a 1 (r1 b1 1)) a 2 ((up2 r1 a 1 (r1 b1 1)) b1 2)) b1 3)) a 4 ((up2 (up2 (up2 r1 a 1 (r1 b1 1)) a 2 ((up2 r1 a 1 (r1 b1 1)) b1 2)) a 3 ((up2 (up2 r1 a 1 (r1 b1 1)) a 2 ((up2 r1 a 1 (r1 b1 1)) b1 2)) b1 3)) b1 4)) a 5 ((up2 (up2 (up2 (up2 r1 a 1 (r1 b1 1)) a 2 ((up2 r1 a 1 (r1 b1 1)) b1 2)) a 3 ((up2 (up2 r1 a 1 (r1 b1 1)) a 2 ((up2 r1 a 1 (r1 b1 1)) b1 2)) b1 3)) a 4 ((up2 (up2 (up2 r1 a 1 (r1 b1 1)) a 2 ((up2 r1 a 1 (r1 b1 1)) b1 2)) a 3 ((up2 (up2 r1 a 1 (r1 b1 1)) a 2 ((up2 r1 a 1 (r1 b1 1)) b1 2)) b1 3)) b1 4)) b1 5)) b1 6)) b1 7)) b1 8)) b1 9)) b1 10)) b1 11)) a 12 ((up2 (up2 (up2 (up2 (up2 (up2 (up2 (up2 (up2 (up2 (up2 r1 a 1 (r1 b1 1)) a 2 ((up2 r1 a 1 (r1 b1 1)) b1 2)) a 3 ((up2 (up2 r1 a 1 (r1 b1 1)) a 2 ((up2 r1 a 1 (r1 b1 1)) b1 2)) b1 3)) a 4 ((up2 (up2 (up2 r1 a 1 (r1 b1 1)) a 2 ((up2 r1 a 1 (r1 b1 1)) b1 2)) a 3 ((up2 (up2 r1 a 1 (r1 b1 1)) a 2 ((up2 r1 a 1 (r1 b1 1)) b1 2)) b1 3)) b1 4)) a 5 ((up2 (up2 (up2 (up2 r1 a 1 (r1 b1 1)) a 2 ((up2 r1 a 1 (r1 b1 1)) b1 2)) a 3 ((up2 (up2 r1 a 1 (r1 b1 1)) a 2 ((up2 r1 a 1 (r1 b1 1)) b1 2)) b1 3)) a 4 ((up2 (up2 (up2 r1 a 1 (r1 b1 1)) a 2 ((up2 r1 a 1 (r1 b1 1)) b1 2)) a 3 ((up2 (up2 r1 a 1 (r1 b1 1)) a 2 ((up2 r1 a 1 (r1 b1 1)) b1 2)) b1 3)) b1 4)) b1 5)) a 6 ((up2 (up2 (up2 (up2 (up2 r1 a 1 (r1 b1 1)) a 2 ((up2 r1 a 1 (r1 b1 1)) b1 2)) a 3 ((up2 (up2 r1 a 1 (r1 b1 1)) a 2 ((up2 r1 a 1 (r1 b1 1)) b1 2)) b1 3)) a 4 ((up2 (up2 (up2 r1 a 1 (r1 b1 1)) a 2 ((up2 r1 a 1 (r1 b1 1)) b1 2)) a 3 ((up2 (up2 r1 a 1 (r1 b1 1)) a 2 ((up2 r1 a 1 (r1 b1 1)) b1 2)) b1 3)) b1 4)) a 5 ((up2 (up2 (up2 (up2 r1 a 1 (r1 b1 1)) a 2 ((up2 r1 a 1 (r1 b1 1)) b1 2)) a 3 ((up2 (up2 r1 a 1 (r1 b1 1)) a 2 ((up2 r1 a 1 (r1 b1 1)) b1 2)) b1 3)) a 4 ((up2 (up2 (up2 r1 a 1 (r1 b1 1)) a 2 ((up2 r1 a 1 (r1 b1 1)) b1 2)) a 3 ((up2 (up2 r1 a 1 (r1 b1 1)) a 2 ((up2 r1 a 1 (r1 b1 1)) b1 2)) b1 3)) b1 4)) b1 5)) b1 6)) a 7 ((up2 (up2 (up2 (up2 (up2 (up2 r1 a 1 (r1 b1 1)) a 2 ((up2 r1 a 1 (r1 b1 1)) b1 2)) a 3 ((up2 (up2 r1 a 1 (r1 b1 1)) a 2 ((up2 r1 a 1 (r1 b1 1)) b1 2)) b1 3)) a 4 ((up2 (up2 (up2 r1 a 1 (r1 b1 1)) a 2 ((up2 r1 a 1 (r1 b1 1)) b1 2)) a 3 ((up2 (up2 r1 a 1 (r1 b1 1)) a 2 ((up2 r1 a 1 (r1 b1 1)) b1 2)) b1 3)) b1 4)) a 5 ((up2 (up2 (up2 (up2 r1 a 1 (r1 b1 1)) a 2 ((up2 r1 a 1 (r1 b1 1)) b1 2)) a 3 ((up2 (up2 r1 a 1 (r1 b1 1)) a 2 ((up2 r1 a 1 (r1 b1 1)) b1 2)) b1 3)) a 4 ((up2 (up2 (up2 r1 a 1 (r1 b1 1)) a 2 ((up2 r1 a 1 (r1 b1 1)) b1 2)) a 3 ((up2 (up2 r1 a 1 (r1 b1 1)) a 2 ((up2 r1 a 1 (r1 b1 1)) b1 2)) b1 3)) b1 4)) b1 5)) a 6 ((up2 (up2 (up2 (up2 (up2 r1 a 1 (r1 b1 1)) a 2 ((up2 r1 a 1 (r1 b1 1)) b1 2)) a 3 ((up2 (up2 r1 a 1 (r1 b1 1)) a 2 ((up2 r1 a 1 (r1 b1 1)) b1 2)) b1 3)) a 4 ((up2 (up2 (up2 r1 a 1 (r1 b1 1)) a 2 ((up2 r1 a 1 (r1 b1 1)) b1 2)) a 3 ((up2 (up2 r1 a 1 (r1 b1 1)) a 2 ((up2 r1 a 1 (r1 b1 1)) b1 2)) b1 3)) b1 4)) a 5 ((up2 (up2 (up2 (up2 r1 a 1 (r1 b1 1)) a 2 ((up2 r1 a 1 (r1 b1 1)) b1 2)) a 3 ((up2 (up2 r1 a 1 (r1 b1 1)) a 2 ((up2 r1 a 1 (r1 b1 1)) b1 2)) b1 3)) a 4 ((up2 (up2 (up2 r1 a 1 (r1 b1 1)) a 2 ((up2 r1 a 1 (r1 b1 1)) b1 2)) a 3 ((up2 (up2 r1 a 1 (r1 b1 1)) a 2 ((up2 r1 a 1 (r1 b1 1)) b1 2)) b1 3)) b1 4)) b1 5)) b1 6)) b1 7)) a 8 ((up2 (up2 (up2 (up2 (up2 (up2 (up2 r1 a 1 (r1 b1 1)) a 2 ((up2 r1 a 1 (r1 b1 1)) b1 2)) a 3 ((up2 (up2 r1 a 1 (r1 b1 1)) a 2 ((up2 r1 a 1 (r1 b1 1)) b1 2)) b1 3)) a 4 ((up2 (up2 (up2 r1 a 1 (r1 b1 1)) a 2 ((up2 r1 a 1 (r1 b1 1)) b1 2)) a 3 ((up2 (up2 r1 a 1 (r1 b1 1)) a 2 ((up2 r1 a 1 (r1 b1 1)) b1 2)) b1 3)) b1 4)) a 5 ((up2 (up2 (up2 (up2 r1 a 1 (r1 b1 1)) a 2 ((up2 r1 a 1 (r1 b1 1)) b1 2)) a 3 ((up2 (up2 r1 a 1 (r1 b1 1)) a 2 ((up2 r1 a 1 (r1 b1 1)) b1 2)) b1 3)) a 4 ((up2 (up2 (up2 r1 a 1 (r1 b1 1)) a 2 ((up2 r1 a 1 (r1 b1 1)) b1 2)) a 3 ((up2 (up2 r1 a 1 (r1 b1 1)) a 2 ((up2 r1 a 1 (r1 b1 1)) b1 2)) b1 3)) b1 4)) b1 5)) a 6 ((up2 (up2 (up2 (up2 (up2 r1 a 1 (r1 b1 1)) a 2 ((up2 r1 a 1 (r1 b1 1)) b1 2)) a 3 ((up2 (up2 r1 a 1 (r1 b1 1)) a 2 ((up2 r1 a 1 (r1 b1 1)) b1 2)) b1 3)) a 4 ((up2 (up2 (up2 r1 a 1 (r1 b1 1)) a 2 ((up2 r1 a 1 (r1 b1 1)) b1 2)) a 3 ((up2 (up2 r1 a 1 (r1 b1 1)) a 2 ((up2 r1 a 1 (r1 b1 1)) b1 2)) b1 3)) b1 4)) a 5 ((up2 (up2 (up2 (up2 r1 a 1 (r1 b1 1)) a 2 ((up2 r1 a 1 (r1 b1 1)) b1 2)) a 3 ((up2 (up2 r1 a 1 (r1 b1 1)) a 2 ((up2 r1 a 1 (r1 b1 1)) b1 2)) b1 3)) a 4 ((up2 (up2 (up2 r1 a 1 (r1 b1 1)) a 2 ((up2 r1 a 1 (r1 b1 1)) b1 2)) a 3 ((up2 (up2 r1 a 1 (r1 b1 1)) a 2 ((up2 r1 a 1 (r1 b1 1)) b1 2)) b1 3)) b1 4)) b1 5)) b1 6)) a 7 ((up2 (up2 (up2 (up2 (up2 (up2 r1 a 1 (r1 b1 1)) a 2 ((up2 r1 a 1 (r1 b1 1)) b1 2)) a 3 ((up2 (up2 r1 a 1 (r1 b1 1)) a 2 ((up2 r1 a 1 (r1 b1 1)) b1 2)) b1 3)) a 4 ((up2 (up2 (up2 r1 a 1 (r1 b1 1)) a 2 ((up2 r1 a 1 (r1 b1 1)) b1 2)) a 3 ((up2 (up2 r1 a 1 (r1 b1 1)) a 2 ((up2 r1 a 1 (r1 b1 1)) b1 2)) b1 3)) b1 4)) a 5 ((up2 (up2 (up2 (up2 r1 a 1 (r1 b1 1)) a 2 ((up2 r1 a 1 (r1 b1 1)) b1 2)) a 3 ((up2 (up2 r1 a 1 (r1 b1 1)) a 2 ((up2 r1 a 1 (r1 b1 1)) b1 2)) b1 3)) a 4 ((up2 (up2 (up2 r1 a 1 (r1 b1 1)) a 2 ((up2 r1 a 1 (r1 b1 1)) b1 2)) a 3 ((up2 (up2 r1 a 1 (r1 b1 1)) a 2 ((up2 r1 a 1 (r1 b1 1)) b1 2)) b1 3)) b1 4)) b1 5)) a 6 ((up2 (up2 (up2 (up2 (up2 r1 a 1 (r1 b1 1)) a 2 ((up2 r1 a 1 (r1 b1 1)) b1 2)) a 3 ((up2 (up2 r1 a 1 (r1 b1 1)) a 2 ((up2 r1 a 1 (r1 b1 1)) b1 2)) b1 3)) a 4 ((up2 (up2 (up2 r1 a 1 (r1 b1 1)) a 2 ((up2 r1 a 1 (r1 b1 1)) b1 2)) a 3 ((up2 (up2 r1 a 1 (r1 b1 1)) a 2 ((up2 r1 a 1 (r1 b1 1)) b1 2)) b1 3)) b1 4)) a 5 ((up2 (up2 (up2 (up2 r1 a 1 (r1 b1 1)) a 2 ((up2 r1 a 1 (r1 b1 1)) b1 2)) a 3 ((up2 (up2 r1 a 1 (r1 b1 1)) a 2 ((up2 r1 a 1 (r1 b1 1)) b1 2)) b1 3)) a 4 ((up2 (up2 (up2 r1 a 1 (r1 b1 1)) a 2 ((up2 r1 a 1 (r1 b1 1)) b1 2)) a 3 ((up2 (up2 r1 a 1 (r1 b1 1)) a 2 ((up2 r1 a 1 (r1 b1 1)) b1 2)) b1 3)) b1 4)) b1 5)) b1 6)) b1 7)) b1 8)) a 9 ((up2 (up2 (up2 (up2 (up2 (up2 (up2 (up2 r1 a 1 (r1 b1 1)) a 2 ((up2 r1 a 1 (r1 b1 1)) b1 2)) a 3 ((up2 (up2 r1 a 1 (r1 b1 1)) a 2 ((up2 r1 a 1 (r1 b1 1)) b1 2)) b1 3)) a 4 ((up2 (up2 (up2 r1 a 1 (r1 b1 1)) a 2 ((up2 r1 a 1 (r1 b1 1)) b1 2)) a 3 ((up2 (up2 r1 a 1 (r1 b1 1)) a 2 ((up2 r1 a 1 (r1 b1 1)) b1 2)) b1 3)) b1 4)) a 5 ((up2 (up2 (up2 (up2 r1 a 1 (r1 b1 1)) a 2 ((up2 r1 a 1 (r1 b1 1)) b1 2)) a 3 ((up2 (up2 r1 a 1 (r1 b1 1)) a 2 ((up2 r1 a 1 (r1 b1 1)) b1 2)) b1 3)) a 4 ((up2 (up2 (up2 r1 a 1 (r1 b1 1)) a 2 ((up2 r1 a 1 (r1 b1 1)) b1 2)) a 3 ((up2 (up2 r1 a 1 (r1 b1 1)) a 2 ((up2 r1 a 1 (r1 b1 1)) b1 2)) b1 3)) b1 4)) b1 5)) a 6 ((up2 (up2 (up2 (up2 (up2 r1 a 1 (r1 b1 1)) a 2 ((up2 r1 a 1 (r1 b1 1)) b1 2)) a 3 ((up2 (up2 r1 a 1 (r1 b1 1)) a 2 ((up2 r1 a 1 (r1 b1 1)) b1 2)) b1 3)) a 4 ((up2 (up2 (up2 r1 a 1 (r1 b1 1)) a 2 ((up2 r1 a 1 (r1 b1 1)) b1 2)) a 3 ((up2 (up2 r1 a 1 (r1 b1 1)) a 2 ((up2 r1 a 1 (r1 b1 1)) b1 2)) b1 3)) b1 4)) a 5 ((up2 (up2 (up2 (up2 r1 a 1 (r1 b1 1)) a 2 ((up2 r1 a 1 (r1 b1 1)) b1 2)) a 3 ((up2 (up2 r1 a 1 (r1 b1 1)) a 2 ((up2 r1 a 1 (r1 b1 1)) b1 2)) b1 3)) a 4 ((up2 (up2 (up2 r1 a 1 (r1 b1 1)) a 2 ((up2 r1 a 1 (r1 b1 1)) b1 2)) a 3 ((up2 (up2 r1 a 1 (r1 b1 1)) a 2 ((up2 r1 a 1 (r1 b1 1)) b1 2)) b1 3)) b1 4)) b1 5)) b1 6)) a 7 ((up2 (up2 (up2 (up2 (up2 (up2 r1 a 1 (r1 b1 1)) a 2 ((up2 r1 a 1 (r1 b1 1)) b1 2)) a 3 ((up2 (up2 r1 a 1 (r1 b1 1)) a 2 ((up2 r1 a 1 (r1 b1 1)) b1 2)) b1 3)) a 4 ((up2 (up2 (up2 r1 a 1 (r1 b1 1)) a 2 ((up2 r1 a 1 (r1 b1 1)) b1 2)) a 3 ((up2 (up2 r1 a 1 (r1 b1 1)) a 2 ((up2 r1 a 1 (r1 b1 1)) b1 2)) b1 3)) b1 4)) a 5 ((up2 (up2 (up2 (up2 r1 a 1 (r1 b1 1)) a 2 ((up2 r1 a 1 (r1 b1 1)) b1 2)) a 3 ((up2 (up2 r1 a 1 (r1 b1 1)) a 2 ((up2 r1 a 1 (r1 b1 1)) b1 2)) b1 3)) a 4 ((up2 (up2 (up2 r1 a 1 (r1 b1 1)) a 2 ((up2 r1 a 1 (r1 b1 1)) b1 2)) a 3 ((up2 (up2 r1 a 1 (r1 b1 1)) a 2 ((up2 r1 a 1 (r1 b1 1)) b1 2)) b1 3)) b1 4)) b1 5)) a 6 ((up2 (up2 (up2 (up2 (up2 r1 a 1 (r1 b1 1)) a 2 ((up2 r1 a 1 (r1 b1 1)) b1 2)) a 3 ((up2 (up2 r1 a 1 (r1 b1 1)) a 2 ((up2 r1 a 1 (r1 b1 1)) b1 2)) b1 3)) a 4 ((up2 (up2 (up2 r1 a 1 (r1 b1 1)) a 2 ((up2 r1 a 1 (r1 b1 1)) b1 2)) a 3 ((up2 (up2 r1 a 1 (r1 b1 1)) a 2 ((up2 r1 a 1 (r1 b1 1)) b1 2)) b1 3)) b1 4)) a 5 ((up2 (up2 (up2 (up2 r1 a 1 (r1 b1 1)) a 2 ((up2 r1 a 1 (r1 b1 1)) b1 2)) a 3 ((up2 (up2 r1 a 1 (r1 b1 1)) a 2 ((up2 r1 a 1 (r1 b1 1)) b1 2)) b1 3)) a 4 ((up2 (up2 (up2 r1 a 1 (r1 b1 1)) a 2 ((up2 r1 a 1 (r1 b1 1)) b1 2)) a 3 ((up2 (up2 r1 a 1 (r1 b1 1)) a 2 ((up2 r1 a 1 (r1 b1 1)) b1 2)) b1 3)) b1 4)) b1 5)) b1 6)) b1 7)) a 8 ((up2 (up2 (up2 (up2 (up2 (up2 (up2 r1 a 1 (r1 b1 1)) a 2 ((up2 r1 a 1 (r1 b1 1)) b1 2)) a 3 ((up2 (up2 r1 a 1 (r1 b1 1)) a 2 ((up2 r1 a 1 (r1 b1 1)) b1 2)) b1 3)) a 4 ((up2 (up2 (up2 r1 a 1 (r1 b1 1)) a 2 ((up2 r1 a 1 (r1 b1 1)) b1 2)) a 3 ((up2 (up2 r1 a 1 (r1 b1 1)) a 2 ((up2 r1 a 1 (r1 b1 1)) b1 2)) b1 3)) b1 4)) a 5 ((up2 (up2 (up2 (up2 r1 a 1 (r1 b1 1)) a 2 ((up2 r1 a 1 (r1 b1 1)) b1 2)) a 3 ((up2 (up2 r1 a 1 (r1 b1 1)) a 2 ((up2 r1 a 1 (r1 b1 1)) b1 2)) b1 3)) a 4 ((up2 (up2 (up2 r1 a 1 (r1 b1 1)) a 2 ((up2 r1 a 1 (r1 b1 1)) b1 2)) a 3 ((up2 (up2 r1 a 1 (r1 b1 1)) a 2 ((up2 r1 a 1 (r1 b1 1)) b1 2)) b1 3)) b1 4)) b1 5)) a 6 ((up2 (up2 (up2 (up2 (up2 r1 a 1 (r1 b1 1)) a 2 ((up2 r1 a 1 (r1 b1 1)) b1 2)) a 3 ((up2 (up2 r1 a 1 (r1 b1 1)) a 2 ((up2 r1 a 1 (r1 b1 1)) b1 2)) b1 3)) a 4 ((up2 (up2 (up2 r1 a 1 (r1 b1 1)) a 2 ((up2 r1 a 1 (r1 b1 1)) b1 2)) a 3 ((up2 (up2 r1 a 1 (r1 b1 1)) a 2 ((up2 r1 a 1 (r1 b1 1)) b1 2)) b1 3)) b1 4)) a 5 ((up2 (up2 (up2 (up2 r1 a 1 (r1 b1 1)) a 2 ((up2 r1 a 1 (r1 b1 1)) b1 2)) a 3 ((up2 (up2 r1 a 1 (r1 b1 1)) a 2 ((up2 r1 a 1 (r1 b1 1)) b1 2)) b1 3)) a 4 ((up2 (up2 (up2 r1 a 1 (r1 b1 1)) a 2 ((up2 r1 a 1 (r1 b1 1)) b1 2)) a 3 ((up2 (up2 r1 a 1 (r1 b1 1)) a 2 ((up2 r1 a 1 (r1 b1 1)) b1 2)) b1 3)) b1 4)) b1 5)) b1 6)) a 7 ((up2 (up2 (up2 (up2 (up2 (up2 r1 a 1 (r1 b1 1)) a 2 ((up2 r1 a 1 (r1 b1 1)) b1 2)) a 3 ((up2 (up2 r1 a 1 (r1 b1 1)) a 2 ((up2 r1 a 1 (r1 b1 1)) b1 2)) b1 3)) a 4 ((up2 (up2 (up2 r1 a 1 (r1 b1 1)) a 2 ((up2 r1 a 1 (r1 b1 1)) b1 2)) a 3 ((up2 (up2 r1 a 1 (r1 b1 1)) a 2 ((up2 r1 a 1 (r1 b1 1)) b1 2)) b1 3)) b1 4)) a 5 ((up2 (up2 (up2 (up2 r1 a 1 (r1 b1 1)) a 2 ((up2 r1 a 1 (r1 b1 1)) b1 2)) a 3 ((up2 (up2 r1 a 1 (r1 b1 1)) a 2 ((up2 r1 a 1 (r1 b1 1)) b1 2)) b1 3)) a 4 ((up2 (up2 (up2 r1 a 1 (r1 b1 1)) a 2 ((up2 r1 a 1 (r1 b1 1)) b1 2)) a 3 ((up2 (up2 r1 a 1 (r1 b1 1)) a 2 ((up2 r1 a 1 (r1 b1 1)) b1 2)) b1 3)) b1 4)) b1 5)) a 6 ((up2 (up2 (up2 (up2 (up2 r1 a 1 (r1 b1 1)) a 2 ((up2 r1 a 1 (r1 b1 1)) b1 2)) a 3 ((up2 (up2 r1 a 1 (r1 b1 1)) a 2 ((up2 r1 a 1 (r1 b1 1)) b1 2)) b1 3)) a 4 ((up2 (up2 (up2 r1 a 1 (r1 b1 1)) a 2 ((up2 r1 a 1 (r1 b1 1)) b1 2)) a 3 ((up2 (up2 r1 a 1 (r1 b1 1)) a 2 ((up2 r1 a 1 (r1 b1 1)) b1 2)) b1 3)) b1 4)) a 5 ((up2 (up2 (up2 (up2 r1 a 1 (r1 b1 1)) a 2 ((up2 r1 a 1 (r1 b1 1)) b1 2)) a 3 ((up2 (up2 r1 a 1 (r1 b1 1)) a 2 ((up2 r1 a 1 (r1 b1 1)) b1 2)) b1 3)) a 4 ((up2 (up2 (up2 r1 a 1 (r1 b1 1)) a 2 ((up2 r1 a 1 (r1 b1 1)) b1 2)) a 3 ((up2 (up2 r1 a 1 (r1 b1 1)) a 2 ((up2 r1 a 1 (r1 b1 1)) b1 2)) b1 3)) b1 4)) b1 5)) b1 6)) b1 7)) b1 8)) b1 9)) a 10 ((up2 (up2 (up2 (up2 (up2 (up2 (up2 (up2 (up2 r1 a 1 (r1 b1 1)) a 2 ((up2 r1 a 1 (r1 b1 1)) b1 2)) a 3 ((up2 (up2 r1 a 1 (r1 b1 1)) a 2 ((up2 r1 a 1 (r1 b1 1)) b1 2)) b1 3)) a 4 ((up2 (up2 (up2 r1 a 1 (r1 b1 1)) a 2 ((up2 r1 a 1 (r1 b1 1)) b1 2)) a 3 ((up2 (up2 r1 a 1 (r1 b1 1)) a 2 ((up2 r1 a 1 (r1 b1 1)) b1 2)) b1 3)) b1 4)) a 5 ((up2 (up2 (up2 (up2 r1 a 1 (r1 b1 1)) a 2 ((up2 r1 a 1 (r1 b1 1)) b1 2)) a 3 ((up2 (up2 r1 a 1 (r1 b1 1)) a 2 ((up2 r1 a 1 (r1 b1 1)) b1 2)) b1 3)) a 4 ((up2 (up2 (up2 r1 a 1 (r1 b1 1)) a 2 ((up2 r1 a 1 (r1 b1 1)) b1 2)) a 3 ((up2 (up2 r1 a 1 (r1 b1 1)) a 2 ((up2 r1 a 1 (r1 b1 1)) b1 2)) b1 3)) b1 4)) b1 5)) a 6 ((up2 (up2 (up2 (up2 (up2 r1 a 1 (r1 b1 1)) a 2 ((up2 r1 a 1 (r1 b1 1)) b1 2)) a 3 ((up2 (up2 r1 a 1 (r1 b1 1)) a 2 ((up2 r1 a 1 (r1 b1 1)) b1 2)) b1 3)) a 4 ((up2 (up2 (up2 r1 a 1 (r1 b1 1)) a 2 ((up2 r1 a 1 (r1 b1 1)) b1 2)) a 3 ((up2 (up2 r1 a 1 (r1 b1 1)) a 2 ((up2 r1 a 1 (r1 b1 1)) b1 2)) b1 3)) b1 4)) a 5 ((up2 (up2 (up2 (up2 r1 a 1 (r1 b1 1)) a 2 ((up2 r1 a 1 (r1 b1 1)) b1 2)) a 3 ((up2 (up2 r1 a 1 (r1 b1 1)) a 2 ((up2 r1 a 1 (r1 b1 1)) b1 2)) b1 3)) a 4 ((up2 (up2 (up2 r1 a 1 (r1 b1 1)) a 2 ((up2 r1 a 1 (r1 b1 1)) b1 2)) a 3 ((up2 (up2 r1 a 1 (r1 b1 1)) a 2 ((up2 r1 a 1 (r1 b1 1)) b1 2)) b1 3)) b1 4)) b1 5)) b1 6)) a 7 ((up2 (up2 (up2 (up2 (up2 (up2 r1 a 1 (r1 b1 1)) a 2 ((up2 r1 a 1 (r1 b1 1)) b1 2)) a 3 ((up2 (up2 r1 a 1 (r1 b1 1)) a 2 ((up2 r1 a 1 (r1 b1 1)) b1 2)) b1 3)) a 4 ((up2 (up2 (up2 r1 a 1 (r1 b1 1)) a 2 ((up2 r1 a 1 (r1 b1 1)) b1 2)) a 3 ((up2 (up2 r1 a 1 (r1 b1 1)) a 2 ((up2 r1 a 1 (r1 b1 1)) b1 2)) b1 3)) b1 4)) a 5 ((up2 (up2 (up2 (up2 r1 a 1 (r1 b1 1)) a 2 ((up2 r1 a 1 (r1 b1 1)) b1 2)) a 3 ((up2 (up2 r1 a 1 (r1 b1 1)) a 2 ((up2 r1 a 1 (r1 b1 1)) b1 2)) b1 3)) a 4 ((up2 (up2 (up2 r1 a 1 (r1 b1 1)) a 2 ((up2 r1 a 1 (r1 b1 1)) b1 2)) a 3 ((up2 (up2 r1 a 1 (r1 b1 1)) a 2 ((up2 r1 a 1 (r1 b1 1)) b1 2)) b1 3)) b1 4)) b1 5)) a 6 ((up2 (up2 (up2 (up2 (up2 r1 a 1 (r1 b1 1)) a 2 ((up2 r1 a 1 (r1 b1 1)) b1 2)) a 3 ((up2 (up2 r1 a 1 (r1 b1 1)) a 2 ((up2 r1 a 1 (r1 b1 1)) b1 2)) b1 3)) a 4 ((up2 (up2 (up2 r1 a 1 (r1 b1 1)) a 2 ((up2 r1 a 1 (r1 b1 1)) b1 2)) a 3 ((up2 (up2 r1 a 1 (r1 b1 1)) a 2 ((up2 r1 a 1 (r1 b1 1)) b1 2)) b1 3)) b1 4)) a 5 ((up2 (up2 (up2 (up2 r1 a 1 (r1 b1 1)) a 2 ((up2 r1 a 1 (r1 b1 1)) b1 2)) a 3 ((up2 (up2 r1 a 1 (r1 b1 1)) a 2 ((up2 r1 a 1 (r1 b1 1)) b1 2)) b1 3)) a 4 ((up2 (up2 (up2 r1 a 1 (r1 b1 1)) a 2 ((up2 r1 a 1 (r1 b1 1)) b1 2)) a 3 ((up2 (up2 r1 a 1 (r1 b1 1)) a 2 ((up2 r1 a 1 (r1 b1 1)) b1 2)) b1 3)) b1 4)) b1 5)) b1 6)) b1 7)) a 8 ((up2 (up2 (up2 (up2 (up2 (up2 (up2 r1 a 1 (r1 b1 1)) a 2 ((up2 r1 a 1 (r1 b1 1)) b1 2)) a 3 ((up2 (up2 r1 a 1 (r1 b1 1)) a 2 ((up2 r1 a 1 (r1 b1 1)) b1 2)) b1 3)) a 4 ((up2 (up2 (up2 r1 a 1 (r1 b1 1)) a 2 ((up2 r1 a 1 (r1 b1 1)) b1 2)) a 3 ((up2 (up2 r1 a 1 (r1 b1 1)) a 2 ((up2 r1 a 1 (r1 b1 1)) b1 2)) b1 3)) b1 4)) a 5 ((up2 (up2 (up2 (up2 r1 a 1 (r1 b1 1)) a 2 ((up2 r1 a 1 (r1 b1 1)) b1 2)) a 3 ((up2 (up2 r1 a 1 (r1 b1 1)) a 2 ((up2 r1 a 1 (r1 b1 1)) b1 2)) b1 3)) a 4 ((up2 (up2 (up2 r1 a 1 (r1 b1 1)) a 2 ((up2 r1 a 1 (r1 b1 1)) b1 2)) a 3 ((up2 (up2 r1 a 1 (r1 b1 1)) a 2 ((up2 r1 a 1 (r1 b1 1)) b1 2)) b1 3)) b1 4)) b1 5)) a 6 ((up2 (up2 (up2 (up2 (up2 r1 a 1 (r1 b1 1)) a 2 ((up2 r1 a 1 (r1 b1 1)) b1 2)) a 3 ((up2 (up2 r1 a 1 (r1 b1 1)) a 2 ((up2 r1 a 1 (r1 b1 1)) b1 2)) b1 3)) a 4 ((up2 (up2 (up2 r1 a 1 (r1 b1 1)) a 2 ((up2 r1 a 1 (r1 b1 1)) b1 2)) a 3 ((up2 (up2 r1 a 1 (r1 b1 1)) a 2 ((up2 r1 a 1 (r1 b1 1)) b1 2)) b1 3)) b1 4)) a 5 ((up2 (up2 (up2 (up2 r1 a 1 (r1 b1 1)) a 2 ((up2 r1 a 1 (r1 b1 1)) b1 2)) a 3 ((up2 (up2 r1 a 1 (r1 b1 1)) a 2 ((up2 r1 a 1 (r1 b1 1)) b1 2)) b1 3)) a 4 ((up2 (up2 (up2 r1 a 1 (r1 b1 1)) a 2 ((up2 r1 a 1 (r1 b1 1)) b1 2)) a 3 ((up2 (up2 r1 a 1 (r1 b1 1)) a 2 ((up2 r1 a 1 (r1 b1 1)) b1 2)) b1 3)) b1 4)) b1 5)) b1 6)) a 7 ((up2 (up2 (up2 (up2 (up2 (up2 r1 a 1 (r1 b1 1)) a 2 ((up2 r1 a 1 (r1 b1 1)) b1 2)) a 3 ((up2 (up2 r1 a 1 (r1 b1 1)) a 2 ((up2 r1 a 1 (r1 b1 1)) b1 2)) b1 3)) a 4 ((up2 (up2 (up2 r1 a 1 (r1 b1 1)) a 2 ((up2 r1 a 1 (r1 b1 1)) b1 2)) a 3 ((up2 (up2 r1 a 1 (r1 b1 1)) a 2 ((up2 r1 a 1 (r1 b1 1)) b1 2)) b1 3)) b1 4)) a 5 ((up2 (up2 (up2 (up2 r1 a 1 (r1 b1 1)) a 2 ((up2 r1 a 1 (r1 b1 1)) b1 2)) a 3 ((up2 (up2 r1 a 1 (r1 b1 1)) a 2 ((up2 r1 a 1 (r1 b1 1)) b1 2)) b1 3)) a 4 ((up2 (up2 (up2 r1 a 1 (r1 b1 1)) a 2 ((up2 r1 a 1 (r1 b1 1)) b1 2)) a 3 ((up2 (up2 r1 a 1 (r1 b1 1)) a 2 ((up2 r1 a 1 (r1 b1 1)) b1 2)) b1 3)) b1 4)) b1 5)) a 6 ((up2 (up2 (up2 (up2 (up2 r1 a 1 (r1 b1 1)) a 2 ((up2 r1 a 1 (r1 b1 1)) b1 2)) a 3 ((up2 (up2 r1 a 1 (r1 b1 1)) a 2 ((up2 r1 a 1 (r1 b1 1)) b1 2)) b1 3)) a 4 ((up2 (up2 (up2 r1 a 1 (r1 b1 1)) a 2 ((up2 r1 a 1 (r1 b1 1)) b1 2)) a 3 ((up2 (up2 r1 a 1 (r1 b1 1)) a 2 ((up2 r1 a 1 (r1 b1 1)) b1 2)) b1 3)) b1 4)) a 5 ((up2 (up2 (up2 (up2 r1 a 1 (r1 b1 1)) a 2 ((up2 r1 a 1 (r1 b1 1)) b1 2)) a 3 ((up2 (up2 r1 a 1 (r1 b1 1)) a 2 ((up2 r1 a 1 (r1 b1 1)) b1 2)) b1 3)) a 4 ((up2 (up2 (up2 r1 a 1 (r1 b1 1)) a 2 ((up2 r1 a 1 (r1 b1 1)) b1 2)) a 3 ((up2 (up2 r1 a 1 (r1 b1 1)) a 2 ((up2 r1 a 1 (r1 b1 1)) b1 2)) b1 3)) b1 4)) b1 5)) b1 6)) b1 7)) b1 8)) a 9 ((up2 (up2 (up2 (up2 (up2 (up2 (up2 (up2 r1 a 1 (r1 b1 1)) a 2 ((up2 r1 a 1 (r1 b1 1)) b1 2)) a 3 ((up2 (up2 r1 a 1 (r1 b1 1)) a 2 ((up2 r1 a 1 (r1 b1 1)) b1 2)) b1 3)) a 4 ((up2 (up2 (up2 r1 a 1 (r1 b1 1)) a 2 ((up2 r1 a 1 (r1 b1 1)) b1 2)) a 3 ((up2 (up2 r1 a 1 (r1 b1 1)) a 2 ((up2 r1 a 1 (r1 b1 1)) b1 2)) b1 3)) b1 4)) a 5 ((up2 (up2 (up2 (up2 r1 a 1 (r1 b1 1)) a 2 ((up2 r1 a 1 (r1 b1 1)) b1 2)) a 3 ((up2 (up2 r1 a 1 (r1 b1 1)) a 2 ((up2 r1 a 1 (r1 b1 1)) b1 2)) b1 3)) a 4 ((up2 (up2 (up2 r1 a 1 (r1 b1 1)) a 2 ((up2 r1 a 1 (r1 b1 1)) b1 2)) a 3 ((up2 (up2 r1 a 1 (r1 b1 1)) a 2 ((up2 r1 a 1 (r1 b1 1)) b1 2)) b1 3)) b1 4)) b1 5)) a 6 ((up2 (up2 (up2 (up2 (up2 r1 a 1 (r1 b1 1)) a 2 ((up2 r1 a 1 (r1 b1 1)) b1 2)) a 3 ((up2 (up2 r1 a 1 (r1 b1 1)) a 2 ((up2 r1 a 1 (r1 b1 1)) b1 2)) b1 3)) a 4 ((up2 (up2 (up2 r1 a 1 (r1 b1 1)) a 2 ((up2 r1 a 1 (r1 b1 1)) b1 2)) a 3 ((up2 (up2 r1 a 1 (r1 b1 1)) a 2 ((up2 r1 a 1 (r1 b1 1)) b1 2)) b1 3)) b1 4)) a 5 ((up2 (up2 (up2 (up2 r1 a 1 (r1 b1 1)) a 2 ((up2 r1 a 1 (r1 b1 1)) b1 2)) a 3 ((up2 (up2 r1 a 1 (r1 b1 1)) a 2 ((up2 r1 a 1 (r1 b1 1)) b1 2)) b1 3)) a 4 ((up2 (up2 (up2 r1 a 1 (r1 b1 1)) a 2 ((up2 r1 a 1 (r1 b1 1)) b1 2)) a 3 ((up2 (up2 r1 a 1 (r1 b1 1)) a 2 ((up2 r1 a 1 (r1 b1 1)) b1 2)) b1 3)) b1 4)) b1 5)) b1 6)) a 7 ((up2 (up2 (up2 (up2 (up2 (up2 r1 a 1 (r1 b1 1)) a 2 ((up2 r1 a 1 (r1 b1 1)) b1 2)) a 3 ((up2 (up2 r1 a 1 (r1 b1 1)) a 2 ((up2 r1 a 1 (r1 b1 1)) b1 2)) b1 3)) a 4 ((up2 (up2 (up2 r1 a 1 (r1 b1 1)) a 2 ((up2 r1 a 1 (r1 b1 1)) b1 2)) a 3 ((up2 (up2 r1 a 1 (r1 b1 1)) a 2 ((up2 r1 a 1 (r1 b1 1)) b1 2)) b1 3)) b1 4)) a 5 ((up2 (up2 (up2 (up2 r1 a 1 (r1 b1 1)) a 2 ((up2 r1 a 1 (r1 b1 1)) b1 2)) a 3 ((up2 (up2 r1 a 1 (r1 b1 1)) a 2 ((up2 r1 a 1 (r1 b1 1)) b1 2)) b1 3)) a 4 ((up2 (up2 (up2 r1 a 1 (r1 b1 1)) a 2 ((up2 r1 a 1 (r1 b1 1)) b1 2)) a 3 ((up2 (up2 r1 a 1 (r1 b1 1)) a 2 ((up2 r1 a 1 (r1 b1 1)) b1 2)) b1 3)) b1 4)) b1 5)) a 6 ((up2 (up2 (up2 (up2 (up2 r1 a 1 (r1 b1 1)) a 2 ((up2 r1 a 1 (r1 b1 1)) b1 2)) a 3 ((up2 (up2 r1 a 1 (r1 b1 1)) a 2 ((up2 r1 a 1 (r1 b1 1)) b1 2)) b1 3)) a 4 ((up2 (up2 (up2 r1 a 1 (r1 b1 1)) a 2 ((up2 r1 a 1 (r1 b1 1)) b1 2)) a 3 ((up2 (up2 r1 a 1 (r1 b1 1)) a 2 ((up2 r1 a 1 (r1 b1 1)) b1 2)) b1 3)) b1 4)) a 5 ((up2 (up2 (up2 (up2 r1 a 1 (r1 b1 1)) a 2 ((up2 r1 a 1 (r1 b1 1)) b1 2)) a 3 ((up2 (up2 r1 a 1 (r1 b1 1)) a 2 ((up2 r1 a 1 (r1 b1 1)) b1 2)) b1 3)) a 4 ((up2 (up2 (up2 r1 a 1 (r1 b1 1)) a 2 ((up2 r1 a 1 (r1 b1 1)) b1 2)) a 3 ((up2 (up2 r1 a 1 (r1 b1 1)) a 2 ((up2 r1 a 1 (r1 b1 1)) b1 2)) b1 3)) b1 4)) b1 5)) b1 6)) b1 7)) a 8 ((up2 (up2 (up2 (up2 (up2 (up2 (up2 r1 a 1 (r1 b1 1)) a 2 ((up2 r1 a 1 (r1 b1 1)) b1 2)) a 3 ((up2 (up2 r1 a 1 (r1 b1 1)) a 2 ((up2 r1 a 1 (r1 b1 1)) b1 2)) b1 3)) a 4 ((up2 (up2 (up2 r1 a 1 (r1 b1 1)) a 2 ((up2 r1 a 1 (r1 b1 1)) b1 2)) a 3 ((up2 (up2 r1 a 1 (r1 b1 1)) a 2 ((up2 r1 a 1 (r1 b1 1)) b1 2)) b1 3)) b1 4)) a 5 ((up2 (up2 (up2 (up2 r1 a 1 (r1 b1 1)) a 2 ((up2 r1 a 1 (r1 b1 1)) b1 2)) a 3 ((up2 (up2 r1 a 1 (r1 b1 1)) a 2 ((up2 r1 a 1 (r1 b1 1)) b1 2)) b1 3)) a 4 ((up2 (up2 (up2 r1 a 1 (r1 b1 1)) a 2 ((up2 r1 a 1 (r1 b1 1)) b1 2)) a 3 ((up2 (up2 r1 a 1 (r1 b1 1)) a 2 ((up2 r1 a 1 (r1 b1 1)) b1 2)) b1 3)) b1 4)) b1 5)) a 6 ((up2 (up2 (up2 (up2 (up2 r1 a 1 (r1 b1 1)) a 2 ((up2 r1 a 1 (r1 b1 1)) b1 2)) a 3 ((up2 (up2 r1 a 1 (r1 b1 1)) a 2 ((up2 r1 a 1 (r1 b1 1)) b1 2)) b1 3)) a 4 ((up2 (up2 (up2 r1 a 1 (r1 b1 1)) a 2 ((up2 r1 a 1 (r1 b1 1)) b1 2)) a 3 ((up2 (up2 r1 a 1 (r1 b1 1)) a 2 ((up2 r1 a 1 (r1 b1 1)) b1 2)) b1 3)) b1 4)) a 5 ((up2 (up2 (up2 (up2 r1 a 1 (r1 b1 1)) a 2 ((up2 r1 a 1 (r1 b1 1)) b1 2)) a 3 ((up2 (up2 r1 a 1 (r1 b1 1)) a 2 ((up2 r1 a 1 (r1 b1 1)) b1 2)) b1 3)) a 4 ((up2 (up2 (up2 r1 a 1 (r1 b1 1)) a 2 ((up2 r1 a 1 (r1 b1 1)) b1 2)) a 3 ((up2 (up2 r1 a 1 (r1 b1 1)) a 2 ((up2 r1 a 1 (r1 b1 1)) b1 2)) b1 3)) b1 4)) b1 5)) b1 6)) a 7 ((up2 (up2 (up2 (up2 (up2 (up2 r1 a 1 (r1 b1 1)) a 2 ((up2 r1 a 1 (r1 b1 1)) b1 2)) a 3 ((up2 (up2 r1 a 1 (r1 b1 1)) a 2 ((up2 r1 a 1 (r1 b1 1)) b1 2)) b1 3)) a 4 ((up2 (up2 (up2 r1 a 1 (r1 b1 1)) a 2 ((up2 r1 a 1 (r1 b1 1)) b1 2)) a 3 ((up2 (up2 r1 a 1 (r1 b1 1)) a 2 ((up2 r1 a 1 (r1 b1 1)) b1 2)) b1 3)) b1 4)) a 5 ((up2 (up2 (up2 (up2 r1 a 1 (r1 b1 1)) a 2 ((up2 r1 a 1 (r1 b1 1)) b1 2)) a 3 ((up2 (up2 r1 a 1 (r1 b1 1)) a 2 ((up2 r1 a 1 (r1 b1 1)) b1 2)) b1 3)) a 4 ((up2 (up2 (up2 r1 a 1 (r1 b1 1)) a 2 ((up2 r1 a 1 (r1 b1 1)) b1 2)) a 3 ((up2 (up2 r1 a 1 (r1 b1 1)) a 2 ((up2 r1 a 1 (r1 b1 1)) b1 2)) b1 3)) b1 4)) b1 5)) a 6 ((up2 (up2 (up2 (up2 (up2 r1 a 1 (r1 b1 1)) a 2 ((up2 r1 a 1 (r1 b1 1)) b1 2)) a 3 ((up2 (up2 r1 a 1 (r1 b1 1)) a 2 ((up2 r1 a 1 (r1 b1 1)) b1 2)) b1 3)) a 4 ((up2 (up2 (up2 r1 a 1 (r1 b1 1)) a 2 ((up2 r1 a 1 (r1 b1 1)) b1 2)) a 3 ((up2 (up2 r1 a 1 (r1 b1 1)) a 2 ((up2 r1 a 1 (r1 b1 1)) b1 2)) b1 3)) b1 4)) a 5 ((up2 (up2 (up2 (up2 r1 a 1 (r1 b1 1)) a 2 ((up2 r1 a 1 (r1 b1 1)) b1 2)) a 3 ((up2 (up2 r1 a 1 (r1 b1 1)) a 2 ((up2 r1 a 1 (r1 b1 1)) b1 2)) b1 3)) a 4 ((up2 (up2 (up2 r1 a 1 (r1 b1 1)) a 2 ((up2 r1 a 1 (r1 b1 1)) b1 2)) a 3 ((up2 (up2 r1 a 1 (r1 b1 1)) a 2 ((up2 r1 a 1 (r1 b1 1)) b1 2)) b1 3)) b1 4)) b1 5)) b1 6)) b1 7)) b1 8)) b1 9)) b1 10)) a 11 ((up2 (up2 (up2 (up2 (up2 (up2 (up2 (up2 (up2 (up2 r1 a 1 (r1 b1 1)) a 2 ((up2 r1 a 1 (r1 b1 1)) b1 2)) a 3 ((up2 (up2 r1 a 1 (r1 b1 1)) a 2 ((up2 r1 a 1 (r1 b1 1)) b1 2)) b1 3)) a 4 ((up2 (up2 (up2 r1 a 1 (r1 b1 1)) a 2 ((up2 r1 a 1 (r1 b1 1)) b1 2)) a 3 ((up2 (up2 r1 a 1 (r1 b1 1)) a 2 ((up2 r1 a 1 (r1 b1 1)) b1 2)) b1 3)) b1 4)) a 5 ((up2 (up2 (up2 (up2 r1 a 1 (r1 b1 1)) a 2 ((up2 r1 a 1 (r1 b1 1)) b1 2)) a 3 ((up2 (up2 r1 a 1 (r1 b1 1)) a 2 ((up2 r1 a 1 (r1 b1 1)) b1 2)) b1 3)) a 4 ((up2 (up2 (up2 r1 a 1 (r1 b1 1)) a 2 ((up2 r1 a 1 (r1 b1 1)) b1 2)) a 3 ((up2 (up2 r1 a 1 (r1 b1 1)) a 2 ((up2 r1 a 1 (r1 b1 1)) b1 2)) b1 3)) b1 4)) b1 5)) a 6 ((up2 (up2 (up2 (up2 (up2 r1 a 1 (r1 b1 1)) a 2 ((up2 r1 a 1 (r1 b1 1)) b1 2)) a 3 ((up2 (up2 r1 a 1 (r1 b1 1)) a 2 ((up2 r1 a 1 (r1 b1 1)) b1 2)) b1 3)) a 4 ((up2 (up2 (up2 r1 a 1 (r1 b1 1)) a 2 ((up2 r1 a 1 (r1 b1 1)) b1 2)) a 3 ((up2 (up2 r1 a 1 (r1 b1 1)) a 2 ((up2 r1 a 1 (r1 b1 1)) b1 2)) b1 3)) b1 4)) a 5 ((up2 (up2 (up2 (up2 r1 a 1 (r1 b1 1)) a 2 ((up2 r1 a 1 (r1 b1 1)) b1 2)) a 3 ((up2 (up2 r1 a 1 (r1 b1 1)) a 2 ((up2 r1 a 1 (r1 b1 1)) b1 2)) b1 3)) a 4 ((up2 (up2 (up2 r1 a 1 (r1 b1 1)) a 2 ((up2 r1 a 1 (r1 b1 1)) b1 2)) a 3 ((up2 (up2 r1 a 1 (r1 b1 1)) a 2 ((up2 r1 a 1 (r1 b1 1)) b1 2)) b1 3)) b1 4)) b1 5)) b1 6)) a 7 ((up2 (up2 (up2 (up2 (up2 (up2 r1 a 1 (r1 b1 1)) a 2 ((up2 r1 a 1 (r1 b1 1)) b1 2)) a 3 ((up2 (up2 r1 a 1 (r1 b1 1)) a 2 ((up2 r1 a 1 (r1 b1 1)) b1 2)) b1 3)) a 4 ((up2 (up2 (up2 r1 a 1 (r1 b1 1)) a 2 ((up2 r1 a 1 (r1 b1 1)) b1 2)) a 3 ((up2 (up2 r1 a 1 (r1 b1 1)) a 2 ((up2 r1 a 1 (r1 b1 1)) b1 2)) b1 3)) b1 4)) a 5 ((up2 (up2 (up2 (up2 r1 a 1 (r1 b1 1)) a 2 ((up2 r1 a 1 (r1 b1 1)) b1 2)) a 3 ((up2 (up2 r1 a 1 (r1 b1 1)) a 2 ((up2 r1 a 1 (r1 b1 1)) b1 2)) b1 3)) a 4 ((up2 (up2 (up2 r1 a 1 (r1 b1 1)) a 2 ((up2 r1 a 1 (r1 b1 1)) b1 2)) a 3 ((up2 (up2 r1 a 1 (r1 b1 1)) a 2 ((up2 r1 a 1 (r1 b1 1)) b1 2)) b1 3)) b1 4)) b1 5)) a 6 ((up2 (up2 (up2 (up2 (up2 r1 a 1 (r1 b1 1)) a 2 ((up2 r1 a 1 (r1 b1 1)) b1 2)) a 3 ((up2 (up2 r1 a 1 (r1 b1 1)) a 2 ((up2 r1 a 1 (r1 b1 1)) b1 2)) b1 3)) a 4 ((up2 (up2 (up2 r1 a 1 (r1 b1 1)) a 2 ((up2 r1 a 1 (r1 b1 1)) b1 2)) a 3 ((up2 (up2 r1 a 1 (r1 b1 1)) a 2 ((up2 r1 a 1 (r1 b1 1)) b1 2)) b1 3)) b1 4)) a 5 ((up2 (up2 (up2 (up2 r1 a 1 (r1 b1 1)) a 2 ((up2 r1 a 1 (r1 b1 1)) b1 2)) a 3 ((up2 (up2 r1 a 1 (r1 b1 1)) a 2 ((up2 r1 a 1 (r1 b1 1)) b1 2)) b1 3)) a 4 ((up2 (up2 (up2 r1 a 1 (r1 b1 1)) a 2 ((up2 r1 a 1 (r1 b1 1)) b1 2)) a 3 ((up2 (up2 r1 a 1 (r1 b1 1)) a 2 ((up2 r1 a 1 (r1 b1 1)) b1 2)) b1 3)) b1 4)) b1 5)) b1 6)) b1 7)) a 8 ((up2 (up2 (up2 (up2 (up2 (up2 (up2 r1 a 1 (r1 b1 1)) a 2 ((up2 r1 a 1 (r1 b1 1)) b1 2)) a 3 ((up2 (up2 r1 a 1 (r1 b1 1)) a 2 ((up2 r1 a 1 (r1 b1 1)) b1 2)) b1 3)) a 4 ((up2 (up2 (up2 r1 a 1 (r1 b1 1)) a 2 ((up2 r1 a 1 (r1 b1 1)) b1 2)) a 3 ((up2 (up2 r1 a 1 (r1 b1 1)) a 2 ((up2 r1 a 1 (r1 b1 1)) b1 2)) b1 3)) b1 4)) a 5 ((up2 (up2 (up2 (up2 r1 a 1 (r1 b1 1)) a 2 ((up2 r1 a 1 (r1 b1 1)) b1 2)) a 3 ((up2 (up2 r1 a 1 (r1 b1 1)) a 2 ((up2 r1 a 1 (r1 b1 1)) b1 2)) b1 3)) a 4 ((up2 (up2 (up2 r1 a 1 (r1 b1 1)) a 2 ((up2 r1 a 1 (r1 b1 1)) b1 2)) a 3 ((up2 (up2 r1 a 1 (r1 b1 1)) a 2 ((up2 r1 a 1 (r1 b1 1)) b1 2)) b1 3)) b1 4)) b1 5)) a 6 ((up2 (up2 (up2 (up2 (up2 r1 a 1 (r1 b1 1)) a 2 ((up2 r1 a 1 (r1 b1 1)) b1 2)) a 3 ((up2 (up2 r1 a 1 (r1 b1 1)) a 2 ((up2 r1 a 1 (r1 b1 1)) b1 2)) b1 3)) a 4 ((up2 (up2 (up2 r1 a 1 (r1 b1 1)) a 2 ((up2 r1 a 1 (r1 b1 1)) b1 2)) a 3 ((up2 (up2 r1 a 1 (r1 b1 1)) a 2 ((up2 r1 a 1 (r1 b1 1)) b1 2)) b1 3)) b1 4)) a 5 ((up2 (up2 (up2 (up2 r1 a 1 (r1 b1 1)) a 2 ((up2 r1 a 1 (r1 b1 1)) b1 2)) a 3 ((up2 (up2 r1 a 1 (r1 b1 1)) a 2 ((up2 r1 a 1 (r1 b1 1)) b1 2)) b1 3)) a 4 ((up2 (up2 (up2 r1 a 1 (r1 b1 1)) a 2 ((up2 r1 a 1 (r1 b1 1)) b1 2)) a 3 ((up2 (up2 r1 a 1 (r1 b1 1)) a 2 ((up2 r1 a 1 (r1 b1 1)) b1 2)) b1 3)) b1 4)) b1 5)) b1 6)) a 7 ((up2 (up2 (up2 (up2 (up2 (up2 r1 a 1 (r1 b1 1)) a 2 ((up2 r1 a 1 (r1 b1 1)) b1 2)) a 3 ((up2 (up2 r1 a 1 (r1 b1 1)) a 2 ((up2 r1 a 1 (r1 b1 1)) b1 2)) b1 3)) a 4 ((up2 (up2 (up2 r1 a 1 (r1 b1 1)) a 2 ((up2 r1 a 1 (r1 b1 1)) b1 2)) a 3 ((up2 (up2 r1 a 1 (r1 b1 1)) a 2 ((up2 r1 a 1 (r1 b1 1)) b1 2)) b1 3)) b1 4)) a 5 ((up2 (up2 (up2 (up2 r1 a 1 (r1 b1 1)) a 2 ((up2 r1 a 1 (r1 b1 1)) b1 2)) a 3 ((up2 (up2 r1 a 1 (r1 b1 1)) a 2 ((up2 r1 a 1 (r1 b1 1)) b1 2)) b1 3)) a 4 ((up2 (up2 (up2 r1 a 1 (r1 b1 1)) a 2 ((up2 r1 a 1 (r1 b1 1)) b1 2)) a 3 ((up2 (up2 r1 a 1 (r1 b1 1)) a 2 ((up2 r1 a 1 (r1 b1 1)) b1 2)) b1 3)) b1 4)) b1 5)) a 6 ((up2 (up2 (up2 (up2 (up2 r1 a 1 (r1 b1 1)) a 2 ((up2 r1 a 1 (r1 b1 1)) b1 2)) a 3 ((up2 (up2 r1 a 1 (r1 b1 1)) a 2 ((up2 r1 a 1 (r1 b1 1)) b1 2)) b1 3)) a 4 ((up2 (up2 (up2 r1 a 1 (r1 b1 1)) a 2 ((up2 r1 a 1 (r1 b1 1)) b1 2)) a 3 ((up2 (up2 r1 a 1 (r1 b1 1)) a 2 ((up2 r1 a 1 (r1 b1 1)) b1 2)) b1 3)) b1 4)) a 5 ((up2 (up2 (up2 (up2 r1 a 1 (r1 b1 1)) a 2 ((up2 r1 a 1 (r1 b1 1)) b1 2)) a 3 ((up2 (up2 r1 a 1 (r1 b1 1)) a 2 ((up2 r1 a 1 (r1 b1 1)) b1 2)) b1 3)) a 4 ((up2 (up2 (up2 r1 a 1 (r1 b1 1)) a 2 ((up2 r1 a 1 (r1 b1 1)) b1 2)) a 3 ((up2 (up2 r1 a 1 (r1 b1 1)) a 2 ((up2 r1 a 1 (r1 b1 1)) b1 2)) b1 3)) b1 4)) b1 5)) b1 6)) b1 7)) b1 8)) a 9 ((up2 (up2 (up2 (up2 (up2 (up2 (up2 (up2 r1 a 1 (r1 b1 1)) a 2 ((up2 r1 a 1 (r1 b1 1)) b1 2)) a 3 ((up2 (up2 r1 a 1 (r1 b1 1)) a 2 ((up2 r1 a 1 (r1 b1 1)) b1 2)) b1 3)) a 4 ((up2 (up2 (up2 r1 a 1 (r1 b1 1)) a 2 ((up2 r1 a 1 (r1 b1 1)) b1 2)) a 3 ((up2 (up2 r1 a 1 (r1 b1 1)) a 2 ((up2 r1 a 1 (r1 b1 1)) b1 2)) b1 3)) b1 4)) a 5 ((up2 (up2 (up2 (up2 r1 a 1 (r1 b1 1)) a 2 ((up2 r1 a 1 (r1 b1 1)) b1 2)) a 3 ((up2 (up2 r1 a 1 (r1 b1 1)) a 2 ((up2 r1 a 1 (r1 b1 1)) b1 2)) b1 3)) a 4 ((up2 (up2 (up2 r1 a 1 (r1 b1 1)) a 2 ((up2 r1 a 1 (r1 b1 1)) b1 2)) a 3 ((up2 (up2 r1 a 1 (r1 b1 1)) a 2 ((up2 r1 a 1 (r1 b1 1)) b1 2)) b1 3)) b1 4)) b1 5)) a 6 ((up2 (up2 (up2 (up2 (up2 r1 a 1 (r1 b1 1)) a 2 ((up2 r1 a 1 (r1 b1 1)) b1 2)) a 3 ((up2 (up2 r1 a 1 (r1 b1 1)) a 2 ((up2 r1 a 1 (r1 b1 1)) b1 2)) b1 3)) a 4 ((up2 (up2 (up2 r1 a 1 (r1 b1 1)) a 2 ((up2 r1 a 1 (r1 b1 1)) b1 2)) a 3 ((up2 (up2 r1 a 1 (r1 b1 1)) a 2 ((up2 r1 a 1 (r1 b1 1)) b1 2)) b1 3)) b1 4)) a 5 ((up2 (up2 (up2 (up2 r1 a 1 (r1 b1 1)) a 2 ((up2 r1 a 1 (r1 b1 1)) b1 2)) a 3 ((up2 (up2 r1 a 1 (r1 b1 1)) a 2 ((up2 r1 a 1 (r1 b1 1)) b1 2)) b1 3)) a 4 ((up2 (up2 (up2 r1 a 1 (r1 b1 1)) a 2 ((up2 r1 a 1 (r1 b1 1)) b1 2)) a 3 ((up2 (up2 r1 a 1 (r1 b1 1)) a 2 ((up2 r1 a 1 (r1 b1 1)) b1 2)) b1 3)) b1 4)) b1 5)) b1 6)) a 7 ((up2 (up2 (up2 (up2 (up2 (up2 r1 a 1 (r1 b1 1)) a 2 ((up2 r1 a 1 (r1 b1 1)) b1 2)) a 3 ((up2 (up2 r1 a 1 (r1 b1 1)) a 2 ((up2 r1 a 1 (r1 b1 1)) b1 2)) b1 3)) a 4 ((up2 (up2 (up2 r1 a 1 (r1 b1 1)) a 2 ((up2 r1 a 1 (r1 b1 1)) b1 2)) a 3 ((up2 (up2 r1 a 1 (r1 b1 1)) a 2 ((up2 r1 a 1 (r1 b1 1)) b1 2)) b1 3)) b1 4)) a 5 ((up2 (up2 (up2 (up2 r1 a 1 (r1 b1 1)) a 2 ((up2 r1 a 1 (r1 b1 1)) b1 2)) a 3 ((up2 (up2 r1 a 1 (r1 b1 1)) a 2 ((up2 r1 a 1 (r1 b1 1)) b1 2)) b1 3)) a 4 ((up2 (up2 (up2 r1 a 1 (r1 b1 1)) a 2 ((up2 r1 a 1 (r1 b1 1)) b1 2)) a 3 ((up2 (up2 r1 a 1 (r1 b1 1)) a 2 ((up2 r1 a 1 (r1 b1 1)) b1 2)) b1 3)) b1 4)) b1 5)) a 6 ((up2 (up2 (up2 (up2 (up2 r1 a 1 (r1 b1 1)) a 2 ((up2 r1 a 1 (r1 b1 1)) b1 2)) a 3 ((up2 (up2 r1 a 1 (r1 b1 1)) a 2 ((up2 r1 a 1 (r1 b1 1)) b1 2)) b1 3)) a 4 ((up2 (up2 (up2 r1 a 1 (r1 b1 1)) a 2 ((up2 r1 a 1 (r1 b1 1)) b1 2)) a 3 ((up2 (up2 r1 a 1 (r1 b1 1)) a 2 ((up2 r1 a 1 (r1 b1 1)) b1 2)) b1 3)) b1 4)) a 5 ((up2 (up2 (up2 (up2 r1 a 1 (r1 b1 1)) a 2 ((up2 r1 a 1 (r1 b1 1)) b1 2)) a 3 ((up2 (up2 r1 a 1 (r1 b1 1)) a 2 ((up2 r1 a 1 (r1 b1 1)) b1 2)) b1 3)) a 4 ((up2 (up2 (up2 r1 a 1 (r1 b1 1)) a 2 ((up2 r1 a 1 (r1 b1 1)) b1 2)) a 3 ((up2 (up2 r1 a 1 (r1 b1 1)) a 2 ((up2 r1 a 1 (r1 b1 1)) b1 2)) b1 3)) b1 4)) b1 5)) b1 6)) b1 7)) a 8 ((up2 (up2 (up2 (up2 (up2 (up2 (up2 r1 a 1 (r1 b1 1)) a 2 ((up2 r1 a 1 (r1 b1 1)) b1 2)) a 3 ((up2 (up2 r1 a 1 (r1 b1 1)) a 2 ((up2 r1 a 1 (r1 b1 1)) b1 2)) b1 3)) a 4 ((up2 (up2 (up2 r1 a 1 (r1 b1 1)) a 2 ((up2 r1 a 1 (r1 b1 1)) b1 2)) a 3 ((up2 (up2 r1 a 1 (r1 b1 1)) a 2 ((up2 r1 a 1 (r1 b1 1)) b1 2)) b1 3)) b1 4)) a 5 ((up2 (up2 (up2 (up2 r1 a 1 (r1 b1 1)) a 2 ((up2 r1 a 1 (r1 b1 1)) b1 2)) a 3 ((up2 (up2 r1 a 1 (r1 b1 1)) a 2 ((up2 r1 a 1 (r1 b1 1)) b1 2)) b1 3)) a 4 ((up2 (up2 (up2 r1 a 1 (r1 b1 1)) a 2 ((up2 r1 a 1 (r1 b1 1)) b1 2)) a 3 ((up2 (up2 r1 a 1 (r1 b1 1)) a 2 ((up2 r1 a 1 (r1 b1 1)) b1 2)) b1 3)) b1 4)) b1 5)) a 6 ((up2 (up2 (up2 (up2 (up2 r1 a 1 (r1 b1 1)) a 2 ((up2 r1 a 1 (r1 b1 1)) b1 2)) a 3 ((up2 (up2 r1 a 1 (r1 b1 1)) a 2 ((up2 r1 a 1 (r1 b1 1)) b1 2)) b1 3)) a 4 ((up2 (up2 (up2 r1 a 1 (r1 b1 1)) a 2 ((up2 r1 a 1 (r1 b1 1)) b1 2)) a 3 ((up2 (up2 r1 a 1 (r1 b1 1)) a 2 ((up2 r1 a 1 (r1 b1 1)) b1 2)) b1 3)) b1 4)) a 5 ((up2 (up2 (up2 (up2 r1 a 1 (r1 b1 1)) a 2 ((up2 r1 a 1 (r1 b1 1)) b1 2)) a 3 ((up2 (up2 r1 a 1 (r1 b1 1)) a 2 ((up2 r1 a 1 (r1 b1 1)) b1 2)) b1 3)) a 4 ((up2 (up2 (up2 r1 a 1 (r1 b1 1)) a 2 ((up2 r1 a 1 (r1 b1 1)) b1 2)) a 3 ((up2 (up2 r1 a 1 (r1 b1 1)) a 2 ((up2 r1 a 1 (r1 b1 1)) b1 2)) b1 3)) b1 4)) b1 5)) b1 6)) a 7 ((up2 (up2 (up2 (up2 (up2 (up2 r1 a 1 (r1 b1 1)) a 2 ((up2 r1 a 1 (r1 b1 1)) b1 2)) a 3 ((up2 (up2 r1 a 1 (r1 b1 1)) a 2 ((up2 r1 a 1 (r1 b1 1)) b1 2)) b1 3)) a 4 ((up2 (up2 (up2 r1 a 1 (r1 b1 1)) a 2 ((up2 r1 a 1 (r1 b1 1)) b1 2)) a 3 ((up2 (up2 r1 a 1 (r1 b1 1)) a 2 ((up2 r1 a 1 (r1 b1 1)) b1 2)) b1 3)) b1 4)) a 5 ((up2 (up2 (up2 (up2 r1 a 1 (r1 b1 1)) a 2 ((up2 r1 a 1 (r1 b1 1)) b1 2)) a 3 ((up2 (up2 r1 a 1 (r1 b1 1)) a 2 ((up2 r1 a 1 (r1 b1 1)) b1 2)) b1 3)) a 4 ((up2 (up2 (up2 r1 a 1 (r1 b1 1)) a 2 ((up2 r1 a 1 (r1 b1 1)) b1 2)) a 3 ((up2 (up2 r1 a 1 (r1 b1 1)) a 2 ((up2 r1 a 1 (r1 b1 1)) b1 2)) b1 3)) b1 4)) b1 5)) a 6 ((up2 (up2 (up2 (up2 (up2 r1 a 1 (r1 b1 1)) a 2 ((up2 r1 a 1 (r1 b1 1)) b1 2)) a 3 ((up2 (up2 r1 a 1 (r1 b1 1)) a 2 ((up2 r1 a 1 (r1 b1 1)) b1 2)) b1 3)) a 4 ((up2 (up2 (up2 r1 a 1 (r1 b1 1)) a 2 ((up2 r1 a 1 (r1 b1 1)) b1 2)) a 3 ((up2 (up2 r1 a 1 (r1 b1 1)) a 2 ((up2 r1 a 1 (r1 b1 1)) b1 2)) b1 3)) b1 4)) a 5 ((up2 (up2 (up2 (up2 r1 a 1 (r1 b1 1)) a 2 ((up2 r1 a 1 (r1 b1 1)) b1 2)) a 3 ((up2 (up2 r1 a 1 (r1 b1 1)) a 2 ((up2 r1 a 1 (r1 b1 1)) b1 2)) b1 3)) a 4 ((up2 (up2 (up2 r1 a 1 (r1 b1 1)) a 2 ((up2 r1 a 1 (r1 b1 1)) b1 2)) a 3 ((up2 (up2 r1 a 1 (r1 b1 1)) a 2 ((up2 r1 a 1 (r1 b1 1)) b1 2)) b1 3)) b1 4)) b1 5)) b1 6)) b1 7)) b1 8)) b1 9)) a 10 ((up2 (up2 (up2 (up2 (up2 (up2 (up2 (up2 (up2 r1 a 1 (r1 b1 1)) a 2 ((up2 r1 a 1 (r1 b1 1)) b1 2)) a 3 ((up2 (up2 r1 a 1 (r1 b1 1)) a 2 ((up2 r1 a 1 (r1 b1 1)) b1 2)) b1 3)) a 4 ((up2 (up2 (up2 r1 a 1 (r1 b1 1)) a 2 ((up2 r1 a 1 (r1 b1 1)) b1 2)) a 3 ((up2 (up2 r1 a 1 (r1 b1 1)) a 2 ((up2 r1 a 1 (r1 b1 1)) b1 2)) b1 3)) b1 4)) a 5 ((up2 (up2 (up2 (up2 r1 a 1 (r1 b1 1)) a 2 ((up2 r1 a 1 (r1 b1 1)) b1 2)) a 3 ((up2 (up2 r1 a 1 (r1 b1 1)) a 2 ((up2 r1 a 1 (r1 b1 1)) b1 2)) b1 3)) a 4 ((up2 (up2 (up2 r1 a 1 (r1 b1 1)) a 2 ((up2 r1 a 1 (r1 b1 1)) b1 2)) a 3 ((up2 (up2 r1 a 1 (r1 b1 1)) a 2 ((up2 r1 a 1 (r1 b1 1)) b1 2)) b1 3)) b1 4)) b1 5)) a 6 ((up2 (up2 (up2 (up2 (up2 r1 a 1 (r1 b1 1)) a 2 ((up2 r1 a 1 (r1 b1 1)) b1 2)) a 3 ((up2 (up2 r1 a 1 (r1 b1 1)) a 2 ((up2 r1 a 1 (r1 b1 1)) b1 2)) b1 3)) a 4 ((up2 (up2 (up2 r1 a 1 (r1 b1 1)) a 2 ((up2 r1 a 1 (r1 b1 1)) b1 2)) a 3 ((up2 (up2 r1 a 1 (r1 b1 1)) a 2 ((up2 r1 a 1 (r1 b1 1)) b1 2)) b1 3)) b1 4)) a 5 ((up2 (up2 (up2 (up2 r1 a 1 (r1 b1 1)) a 2 ((up2 r1 a 1 (r1 b1 1)) b1 2)) a 3 ((up2 (up2 r1 a 1 (r1 b1 1)) a 2 ((up2 r1 a 1 (r1 b1 1)) b1 2)) b1 3)) a 4 ((up2 (up2 (up2 r1 a 1 (r1 b1 1)) a 2 ((up2 r1 a 1 (r1 b1 1)) b1 2)) a 3 ((up2 (up2 r1 a 1 (r1 b1 1)) a 2 ((up2 r1 a 1 (r1 b1 1)) b1 2)) b1 3)) b1 4)) b1 5)) b1 6)) a 7 ((up2 (up2 (up2 (up2 (up2 (up2 r1 a 1 (r1 b1 1)) a 2 ((up2 r1 a 1 (r1 b1 1)) b1 2)) a 3 ((up2 (up2 r1 a 1 (r1 b1 1)) a 2 ((up2 r1 a 1 (r1 b1 1)) b1 2)) b1 3)) a 4 ((up2 (up2 (up2 r1 a 1 (r1 b1 1)) a 2 ((up2 r1 a 1 (r1 b1 1)) b1 2)) a 3 ((up2 (up2 r1 a 1 (r1 b1 1)) a 2 ((up2 r1 a 1 (r1 b1 1)) b1 2)) b1 3)) b1 4)) a 5 ((up2 (up2 (up2 (up2 r1 a 1 (r1 b1 1)) a 2 ((up2 r1 a 1 (r1 b1 1)) b1 2)) a 3 ((up2 (up2 r1 a 1 (r1 b1 1)) a 2 ((up2 r1 a 1 (r1 b1 1)) b1 2)) b1 3)) a 4 ((up2 (up2 (up2 r1 a 1 (r1 b1 1)) a 2 ((up2 r1 a 1 (r1 b1 1)) b1 2)) a 3 ((up2 (up2 r1 a 1 (r1 b1 1)) a 2 ((up2 r1 a 1 (r1 b1 1)) b1 2)) b1 3)) b1 4)) b1 5)) a 6 ((up2 (up2 (up2 (up2 (up2 r1 a 1 (r1 b1 1)) a 2 ((up2 r1 a 1 (r1 b1 1)) b1 2)) a 3 ((up2 (up2 r1 a 1 (r1 b1 1)) a 2 ((up2 r1 a 1 (r1 b1 1)) b1 2)) b1 3)) a 4 ((up2 (up2 (up2 r1 a 1 (r1 b1 1)) a 2 ((up2 r1 a 1 (r1 b1 1)) b1 2)) a 3 ((up2 (up2 r1 a 1 (r1 b1 1)) a 2 ((up2 r1 a 1 (r1 b1 1)) b1 2)) b1 3)) b1 4)) a 5 ((up2 (up2 (up2 (up2 r1 a 1 (r1 b1 1)) a 2 ((up2 r1 a 1 (r1 b1 1)) b1 2)) a 3 ((up2 (up2 r1 a 1 (r1 b1 1)) a 2 ((up2 r1 a 1 (r1 b1 1)) b1 2)) b1 3)) a 4 ((up2 (up2 (up2 r1 a 1 (r1 b1 1)) a 2 ((up2 r1 a 1 (r1 b1 1)) b1 2)) a 3 ((up2 (up2 r1 a 1 (r1 b1 1)) a 2 ((up2 r1 a 1 (r1 b1 1)) b1 2)) b1 3)) b1 4)) b1 5)) b1 6)) b1 7)) a 8 ((up2 (up2 (up2 (up2 (up2 (up2 (up2 r1 a 1 (r1 b1 1)) a 2 ((up2 r1 a 1 (r1 b1 1)) b1 2)) a 3 ((up2 (up2 r1 a 1 (r1 b1 1)) a 2 ((up2 r1 a 1 (r1 b1 1)) b1 2)) b1 3)) a 4 ((up2 (up2 (up2 r1 a 1 (r1 b1 1)) a 2 ((up2 r1 a 1 (r1 b1 1)) b1 2)) a 3 ((up2 (up2 r1 a 1 (r1 b1 1)) a 2 ((up2 r1 a 1 (r1 b1 1)) b1 2)) b1 3)) b1 4)) a 5 ((up2 (up2 (up2 (up2 r1 a 1 (r1 b1 1)) a 2 ((up2 r1 a 1 (r1 b1 1)) b1 2)) a 3 ((up2 (up2 r1 a 1 (r1 b1 1)) a 2 ((up2 r1 a 1 (r1 b1 1)) b1 2)) b1 3)) a 4 ((up2 (up2 (up2 r1 a 1 (r1 b1 1)) a 2 ((up2 r1 a 1 (r1 b1 1)) b1 2)) a 3 ((up2 (up2 r1 a 1 (r1 b1 1)) a 2 ((up2 r1 a 1 (r1 b1 1)) b1 2)) b1 3)) b1 4)) b1 5)) a 6 ((up2 (up2 (up2 (up2 (up2 r1 a 1 (r1 b1 1)) a 2 ((up2 r1 a 1 (r1 b1 1)) b1 2)) a 3 ((up2 (up2 r1 a 1 (r1 b1 1)) a 2 ((up2 r1 a 1 (r1 b1 1)) b1 2)) b1 3)) a 4 ((up2 (up2 (up2 r1 a 1 (r1 b1 1)) a 2 ((up2 r1 a 1 (r1 b1 1)) b1 2)) a 3 ((up2 (up2 r1 a 1 (r1 b1 1)) a 2 ((up2 r1 a 1 (r1 b1 1)) b1 2)) b1 3)) b1 4)) a 5 ((up2 (up2 (up2 (up2 r1 a 1 (r1 b1 1)) a 2 ((up2 r1 a 1 (r1 b1 1)) b1 2)) a 3 ((up2 (up2 r1 a 1 (r1 b1 1)) a 2 ((up2 r1 a 1 (r1 b1 1)) b1 2)) b1 3)) a 4 ((up2 (up2 (up2 r1 a 1 (r1 b1 1)) a 2 ((up2 r1 a 1 (r1 b1 1)) b1 2)) a 3 ((up2 (up2 r1 a 1 (r1 b1 1)) a 2 ((up2 r1 a 1 (r1 b1 1)) b1 2)) b1 3)) b1 4)) b1 5)) b1 6)) a 7 ((up2 (up2 (up2 (up2 (up2 (up2 r1 a 1 (r1 b1 1)) a 2 ((up2 r1 a 1 (r1 b1 1)) b1 2)) a 3 ((up2 (up2 r1 a 1 (r1 b1 1)) a 2 ((up2 r1 a 1 (r1 b1 1)) b1 2)) b1 3)) a 4 ((up2 (up2 (up2 r1 a 1 (r1 b1 1)) a 2 ((up2 r1 a 1 (r1 b1 1)) b1 2)) a 3 ((up2 (up2 r1 a 1 (r1 b1 1)) a 2 ((up2 r1 a 1 (r1 b1 1)) b1 2)) b1 3)) b1 4)) a 5 ((up2 (up2 (up2 (up2 r1 a 1 (r1 b1 1)) a 2 ((up2 r1 a 1 (r1 b1 1)) b1 2)) a 3 ((up2 (up2 r1 a 1 (r1 b1 1)) a 2 ((up2 r1 a 1 (r1 b1 1)) b1 2)) b1 3)) a 4 ((up2 (up2 (up2 r1 a 1 (r1 b1 1)) a 2 ((up2 r1 a 1 (r1 b1 1)) b1 2)) a 3 ((up2 (up2 r1 a 1 (r1 b1 1)) a 2 ((up2 r1 a 1 (r1 b1 1)) b1 2)) b1 3)) b1 4)) b1 5)) a 6 ((up2 (up2 (up2 (up2 (up2 r1 a 1 (r1 b1 1)) a 2 ((up2 r1 a 1 (r1 b1 1)) b1 2)) a 3 ((up2 (up2 r1 a 1 (r1 b1 1)) a 2 ((up2 r1 a 1 (r1 b1 1)) b1 2)) b1 3)) a 4 ((up2 (up2 (up2 r1 a 1 (r1 b1 1)) a 2 ((up2 r1 a 1 (r1 b1 1)) b1 2)) a 3 ((up2 (up2 r1 a 1 (r1 b1 1)) a 2 ((up2 r1 a 1 (r1 b1 1)) b1 2)) b1 3)) b1 4)) a 5 ((up2 (up2 (up2 (up2 r1 a 1 (r1 b1 1)) a 2 ((up2 r1 a 1 (r1 b1 1)) b1 2)) a 3 ((up2 (up2 r1 a 1 (r1 b1 1)) a 2 ((up2 r1 a 1 (r1 b1 1)) b1 2)) b1 3)) a 4 ((up2 (up2 (up2 r1 a 1 (r1 b1 1)) a 2 ((up2 r1 a 1 (r1 b1 1)) b1 2)) a 3 ((up2 (up2 r1 a 1 (r1 b1 1)) a 2 ((up2 r1 a 1 (r1 b1 1)) b1 2)) b1 3)) b1 4)) b1 5)) b1 6)) b1 7)) b1 8)) a 9 ((up2 (up2 (up2 (up2 (up2 (up2 (up2 (up2 r1 a 1 (r1 b1 1)) a 2 ((up2 r1 a 1 (r1 b1 1)) b1 2)) a 3 ((up2 (up2 r1 a 1 (r1 b1 1)) a 2 ((up2 r1 a 1 (r1 b1 1)) b1 2)) b1 3)) a 4 ((up2 (up2 (up2 r1 a 1 (r1 b1 1)) a 2 ((up2 r1 a 1 (r1 b1 1)) b1 2)) a 3 ((up2 (up2 r1 a 1 (r1 b1 1)) a 2 ((up2 r1 a 1 (r1 b1 1)) b1 2)) b1 3)) b1 4)) a 5 ((up2 (up2 (up2 (up2 r1 a 1 (r1 b1 1)) a 2 ((up2 r1 a 1 (r1 b1 1)) b1 2)) a 3 ((up2 (up2 r1 a 1 (r1 b1 1)) a 2 ((up2 r1 a 1 (r1 b1 1)) b1 2)) b1 3)) a 4 ((up2 (up2 (up2 r1 a 1 (r1 b1 1)) a 2 ((up2 r1 a 1 (r1 b1 1)) b1 2)) a 3 ((up2 (up2 r1 a 1 (r1 b1 1)) a 2 ((up2 r1 a 1 (r1 b1 1)) b1 2)) b1 3)) b1 4)) b1 5)) a 6 ((up2 (up2 (up2 (up2 (up2 r1 a 1 (r1 b1 1)) a 2 ((up2 r1 a 1 (r1 b1 1)) b1 2)) a 3 ((up2 (up2 r1 a 1 (r1 b1 1)) a 2 ((up2 r1 a 1 (r1 b1 1)) b1 2)) b1 3)) a 4 ((up2 (up2 (up2 r1 a 1 (r1 b1 1)) a 2 ((up2 r1 a 1 (r1 b1 1)) b1 2)) a 3 ((up2 (up2 r1 a 1 (r1 b1 1)) a 2 ((up2 r1 a 1 (r1 b1 1)) b1 2)) b1 3)) b1 4)) a 5 ((up2 (up2 (up2 (up2 r1 a 1 (r1 b1 1)) a 2 ((up2 r1 a 1 (r1 b1 1)) b1 2)) a 3 ((up2 (up2 r1 a 1 (r1 b1 1)) a 2 ((up2 r1 a 1 (r1 b1 1)) b1 2)) b1 3)) a 4 ((up2 (up2 (up2 r1 a 1 (r1 b1 1)) a 2 ((up2 r1 a 1 (r1 b1 1)) b1 2)) a 3 ((up2 (up2 r1 a 1 (r1 b1 1)) a 2 ((up2 r1 a 1 (r1 b1 1)) b1 2)) b1 3)) b1 4)) b1 5)) b1 6)) a 7 ((up2 (up2 (up2 (up2 (up2 (up2 r1 a 1 (r1 b1 1)) a 2 ((up2 r1 a 1 (r1 b1 1)) b1 2)) a 3 ((up2 (up2 r1 a 1 (r1 b1 1)) a 2 ((up2 r1 a 1 (r1 b1 1)) b1 2)) b1 3)) a 4 ((up2 (up2 (up2 r1 a 1 (r1 b1 1)) a 2 ((up2 r1 a 1 (r1 b1 1)) b1 2)) a 3 ((up2 (up2 r1 a 1 (r1 b1 1)) a 2 ((up2 r1 a 1 (r1 b1 1)) b1 2)) b1 3)) b1 4)) a 5 ((up2 (up2 (up2 (up2 r1 a 1 (r1 b1 1)) a 2 ((up2 r1 a 1 (r1 b1 1)) b1 2)) a 3 ((up2 (up2 r1 a 1 (r1 b1 1)) a 2 ((up2 r1 a 1 (r1 b1 1)) b1 2)) b1 3)) a 4 ((up2 (up2 (up2 r1 a 1 (r1 b1 1)) a 2 ((up2 r1 a 1 (r1 b1 1)) b1 2)) a 3 ((up2 (up2 r1 a 1 (r1 b1 1)) a 2 ((up2 r1 a 1 (r1 b1 1)) b1 2)) b1 3)) b1 4)) b1 5)) a 6 ((up2 (up2 (up2 (up2 (up2 r1 a 1 (r1 b1 1)) a 2 ((up2 r1 a 1 (r1 b1 1)) b1 2)) a 3 ((up2 (up2 r1 a 1 (r1 b1 1)) a 2 ((up2 r1 a 1 (r1 b1 1)) b1 2)) b1 3)) a 4 ((up2 (up2 (up2 r1 a 1 (r1 b1 1)) a 2 ((up2 r1 a 1 (r1 b1 1)) b1 2)) a 3 ((up2 (up2 r1 a 1 (r1 b1 1)) a 2 ((up2 r1 a 1 (r1 b1 1)) b1 2)) b1 3)) b1 4)) a 5 ((up2 (up2 (up2 (up2 r1 a 1 (r1 b1 1)) a 2 ((up2 r1 a 1 (r1 b1 1)) b1 2)) a 3 ((up2 (up2 r1 a 1 (r1 b1 1)) a 2 ((up2 r1 a 1 (r1 b1 1)) b1 2)) b1 3)) a 4 ((up2 (up2 (up2 r1 a 1 (r1 b1 1)) a 2 ((up2 r1 a 1 (r1 b1 1)) b1 2)) a 3 ((up2 (up2 r1 a 1 (r1 b1 1)) a 2 ((up2 r1 a 1 (r1 b1 1)) b1 2)) b1 3)) b1 4)) b1 5)) b1 6)) b1 7)) a 8 ((up2 (up2 (up2 (up2 (up2 (up2 (up2 r1 a 1 (r1 b1 1)) a 2 ((up2 r1 a 1 (r1 b1 1)) b1 2)) a 3 ((up2 (up2 r1 a 1 (r1 b1 1)) a 2 ((up2 r1 a 1 (r1 b1 1)) b1 2)) b1 3)) a 4 ((up2 (up2 (up2 r1 a 1 (r1 b1 1)) a 2 ((up2 r1 a 1 (r1 b1 1)) b1 2)) a 3 ((up2 (up2 r1 a 1 (r1 b1 1)) a 2 ((up2 r1 a 1 (r1 b1 1)) b1 2)) b1 3)) b1 4)) a 5 ((up2 (up2 (up2 (up2 r1 a 1 (r1 b1 1)) a 2 ((up2 r1 a 1 (r1 b1 1)) b1 2)) a 3 ((up2 (up2 r1 a 1 (r1 b1 1)) a 2 ((up2 r1 a 1 (r1 b1 1)) b1 2)) b1 3)) a 4 ((up2 (up2 (up2 r1 a 1 (r1 b1 1)) a 2 ((up2 r1 a 1 (r1 b1 1)) b1 2)) a 3 ((up2 (up2 r1 a 1 (r1 b1 1)) a 2 ((up2 r1 a 1 (r1 b1 1)) b1 2)) b1 3)) b1 4)) b1 5)) a 6 ((up2 (up2 (up2 (up2 (up2 r1 a 1 (r1 b1 1)) a 2 ((up2 r1 a 1 (r1 b1 1)) b1 2)) a 3 ((up2 (up2 r1 a 1 (r1 b1 1)) a 2 ((up2 r1 a 1 (r1 b1 1)) b1 2)) b1 3)) a 4 ((up2 (up2 (up2 r1 a 1 (r1 b1 1)) a 2 ((up2 r1 a 1 (r1 b1 1)) b1 2)) a 3 ((up2 (up2 r1 a 1 (r1 b1 1)) a 2 ((up2 r1 a 1 (r1 b1 1)) b1 2)) b1 3)) b1 4)) a 5 ((up2 (up2 (up2 (up2 r1 a 1 (r1 b1 1)) a 2 ((up2 r1 a 1 (r1 b1 1)) b1 2)) a 3 ((up2 (up2 r1 a 1 (r1 b1 1)) a 2 ((up2 r1 a 1 (r1 b1 1)) b1 2)) b1 3)) a 4 ((up2 (up2 (up2 r1 a 1 (r1 b1 1)) a 2 ((up2 r1 a 1 (r1 b1 1)) b1 2)) a 3 ((up2 (up2 r1 a 1 (r1 b1 1)) a 2 ((up2 r1 a 1 (r1 b1 1)) b1 2)) b1 3)) b1 4)) b1 5)) b1 6)) a 7 ((up2 (up2 (up2 (up2 (up2 (up2 r1 a 1 (r1 b1 1)) a 2 ((up2 r1 a 1 (r1 b1 1)) b1 2)) a 3 ((up2 (up2 r1 a 1 (r1 b1 1)) a 2 ((up2 r1 a 1 (r1 b1 1)) b1 2)) b1 3)) a 4 ((up2 (up2 (up2 r1 a 1 (r1 b1 1)) a 2 ((up2 r1 a 1 (r1 b1 1)) b1 2)) a 3 ((up2 (up2 r1 a 1 (r1 b1 1)) a 2 ((up2 r1 a 1 (r1 b1 1)) b1 2)) b1 3)) b1 4)) a 5 ((up2 (up2 (up2 (up2 r1 a 1 (r1 b1 1)) a 2 ((up2 r1 a 1 (r1 b1 1)) b1 2)) a 3 ((up2 (up2 r1 a 1 (r1 b1 1)) a 2 ((up2 r1 a 1 (r1 b1 1)) b1 2)) b1 3)) a 4 ((up2 (up2 (up2 r1 a 1 (r1 b1 1)) a 2 ((up2 r1 a 1 (r1 b1 1)) b1 2)) a 3 ((up2 (up2 r1 a 1 (r1 b1 1)) a 2 ((up2 r1 a 1 (r1 b1 1)) b1 2)) b1 3)) b1 4)) b1 5)) a 6 ((up2 (up2 (up2 (up2 (up2 r1 a 1 (r1 b1 1)) a 2 ((up2 r1 a 1 (r1 b1 1)) b1 2)) a 3 ((up2 (up2 r1 a 1 (r1 b1 1)) a 2 ((up2 r1 a 1 (r1 b1 1)) b1 2)) b1 3)) a 4 ((up2 (up2 (up2 r1 a 1 (r1 b1 1)) a 2 ((up2 r1 a 1 (r1 b1 1)) b1 2)) a 3 ((up2 (up2 r1 a 1 (r1 b1 1)) a 2 ((up2 r1 a 1 (r1 b1 1)) b1 2)) b1 3)) b1 4)) a 5 ((up2 (up2 (up2 (up2 r1 a 1 (r1 b1 1)) a 2 ((up2 r1 a 1 (r1 b1 1)) b1 2)) a 3 ((up2 (up2 r1 a 1 (r1 b1 1)) a 2 ((up2 r1 a 1 (r1 b1 1)) b1 2)) b1 3)) a 4 ((up2 (up2 (up2 r1 a 1 (r1 b1 1)) a 2 ((up2 r1 a 1 (r1 b1 1)) b1 2)) a 3 ((up2 (up2 r1 a 1 (r1 b1 1)) a 2 ((up2 r1 a 1 (r1 b1 1)) b1 2)) b1 3)) b1 4)) b1 5)) b1 6)) b1 7)) b1 8)) b1 9)) b1 10)) b1 11)) b1 12)) b1 13)) b1 14))
set_option maxRecDepth 4000 in
set_option maxHeartbeats 4000000 in
theorem C_X3_copy {g : gX} {d : Nat} {P : Nat → Nat → Option Nat} {I : HI} {a : Nat} {b1 : Nat} {J : HJ} (hp : Wp P) (ha : OB NT a 3) (hb1 : OB NT b1 3) {r : HI} (h : F_X3_copy I a b1 = some r) : Cm g mX3_copy (d + 2) [.ref a, .ref b1] (NT, I, J, P) none (NT, r, J, P) := by
  unfold F_X3_copy at h
  refine Cm.of (by decide) (by simp [Value.category]) (Nat.le_of_ble_eq_true rfl) (Nat.le_refl _) (ls := [some (.ref a), some (.ref b1)]) rfl ?_
  refine M_aload_n (pc := 0) dX3_copy_0 rfl ?_
  refine M_getR (pc := 1) dX3_copy_1 f_X3_12 ha (gr_3_0 hp ha).1 ?_
  refine M_aload_n (pc := 4) dX3_copy_4 rfl ?_
  refine M_getR (pc := 5) dX3_copy_5 f_X3_12 hb1 (gr_3_0 hp hb1).1 ?_
  obtain ⟨r1, hr2, h⟩ := bnd h
  refine M_callVv (pc := 8) dX3_copy_8 v_X3_111 rfl rfl (gr_3_0 hp ha).2 (Nat.le_of_ble_eq_true rfl) (C_X1_copy (d := d + 0) hp (gr_3_0 hp ha).2 (gr_3_0 hp hb1).2 hr2) (Nat.le_refl _) ?_
  refine M_aload_n (pc := 11) dX3_copy_11 rfl ?_
  refine M_aload_n (pc := 12) dX3_copy_12 rfl ?_
  refine M_getI (pc := 13) dX3_copy_13 f_X3_18 hb1 ?_
  refine M_putI (pc := 16) dX3_copy_16 f_X3_18 ha rfl ⟨rfl, rfl⟩ ?_
  refine M_aload_n (pc := 19) dX3_copy_19 rfl ?_
  refine M_aload_n (pc := 20) dX3_copy_20 rfl ?_
  refine M_getI (pc := 21) dX3_copy_21 f_X3_22 hb1 ?_
  refine M_putI (pc := 24) dX3_copy_24 f_X3_22 ha rfl ⟨rfl, rfl⟩ ?_
  refine M_aload_n (pc := 27) dX3_copy_27 rfl ?_
  refine M_aload_n (pc := 28) dX3_copy_28 rfl ?_
  refine M_getI (pc := 29) dX3_copy_29 f_X3_25 hb1 ?_
  refine M_putI (pc := 32) dX3_copy_32 f_X3_25 ha rfl ⟨rfl, rfl⟩ ?_
  refine M_aload_n (pc := 35) dX3_copy_35 rfl ?_
  refine M_aload_n (pc := 36) dX3_copy_36 rfl ?_
  refine M_getI (pc := 37) dX3_copy_37 f_X3_28 hb1 ?_
  refine M_putI (pc := 40) dX3_copy_40 f_X3_28 ha rfl ⟨rfl, rfl⟩ ?_
  refine M_aload_n (pc := 43) dX3_copy_43 rfl ?_
  refine M_aload_n (pc := 44) dX3_copy_44 rfl ?_
  refine M_getI (pc := 45) dX3_copy_45 f_X3_31 hb1 ?_
  refine M_putI (pc := 48) dX3_copy_48 f_X3_31 ha rfl ⟨rfl, rfl⟩ ?_
  refine M_aload_n (pc := 51) dX3_copy_51 rfl ?_
  refine M_aload_n (pc := 52) dX3_copy_52 rfl ?_
  refine M_getI (pc := 53) dX3_copy_53 f_X3_34 hb1 ?_
  refine M_putI (pc := 56) dX3_copy_56 f_X3_34 ha rfl ⟨rfl, rfl⟩ ?_
  refine M_aload_n (pc := 59) dX3_copy_59 rfl ?_
  refine M_aload_n (pc := 60) dX3_copy_60 rfl ?_
  refine M_getI (pc := 61) dX3_copy_61 f_X3_37 hb1 ?_
  refine M_putI (pc := 64) dX3_copy_64 f_X3_37 ha rfl ⟨rfl, rfl⟩ ?_
  refine M_aload_n (pc := 67) dX3_copy_67 rfl ?_
  refine M_aload_n (pc := 68) dX3_copy_68 rfl ?_
  refine M_getI (pc := 69) dX3_copy_69 f_X3_40 hb1 ?_
  refine M_putI (pc := 72) dX3_copy_72 f_X3_40 ha rfl ⟨rfl, rfl⟩ ?_
  refine M_aload_n (pc := 75) dX3_copy_75 rfl ?_
  refine M_aload_n (pc := 76) dX3_copy_76 rfl ?_
  refine M_getI (pc := 77) dX3_copy_77 f_X3_43 hb1 ?_
  refine M_putI (pc := 80) dX3_copy_80 f_X3_43 ha rfl ⟨rfl, rfl⟩ ?_
  refine M_aload_n (pc := 83) dX3_copy_83 rfl ?_
  refine M_aload_n (pc := 84) dX3_copy_84 rfl ?_
  refine M_getI (pc := 85) dX3_copy_85 f_X3_46 hb1 ?_
  refine M_putI (pc := 88) dX3_copy_88 f_X3_46 ha rfl ⟨rfl, rfl⟩ ?_
  refine M_aload_n (pc := 91) dX3_copy_91 rfl ?_
  refine M_aload_n (pc := 92) dX3_copy_92 rfl ?_
  refine M_getI (pc := 93) dX3_copy_93 f_X3_49 hb1 ?_
  refine M_putI (pc := 96) dX3_copy_96 f_X3_49 ha rfl ⟨rfl, rfl⟩ ?_
  refine M_aload_n (pc := 99) dX3_copy_99 rfl ?_
  refine M_aload_n (pc := 100) dX3_copy_100 rfl ?_
  refine M_getI (pc := 101) dX3_copy_101 f_X3_52 hb1 ?_
  refine M_putI (pc := 104) dX3_copy_104 f_X3_52 ha rfl ⟨rfl, rfl⟩ ?_
  refine M_aload_n (pc := 107) dX3_copy_107 rfl ?_
  refine M_aload_n (pc := 108) dX3_copy_108 rfl ?_
  refine M_getI (pc := 109) dX3_copy_109 f_X3_55 hb1 ?_
  refine M_putI (pc := 112) dX3_copy_112 f_X3_55 ha rfl ⟨rfl, rfl⟩ ?_
  refine M_aload_n (pc := 115) dX3_copy_115 rfl ?_
  refine M_aload_n (pc := 116) dX3_copy_116 rfl ?_
  refine M_getI (pc := 117) dX3_copy_117 f_X3_58 hb1 ?_
  refine M_putI (pc := 120) dX3_copy_120 f_X3_58 ha rfl ⟨rfl, rfl⟩ ?_
  obtain rfl := Option.some.inj h
  exact M_vret (pc := 123) dX3_copy_123 rfl rfl rfl
def F_X4_clear (I : HI) (a : Nat) : Option (HI) :=
  some (up2 (up2 I a 0 (0 : Int32)) a 5 (0 : Int32))
set_option maxRecDepth 4000 in
set_option maxHeartbeats 4000000 in
theorem C_X4_clear {g : gX} {d : Nat} {P : Nat → Nat → Option Nat} {I : HI} {a : Nat} {J : HJ} (hp : Wp P) (ha : OB NT a 4) {r : HI} (h : F_X4_clear I a = some r) : Cm g mX4_clear (d + 0) [.ref a] (NT, I, J, P) none (NT, r, J, P) := by
  unfold F_X4_clear at h
  refine Cm.of (by decide) (by simp [Value.category]) (Nat.le_of_ble_eq_true rfl) (Nat.le_refl _) (ls := [some (.ref a)]) rfl ?_
  refine M_aload_n (pc := 0) dX4_clear_0 rfl ?_
  refine M_iconst (pc := 1) (v := 0) dX4_clear_1 (by decide) ?_
  refine M_putI (pc := 2) dX4_clear_2 f_X4_9 ha rfl ⟨rfl, rfl⟩ ?_
  refine M_aload_n (pc := 5) dX4_clear_5 rfl ?_
  refine M_iconst (pc := 6) (v := 0) dX4_clear_6 (by decide) ?_
  refine M_putI (pc := 7) dX4_clear_7 f_X4_28 ha rfl ⟨rfl, rfl⟩ ?_
  obtain rfl := Option.some.inj h
  exact M_vret (pc := 10) dX4_clear_10 rfl rfl rfl
def F_X4_add (I : HI) (a : Nat) (x1 : Int32) : Option (HI) :=
  if (400 : Int32) ≤ (I a 5) then some I else if inB (I a 5) 400 = true then some (up2 (up2 I (a + 4) ((I a 5)).toNatClampNeg x1) a 5 (((up2 I (a + 4) ((I a 5)).toNatClampNeg x1) a 5) + (1 : Int32))) else none
set_option maxRecDepth 4000 in
set_option maxHeartbeats 4000000 in
theorem C_X4_add {g : gX} {d : Nat} {P : Nat → Nat → Option Nat} {I : HI} {a : Nat} {x1 : Int32} {J : HJ} (hp : Wp P) (ha : OB NT a 4) {r : HI} (h : F_X4_add I a x1 = some r) : Cm g mX4_add (d + 0) [.ref a, .int x1] (NT, I, J, P) none (NT, r, J, P) := by
  unfold F_X4_add at h
  refine Cm.of (by decide) (by simp [Value.category]) (Nat.le_of_ble_eq_true rfl) (Nat.le_refl _) (ls := [some (.ref a), some (.int x1)]) rfl ?_
  refine M_aload_n (pc := 0) dX4_add_0 rfl ?_
  refine M_getI (pc := 1) dX4_add_1 f_X4_28 ha ?_
  refine M_sipush (pc := 4) (v := 400) dX4_add_4 (by decide) ?_
  refine M_icmp_ge (pc := 7) (tgt := 30) dX4_add_7 (by decide) (fun hc1 => ?_) (fun hc1 => ?_)
  · have h := (if_pos hc1).symm.trans h
    obtain rfl := Option.some.inj h
    exact M_vret (pc := 30) dX4_add_30 rfl rfl rfl
  · have h := (if_neg hc1).symm.trans h
    refine M_aload_n (pc := 10) dX4_add_10 rfl ?_
    refine M_getR (pc := 11) dX4_add_11 f_X4_25 ha (gr_4_4 hp ha).1 ?_
    refine M_aload_n (pc := 14) dX4_add_14 rfl ?_
    refine M_getI (pc := 15) dX4_add_15 f_X4_28 ha ?_
    refine M_iload_n (pc := 18) dX4_add_18 rfl ?_
    obtain ⟨hb2, h⟩ := chk h
    refine M_iast (pc := 19) dX4_add_19 (gr_4_4 hp ha).2 (inB_in hb2) ?_
    refine M_aload_n (pc := 20) dX4_add_20 rfl ?_
    refine M_dup (pc := 21) dX4_add_21 rfl ?_
    refine M_getI (pc := 22) dX4_add_22 f_X4_28 ha ?_
    refine M_iconst (pc := 25) (v := 1) dX4_add_25 (by decide) ?_
    refine M_iadd (pc := 26) dX4_add_26 ?_
    refine M_putI (pc := 27) dX4_add_27 f_X4_28 ha rfl ⟨rfl, rfl⟩ ?_
    obtain rfl := Option.some.inj h
    exact M_vret (pc := 30) dX4_add_30 rfl rfl rfl
def F_X4_endLine (I : HI) (a : Nat) (x1 : Int32) (x2 : Int32) : Option (HI) :=
  if (I a 0) < 0 then some I else if (12 : Int32) ≤ (I a 0) then some I else if inB (I a 0) 12 = true then if inB ((up2 I (a + 1) ((I a 0)).toNatClampNeg x1) a 0) 12 = true then if inB ((up2 (up2 I (a + 1) ((I a 0)).toNatClampNeg x1) (a + 2) (((up2 I (a + 1) ((I a 0)).toNatClampNeg x1) a 0)).toNatClampNeg x2) a 0) 12 = true then some (up2 (up2 (up2 (up2 I (a + 1) ((I a 0)).toNatClampNeg x1) (a + 2) (((up2 I (a + 1) ((I a 0)).toNatClampNeg x1) a 0)).toNatClampNeg x2) (a + 3) (((up2 (up2 I (a + 1) ((I a 0)).toNatClampNeg x1) (a + 2) (((up2 I (a + 1) ((I a 0)).toNatClampNeg x1) a 0)).toNatClampNeg x2) a 0)).toNatClampNeg ((up2 (up2 I (a + 1) ((I a 0)).toNatClampNeg x1) (a + 2) (((up2 I (a + 1) ((I a 0)).toNatClampNeg x1) a 0)).toNatClampNeg x2) a 5)) a 0 (((up2 (up2 (up2 I (a + 1) ((I a 0)).toNatClampNeg x1) (a + 2) (((up2 I (a + 1) ((I a 0)).toNatClampNeg x1) a 0)).toNatClampNeg x2) (a + 3) (((up2 (up2 I (a + 1) ((I a 0)).toNatClampNeg x1) (a + 2) (((up2 I (a + 1) ((I a 0)).toNatClampNeg x1) a 0)).toNatClampNeg x2) a 0)).toNatClampNeg ((up2 (up2 I (a + 1) ((I a 0)).toNatClampNeg x1) (a + 2) (((up2 I (a + 1) ((I a 0)).toNatClampNeg x1) a 0)).toNatClampNeg x2) a 5)) a 0) + (1 : Int32))) else none else none else none
set_option maxRecDepth 4000 in
set_option maxHeartbeats 4000000 in
theorem C_X4_endLine {g : gX} {d : Nat} {P : Nat → Nat → Option Nat} {I : HI} {a : Nat} {x1 : Int32} {x2 : Int32} {J : HJ} (hp : Wp P) (ha : OB NT a 4) {r : HI} (h : F_X4_endLine I a x1 x2 = some r) : Cm g mX4_endLine (d + 0) [.ref a, .int x1, .int x2] (NT, I, J, P) none (NT, r, J, P) := by
  unfold F_X4_endLine at h
  refine Cm.of (by decide) (by simp [Value.category]) (Nat.le_of_ble_eq_true rfl) (Nat.le_refl _) (ls := [some (.ref a), some (.int x1), some (.int x2)]) rfl ?_
  refine M_aload_n (pc := 0) dX4_endLine_0 rfl ?_
  refine M_getI (pc := 1) dX4_endLine_1 f_X4_9 ha ?_
  refine M_if_lt (pc := 4) (tgt := 59) dX4_endLine_4 (by decide) (fun hc1 => ?_) (fun hc1 => ?_)
  · have h := (if_pos hc1).symm.trans h
    obtain rfl := Option.some.inj h
    exact M_vret (pc := 59) dX4_endLine_59 rfl rfl rfl
  · have h := (if_neg hc1).symm.trans h
    refine M_aload_n (pc := 7) dX4_endLine_7 rfl ?_
    refine M_getI (pc := 8) dX4_endLine_8 f_X4_9 ha ?_
    refine M_bipush (pc := 11) (v := 12) dX4_endLine_11 (by decide) ?_
    refine M_icmp_ge (pc := 13) (tgt := 59) dX4_endLine_13 (by decide) (fun hc2 => ?_) (fun hc2 => ?_)
    · have h := (if_pos hc2).symm.trans h
      obtain rfl := Option.some.inj h
      exact M_vret (pc := 59) dX4_endLine_59 rfl rfl rfl
    · have h := (if_neg hc2).symm.trans h
      refine M_aload_n (pc := 16) dX4_endLine_16 rfl ?_
      refine M_getR (pc := 17) dX4_endLine_17 f_X4_15 ha (gr_4_1 hp ha).1 ?_
      refine M_aload_n (pc := 20) dX4_endLine_20 rfl ?_
      refine M_getI (pc := 21) dX4_endLine_21 f_X4_9 ha ?_
      refine M_iload_n (pc := 24) dX4_endLine_24 rfl ?_
      obtain ⟨hb3, h⟩ := chk h
      refine M_iast (pc := 25) dX4_endLine_25 (gr_4_1 hp ha).2 (inB_in hb3) ?_
      refine M_aload_n (pc := 26) dX4_endLine_26 rfl ?_
      refine M_getR (pc := 27) dX4_endLine_27 f_X4_19 ha (gr_4_2 hp ha).1 ?_
      refine M_aload_n (pc := 30) dX4_endLine_30 rfl ?_
      refine M_getI (pc := 31) dX4_endLine_31 f_X4_9 ha ?_
      refine M_iload_n (pc := 34) dX4_endLine_34 rfl ?_
      obtain ⟨hb4, h⟩ := chk h
      refine M_iast (pc := 35) dX4_endLine_35 (gr_4_2 hp ha).2 (inB_in hb4) ?_
      refine M_aload_n (pc := 36) dX4_endLine_36 rfl ?_
      refine M_getR (pc := 37) dX4_endLine_37 f_X4_22 ha (gr_4_3 hp ha).1 ?_
      refine M_aload_n (pc := 40) dX4_endLine_40 rfl ?_
      refine M_getI (pc := 41) dX4_endLine_41 f_X4_9 ha ?_
      refine M_aload_n (pc := 44) dX4_endLine_44 rfl ?_
      refine M_getI (pc := 45) dX4_endLine_45 f_X4_28 ha ?_
      obtain ⟨hb5, h⟩ := chk h
      refine M_iast (pc := 48) dX4_endLine_48 (gr_4_3 hp ha).2 (inB_in hb5) ?_
      refine M_aload_n (pc := 49) dX4_endLine_49 rfl ?_
      refine M_dup (pc := 50) dX4_endLine_50 rfl ?_
      refine M_getI (pc := 51) dX4_endLine_51 f_X4_9 ha ?_
      refine M_iconst (pc := 54) (v := 1) dX4_endLine_54 (by decide) ?_
      refine M_iadd (pc := 55) dX4_endLine_55 ?_
      refine M_putI (pc := 56) dX4_endLine_56 f_X4_9 ha rfl ⟨rfl, rfl⟩ ?_
      obtain rfl := Option.some.inj h
      exact M_vret (pc := 59) dX4_endLine_59 rfl rfl rfl
def F_X4_push (I : HI) (a : Nat) (x1 : Int32) (x2 : Int32) : Option (Int32 × HI) :=
  if (64 : Int32) ≤ x2 then some (x2, I) else if x1 < 0 then some (x2, I) else if x1 < (1009 : Int32) then if (1000 : Int32) ≤ x1 then (ald 9 (I 137) (x1 - (1000 : Int32))) >>= fun v5 => if inB x2 64 = true then some ((x2 + (1 : Int32)), (up2 I (a + 5) (x2).toNatClampNeg v5)) else none else if inB x2 64 = true then some ((x2 + (1 : Int32)), (up2 I (a + 5) (x2).toNatClampNeg x1)) else none else some (x2, I)
set_option maxRecDepth 4000 in
set_option maxHeartbeats 4000000 in
theorem C_X4_push {g : gX} {d : Nat} {P : Nat → Nat → Option Nat} {I : HI} {a : Nat} {x1 : Int32} {x2 : Int32} {J : HJ} (hp : Wp P) (ha : OB NT a 4) {r : Int32 × HI} (h : F_X4_push I a x1 x2 = some r) : Cm g mX4_push (d + 0) [.ref a, .int x1, .int x2, .ref 136] (NT, I, J, P) (some (.int r.1)) (NT, r.2, J, P) := by
  unfold F_X4_push at h
  refine Cm.of (by decide) (by simp [Value.category]) (Nat.le_of_ble_eq_true rfl) (Nat.le_refl _) (ls := [some (.ref a), some (.int x1), some (.int x2), some (.ref 136)]) rfl ?_
  refine M_iload_n (pc := 0) dX4_push_0 rfl ?_
  refine M_bipush (pc := 1) (v := 64) dX4_push_1 (by decide) ?_
  refine M_icmp_ge (pc := 3) (tgt := 17) dX4_push_3 (by decide) (fun hc1 => ?_) (fun hc1 => ?_)
  · have h := (if_pos hc1).symm.trans h
    refine M_iload_n (pc := 17) dX4_push_17 rfl ?_
    obtain rfl := Option.some.inj h
    exact M_iret (pc := 18) dX4_push_18 rfl rfl rfl rfl
  · have h := (if_neg hc1).symm.trans h
    refine M_iload_n (pc := 6) dX4_push_6 rfl ?_
    refine M_if_lt (pc := 7) (tgt := 17) dX4_push_7 (by decide) (fun hc2 => ?_) (fun hc2 => ?_)
    · have h := (if_pos hc2).symm.trans h
      refine M_iload_n (pc := 17) dX4_push_17 rfl ?_
      obtain rfl := Option.some.inj h
      exact M_iret (pc := 18) dX4_push_18 rfl rfl rfl rfl
    · have h := (if_neg hc2).symm.trans h
      refine M_iload_n (pc := 10) dX4_push_10 rfl ?_
      refine M_sipush (pc := 11) (v := 1009) dX4_push_11 (by decide) ?_
      refine M_icmp_lt (pc := 14) (tgt := 19) dX4_push_14 (by decide) (fun hc3 => ?_) (fun hc3 => ?_)
      · have h := (if_pos hc3).symm.trans h
        refine M_aload_n (pc := 19) dX4_push_19 rfl ?_
        refine M_getR (pc := 20) dX4_push_20 f_X4_31 ha (gr_4_6 hp ha).1 ?_
        refine M_iload_n (pc := 23) dX4_push_23 rfl ?_
        refine M_iload_n (pc := 24) dX4_push_24 rfl ?_
        refine M_sipush (pc := 25) (v := 1000) dX4_push_25 (by decide) ?_
        refine M_icmp_ge (pc := 28) (tgt := 35) dX4_push_28 (by decide) (fun hc4 => ?_) (fun hc4 => ?_)
        · have h := (if_pos hc4).symm.trans h
          refine M_aload_n (pc := 35) dX4_push_35 rfl ?_
          refine M_getR (pc := 36) dX4_push_36 f_X4_57 at_9 (gr_9_3 hp at_9).1 ?_
          refine M_iload_n (pc := 39) dX4_push_39 rfl ?_
          refine M_sipush (pc := 40) (v := 1000) dX4_push_40 (by decide) ?_
          refine M_isub (pc := 43) dX4_push_43 ?_
          obtain ⟨v5, hv6, h⟩ := bnd h
          refine M_aldI (pc := 44) dX4_push_44 (gr_9_3 hp at_9).2 hv6 ?_
          obtain ⟨hb7, h⟩ := chk h
          refine M_iast (pc := 45) dX4_push_45 (gr_4_6 hp ha).2 (inB_in hb7) ?_
          refine M_iload_n (pc := 46) dX4_push_46 rfl ?_
          refine M_iconst (pc := 47) (v := 1) dX4_push_47 (by decide) ?_
          refine M_iadd (pc := 48) dX4_push_48 ?_
          obtain rfl := Option.some.inj h
          exact M_iret (pc := 49) dX4_push_49 rfl rfl rfl rfl
        · have h := (if_neg hc4).symm.trans h
          refine M_iload_n (pc := 31) dX4_push_31 rfl ?_
          refine M_goto (pc := 32) (tgt := 45) dX4_push_32 (by decide) ?_
          obtain ⟨hb8, h⟩ := chk h
          refine M_iast (pc := 45) dX4_push_45 (gr_4_6 hp ha).2 (inB_in hb8) ?_
          refine M_iload_n (pc := 46) dX4_push_46 rfl ?_
          refine M_iconst (pc := 47) (v := 1) dX4_push_47 (by decide) ?_
          refine M_iadd (pc := 48) dX4_push_48 ?_
          obtain rfl := Option.some.inj h
          exact M_iret (pc := 49) dX4_push_49 rfl rfl rfl rfl
      · have h := (if_neg hc3).symm.trans h
        refine M_iload_n (pc := 17) dX4_push_17 rfl ?_
        obtain rfl := Option.some.inj h
        exact M_iret (pc := 18) dX4_push_18 rfl rfl rfl rfl
def F_X4_join (I : HI) (x0 : Int32) (x1 : Int32) (x2 : Int32) : Option (Int32) :=
  if x0 = (1010 : Int32) then some (x1 + x2) else if x0 = (1011 : Int32) then if x2 ≤ x1 then some (0 : Int32) else some (1 : Int32) else if x0 = (1012 : Int32) then if x1 ≤ x2 then some (0 : Int32) else some (1 : Int32) else if x0 = (1013 : Int32) then some (x1 ||| x2) else if x0 = (1014 : Int32) then some (x1 &&& x2) else some (x1 ||| x2)
set_option maxRecDepth 4000 in
set_option maxHeartbeats 4000000 in
theorem C_X4_join {g : gX} {d : Nat} {P : Nat → Nat → Option Nat} {I : HI} {x0 : Int32} {x1 : Int32} {x2 : Int32} {J : HJ} (hp : Wp P) {r : Int32} (h : F_X4_join I x0 x1 x2 = some r) : Cm g mX4_join (d + 0) [.int x0, .int x1, .int x2] (NT, I, J, P) (some (.int r)) (NT, I, J, P) := by
  unfold F_X4_join at h
  refine Cm.of (by decide) (by simp [Value.category]) (Nat.le_of_ble_eq_true rfl) (Nat.le_refl _) (ls := [some (.int x0), some (.int x1), some (.int x2)]) rfl ?_
  refine M_iload_n (pc := 0) dX4_join_0 rfl ?_
  by_cases hc1 : x0 = (1010 : Int32)
  · have h := (if_pos hc1).symm.trans h
    refine M_tableIn (pc := 1) (x := x0) (tgt := 36) dX4_join_1 (by rw [hc1]; decide) (by rw [hc1]; decide) (by rw [hc1]; rfl) (by decide) ?_
    refine M_iload_n (pc := 36) dX4_join_36 rfl ?_
    refine M_iload_n (pc := 37) dX4_join_37 rfl ?_
    refine M_iadd (pc := 38) dX4_join_38 ?_
    obtain rfl := Option.some.inj h
    exact M_iret (pc := 39) dX4_join_39 rfl rfl rfl rfl
  have h := (if_neg hc1).symm.trans h
  by_cases hc2 : x0 = (1011 : Int32)
  · have h := (if_pos hc2).symm.trans h
    refine M_tableIn (pc := 1) (x := x0) (tgt := 40) dX4_join_1 (by rw [hc2]; decide) (by rw [hc2]; decide) (by rw [hc2]; rfl) (by decide) ?_
    refine M_iload_n (pc := 40) dX4_join_40 rfl ?_
    refine M_iload_n (pc := 41) dX4_join_41 rfl ?_
    refine M_icmp_ge (pc := 42) (tgt := 49) dX4_join_42 (by decide) (fun hc3 => ?_) (fun hc3 => ?_)
    · have h := (if_pos hc3).symm.trans h
      refine M_iconst (pc := 49) (v := 0) dX4_join_49 (by decide) ?_
      obtain rfl := Option.some.inj h
      exact M_iret (pc := 50) dX4_join_50 rfl rfl rfl rfl
    · have h := (if_neg hc3).symm.trans h
      refine M_iconst (pc := 45) (v := 1) dX4_join_45 (by decide) ?_
      refine M_goto (pc := 46) (tgt := 50) dX4_join_46 (by decide) ?_
      obtain rfl := Option.some.inj h
      exact M_iret (pc := 50) dX4_join_50 rfl rfl rfl rfl
  have h := (if_neg hc2).symm.trans h
  by_cases hc4 : x0 = (1012 : Int32)
  · have h := (if_pos hc4).symm.trans h
    refine M_tableIn (pc := 1) (x := x0) (tgt := 51) dX4_join_1 (by rw [hc4]; decide) (by rw [hc4]; decide) (by rw [hc4]; rfl) (by decide) ?_
    refine M_iload_n (pc := 51) dX4_join_51 rfl ?_
    refine M_iload_n (pc := 52) dX4_join_52 rfl ?_
    refine M_icmp_le (pc := 53) (tgt := 60) dX4_join_53 (by decide) (fun hc5 => ?_) (fun hc5 => ?_)
    · have h := (if_pos hc5).symm.trans h
      refine M_iconst (pc := 60) (v := 0) dX4_join_60 (by decide) ?_
      obtain rfl := Option.some.inj h
      exact M_iret (pc := 61) dX4_join_61 rfl rfl rfl rfl
    · have h := (if_neg hc5).symm.trans h
      refine M_iconst (pc := 56) (v := 1) dX4_join_56 (by decide) ?_
      refine M_goto (pc := 57) (tgt := 61) dX4_join_57 (by decide) ?_
      obtain rfl := Option.some.inj h
      exact M_iret (pc := 61) dX4_join_61 rfl rfl rfl rfl
  have h := (if_neg hc4).symm.trans h
  by_cases hc6 : x0 = (1013 : Int32)
  · have h := (if_pos hc6).symm.trans h
    refine M_tableIn (pc := 1) (x := x0) (tgt := 66) dX4_join_1 (by rw [hc6]; decide) (by rw [hc6]; decide) (by rw [hc6]; rfl) (by decide) ?_
    refine M_iload_n (pc := 66) dX4_join_66 rfl ?_
    refine M_iload_n (pc := 67) dX4_join_67 rfl ?_
    refine M_ior (pc := 68) dX4_join_68 ?_
    obtain rfl := Option.some.inj h
    exact M_iret (pc := 69) dX4_join_69 rfl rfl rfl rfl
  have h := (if_neg hc6).symm.trans h
  by_cases hc7 : x0 = (1014 : Int32)
  · have h := (if_pos hc7).symm.trans h
    refine M_tableIn (pc := 1) (x := x0) (tgt := 62) dX4_join_1 (by rw [hc7]; decide) (by rw [hc7]; decide) (by rw [hc7]; rfl) (by decide) ?_
    refine M_iload_n (pc := 62) dX4_join_62 rfl ?_
    refine M_iload_n (pc := 63) dX4_join_63 rfl ?_
    refine M_iand (pc := 64) dX4_join_64 ?_
    obtain rfl := Option.some.inj h
    exact M_iret (pc := 65) dX4_join_65 rfl rfl rfl rfl
  have h := (if_neg hc7).symm.trans h
  refine M_tableOut (pc := 1) (x := x0) (tgt := 66) dX4_join_1 (sw_out 5 (by decide) (fun j hj => match j, hj with
    | 0, _ => sw_ne hc1 (by decide)
    | 1, _ => sw_ne hc2 (by decide)
    | 2, _ => sw_ne hc4 (by decide)
    | 3, _ => sw_ne hc6 (by decide)
    | 4, _ => sw_ne hc7 (by decide)
    | j + 5, hj => absurd hj (by omega))) (by decide) ?_
  refine M_iload_n (pc := 66) dX4_join_66 rfl ?_
  refine M_iload_n (pc := 67) dX4_join_67 rfl ?_
  refine M_ior (pc := 68) dX4_join_68 ?_
  obtain rfl := Option.some.inj h
  exact M_iret (pc := 69) dX4_join_69 rfl rfl rfl rfl
def F_X4_copy (I : HI) (a : Nat) (b1 : Nat) : Option (HI) :=
  some (up1 (up1 (up1 (up1 (up2 (up2 I a 0 (I b1 0)) a 5 ((up2 I a 0 (I b1 0)) b1 5)) (a + 1) (va_cpy ((up2 (up2 I a 0 (I b1 0)) a 5 ((up2 I a 0 (I b1 0)) b1 5)) (b1 + 1)) ((up2 (up2 I a 0 (I b1 0)) a 5 ((up2 I a 0 (I b1 0)) b1 5)) (a + 1)) 0 0 12)) (a + 2) (va_cpy ((up1 (up2 (up2 I a 0 (I b1 0)) a 5 ((up2 I a 0 (I b1 0)) b1 5)) (a + 1) (va_cpy ((up2 (up2 I a 0 (I b1 0)) a 5 ((up2 I a 0 (I b1 0)) b1 5)) (b1 + 1)) ((up2 (up2 I a 0 (I b1 0)) a 5 ((up2 I a 0 (I b1 0)) b1 5)) (a + 1)) 0 0 12)) (b1 + 2)) ((up1 (up2 (up2 I a 0 (I b1 0)) a 5 ((up2 I a 0 (I b1 0)) b1 5)) (a + 1) (va_cpy ((up2 (up2 I a 0 (I b1 0)) a 5 ((up2 I a 0 (I b1 0)) b1 5)) (b1 + 1)) ((up2 (up2 I a 0 (I b1 0)) a 5 ((up2 I a 0 (I b1 0)) b1 5)) (a + 1)) 0 0 12)) (a + 2)) 0 0 12)) (a + 3) (va_cpy ((up1 (up1 (up2 (up2 I a 0 (I b1 0)) a 5 ((up2 I a 0 (I b1 0)) b1 5)) (a + 1) (va_cpy ((up2 (up2 I a 0 (I b1 0)) a 5 ((up2 I a 0 (I b1 0)) b1 5)) (b1 + 1)) ((up2 (up2 I a 0 (I b1 0)) a 5 ((up2 I a 0 (I b1 0)) b1 5)) (a + 1)) 0 0 12)) (a + 2) (va_cpy ((up1 (up2 (up2 I a 0 (I b1 0)) a 5 ((up2 I a 0 (I b1 0)) b1 5)) (a + 1) (va_cpy ((up2 (up2 I a 0 (I b1 0)) a 5 ((up2 I a 0 (I b1 0)) b1 5)) (b1 + 1)) ((up2 (up2 I a 0 (I b1 0)) a 5 ((up2 I a 0 (I b1 0)) b1 5)) (a + 1)) 0 0 12)) (b1 + 2)) ((up1 (up2 (up2 I a 0 (I b1 0)) a 5 ((up2 I a 0 (I b1 0)) b1 5)) (a + 1) (va_cpy ((up2 (up2 I a 0 (I b1 0)) a 5 ((up2 I a 0 (I b1 0)) b1 5)) (b1 + 1)) ((up2 (up2 I a 0 (I b1 0)) a 5 ((up2 I a 0 (I b1 0)) b1 5)) (a + 1)) 0 0 12)) (a + 2)) 0 0 12)) (b1 + 3)) ((up1 (up1 (up2 (up2 I a 0 (I b1 0)) a 5 ((up2 I a 0 (I b1 0)) b1 5)) (a + 1) (va_cpy ((up2 (up2 I a 0 (I b1 0)) a 5 ((up2 I a 0 (I b1 0)) b1 5)) (b1 + 1)) ((up2 (up2 I a 0 (I b1 0)) a 5 ((up2 I a 0 (I b1 0)) b1 5)) (a + 1)) 0 0 12)) (a + 2) (va_cpy ((up1 (up2 (up2 I a 0 (I b1 0)) a 5 ((up2 I a 0 (I b1 0)) b1 5)) (a + 1) (va_cpy ((up2 (up2 I a 0 (I b1 0)) a 5 ((up2 I a 0 (I b1 0)) b1 5)) (b1 + 1)) ((up2 (up2 I a 0 (I b1 0)) a 5 ((up2 I a 0 (I b1 0)) b1 5)) (a + 1)) 0 0 12)) (b1 + 2)) ((up1 (up2 (up2 I a 0 (I b1 0)) a 5 ((up2 I a 0 (I b1 0)) b1 5)) (a + 1) (va_cpy ((up2 (up2 I a 0 (I b1 0)) a 5 ((up2 I a 0 (I b1 0)) b1 5)) (b1 + 1)) ((up2 (up2 I a 0 (I b1 0)) a 5 ((up2 I a 0 (I b1 0)) b1 5)) (a + 1)) 0 0 12)) (a + 2)) 0 0 12)) (a + 3)) 0 0 12)) (a + 4) (va_cpy ((up1 (up1 (up1 (up2 (up2 I a 0 (I b1 0)) a 5 ((up2 I a 0 (I b1 0)) b1 5)) (a + 1) (va_cpy ((up2 (up2 I a 0 (I b1 0)) a 5 ((up2 I a 0 (I b1 0)) b1 5)) (b1 + 1)) ((up2 (up2 I a 0 (I b1 0)) a 5 ((up2 I a 0 (I b1 0)) b1 5)) (a + 1)) 0 0 12)) (a + 2) (va_cpy ((up1 (up2 (up2 I a 0 (I b1 0)) a 5 ((up2 I a 0 (I b1 0)) b1 5)) (a + 1) (va_cpy ((up2 (up2 I a 0 (I b1 0)) a 5 ((up2 I a 0 (I b1 0)) b1 5)) (b1 + 1)) ((up2 (up2 I a 0 (I b1 0)) a 5 ((up2 I a 0 (I b1 0)) b1 5)) (a + 1)) 0 0 12)) (b1 + 2)) ((up1 (up2 (up2 I a 0 (I b1 0)) a 5 ((up2 I a 0 (I b1 0)) b1 5)) (a + 1) (va_cpy ((up2 (up2 I a 0 (I b1 0)) a 5 ((up2 I a 0 (I b1 0)) b1 5)) (b1 + 1)) ((up2 (up2 I a 0 (I b1 0)) a 5 ((up2 I a 0 (I b1 0)) b1 5)) (a + 1)) 0 0 12)) (a + 2)) 0 0 12)) (a + 3) (va_cpy ((up1 (up1 (up2 (up2 I a 0 (I b1 0)) a 5 ((up2 I a 0 (I b1 0)) b1 5)) (a + 1) (va_cpy ((up2 (up2 I a 0 (I b1 0)) a 5 ((up2 I a 0 (I b1 0)) b1 5)) (b1 + 1)) ((up2 (up2 I a 0 (I b1 0)) a 5 ((up2 I a 0 (I b1 0)) b1 5)) (a + 1)) 0 0 12)) (a + 2) (va_cpy ((up1 (up2 (up2 I a 0 (I b1 0)) a 5 ((up2 I a 0 (I b1 0)) b1 5)) (a + 1) (va_cpy ((up2 (up2 I a 0 (I b1 0)) a 5 ((up2 I a 0 (I b1 0)) b1 5)) (b1 + 1)) ((up2 (up2 I a 0 (I b1 0)) a 5 ((up2 I a 0 (I b1 0)) b1 5)) (a + 1)) 0 0 12)) (b1 + 2)) ((up1 (up2 (up2 I a 0 (I b1 0)) a 5 ((up2 I a 0 (I b1 0)) b1 5)) (a + 1) (va_cpy ((up2 (up2 I a 0 (I b1 0)) a 5 ((up2 I a 0 (I b1 0)) b1 5)) (b1 + 1)) ((up2 (up2 I a 0 (I b1 0)) a 5 ((up2 I a 0 (I b1 0)) b1 5)) (a + 1)) 0 0 12)) (a + 2)) 0 0 12)) (b1 + 3)) ((up1 (up1 (up2 (up2 I a 0 (I b1 0)) a 5 ((up2 I a 0 (I b1 0)) b1 5)) (a + 1) (va_cpy ((up2 (up2 I a 0 (I b1 0)) a 5 ((up2 I a 0 (I b1 0)) b1 5)) (b1 + 1)) ((up2 (up2 I a 0 (I b1 0)) a 5 ((up2 I a 0 (I b1 0)) b1 5)) (a + 1)) 0 0 12)) (a + 2) (va_cpy ((up1 (up2 (up2 I a 0 (I b1 0)) a 5 ((up2 I a 0 (I b1 0)) b1 5)) (a + 1) (va_cpy ((up2 (up2 I a 0 (I b1 0)) a 5 ((up2 I a 0 (I b1 0)) b1 5)) (b1 + 1)) ((up2 (up2 I a 0 (I b1 0)) a 5 ((up2 I a 0 (I b1 0)) b1 5)) (a + 1)) 0 0 12)) (b1 + 2)) ((up1 (up2 (up2 I a 0 (I b1 0)) a 5 ((up2 I a 0 (I b1 0)) b1 5)) (a + 1) (va_cpy ((up2 (up2 I a 0 (I b1 0)) a 5 ((up2 I a 0 (I b1 0)) b1 5)) (b1 + 1)) ((up2 (up2 I a 0 (I b1 0)) a 5 ((up2 I a 0 (I b1 0)) b1 5)) (a + 1)) 0 0 12)) (a + 2)) 0 0 12)) (a + 3)) 0 0 12)) (b1 + 4)) ((up1 (up1 (up1 (up2 (up2 I a 0 (I b1 0)) a 5 ((up2 I a 0 (I b1 0)) b1 5)) (a + 1) (va_cpy ((up2 (up2 I a 0 (I b1 0)) a 5 ((up2 I a 0 (I b1 0)) b1 5)) (b1 + 1)) ((up2 (up2 I a 0 (I b1 0)) a 5 ((up2 I a 0 (I b1 0)) b1 5)) (a + 1)) 0 0 12)) (a + 2) (va_cpy ((up1 (up2 (up2 I a 0 (I b1 0)) a 5 ((up2 I a 0 (I b1 0)) b1 5)) (a + 1) (va_cpy ((up2 (up2 I a 0 (I b1 0)) a 5 ((up2 I a 0 (I b1 0)) b1 5)) (b1 + 1)) ((up2 (up2 I a 0 (I b1 0)) a 5 ((up2 I a 0 (I b1 0)) b1 5)) (a + 1)) 0 0 12)) (b1 + 2)) ((up1 (up2 (up2 I a 0 (I b1 0)) a 5 ((up2 I a 0 (I b1 0)) b1 5)) (a + 1) (va_cpy ((up2 (up2 I a 0 (I b1 0)) a 5 ((up2 I a 0 (I b1 0)) b1 5)) (b1 + 1)) ((up2 (up2 I a 0 (I b1 0)) a 5 ((up2 I a 0 (I b1 0)) b1 5)) (a + 1)) 0 0 12)) (a + 2)) 0 0 12)) (a + 3) (va_cpy ((up1 (up1 (up2 (up2 I a 0 (I b1 0)) a 5 ((up2 I a 0 (I b1 0)) b1 5)) (a + 1) (va_cpy ((up2 (up2 I a 0 (I b1 0)) a 5 ((up2 I a 0 (I b1 0)) b1 5)) (b1 + 1)) ((up2 (up2 I a 0 (I b1 0)) a 5 ((up2 I a 0 (I b1 0)) b1 5)) (a + 1)) 0 0 12)) (a + 2) (va_cpy ((up1 (up2 (up2 I a 0 (I b1 0)) a 5 ((up2 I a 0 (I b1 0)) b1 5)) (a + 1) (va_cpy ((up2 (up2 I a 0 (I b1 0)) a 5 ((up2 I a 0 (I b1 0)) b1 5)) (b1 + 1)) ((up2 (up2 I a 0 (I b1 0)) a 5 ((up2 I a 0 (I b1 0)) b1 5)) (a + 1)) 0 0 12)) (b1 + 2)) ((up1 (up2 (up2 I a 0 (I b1 0)) a 5 ((up2 I a 0 (I b1 0)) b1 5)) (a + 1) (va_cpy ((up2 (up2 I a 0 (I b1 0)) a 5 ((up2 I a 0 (I b1 0)) b1 5)) (b1 + 1)) ((up2 (up2 I a 0 (I b1 0)) a 5 ((up2 I a 0 (I b1 0)) b1 5)) (a + 1)) 0 0 12)) (a + 2)) 0 0 12)) (b1 + 3)) ((up1 (up1 (up2 (up2 I a 0 (I b1 0)) a 5 ((up2 I a 0 (I b1 0)) b1 5)) (a + 1) (va_cpy ((up2 (up2 I a 0 (I b1 0)) a 5 ((up2 I a 0 (I b1 0)) b1 5)) (b1 + 1)) ((up2 (up2 I a 0 (I b1 0)) a 5 ((up2 I a 0 (I b1 0)) b1 5)) (a + 1)) 0 0 12)) (a + 2) (va_cpy ((up1 (up2 (up2 I a 0 (I b1 0)) a 5 ((up2 I a 0 (I b1 0)) b1 5)) (a + 1) (va_cpy ((up2 (up2 I a 0 (I b1 0)) a 5 ((up2 I a 0 (I b1 0)) b1 5)) (b1 + 1)) ((up2 (up2 I a 0 (I b1 0)) a 5 ((up2 I a 0 (I b1 0)) b1 5)) (a + 1)) 0 0 12)) (b1 + 2)) ((up1 (up2 (up2 I a 0 (I b1 0)) a 5 ((up2 I a 0 (I b1 0)) b1 5)) (a + 1) (va_cpy ((up2 (up2 I a 0 (I b1 0)) a 5 ((up2 I a 0 (I b1 0)) b1 5)) (b1 + 1)) ((up2 (up2 I a 0 (I b1 0)) a 5 ((up2 I a 0 (I b1 0)) b1 5)) (a + 1)) 0 0 12)) (a + 2)) 0 0 12)) (a + 3)) 0 0 12)) (a + 4)) 0 0 400))
set_option maxRecDepth 4000 in
set_option maxHeartbeats 4000000 in
theorem C_X4_copy {g : gX} {d : Nat} {P : Nat → Nat → Option Nat} {I : HI} {a : Nat} {b1 : Nat} {J : HJ} (hp : Wp P) (ha : OB NT a 4) (hb1 : OB NT b1 4) {r : HI} (h : F_X4_copy I a b1 = some r) : Cm g mX4_copy (d + 1) [.ref a, .ref b1] (NT, I, J, P) none (NT, r, J, P) := by
  unfold F_X4_copy at h
  refine Cm.of (by decide) (by simp [Value.category]) (Nat.le_of_ble_eq_true rfl) (Nat.le_refl _) (ls := [some (.ref a), some (.ref b1)]) rfl ?_
  refine M_aload_n (pc := 0) dX4_copy_0 rfl ?_
  refine M_aload_n (pc := 1) dX4_copy_1 rfl ?_
  refine M_getI (pc := 2) dX4_copy_2 f_X4_9 hb1 ?_
  refine M_putI (pc := 5) dX4_copy_5 f_X4_9 ha rfl ⟨rfl, rfl⟩ ?_
  refine M_aload_n (pc := 8) dX4_copy_8 rfl ?_
  refine M_aload_n (pc := 9) dX4_copy_9 rfl ?_
  refine M_getI (pc := 10) dX4_copy_10 f_X4_28 hb1 ?_
  refine M_putI (pc := 13) dX4_copy_13 f_X4_28 ha rfl ⟨rfl, rfl⟩ ?_
  refine M_aload_n (pc := 16) dX4_copy_16 rfl ?_
  refine M_getR (pc := 17) dX4_copy_17 f_X4_15 hb1 (gr_4_1 hp hb1).1 ?_
  refine M_iconst (pc := 20) (v := 0) dX4_copy_20 (by decide) ?_
  refine M_aload_n (pc := 21) dX4_copy_21 rfl ?_
  refine M_getR (pc := 22) dX4_copy_22 f_X4_15 ha (gr_4_1 hp ha).1 ?_
  refine M_iconst (pc := 25) (v := 0) dX4_copy_25 (by decide) ?_
  refine M_bipush (pc := 26) (v := 12) dX4_copy_26 (by decide) ?_
  refine M_copy0 (pc := 28) (k := 12) dX4_copy_28 w_615 w_470 w_469 w_14 (by omega) (by decide) (gr_4_1 hp ha).2 (gr_4_1 hp hb1).2 (by decide) (by decide) (by decide) (by decide) ?_
  refine M_aload_n (pc := 31) dX4_copy_31 rfl ?_
  refine M_getR (pc := 32) dX4_copy_32 f_X4_19 hb1 (gr_4_2 hp hb1).1 ?_
  refine M_iconst (pc := 35) (v := 0) dX4_copy_35 (by decide) ?_
  refine M_aload_n (pc := 36) dX4_copy_36 rfl ?_
  refine M_getR (pc := 37) dX4_copy_37 f_X4_19 ha (gr_4_2 hp ha).1 ?_
  refine M_iconst (pc := 40) (v := 0) dX4_copy_40 (by decide) ?_
  refine M_bipush (pc := 41) (v := 12) dX4_copy_41 (by decide) ?_
  refine M_copy0 (pc := 43) (k := 12) dX4_copy_43 w_615 w_470 w_469 w_14 (by omega) (by decide) (gr_4_2 hp ha).2 (gr_4_2 hp hb1).2 (by decide) (by decide) (by decide) (by decide) ?_
  refine M_aload_n (pc := 46) dX4_copy_46 rfl ?_
  refine M_getR (pc := 47) dX4_copy_47 f_X4_22 hb1 (gr_4_3 hp hb1).1 ?_
  refine M_iconst (pc := 50) (v := 0) dX4_copy_50 (by decide) ?_
  refine M_aload_n (pc := 51) dX4_copy_51 rfl ?_
  refine M_getR (pc := 52) dX4_copy_52 f_X4_22 ha (gr_4_3 hp ha).1 ?_
  refine M_iconst (pc := 55) (v := 0) dX4_copy_55 (by decide) ?_
  refine M_bipush (pc := 56) (v := 12) dX4_copy_56 (by decide) ?_
  refine M_copy0 (pc := 58) (k := 12) dX4_copy_58 w_615 w_470 w_469 w_14 (by omega) (by decide) (gr_4_3 hp ha).2 (gr_4_3 hp hb1).2 (by decide) (by decide) (by decide) (by decide) ?_
  refine M_aload_n (pc := 61) dX4_copy_61 rfl ?_
  refine M_getR (pc := 62) dX4_copy_62 f_X4_25 hb1 (gr_4_4 hp hb1).1 ?_
  refine M_iconst (pc := 65) (v := 0) dX4_copy_65 (by decide) ?_
  refine M_aload_n (pc := 66) dX4_copy_66 rfl ?_
  refine M_getR (pc := 67) dX4_copy_67 f_X4_25 ha (gr_4_4 hp ha).1 ?_
  refine M_iconst (pc := 70) (v := 0) dX4_copy_70 (by decide) ?_
  refine M_sipush (pc := 71) (v := 400) dX4_copy_71 (by decide) ?_
  refine M_copy0 (pc := 74) (k := 400) dX4_copy_74 w_615 w_470 w_469 w_14 (by omega) (by decide) (gr_4_4 hp ha).2 (gr_4_4 hp hb1).2 (by decide) (by decide) (by decide) (by decide) ?_
  obtain rfl := Option.some.inj h
  exact M_vret (pc := 77) dX4_copy_77 rfl rfl rfl
def L_X5_settle_7 (x1 : Int32) (x2 : Int32) (I : HI) : Option (HI) :=
  if x2 < 0 then some I else (ald 21 (I 154) x2) >>= fun v2 => if v2 = 0 then some I else (ald 21 (I 154) x2) >>= fun v5 => if x1 < v5 then some I else (ald 21 (I 154) x2) >>= fun v8 => if v8 = (1013 : Int32) then (ald 21 ((up2 I 146 8 ((I 146 8) - (1 : Int32))) 154) x2) >>= fun v15 => (F_X4_add (up2 I 146 8 ((I 146 8) - (1 : Int32))) 148 v15) >>= fun r17 => L_X5_settle_7 x1 (x2 + (-1 : Int32)) (up2 r17 146 7 x2) else (ald 21 (I 154) x2) >>= fun v11 => (F_X4_add I 148 v11) >>= fun r13 => L_X5_settle_7 x1 (x2 + (-1 : Int32)) (up2 r13 146 7 x2)
partial_fixpoint
def F_X5_settle (I : HI) (x1 : Int32) : Option (HI) :=
  L_X5_settle_7 x1 ((I 146 7) - (1 : Int32)) I
set_option maxRecDepth 4000 in
set_option maxHeartbeats 4000000 in
theorem LC_X5_settle_7 {g : gX} {d : Nat} {P : Nat → Nat → Option Nat} {J : HJ} {x1 : Int32} (hp : Wp P) (hx : P 146 0 = some 2) : ∀ (x2 : Int32) (I : HI) (r : HI), L_X5_settle_7 x1 x2 I = some r → M g mX5_settle (d + 1) (NT, NT, 0) ((.inl none), (NT, r, J, P)) 7 [some (.ref 146), some (.int x1), some (.int x2)] [] (NT, I, J, P) := by
  refine L_X5_settle_7.partial_correctness x1 (fun x2 I r => M g mX5_settle (d + 1) (NT, NT, 0) ((.inl none), (NT, r, J, P)) 7 [some (.ref 146), some (.int x1), some (.int x2)] [] (NT, I, J, P)) ?_
  intro f ih x2 I r h
  refine M_iload_n (pc := 7) dX5_settle_7 rfl ?_
  refine M_if_lt (pc := 8) (tgt := 76) dX5_settle_8 (by decide) (fun hc1 => ?_) (fun hc1 => ?_)
  · have h := (if_pos hc1).symm.trans h
    obtain rfl := Option.some.inj h
    exact M_vret (pc := 76) dX5_settle_76 rfl rfl rfl
  · have h := (if_neg hc1).symm.trans h
    refine M_aload_n (pc := 11) dX5_settle_11 rfl ?_
    refine M_getR (pc := 12) dX5_settle_12 f_X5_18 at_5 (gr_5_6 hp at_5).1 ?_
    refine M_iload_n (pc := 15) dX5_settle_15 rfl ?_
    obtain ⟨v2, hv3, h⟩ := bnd h
    refine M_aldI (pc := 16) dX5_settle_16 (gr_5_6 hp at_5).2 hv3 ?_
    refine M_if_eq (pc := 17) (tgt := 76) dX5_settle_17 (by decide) (fun hc4 => ?_) (fun hc4 => ?_)
    · have h := (if_pos hc4).symm.trans h
      obtain rfl := Option.some.inj h
      exact M_vret (pc := 76) dX5_settle_76 rfl rfl rfl
    · have h := (if_neg hc4).symm.trans h
      refine M_aload_n (pc := 20) dX5_settle_20 rfl ?_
      refine M_getR (pc := 21) dX5_settle_21 f_X5_18 at_5 (gr_5_6 hp at_5).1 ?_
      refine M_iload_n (pc := 24) dX5_settle_24 rfl ?_
      obtain ⟨v5, hv6, h⟩ := bnd h
      refine M_aldI (pc := 25) dX5_settle_25 (gr_5_6 hp at_5).2 hv6 ?_
      refine M_iload_n (pc := 26) dX5_settle_26 rfl ?_
      refine M_icmp_gt (pc := 27) (tgt := 76) dX5_settle_27 (by decide) (fun hc7 => ?_) (fun hc7 => ?_)
      · have h := (if_pos hc7).symm.trans h
        obtain rfl := Option.some.inj h
        exact M_vret (pc := 76) dX5_settle_76 rfl rfl rfl
      · have h := (if_neg hc7).symm.trans h
        refine M_aload_n (pc := 30) dX5_settle_30 rfl ?_
        refine M_getR (pc := 31) dX5_settle_31 f_X5_18 at_5 (gr_5_6 hp at_5).1 ?_
        refine M_iload_n (pc := 34) dX5_settle_34 rfl ?_
        obtain ⟨v8, hv9, h⟩ := bnd h
        refine M_aldI (pc := 35) dX5_settle_35 (gr_5_6 hp at_5).2 hv9 ?_
        refine M_sipush (pc := 36) (v := 1013) dX5_settle_36 (by decide) ?_
        refine M_icmp_ne (pc := 39) (tgt := 52) dX5_settle_39 (by decide) (fun hc10 => ?_) (fun hc10 => ?_)
        · have h := (if_neg hc10).symm.trans h
          refine M_aload_n (pc := 52) dX5_settle_52 rfl ?_
          refine M_getR (pc := 53) dX5_settle_53 f_X5_14 at_5 (gr_5_5 hp at_5).1 ?_
          refine M_aload_n (pc := 56) dX5_settle_56 rfl ?_
          refine M_getR (pc := 57) dX5_settle_57 f_X5_18 at_5 (gr_5_6 hp at_5).1 ?_
          refine M_iload_n (pc := 60) dX5_settle_60 rfl ?_
          obtain ⟨v11, hv12, h⟩ := bnd h
          refine M_aldI (pc := 61) dX5_settle_61 (gr_5_6 hp at_5).2 hv12 ?_
          obtain ⟨r13, hr14, h⟩ := bnd h
          refine M_callVv (pc := 62) dX5_settle_62 v_X5_92 rfl rfl (gr_5_5 hp at_5).2 (Nat.le_of_ble_eq_true rfl) (C_X4_add (d := d + 0) hp (gr_5_5 hp at_5).2 hr14) (Nat.le_refl _) ?_
          refine M_aload_n (pc := 65) dX5_settle_65 rfl ?_
          refine M_iload_n (pc := 66) dX5_settle_66 rfl ?_
          refine M_putI (pc := 67) dX5_settle_67 f_X5_22 at_5 rfl ⟨rfl, rfl⟩ ?_
          refine M_iinc (pc := 70) (v := (x2 + (-1 : Int32))) (ls' := [some (.ref 146), some (.int x1), some (.int (x2 + (-1 : Int32)))]) dX5_settle_70 rfl rfl (by decide) rfl ?_
          refine M_goto (pc := 73) (tgt := 7) dX5_settle_73 (by decide) ?_
          exact ih (x2 + (-1 : Int32)) (up2 r13 146 7 x2) _ h
        · have h := (if_pos hc10).symm.trans h
          refine M_aload_n (pc := 42) dX5_settle_42 rfl ?_
          refine M_dup (pc := 43) dX5_settle_43 rfl ?_
          refine M_getI (pc := 44) dX5_settle_44 f_X5_26 at_5 ?_
          refine M_iconst (pc := 47) (v := 1) dX5_settle_47 (by decide) ?_
          refine M_isub (pc := 48) dX5_settle_48 ?_
          refine M_putI (pc := 49) dX5_settle_49 f_X5_26 at_5 rfl ⟨rfl, rfl⟩ ?_
          refine M_aload_n (pc := 52) dX5_settle_52 rfl ?_
          refine M_getR (pc := 53) dX5_settle_53 f_X5_14 at_5 (gr_5_5 hp at_5).1 ?_
          refine M_aload_n (pc := 56) dX5_settle_56 rfl ?_
          refine M_getR (pc := 57) dX5_settle_57 f_X5_18 at_5 (gr_5_6 hp at_5).1 ?_
          refine M_iload_n (pc := 60) dX5_settle_60 rfl ?_
          obtain ⟨v15, hv16, h⟩ := bnd h
          refine M_aldI (pc := 61) dX5_settle_61 (gr_5_6 hp at_5).2 hv16 ?_
          obtain ⟨r17, hr18, h⟩ := bnd h
          refine M_callVv (pc := 62) dX5_settle_62 v_X5_92 rfl rfl (gr_5_5 hp at_5).2 (Nat.le_of_ble_eq_true rfl) (C_X4_add (d := d + 0) hp (gr_5_5 hp at_5).2 hr18) (Nat.le_refl _) ?_
          refine M_aload_n (pc := 65) dX5_settle_65 rfl ?_
          refine M_iload_n (pc := 66) dX5_settle_66 rfl ?_
          refine M_putI (pc := 67) dX5_settle_67 f_X5_22 at_5 rfl ⟨rfl, rfl⟩ ?_
          refine M_iinc (pc := 70) (v := (x2 + (-1 : Int32))) (ls' := [some (.ref 146), some (.int x1), some (.int (x2 + (-1 : Int32)))]) dX5_settle_70 rfl rfl (by decide) rfl ?_
          refine M_goto (pc := 73) (tgt := 7) dX5_settle_73 (by decide) ?_
          exact ih (x2 + (-1 : Int32)) (up2 r17 146 7 x2) _ h
set_option maxRecDepth 4000 in
set_option maxHeartbeats 4000000 in
theorem C_X5_settle {g : gX} {d : Nat} {P : Nat → Nat → Option Nat} {I : HI} {x1 : Int32} {J : HJ} (hp : Wp P) (hx : P 146 0 = some 2) {r : HI} (h : F_X5_settle I x1 = some r) : Cm g mX5_settle (d + 1) [.ref 146, .int x1] (NT, I, J, P) none (NT, r, J, P) := by
  unfold F_X5_settle at h
  refine Cm.of (by decide) (by simp [Value.category]) (Nat.le_of_ble_eq_true rfl) (Nat.le_refl _) (ls := [some (.ref 146), some (.int x1), none]) rfl ?_
  refine M_aload_n (pc := 0) dX5_settle_0 rfl ?_
  refine M_getI (pc := 1) dX5_settle_1 f_X5_22 at_5 ?_
  refine M_iconst (pc := 4) (v := 1) dX5_settle_4 (by decide) ?_
  refine M_isub (pc := 5) dX5_settle_5 ?_
  refine M_istore_n (pc := 6) (ls' := [some (.ref 146), some (.int x1), some (.int ((I 146 7) - (1 : Int32)))]) dX5_settle_6 (by decide) rfl ?_
  exact LC_X5_settle_7 (P := P) hp hx ((I 146 7) - (1 : Int32)) I _ h
def F_X7_write (I : HI) (a : Nat) (x1 : Int32) (x2 : Int32) (x3 : Int32) (x4 : Int32) : Option (HI) :=
  if (((up2 I a 1 (((I a 1) + (1 : Int32)) - ((I a 1) + (1 : Int32)) / (60 : Int32) * (60 : Int32))) a 1) * (4 : Int32)) < 0 then some (up2 (up2 I a 1 (((I a 1) + (1 : Int32)) - ((I a 1) + (1 : Int32)) / (60 : Int32) * (60 : Int32))) a 0 (if (((up2 I a 1 (((I a 1) + (1 : Int32)) - ((I a 1) + (1 : Int32)) / (60 : Int32) * (60 : Int32))) a 0) + (1 : Int32)) < (60 : Int32) then (((up2 I a 1 (((I a 1) + (1 : Int32)) - ((I a 1) + (1 : Int32)) / (60 : Int32) * (60 : Int32))) a 0) + (1 : Int32)) else (60 : Int32))) else if (240 : Int32) < ((((up2 I a 1 (((I a 1) + (1 : Int32)) - ((I a 1) + (1 : Int32)) / (60 : Int32) * (60 : Int32))) a 1) * (4 : Int32)) + (4 : Int32)) then some (up2 (up2 I a 1 (((I a 1) + (1 : Int32)) - ((I a 1) + (1 : Int32)) / (60 : Int32) * (60 : Int32))) a 0 (if (((up2 I a 1 (((I a 1) + (1 : Int32)) - ((I a 1) + (1 : Int32)) / (60 : Int32) * (60 : Int32))) a 0) + (1 : Int32)) < (60 : Int32) then (((up2 I a 1 (((I a 1) + (1 : Int32)) - ((I a 1) + (1 : Int32)) / (60 : Int32) * (60 : Int32))) a 0) + (1 : Int32)) else (60 : Int32))) else if inB (((up2 I a 1 (((I a 1) + (1 : Int32)) - ((I a 1) + (1 : Int32)) / (60 : Int32) * (60 : Int32))) a 1) * (4 : Int32)) 240 = true then if inB ((((up2 I a 1 (((I a 1) + (1 : Int32)) - ((I a 1) + (1 : Int32)) / (60 : Int32) * (60 : Int32))) a 1) * (4 : Int32)) + (1 : Int32)) 240 = true then if inB ((((up2 I a 1 (((I a 1) + (1 : Int32)) - ((I a 1) + (1 : Int32)) / (60 : Int32) * (60 : Int32))) a 1) * (4 : Int32)) + (2 : Int32)) 240 = true then if inB ((((up2 I a 1 (((I a 1) + (1 : Int32)) - ((I a 1) + (1 : Int32)) / (60 : Int32) * (60 : Int32))) a 1) * (4 : Int32)) + (3 : Int32)) 240 = true then some (up2 (up2 (up2 (up2 (up2 (up2 I a 1 (((I a 1) + (1 : Int32)) - ((I a 1) + (1 : Int32)) / (60 : Int32) * (60 : Int32))) (a + 1) ((((up2 I a 1 (((I a 1) + (1 : Int32)) - ((I a 1) + (1 : Int32)) / (60 : Int32) * (60 : Int32))) a 1) * (4 : Int32))).toNatClampNeg x1) (a + 1) (((((up2 I a 1 (((I a 1) + (1 : Int32)) - ((I a 1) + (1 : Int32)) / (60 : Int32) * (60 : Int32))) a 1) * (4 : Int32)) + (1 : Int32))).toNatClampNeg x2) (a + 1) (((((up2 I a 1 (((I a 1) + (1 : Int32)) - ((I a 1) + (1 : Int32)) / (60 : Int32) * (60 : Int32))) a 1) * (4 : Int32)) + (2 : Int32))).toNatClampNeg x3) (a + 1) (((((up2 I a 1 (((I a 1) + (1 : Int32)) - ((I a 1) + (1 : Int32)) / (60 : Int32) * (60 : Int32))) a 1) * (4 : Int32)) + (3 : Int32))).toNatClampNeg x4) a 0 (if (((up2 (up2 (up2 (up2 (up2 I a 1 (((I a 1) + (1 : Int32)) - ((I a 1) + (1 : Int32)) / (60 : Int32) * (60 : Int32))) (a + 1) ((((up2 I a 1 (((I a 1) + (1 : Int32)) - ((I a 1) + (1 : Int32)) / (60 : Int32) * (60 : Int32))) a 1) * (4 : Int32))).toNatClampNeg x1) (a + 1) (((((up2 I a 1 (((I a 1) + (1 : Int32)) - ((I a 1) + (1 : Int32)) / (60 : Int32) * (60 : Int32))) a 1) * (4 : Int32)) + (1 : Int32))).toNatClampNeg x2) (a + 1) (((((up2 I a 1 (((I a 1) + (1 : Int32)) - ((I a 1) + (1 : Int32)) / (60 : Int32) * (60 : Int32))) a 1) * (4 : Int32)) + (2 : Int32))).toNatClampNeg x3) (a + 1) (((((up2 I a 1 (((I a 1) + (1 : Int32)) - ((I a 1) + (1 : Int32)) / (60 : Int32) * (60 : Int32))) a 1) * (4 : Int32)) + (3 : Int32))).toNatClampNeg x4) a 0) + (1 : Int32)) < (60 : Int32) then (((up2 (up2 (up2 (up2 (up2 I a 1 (((I a 1) + (1 : Int32)) - ((I a 1) + (1 : Int32)) / (60 : Int32) * (60 : Int32))) (a + 1) ((((up2 I a 1 (((I a 1) + (1 : Int32)) - ((I a 1) + (1 : Int32)) / (60 : Int32) * (60 : Int32))) a 1) * (4 : Int32))).toNatClampNeg x1) (a + 1) (((((up2 I a 1 (((I a 1) + (1 : Int32)) - ((I a 1) + (1 : Int32)) / (60 : Int32) * (60 : Int32))) a 1) * (4 : Int32)) + (1 : Int32))).toNatClampNeg x2) (a + 1) (((((up2 I a 1 (((I a 1) + (1 : Int32)) - ((I a 1) + (1 : Int32)) / (60 : Int32) * (60 : Int32))) a 1) * (4 : Int32)) + (2 : Int32))).toNatClampNeg x3) (a + 1) (((((up2 I a 1 (((I a 1) + (1 : Int32)) - ((I a 1) + (1 : Int32)) / (60 : Int32) * (60 : Int32))) a 1) * (4 : Int32)) + (3 : Int32))).toNatClampNeg x4) a 0) + (1 : Int32)) else (60 : Int32))) else none else none else none else none
set_option maxRecDepth 4000 in
set_option maxHeartbeats 4000000 in
theorem C_X7_write {g : gX} {d : Nat} {P : Nat → Nat → Option Nat} {I : HI} {a : Nat} {x1 : Int32} {x2 : Int32} {x3 : Int32} {x4 : Int32} {J : HJ} (hp : Wp P) (ha : OB NT a 7) {r : HI} (h : F_X7_write I a x1 x2 x3 x4 = some r) : Cm g mX7_write (d + 1) [.ref a, .int x1, .int x2, .int x3, .int x4] (NT, I, J, P) none (NT, r, J, P) := by
  unfold F_X7_write at h
  refine Cm.of (by decide) (by simp [Value.category]) (Nat.le_of_ble_eq_true rfl) (Nat.le_refl _) (ls := [some (.ref a), some (.int x1), some (.int x2), some (.int x3), some (.int x4), none]) rfl ?_
  refine M_aload_n (pc := 0) dX7_write_0 rfl ?_
  refine M_aload_n (pc := 1) dX7_write_1 rfl ?_
  refine M_getI (pc := 2) dX7_write_2 f_X7_15 ha ?_
  refine M_iconst (pc := 5) (v := 1) dX7_write_5 (by decide) ?_
  refine M_iadd (pc := 6) dX7_write_6 ?_
  refine M_bipush (pc := 7) (v := 60) dX7_write_7 (by decide) ?_
  refine M_irem (pc := 9) dX7_write_9 (by decide) ?_
  refine M_putI (pc := 10) dX7_write_10 f_X7_15 ha rfl ⟨rfl, rfl⟩ ?_
  refine M_aload_n (pc := 13) dX7_write_13 rfl ?_
  refine M_getI (pc := 14) dX7_write_14 f_X7_15 ha ?_
  refine M_iconst (pc := 17) (v := 4) dX7_write_17 (by decide) ?_
  refine M_imul (pc := 18) dX7_write_18 ?_
  refine M_istore (pc := 19) (ls' := [some (.ref a), some (.int x1), some (.int x2), some (.int x3), some (.int x4), some (.int (((up2 I a 1 (((I a 1) + (1 : Int32)) - ((I a 1) + (1 : Int32)) / (60 : Int32) * (60 : Int32))) a 1) * (4 : Int32)))]) dX7_write_19 (by decide) rfl ?_
  refine M_iload (pc := 21) dX7_write_21 rfl ?_
  refine M_if_lt (pc := 23) (tgt := 75) dX7_write_23 (by decide) (fun hc1 => ?_) (fun hc1 => ?_)
  · have h := (if_pos hc1).symm.trans h
    refine M_aload_n (pc := 75) dX7_write_75 rfl ?_
    refine M_bipush (pc := 76) (v := 60) dX7_write_76 (by decide) ?_
    refine M_aload_n (pc := 78) dX7_write_78 rfl ?_
    refine M_getI (pc := 79) dX7_write_79 f_X7_9 ha ?_
    refine M_iconst (pc := 82) (v := 1) dX7_write_82 (by decide) ?_
    refine M_iadd (pc := 83) dX7_write_83 ?_
    refine M_mmin (pc := 84) dX7_write_84 mm_X7_22.1 mm_X7_22.2.1 mm_X7_22.2.2.1 mm_X7_22.2.2.2 (Nat.le_of_ble_eq_true rfl) ?_
    refine M_putI (pc := 87) dX7_write_87 f_X7_9 ha rfl ⟨rfl, rfl⟩ ?_
    obtain rfl := Option.some.inj h
    exact M_vret (pc := 90) dX7_write_90 rfl rfl rfl
  · have h := (if_neg hc1).symm.trans h
    refine M_iload (pc := 26) dX7_write_26 rfl ?_
    refine M_iconst (pc := 28) (v := 4) dX7_write_28 (by decide) ?_
    refine M_iadd (pc := 29) dX7_write_29 ?_
    refine M_sipush (pc := 30) (v := 240) dX7_write_30 (by decide) ?_
    refine M_icmp_gt (pc := 33) (tgt := 75) dX7_write_33 (by decide) (fun hc2 => ?_) (fun hc2 => ?_)
    · have h := (if_pos hc2).symm.trans h
      refine M_aload_n (pc := 75) dX7_write_75 rfl ?_
      refine M_bipush (pc := 76) (v := 60) dX7_write_76 (by decide) ?_
      refine M_aload_n (pc := 78) dX7_write_78 rfl ?_
      refine M_getI (pc := 79) dX7_write_79 f_X7_9 ha ?_
      refine M_iconst (pc := 82) (v := 1) dX7_write_82 (by decide) ?_
      refine M_iadd (pc := 83) dX7_write_83 ?_
      refine M_mmin (pc := 84) dX7_write_84 mm_X7_22.1 mm_X7_22.2.1 mm_X7_22.2.2.1 mm_X7_22.2.2.2 (Nat.le_of_ble_eq_true rfl) ?_
      refine M_putI (pc := 87) dX7_write_87 f_X7_9 ha rfl ⟨rfl, rfl⟩ ?_
      obtain rfl := Option.some.inj h
      exact M_vret (pc := 90) dX7_write_90 rfl rfl rfl
    · have h := (if_neg hc2).symm.trans h
      refine M_aload_n (pc := 36) dX7_write_36 rfl ?_
      refine M_getR (pc := 37) dX7_write_37 f_X7_18 ha (gr_7_2 hp ha).1 ?_
      refine M_iload (pc := 40) dX7_write_40 rfl ?_
      refine M_iload_n (pc := 42) dX7_write_42 rfl ?_
      obtain ⟨hb3, h⟩ := chk h
      refine M_iast (pc := 43) dX7_write_43 (gr_7_2 hp ha).2 (inB_in hb3) ?_
      refine M_aload_n (pc := 44) dX7_write_44 rfl ?_
      refine M_getR (pc := 45) dX7_write_45 f_X7_18 ha (gr_7_2 hp ha).1 ?_
      refine M_iload (pc := 48) dX7_write_48 rfl ?_
      refine M_iconst (pc := 50) (v := 1) dX7_write_50 (by decide) ?_
      refine M_iadd (pc := 51) dX7_write_51 ?_
      refine M_iload_n (pc := 52) dX7_write_52 rfl ?_
      obtain ⟨hb4, h⟩ := chk h
      refine M_iast (pc := 53) dX7_write_53 (gr_7_2 hp ha).2 (inB_in hb4) ?_
      refine M_aload_n (pc := 54) dX7_write_54 rfl ?_
      refine M_getR (pc := 55) dX7_write_55 f_X7_18 ha (gr_7_2 hp ha).1 ?_
      refine M_iload (pc := 58) dX7_write_58 rfl ?_
      refine M_iconst (pc := 60) (v := 2) dX7_write_60 (by decide) ?_
      refine M_iadd (pc := 61) dX7_write_61 ?_
      refine M_iload_n (pc := 62) dX7_write_62 rfl ?_
      obtain ⟨hb5, h⟩ := chk h
      refine M_iast (pc := 63) dX7_write_63 (gr_7_2 hp ha).2 (inB_in hb5) ?_
      refine M_aload_n (pc := 64) dX7_write_64 rfl ?_
      refine M_getR (pc := 65) dX7_write_65 f_X7_18 ha (gr_7_2 hp ha).1 ?_
      refine M_iload (pc := 68) dX7_write_68 rfl ?_
      refine M_iconst (pc := 70) (v := 3) dX7_write_70 (by decide) ?_
      refine M_iadd (pc := 71) dX7_write_71 ?_
      refine M_iload (pc := 72) dX7_write_72 rfl ?_
      obtain ⟨hb6, h⟩ := chk h
      refine M_iast (pc := 74) dX7_write_74 (gr_7_2 hp ha).2 (inB_in hb6) ?_
      refine M_aload_n (pc := 75) dX7_write_75 rfl ?_
      refine M_bipush (pc := 76) (v := 60) dX7_write_76 (by decide) ?_
      refine M_aload_n (pc := 78) dX7_write_78 rfl ?_
      refine M_getI (pc := 79) dX7_write_79 f_X7_9 ha ?_
      refine M_iconst (pc := 82) (v := 1) dX7_write_82 (by decide) ?_
      refine M_iadd (pc := 83) dX7_write_83 ?_
      refine M_mmin (pc := 84) dX7_write_84 mm_X7_22.1 mm_X7_22.2.1 mm_X7_22.2.2.1 mm_X7_22.2.2.2 (Nat.le_of_ble_eq_true rfl) ?_
      refine M_putI (pc := 87) dX7_write_87 f_X7_9 ha rfl ⟨rfl, rfl⟩ ?_
      obtain rfl := Option.some.inj h
      exact M_vret (pc := 90) dX7_write_90 rfl rfl rfl
def F_X7_read (I : HI) (a : Nat) (x1 : Int32) (x2 : Int32) : Option (Int32) :=
  if x1 < 0 then some (-2 : Int32) else if (I a 0) ≤ x1 then some (-2 : Int32) else if x2 < 0 then some (-2 : Int32) else if x2 < (4 : Int32) then (ald 240 (I (a + 1)) ((((((I a 1) + (60 : Int32)) - x1) - (((I a 1) + (60 : Int32)) - x1) / (60 : Int32) * (60 : Int32)) * (4 : Int32)) + x2)) >>= fun v5 => some v5 else some (-2 : Int32)
set_option maxRecDepth 4000 in
set_option maxHeartbeats 4000000 in
theorem C_X7_read {g : gX} {d : Nat} {P : Nat → Nat → Option Nat} {I : HI} {a : Nat} {x1 : Int32} {x2 : Int32} {J : HJ} (hp : Wp P) (ha : OB NT a 7) {r : Int32} (h : F_X7_read I a x1 x2 = some r) : Cm g mX7_read (d + 0) [.ref a, .int x1, .int x2] (NT, I, J, P) (some (.int r)) (NT, I, J, P) := by
  unfold F_X7_read at h
  refine Cm.of (by decide) (by simp [Value.category]) (Nat.le_of_ble_eq_true rfl) (Nat.le_refl _) (ls := [some (.ref a), some (.int x1), some (.int x2)]) rfl ?_
  refine M_iload_n (pc := 0) dX7_read_0 rfl ?_
  refine M_if_lt (pc := 1) (tgt := 21) dX7_read_1 (by decide) (fun hc1 => ?_) (fun hc1 => ?_)
  · have h := (if_pos hc1).symm.trans h
    refine M_bipush (pc := 21) (v := -2) dX7_read_21 (by decide) ?_
    obtain rfl := Option.some.inj h
    exact M_iret (pc := 23) dX7_read_23 rfl rfl rfl rfl
  · have h := (if_neg hc1).symm.trans h
    refine M_iload_n (pc := 4) dX7_read_4 rfl ?_
    refine M_aload_n (pc := 5) dX7_read_5 rfl ?_
    refine M_getI (pc := 6) dX7_read_6 f_X7_9 ha ?_
    refine M_icmp_ge (pc := 9) (tgt := 21) dX7_read_9 (by decide) (fun hc2 => ?_) (fun hc2 => ?_)
    · have h := (if_pos hc2).symm.trans h
      refine M_bipush (pc := 21) (v := -2) dX7_read_21 (by decide) ?_
      obtain rfl := Option.some.inj h
      exact M_iret (pc := 23) dX7_read_23 rfl rfl rfl rfl
    · have h := (if_neg hc2).symm.trans h
      refine M_iload_n (pc := 12) dX7_read_12 rfl ?_
      refine M_if_lt (pc := 13) (tgt := 21) dX7_read_13 (by decide) (fun hc3 => ?_) (fun hc3 => ?_)
      · have h := (if_pos hc3).symm.trans h
        refine M_bipush (pc := 21) (v := -2) dX7_read_21 (by decide) ?_
        obtain rfl := Option.some.inj h
        exact M_iret (pc := 23) dX7_read_23 rfl rfl rfl rfl
      · have h := (if_neg hc3).symm.trans h
        refine M_iload_n (pc := 16) dX7_read_16 rfl ?_
        refine M_iconst (pc := 17) (v := 4) dX7_read_17 (by decide) ?_
        refine M_icmp_lt (pc := 18) (tgt := 24) dX7_read_18 (by decide) (fun hc4 => ?_) (fun hc4 => ?_)
        · have h := (if_pos hc4).symm.trans h
          refine M_aload_n (pc := 24) dX7_read_24 rfl ?_
          refine M_getR (pc := 25) dX7_read_25 f_X7_18 ha (gr_7_2 hp ha).1 ?_
          refine M_aload_n (pc := 28) dX7_read_28 rfl ?_
          refine M_getI (pc := 29) dX7_read_29 f_X7_15 ha ?_
          refine M_bipush (pc := 32) (v := 60) dX7_read_32 (by decide) ?_
          refine M_iadd (pc := 34) dX7_read_34 ?_
          refine M_iload_n (pc := 35) dX7_read_35 rfl ?_
          refine M_isub (pc := 36) dX7_read_36 ?_
          refine M_bipush (pc := 37) (v := 60) dX7_read_37 (by decide) ?_
          refine M_irem (pc := 39) dX7_read_39 (by decide) ?_
          refine M_iconst (pc := 40) (v := 4) dX7_read_40 (by decide) ?_
          refine M_imul (pc := 41) dX7_read_41 ?_
          refine M_iload_n (pc := 42) dX7_read_42 rfl ?_
          refine M_iadd (pc := 43) dX7_read_43 ?_
          obtain ⟨v5, hv6, h⟩ := bnd h
          refine M_aldI (pc := 44) dX7_read_44 (gr_7_2 hp ha).2 hv6 ?_
          obtain rfl := Option.some.inj h
          exact M_iret (pc := 45) dX7_read_45 rfl rfl rfl rfl
        · have h := (if_neg hc4).symm.trans h
          refine M_bipush (pc := 21) (v := -2) dX7_read_21 (by decide) ?_
          obtain rfl := Option.some.inj h
          exact M_iret (pc := 23) dX7_read_23 rfl rfl rfl rfl
def L_X7_rowsOf_4 (I : HI) (a : Nat) (x1 : Int32) (x2 : Int32) (x3 : Int32) : Option (Int32) :=
  if (I a 0) ≤ x3 then some x2 else (F_X7_read I a x3 (1 : Int32)) >>= fun r2 => if r2 = x1 then L_X7_rowsOf_4 I a x1 (x2 + (1 : Int32)) (x3 + (1 : Int32)) else L_X7_rowsOf_4 I a x1 x2 (x3 + (1 : Int32))
partial_fixpoint
def F_X7_rowsOf (I : HI) (a : Nat) (x1 : Int32) : Option (Int32) :=
  L_X7_rowsOf_4 I a x1 (0 : Int32) (0 : Int32)
set_option maxRecDepth 4000 in
set_option maxHeartbeats 4000000 in
theorem LC_X7_rowsOf_4 {g : gX} {d : Nat} {P : Nat → Nat → Option Nat} {J : HJ} {I : HI} {a : Nat} {x1 : Int32} (hp : Wp P) (ha : OB NT a 7) : ∀ (x2 : Int32) (x3 : Int32) (r : Int32), L_X7_rowsOf_4 I a x1 x2 x3 = some r → M g mX7_rowsOf (d + 1) (NT, NT, 0) ((.inl (some (.int r))), (NT, I, J, P)) 4 [some (.ref a), some (.int x1), some (.int x2), some (.int x3)] [] (NT, I, J, P) := by
  refine L_X7_rowsOf_4.partial_correctness I a x1 (fun x2 x3 r => M g mX7_rowsOf (d + 1) (NT, NT, 0) ((.inl (some (.int r))), (NT, I, J, P)) 4 [some (.ref a), some (.int x1), some (.int x2), some (.int x3)] [] (NT, I, J, P)) ?_
  intro f ih x2 x3 r h
  refine M_iload_n (pc := 4) dX7_rowsOf_4 rfl ?_
  refine M_aload_n (pc := 5) dX7_rowsOf_5 rfl ?_
  refine M_getI (pc := 6) dX7_rowsOf_6 f_X7_9 ha ?_
  refine M_icmp_ge (pc := 9) (tgt := 31) dX7_rowsOf_9 (by decide) (fun hc1 => ?_) (fun hc1 => ?_)
  · have h := (if_pos hc1).symm.trans h
    refine M_iload_n (pc := 31) dX7_rowsOf_31 rfl ?_
    obtain rfl := Option.some.inj h
    exact M_iret (pc := 32) dX7_rowsOf_32 rfl rfl rfl rfl
  · have h := (if_neg hc1).symm.trans h
    refine M_aload_n (pc := 12) dX7_rowsOf_12 rfl ?_
    refine M_iload_n (pc := 13) dX7_rowsOf_13 rfl ?_
    refine M_iconst (pc := 14) (v := 1) dX7_rowsOf_14 (by decide) ?_
    obtain ⟨r2, hr3, h⟩ := bnd h
    refine M_callVi (pc := 15) dX7_rowsOf_15 v_X7_28 rfl rfl ha (Nat.le_of_ble_eq_true rfl) (C_X7_read (d := d + 0) hp ha hr3) (Nat.le_refl _) ?_
    refine M_iload_n (pc := 18) dX7_rowsOf_18 rfl ?_
    refine M_icmp_ne (pc := 19) (tgt := 25) dX7_rowsOf_19 (by decide) (fun hc4 => ?_) (fun hc4 => ?_)
    · have h := (if_neg hc4).symm.trans h
      refine M_iinc (pc := 25) (v := (x3 + (1 : Int32))) (ls' := [some (.ref a), some (.int x1), some (.int x2), some (.int (x3 + (1 : Int32)))]) dX7_rowsOf_25 rfl rfl (by decide) rfl ?_
      refine M_goto (pc := 28) (tgt := 4) dX7_rowsOf_28 (by decide) ?_
      exact ih x2 (x3 + (1 : Int32)) _ h
    · have h := (if_pos hc4).symm.trans h
      refine M_iinc (pc := 22) (v := (x2 + (1 : Int32))) (ls' := [some (.ref a), some (.int x1), some (.int (x2 + (1 : Int32))), some (.int x3)]) dX7_rowsOf_22 rfl rfl (by decide) rfl ?_
      refine M_iinc (pc := 25) (v := (x3 + (1 : Int32))) (ls' := [some (.ref a), some (.int x1), some (.int (x2 + (1 : Int32))), some (.int (x3 + (1 : Int32)))]) dX7_rowsOf_25 rfl rfl (by decide) rfl ?_
      refine M_goto (pc := 28) (tgt := 4) dX7_rowsOf_28 (by decide) ?_
      exact ih (x2 + (1 : Int32)) (x3 + (1 : Int32)) _ h
set_option maxRecDepth 4000 in
set_option maxHeartbeats 4000000 in
theorem C_X7_rowsOf {g : gX} {d : Nat} {P : Nat → Nat → Option Nat} {I : HI} {a : Nat} {x1 : Int32} {J : HJ} (hp : Wp P) (ha : OB NT a 7) {r : Int32} (h : F_X7_rowsOf I a x1 = some r) : Cm g mX7_rowsOf (d + 1) [.ref a, .int x1] (NT, I, J, P) (some (.int r)) (NT, I, J, P) := by
  unfold F_X7_rowsOf at h
  refine Cm.of (by decide) (by simp [Value.category]) (Nat.le_of_ble_eq_true rfl) (Nat.le_refl _) (ls := [some (.ref a), some (.int x1), none, none]) rfl ?_
  refine M_iconst (pc := 0) (v := 0) dX7_rowsOf_0 (by decide) ?_
  refine M_istore_n (pc := 1) (ls' := [some (.ref a), some (.int x1), some (.int (0 : Int32)), none]) dX7_rowsOf_1 (by decide) rfl ?_
  refine M_iconst (pc := 2) (v := 0) dX7_rowsOf_2 (by decide) ?_
  refine M_istore_n (pc := 3) (ls' := [some (.ref a), some (.int x1), some (.int (0 : Int32)), some (.int (0 : Int32))]) dX7_rowsOf_3 (by decide) rfl ?_
  exact LC_X7_rowsOf_4 (P := P) hp ha (0 : Int32) (0 : Int32) _ h
def L_X7_latestEvening_2 (I : HI) (a : Nat) (x1 : Int32) (x2 : Int32) : Option (Int32) :=
  if (I a 0) ≤ x2 then some (-1 : Int32) else (F_X7_read I a x2 (1 : Int32)) >>= fun r2 => if r2 = x1 then (F_X7_read I a x2 (0 : Int32)) >>= fun r5 => some r5 else L_X7_latestEvening_2 I a x1 (x2 + (1 : Int32))
partial_fixpoint
def F_X7_latestEvening (I : HI) (a : Nat) (x1 : Int32) : Option (Int32) :=
  L_X7_latestEvening_2 I a x1 (0 : Int32)
set_option maxRecDepth 4000 in
set_option maxHeartbeats 4000000 in
theorem LC_X7_latestEvening_2 {g : gX} {d : Nat} {P : Nat → Nat → Option Nat} {J : HJ} {I : HI} {a : Nat} {x1 : Int32} (hp : Wp P) (ha : OB NT a 7) : ∀ (x2 : Int32) (r : Int32), L_X7_latestEvening_2 I a x1 x2 = some r → M g mX7_latestEvening (d + 1) (NT, NT, 0) ((.inl (some (.int r))), (NT, I, J, P)) 2 [some (.ref a), some (.int x1), some (.int x2)] [] (NT, I, J, P) := by
  refine L_X7_latestEvening_2.partial_correctness I a x1 (fun x2 r => M g mX7_latestEvening (d + 1) (NT, NT, 0) ((.inl (some (.int r))), (NT, I, J, P)) 2 [some (.ref a), some (.int x1), some (.int x2)] [] (NT, I, J, P)) ?_
  intro f ih x2 r h
  refine M_iload_n (pc := 2) dX7_latestEvening_2 rfl ?_
  refine M_aload_n (pc := 3) dX7_latestEvening_3 rfl ?_
  refine M_getI (pc := 4) dX7_latestEvening_4 f_X7_9 ha ?_
  refine M_icmp_ge (pc := 7) (tgt := 33) dX7_latestEvening_7 (by decide) (fun hc1 => ?_) (fun hc1 => ?_)
  · have h := (if_pos hc1).symm.trans h
    refine M_iconst (pc := 33) (v := -1) dX7_latestEvening_33 (by decide) ?_
    obtain rfl := Option.some.inj h
    exact M_iret (pc := 34) dX7_latestEvening_34 rfl rfl rfl rfl
  · have h := (if_neg hc1).symm.trans h
    refine M_aload_n (pc := 10) dX7_latestEvening_10 rfl ?_
    refine M_iload_n (pc := 11) dX7_latestEvening_11 rfl ?_
    refine M_iconst (pc := 12) (v := 1) dX7_latestEvening_12 (by decide) ?_
    obtain ⟨r2, hr3, h⟩ := bnd h
    refine M_callVi (pc := 13) dX7_latestEvening_13 v_X7_28 rfl rfl ha (Nat.le_of_ble_eq_true rfl) (C_X7_read (d := d + 0) hp ha hr3) (Nat.le_refl _) ?_
    refine M_iload_n (pc := 16) dX7_latestEvening_16 rfl ?_
    refine M_icmp_ne (pc := 17) (tgt := 27) dX7_latestEvening_17 (by decide) (fun hc4 => ?_) (fun hc4 => ?_)
    · have h := (if_neg hc4).symm.trans h
      refine M_iinc (pc := 27) (v := (x2 + (1 : Int32))) (ls' := [some (.ref a), some (.int x1), some (.int (x2 + (1 : Int32)))]) dX7_latestEvening_27 rfl rfl (by decide) rfl ?_
      refine M_goto (pc := 30) (tgt := 2) dX7_latestEvening_30 (by decide) ?_
      exact ih (x2 + (1 : Int32)) _ h
    · have h := (if_pos hc4).symm.trans h
      refine M_aload_n (pc := 20) dX7_latestEvening_20 rfl ?_
      refine M_iload_n (pc := 21) dX7_latestEvening_21 rfl ?_
      refine M_iconst (pc := 22) (v := 0) dX7_latestEvening_22 (by decide) ?_
      obtain ⟨r5, hr6, h⟩ := bnd h
      refine M_callVi (pc := 23) dX7_latestEvening_23 v_X7_28 rfl rfl ha (Nat.le_of_ble_eq_true rfl) (C_X7_read (d := d + 0) hp ha hr6) (Nat.le_refl _) ?_
      obtain rfl := Option.some.inj h
      exact M_iret (pc := 26) dX7_latestEvening_26 rfl rfl rfl rfl
set_option maxRecDepth 4000 in
set_option maxHeartbeats 4000000 in
theorem C_X7_latestEvening {g : gX} {d : Nat} {P : Nat → Nat → Option Nat} {I : HI} {a : Nat} {x1 : Int32} {J : HJ} (hp : Wp P) (ha : OB NT a 7) {r : Int32} (h : F_X7_latestEvening I a x1 = some r) : Cm g mX7_latestEvening (d + 1) [.ref a, .int x1] (NT, I, J, P) (some (.int r)) (NT, I, J, P) := by
  unfold F_X7_latestEvening at h
  refine Cm.of (by decide) (by simp [Value.category]) (Nat.le_of_ble_eq_true rfl) (Nat.le_refl _) (ls := [some (.ref a), some (.int x1), none]) rfl ?_
  refine M_iconst (pc := 0) (v := 0) dX7_latestEvening_0 (by decide) ?_
  refine M_istore_n (pc := 1) (ls' := [some (.ref a), some (.int x1), some (.int (0 : Int32))]) dX7_latestEvening_1 (by decide) rfl ?_
  exact LC_X7_latestEvening_2 (P := P) hp ha (0 : Int32) _ h
def F_X7_copy (I : HI) (a : Nat) (b1 : Nat) : Option (HI) :=
  some (up1 (up2 (up2 I a 0 (I b1 0)) a 1 ((up2 I a 0 (I b1 0)) b1 1)) (a + 1) (va_cpy ((up2 (up2 I a 0 (I b1 0)) a 1 ((up2 I a 0 (I b1 0)) b1 1)) (b1 + 1)) ((up2 (up2 I a 0 (I b1 0)) a 1 ((up2 I a 0 (I b1 0)) b1 1)) (a + 1)) 0 0 240))
set_option maxRecDepth 4000 in
set_option maxHeartbeats 4000000 in
theorem C_X7_copy {g : gX} {d : Nat} {P : Nat → Nat → Option Nat} {I : HI} {a : Nat} {b1 : Nat} {J : HJ} (hp : Wp P) (ha : OB NT a 7) (hb1 : OB NT b1 7) {r : HI} (h : F_X7_copy I a b1 = some r) : Cm g mX7_copy (d + 1) [.ref a, .ref b1] (NT, I, J, P) none (NT, r, J, P) := by
  unfold F_X7_copy at h
  refine Cm.of (by decide) (by simp [Value.category]) (Nat.le_of_ble_eq_true rfl) (Nat.le_refl _) (ls := [some (.ref a), some (.ref b1)]) rfl ?_
  refine M_aload_n (pc := 0) dX7_copy_0 rfl ?_
  refine M_aload_n (pc := 1) dX7_copy_1 rfl ?_
  refine M_getI (pc := 2) dX7_copy_2 f_X7_9 hb1 ?_
  refine M_putI (pc := 5) dX7_copy_5 f_X7_9 ha rfl ⟨rfl, rfl⟩ ?_
  refine M_aload_n (pc := 8) dX7_copy_8 rfl ?_
  refine M_aload_n (pc := 9) dX7_copy_9 rfl ?_
  refine M_getI (pc := 10) dX7_copy_10 f_X7_15 hb1 ?_
  refine M_putI (pc := 13) dX7_copy_13 f_X7_15 ha rfl ⟨rfl, rfl⟩ ?_
  refine M_aload_n (pc := 16) dX7_copy_16 rfl ?_
  refine M_getR (pc := 17) dX7_copy_17 f_X7_18 hb1 (gr_7_2 hp hb1).1 ?_
  refine M_iconst (pc := 20) (v := 0) dX7_copy_20 (by decide) ?_
  refine M_aload_n (pc := 21) dX7_copy_21 rfl ?_
  refine M_getR (pc := 22) dX7_copy_22 f_X7_18 ha (gr_7_2 hp ha).1 ?_
  refine M_iconst (pc := 25) (v := 0) dX7_copy_25 (by decide) ?_
  refine M_sipush (pc := 26) (v := 240) dX7_copy_26 (by decide) ?_
  refine M_copy0 (pc := 29) (k := 240) dX7_copy_29 w_475 w_470 w_469 w_14 (by omega) (by decide) (gr_7_2 hp ha).2 (gr_7_2 hp hb1).2 (by decide) (by decide) (by decide) (by decide) ?_
  obtain rfl := Option.some.inj h
  exact M_vret (pc := 32) dX7_copy_32 rfl rfl rfl
def F_X8_nth (I : HI) (x1 : Int32) : Option (Int32) :=
  if x1 < 0 then some (-1 : Int32) else if (I 155 1) ≤ x1 then some (-1 : Int32) else (ald 6 (I 157) x1) >>= fun v3 => some v3
set_option maxRecDepth 4000 in
set_option maxHeartbeats 4000000 in
theorem C_X8_nth {g : gX} {d : Nat} {P : Nat → Nat → Option Nat} {I : HI} {x1 : Int32} {J : HJ} (hp : Wp P) {r : Int32} (h : F_X8_nth I x1 = some r) : Cm g mX8_nth (d + 0) [.ref 155, .int x1] (NT, I, J, P) (some (.int r)) (NT, I, J, P) := by
  unfold F_X8_nth at h
  refine Cm.of (by decide) (by simp [Value.category]) (Nat.le_of_ble_eq_true rfl) (Nat.le_refl _) (ls := [some (.ref 155), some (.int x1)]) rfl ?_
  refine M_iload_n (pc := 0) dX8_nth_0 rfl ?_
  refine M_if_lt (pc := 1) (tgt := 21) dX8_nth_1 (by decide) (fun hc1 => ?_) (fun hc1 => ?_)
  · have h := (if_pos hc1).symm.trans h
    refine M_iconst (pc := 21) (v := -1) dX8_nth_21 (by decide) ?_
    obtain rfl := Option.some.inj h
    exact M_iret (pc := 22) dX8_nth_22 rfl rfl rfl rfl
  · have h := (if_neg hc1).symm.trans h
    refine M_iload_n (pc := 4) dX8_nth_4 rfl ?_
    refine M_aload_n (pc := 5) dX8_nth_5 rfl ?_
    refine M_getI (pc := 6) dX8_nth_6 f_X8_15 at_8 ?_
    refine M_icmp_ge (pc := 9) (tgt := 21) dX8_nth_9 (by decide) (fun hc2 => ?_) (fun hc2 => ?_)
    · have h := (if_pos hc2).symm.trans h
      refine M_iconst (pc := 21) (v := -1) dX8_nth_21 (by decide) ?_
      obtain rfl := Option.some.inj h
      exact M_iret (pc := 22) dX8_nth_22 rfl rfl rfl rfl
    · have h := (if_neg hc2).symm.trans h
      refine M_aload_n (pc := 12) dX8_nth_12 rfl ?_
      refine M_getR (pc := 13) dX8_nth_13 f_X8_22 at_8 (gr_8_3 hp at_8).1 ?_
      refine M_iload_n (pc := 16) dX8_nth_16 rfl ?_
      obtain ⟨v3, hv4, h⟩ := bnd h
      refine M_aldI (pc := 17) dX8_nth_17 (gr_8_3 hp at_8).2 hv4 ?_
      refine M_goto (pc := 18) (tgt := 22) dX8_nth_18 (by decide) ?_
      obtain rfl := Option.some.inj h
      exact M_iret (pc := 22) dX8_nth_22 rfl rfl rfl rfl
def F_X9_putCalled (I : HI) (b1 : Nat) : Option (HI) :=
  (ald 12 (I (b1 + 3)) (I 136 0)) >>= fun v1 => (ald 12 (I (b1 + 5)) (I 136 0)) >>= fun v3 => (ald 12 ((up2 I 137 1 v1) (b1 + 4)) ((up2 I 137 1 v1) 136 0)) >>= fun v5 => if v3 = (-1 : Int32) then if v1 < ((up2 (up2 (up2 I 137 1 v1) 137 2 v5) 137 3 (9 : Int32)) b1 8) then if v3 = (-1 : Int32) then some (up2 (up2 (up2 (up2 (up2 I 137 1 v1) 137 2 v5) 137 3 (9 : Int32)) 137 7 (0 : Int32)) 137 8 (1 : Int32)) else some (up2 (up2 (up2 (up2 (up2 I 137 1 v1) 137 2 v5) 137 3 (9 : Int32)) 137 7 (0 : Int32)) 137 8 (0 : Int32)) else if ((up2 (up2 (up2 I 137 1 v1) 137 2 v5) 137 3 (9 : Int32)) b1 9) < v1 then if v3 = (-1 : Int32) then some (up2 (up2 (up2 (up2 (up2 I 137 1 v1) 137 2 v5) 137 3 (9 : Int32)) 137 7 (0 : Int32)) 137 8 (1 : Int32)) else some (up2 (up2 (up2 (up2 (up2 I 137 1 v1) 137 2 v5) 137 3 (9 : Int32)) 137 7 (0 : Int32)) 137 8 (0 : Int32)) else if v3 = (-1 : Int32) then some (up2 (up2 (up2 (up2 (up2 I 137 1 v1) 137 2 v5) 137 3 (9 : Int32)) 137 7 (1 : Int32)) 137 8 (1 : Int32)) else some (up2 (up2 (up2 (up2 (up2 I 137 1 v1) 137 2 v5) 137 3 (9 : Int32)) 137 7 (1 : Int32)) 137 8 (0 : Int32)) else if v1 < ((up2 (up2 (up2 I 137 1 v1) 137 2 v5) 137 3 v3) b1 8) then if v3 = (-1 : Int32) then some (up2 (up2 (up2 (up2 (up2 I 137 1 v1) 137 2 v5) 137 3 v3) 137 7 (0 : Int32)) 137 8 (1 : Int32)) else some (up2 (up2 (up2 (up2 (up2 I 137 1 v1) 137 2 v5) 137 3 v3) 137 7 (0 : Int32)) 137 8 (0 : Int32)) else if ((up2 (up2 (up2 I 137 1 v1) 137 2 v5) 137 3 v3) b1 9) < v1 then if v3 = (-1 : Int32) then some (up2 (up2 (up2 (up2 (up2 I 137 1 v1) 137 2 v5) 137 3 v3) 137 7 (0 : Int32)) 137 8 (1 : Int32)) else some (up2 (up2 (up2 (up2 (up2 I 137 1 v1) 137 2 v5) 137 3 v3) 137 7 (0 : Int32)) 137 8 (0 : Int32)) else if v3 = (-1 : Int32) then some (up2 (up2 (up2 (up2 (up2 I 137 1 v1) 137 2 v5) 137 3 v3) 137 7 (1 : Int32)) 137 8 (1 : Int32)) else some (up2 (up2 (up2 (up2 (up2 I 137 1 v1) 137 2 v5) 137 3 v3) 137 7 (1 : Int32)) 137 8 (0 : Int32))
set_option maxRecDepth 4000 in
set_option maxHeartbeats 4000000 in
theorem C_X9_putCalled {g : gX} {d : Nat} {P : Nat → Nat → Option Nat} {I : HI} {b1 : Nat} {J : HJ} (hp : Wp P) (hb1 : OB NT b1 3) {r : HI} (h : F_X9_putCalled I b1 = some r) : Cm g mX9_putCalled (d + 0) [.ref 136, .ref b1] (NT, I, J, P) none (NT, r, J, P) := by
  unfold F_X9_putCalled at h
  refine Cm.of (by decide) (by simp [Value.category]) (Nat.le_of_ble_eq_true rfl) (Nat.le_refl _) (ls := [some (.ref 136), some (.ref b1), none, none]) rfl ?_
  refine M_aload_n (pc := 0) dX9_putCalled_0 rfl ?_
  refine M_getR (pc := 1) dX9_putCalled_1 f_X9_30 hb1 (gr_3_0 hp hb1).1 ?_
  refine M_getR (pc := 4) dX9_putCalled_4 f_X9_66 (gr_3_0 hp hb1).2 (gr_1_2 hp (gr_3_0 hp hb1).2).1 ?_
  refine M_aload_n (pc := 7) dX9_putCalled_7 rfl ?_
  refine M_getI (pc := 8) dX9_putCalled_8 f_X9_9 at_9 ?_
  obtain ⟨v1, hv2, h⟩ := bnd h
  refine M_aldI (pc := 11) dX9_putCalled_11 (gr_1_2 hp (gr_3_0 hp hb1).2).2 hv2 ?_
  refine M_istore_n (pc := 12) (ls' := [some (.ref 136), some (.ref b1), some (.int v1), none]) dX9_putCalled_12 (by decide) rfl ?_
  refine M_aload_n (pc := 13) dX9_putCalled_13 rfl ?_
  refine M_getR (pc := 14) dX9_putCalled_14 f_X9_30 hb1 (gr_3_0 hp hb1).1 ?_
  refine M_getR (pc := 17) dX9_putCalled_17 f_X9_69 (gr_3_0 hp hb1).2 (gr_1_4 hp (gr_3_0 hp hb1).2).1 ?_
  refine M_aload_n (pc := 20) dX9_putCalled_20 rfl ?_
  refine M_getI (pc := 21) dX9_putCalled_21 f_X9_9 at_9 ?_
  obtain ⟨v3, hv4, h⟩ := bnd h
  refine M_aldI (pc := 24) dX9_putCalled_24 (gr_1_4 hp (gr_3_0 hp hb1).2).2 hv4 ?_
  refine M_istore_n (pc := 25) (ls' := [some (.ref 136), some (.ref b1), some (.int v1), some (.int v3)]) dX9_putCalled_25 (by decide) rfl ?_
  refine M_aload_n (pc := 26) dX9_putCalled_26 rfl ?_
  refine M_getR (pc := 27) dX9_putCalled_27 f_X9_21 at_9 (gr_9_3 hp at_9).1 ?_
  refine M_iconst (pc := 30) (v := 1) dX9_putCalled_30 (by decide) ?_
  refine M_iload_n (pc := 31) dX9_putCalled_31 rfl ?_
  refine M_istc (pc := 32) (j := 1) dX9_putCalled_32 (gr_9_3 hp at_9).2 (by decide) (by decide) ?_
  refine M_aload_n (pc := 33) dX9_putCalled_33 rfl ?_
  refine M_getR (pc := 34) dX9_putCalled_34 f_X9_21 at_9 (gr_9_3 hp at_9).1 ?_
  refine M_iconst (pc := 37) (v := 2) dX9_putCalled_37 (by decide) ?_
  refine M_aload_n (pc := 38) dX9_putCalled_38 rfl ?_
  refine M_getR (pc := 39) dX9_putCalled_39 f_X9_30 hb1 (gr_3_0 hp hb1).1 ?_
  refine M_getR (pc := 42) dX9_putCalled_42 f_X9_72 (gr_3_0 hp hb1).2 (gr_1_3 hp (gr_3_0 hp hb1).2).1 ?_
  refine M_aload_n (pc := 45) dX9_putCalled_45 rfl ?_
  refine M_getI (pc := 46) dX9_putCalled_46 f_X9_9 at_9 ?_
  obtain ⟨v5, hv6, h⟩ := bnd h
  refine M_aldI (pc := 49) dX9_putCalled_49 (gr_1_3 hp (gr_3_0 hp hb1).2).2 hv6 ?_
  refine M_istc (pc := 50) (j := 2) dX9_putCalled_50 (gr_9_3 hp at_9).2 (by decide) (by decide) ?_
  refine M_aload_n (pc := 51) dX9_putCalled_51 rfl ?_
  refine M_getR (pc := 52) dX9_putCalled_52 f_X9_21 at_9 (gr_9_3 hp at_9).1 ?_
  refine M_iconst (pc := 55) (v := 3) dX9_putCalled_55 (by decide) ?_
  refine M_iload_n (pc := 56) dX9_putCalled_56 rfl ?_
  refine M_iconst (pc := 57) (v := -1) dX9_putCalled_57 (by decide) ?_
  refine M_icmp_ne (pc := 58) (tgt := 66) dX9_putCalled_58 (by decide) (fun hc7 => ?_) (fun hc7 => ?_)
  · have h := (if_neg hc7).symm.trans h
    refine M_iload_n (pc := 66) dX9_putCalled_66 rfl ?_
    refine M_istc (pc := 67) (j := 3) dX9_putCalled_67 (gr_9_3 hp at_9).2 (by decide) (by decide) ?_
    refine M_aload_n (pc := 68) dX9_putCalled_68 rfl ?_
    refine M_getR (pc := 69) dX9_putCalled_69 f_X9_21 at_9 (gr_9_3 hp at_9).1 ?_
    refine M_bipush (pc := 72) (v := 7) dX9_putCalled_72 (by decide) ?_
    refine M_iload_n (pc := 74) dX9_putCalled_74 rfl ?_
    refine M_aload_n (pc := 75) dX9_putCalled_75 rfl ?_
    refine M_getI (pc := 76) dX9_putCalled_76 f_X9_75 hb1 ?_
    refine M_icmp_lt (pc := 79) (tgt := 94) dX9_putCalled_79 (by decide) (fun hc8 => ?_) (fun hc8 => ?_)
    · have h := (if_pos hc8).symm.trans h
      refine M_iconst (pc := 94) (v := 0) dX9_putCalled_94 (by decide) ?_
      refine M_istc (pc := 95) (j := 7) dX9_putCalled_95 (gr_9_3 hp at_9).2 (by decide) (by decide) ?_
      refine M_aload_n (pc := 96) dX9_putCalled_96 rfl ?_
      refine M_getR (pc := 97) dX9_putCalled_97 f_X9_21 at_9 (gr_9_3 hp at_9).1 ?_
      refine M_bipush (pc := 100) (v := 8) dX9_putCalled_100 (by decide) ?_
      refine M_iload_n (pc := 102) dX9_putCalled_102 rfl ?_
      refine M_iconst (pc := 103) (v := -1) dX9_putCalled_103 (by decide) ?_
      refine M_icmp_ne (pc := 104) (tgt := 111) dX9_putCalled_104 (by decide) (fun hc9 => ?_) (fun hc9 => ?_)
      · have h := (if_neg hc9).symm.trans h
        refine M_iconst (pc := 111) (v := 0) dX9_putCalled_111 (by decide) ?_
        refine M_istc (pc := 112) (j := 8) dX9_putCalled_112 (gr_9_3 hp at_9).2 (by decide) (by decide) ?_
        obtain rfl := Option.some.inj h
        exact M_vret (pc := 113) dX9_putCalled_113 rfl rfl rfl
      · have h := (if_pos hc9).symm.trans h
        refine M_iconst (pc := 107) (v := 1) dX9_putCalled_107 (by decide) ?_
        refine M_goto (pc := 108) (tgt := 112) dX9_putCalled_108 (by decide) ?_
        refine M_istc (pc := 112) (j := 8) dX9_putCalled_112 (gr_9_3 hp at_9).2 (by decide) (by decide) ?_
        obtain rfl := Option.some.inj h
        exact M_vret (pc := 113) dX9_putCalled_113 rfl rfl rfl
    · have h := (if_neg hc8).symm.trans h
      refine M_iload_n (pc := 82) dX9_putCalled_82 rfl ?_
      refine M_aload_n (pc := 83) dX9_putCalled_83 rfl ?_
      refine M_getI (pc := 84) dX9_putCalled_84 f_X9_78 hb1 ?_
      refine M_icmp_gt (pc := 87) (tgt := 94) dX9_putCalled_87 (by decide) (fun hc10 => ?_) (fun hc10 => ?_)
      · have h := (if_pos hc10).symm.trans h
        refine M_iconst (pc := 94) (v := 0) dX9_putCalled_94 (by decide) ?_
        refine M_istc (pc := 95) (j := 7) dX9_putCalled_95 (gr_9_3 hp at_9).2 (by decide) (by decide) ?_
        refine M_aload_n (pc := 96) dX9_putCalled_96 rfl ?_
        refine M_getR (pc := 97) dX9_putCalled_97 f_X9_21 at_9 (gr_9_3 hp at_9).1 ?_
        refine M_bipush (pc := 100) (v := 8) dX9_putCalled_100 (by decide) ?_
        refine M_iload_n (pc := 102) dX9_putCalled_102 rfl ?_
        refine M_iconst (pc := 103) (v := -1) dX9_putCalled_103 (by decide) ?_
        refine M_icmp_ne (pc := 104) (tgt := 111) dX9_putCalled_104 (by decide) (fun hc11 => ?_) (fun hc11 => ?_)
        · have h := (if_neg hc11).symm.trans h
          refine M_iconst (pc := 111) (v := 0) dX9_putCalled_111 (by decide) ?_
          refine M_istc (pc := 112) (j := 8) dX9_putCalled_112 (gr_9_3 hp at_9).2 (by decide) (by decide) ?_
          obtain rfl := Option.some.inj h
          exact M_vret (pc := 113) dX9_putCalled_113 rfl rfl rfl
        · have h := (if_pos hc11).symm.trans h
          refine M_iconst (pc := 107) (v := 1) dX9_putCalled_107 (by decide) ?_
          refine M_goto (pc := 108) (tgt := 112) dX9_putCalled_108 (by decide) ?_
          refine M_istc (pc := 112) (j := 8) dX9_putCalled_112 (gr_9_3 hp at_9).2 (by decide) (by decide) ?_
          obtain rfl := Option.some.inj h
          exact M_vret (pc := 113) dX9_putCalled_113 rfl rfl rfl
      · have h := (if_neg hc10).symm.trans h
        refine M_iconst (pc := 90) (v := 1) dX9_putCalled_90 (by decide) ?_
        refine M_goto (pc := 91) (tgt := 95) dX9_putCalled_91 (by decide) ?_
        refine M_istc (pc := 95) (j := 7) dX9_putCalled_95 (gr_9_3 hp at_9).2 (by decide) (by decide) ?_
        refine M_aload_n (pc := 96) dX9_putCalled_96 rfl ?_
        refine M_getR (pc := 97) dX9_putCalled_97 f_X9_21 at_9 (gr_9_3 hp at_9).1 ?_
        refine M_bipush (pc := 100) (v := 8) dX9_putCalled_100 (by decide) ?_
        refine M_iload_n (pc := 102) dX9_putCalled_102 rfl ?_
        refine M_iconst (pc := 103) (v := -1) dX9_putCalled_103 (by decide) ?_
        refine M_icmp_ne (pc := 104) (tgt := 111) dX9_putCalled_104 (by decide) (fun hc12 => ?_) (fun hc12 => ?_)
        · have h := (if_neg hc12).symm.trans h
          refine M_iconst (pc := 111) (v := 0) dX9_putCalled_111 (by decide) ?_
          refine M_istc (pc := 112) (j := 8) dX9_putCalled_112 (gr_9_3 hp at_9).2 (by decide) (by decide) ?_
          obtain rfl := Option.some.inj h
          exact M_vret (pc := 113) dX9_putCalled_113 rfl rfl rfl
        · have h := (if_pos hc12).symm.trans h
          refine M_iconst (pc := 107) (v := 1) dX9_putCalled_107 (by decide) ?_
          refine M_goto (pc := 108) (tgt := 112) dX9_putCalled_108 (by decide) ?_
          refine M_istc (pc := 112) (j := 8) dX9_putCalled_112 (gr_9_3 hp at_9).2 (by decide) (by decide) ?_
          obtain rfl := Option.some.inj h
          exact M_vret (pc := 113) dX9_putCalled_113 rfl rfl rfl
  · have h := (if_pos hc7).symm.trans h
    refine M_bipush (pc := 61) (v := 9) dX9_putCalled_61 (by decide) ?_
    refine M_goto (pc := 63) (tgt := 67) dX9_putCalled_63 (by decide) ?_
    refine M_istc (pc := 67) (j := 3) dX9_putCalled_67 (gr_9_3 hp at_9).2 (by decide) (by decide) ?_
    refine M_aload_n (pc := 68) dX9_putCalled_68 rfl ?_
    refine M_getR (pc := 69) dX9_putCalled_69 f_X9_21 at_9 (gr_9_3 hp at_9).1 ?_
    refine M_bipush (pc := 72) (v := 7) dX9_putCalled_72 (by decide) ?_
    refine M_iload_n (pc := 74) dX9_putCalled_74 rfl ?_
    refine M_aload_n (pc := 75) dX9_putCalled_75 rfl ?_
    refine M_getI (pc := 76) dX9_putCalled_76 f_X9_75 hb1 ?_
    refine M_icmp_lt (pc := 79) (tgt := 94) dX9_putCalled_79 (by decide) (fun hc13 => ?_) (fun hc13 => ?_)
    · have h := (if_pos hc13).symm.trans h
      refine M_iconst (pc := 94) (v := 0) dX9_putCalled_94 (by decide) ?_
      refine M_istc (pc := 95) (j := 7) dX9_putCalled_95 (gr_9_3 hp at_9).2 (by decide) (by decide) ?_
      refine M_aload_n (pc := 96) dX9_putCalled_96 rfl ?_
      refine M_getR (pc := 97) dX9_putCalled_97 f_X9_21 at_9 (gr_9_3 hp at_9).1 ?_
      refine M_bipush (pc := 100) (v := 8) dX9_putCalled_100 (by decide) ?_
      refine M_iload_n (pc := 102) dX9_putCalled_102 rfl ?_
      refine M_iconst (pc := 103) (v := -1) dX9_putCalled_103 (by decide) ?_
      refine M_icmp_ne (pc := 104) (tgt := 111) dX9_putCalled_104 (by decide) (fun hc14 => ?_) (fun hc14 => ?_)
      · have h := (if_neg hc14).symm.trans h
        refine M_iconst (pc := 111) (v := 0) dX9_putCalled_111 (by decide) ?_
        refine M_istc (pc := 112) (j := 8) dX9_putCalled_112 (gr_9_3 hp at_9).2 (by decide) (by decide) ?_
        obtain rfl := Option.some.inj h
        exact M_vret (pc := 113) dX9_putCalled_113 rfl rfl rfl
      · have h := (if_pos hc14).symm.trans h
        refine M_iconst (pc := 107) (v := 1) dX9_putCalled_107 (by decide) ?_
        refine M_goto (pc := 108) (tgt := 112) dX9_putCalled_108 (by decide) ?_
        refine M_istc (pc := 112) (j := 8) dX9_putCalled_112 (gr_9_3 hp at_9).2 (by decide) (by decide) ?_
        obtain rfl := Option.some.inj h
        exact M_vret (pc := 113) dX9_putCalled_113 rfl rfl rfl
    · have h := (if_neg hc13).symm.trans h
      refine M_iload_n (pc := 82) dX9_putCalled_82 rfl ?_
      refine M_aload_n (pc := 83) dX9_putCalled_83 rfl ?_
      refine M_getI (pc := 84) dX9_putCalled_84 f_X9_78 hb1 ?_
      refine M_icmp_gt (pc := 87) (tgt := 94) dX9_putCalled_87 (by decide) (fun hc15 => ?_) (fun hc15 => ?_)
      · have h := (if_pos hc15).symm.trans h
        refine M_iconst (pc := 94) (v := 0) dX9_putCalled_94 (by decide) ?_
        refine M_istc (pc := 95) (j := 7) dX9_putCalled_95 (gr_9_3 hp at_9).2 (by decide) (by decide) ?_
        refine M_aload_n (pc := 96) dX9_putCalled_96 rfl ?_
        refine M_getR (pc := 97) dX9_putCalled_97 f_X9_21 at_9 (gr_9_3 hp at_9).1 ?_
        refine M_bipush (pc := 100) (v := 8) dX9_putCalled_100 (by decide) ?_
        refine M_iload_n (pc := 102) dX9_putCalled_102 rfl ?_
        refine M_iconst (pc := 103) (v := -1) dX9_putCalled_103 (by decide) ?_
        refine M_icmp_ne (pc := 104) (tgt := 111) dX9_putCalled_104 (by decide) (fun hc16 => ?_) (fun hc16 => ?_)
        · have h := (if_neg hc16).symm.trans h
          refine M_iconst (pc := 111) (v := 0) dX9_putCalled_111 (by decide) ?_
          refine M_istc (pc := 112) (j := 8) dX9_putCalled_112 (gr_9_3 hp at_9).2 (by decide) (by decide) ?_
          obtain rfl := Option.some.inj h
          exact M_vret (pc := 113) dX9_putCalled_113 rfl rfl rfl
        · have h := (if_pos hc16).symm.trans h
          refine M_iconst (pc := 107) (v := 1) dX9_putCalled_107 (by decide) ?_
          refine M_goto (pc := 108) (tgt := 112) dX9_putCalled_108 (by decide) ?_
          refine M_istc (pc := 112) (j := 8) dX9_putCalled_112 (gr_9_3 hp at_9).2 (by decide) (by decide) ?_
          obtain rfl := Option.some.inj h
          exact M_vret (pc := 113) dX9_putCalled_113 rfl rfl rfl
      · have h := (if_neg hc15).symm.trans h
        refine M_iconst (pc := 90) (v := 1) dX9_putCalled_90 (by decide) ?_
        refine M_goto (pc := 91) (tgt := 95) dX9_putCalled_91 (by decide) ?_
        refine M_istc (pc := 95) (j := 7) dX9_putCalled_95 (gr_9_3 hp at_9).2 (by decide) (by decide) ?_
        refine M_aload_n (pc := 96) dX9_putCalled_96 rfl ?_
        refine M_getR (pc := 97) dX9_putCalled_97 f_X9_21 at_9 (gr_9_3 hp at_9).1 ?_
        refine M_bipush (pc := 100) (v := 8) dX9_putCalled_100 (by decide) ?_
        refine M_iload_n (pc := 102) dX9_putCalled_102 rfl ?_
        refine M_iconst (pc := 103) (v := -1) dX9_putCalled_103 (by decide) ?_
        refine M_icmp_ne (pc := 104) (tgt := 111) dX9_putCalled_104 (by decide) (fun hc17 => ?_) (fun hc17 => ?_)
        · have h := (if_neg hc17).symm.trans h
          refine M_iconst (pc := 111) (v := 0) dX9_putCalled_111 (by decide) ?_
          refine M_istc (pc := 112) (j := 8) dX9_putCalled_112 (gr_9_3 hp at_9).2 (by decide) (by decide) ?_
          obtain rfl := Option.some.inj h
          exact M_vret (pc := 113) dX9_putCalled_113 rfl rfl rfl
        · have h := (if_pos hc17).symm.trans h
          refine M_iconst (pc := 107) (v := 1) dX9_putCalled_107 (by decide) ?_
          refine M_goto (pc := 108) (tgt := 112) dX9_putCalled_108 (by decide) ?_
          refine M_istc (pc := 112) (j := 8) dX9_putCalled_112 (gr_9_3 hp at_9).2 (by decide) (by decide) ?_
          obtain rfl := Option.some.inj h
          exact M_vret (pc := 113) dX9_putCalled_113 rfl rfl rfl
def F_X10_kindAt (I : HI) (a : Nat) (x1 : Int32) : Option (Int32) :=
  if x1 < 0 then some (0 : Int32) else if x1 < (I a 1) then (ald 400 (I 2) x1) >>= fun v3 => if v3 < (97 : Int32) then (ald 400 (I 2) x1) >>= fun v6 => if v6 < (48 : Int32) then some (3 : Int32) else (ald 400 (I 2) x1) >>= fun v9 => if (57 : Int32) < v9 then some (3 : Int32) else some (2 : Int32) else (ald 400 (I 2) x1) >>= fun v12 => if (122 : Int32) < v12 then (ald 400 (I 2) x1) >>= fun v15 => if v15 < (48 : Int32) then some (3 : Int32) else (ald 400 (I 2) x1) >>= fun v18 => if (57 : Int32) < v18 then some (3 : Int32) else some (2 : Int32) else some (1 : Int32) else some (0 : Int32)
set_option maxRecDepth 4000 in
set_option maxHeartbeats 4000000 in
theorem C_X10_kindAt {g : gX} {d : Nat} {P : Nat → Nat → Option Nat} {I : HI} {a : Nat} {x1 : Int32} {J : HJ} (hp : Wp P) {c : Nat} (ha : OB NT a c) (hc : TX c) (hx : P a 0 = some 2) {r : Int32} (h : F_X10_kindAt I a x1 = some r) : Cm g mX10_kindAt (d + 0) [.ref a, .int x1] (NT, I, J, P) (some (.int r)) (NT, I, J, P) := by
  unfold F_X10_kindAt at h
  refine Cm.of (by decide) (by simp [Value.category]) (Nat.le_of_ble_eq_true rfl) (Nat.le_refl _) (ls := [some (.ref a), some (.int x1)]) rfl ?_
  refine M_iload_n (pc := 0) dX10_kindAt_0 rfl ?_
  refine M_if_lt (pc := 1) (tgt := 12) dX10_kindAt_1 (by decide) (fun hc1 => ?_) (fun hc1 => ?_)
  · have h := (if_pos hc1).symm.trans h
    refine M_iconst (pc := 12) (v := 0) dX10_kindAt_12 (by decide) ?_
    obtain rfl := Option.some.inj h
    exact M_iret (pc := 13) dX10_kindAt_13 rfl rfl rfl rfl
  · have h := (if_neg hc1).symm.trans h
    refine M_iload_n (pc := 4) dX10_kindAt_4 rfl ?_
    refine M_aload_n (pc := 5) dX10_kindAt_5 rfl ?_
    refine M_getI (pc := 6) dX10_kindAt_6 (f_X10_15 hc) ha ?_
    refine M_icmp_lt (pc := 9) (tgt := 14) dX10_kindAt_9 (by decide) (fun hc2 => ?_) (fun hc2 => ?_)
    · have h := (if_pos hc2).symm.trans h
      refine M_aload_n (pc := 14) dX10_kindAt_14 rfl ?_
      refine M_getR (pc := 15) dX10_kindAt_15 (f_X10_9 hc) ha hx ?_
      refine M_iload_n (pc := 18) dX10_kindAt_18 rfl ?_
      obtain ⟨v3, hv4, h⟩ := bnd h
      refine M_aldI (pc := 19) dX10_kindAt_19 ar_tape hv4 ?_
      refine M_bipush (pc := 20) (v := 97) dX10_kindAt_20 (by decide) ?_
      refine M_icmp_lt (pc := 22) (tgt := 38) dX10_kindAt_22 (by decide) (fun hc5 => ?_) (fun hc5 => ?_)
      · have h := (if_pos hc5).symm.trans h
        refine M_aload_n (pc := 38) dX10_kindAt_38 rfl ?_
        refine M_getR (pc := 39) dX10_kindAt_39 (f_X10_9 hc) ha hx ?_
        refine M_iload_n (pc := 42) dX10_kindAt_42 rfl ?_
        obtain ⟨v6, hv7, h⟩ := bnd h
        refine M_aldI (pc := 43) dX10_kindAt_43 ar_tape hv7 ?_
        refine M_bipush (pc := 44) (v := 48) dX10_kindAt_44 (by decide) ?_
        refine M_icmp_lt (pc := 46) (tgt := 64) dX10_kindAt_46 (by decide) (fun hc8 => ?_) (fun hc8 => ?_)
        · have h := (if_pos hc8).symm.trans h
          refine M_iconst (pc := 64) (v := 3) dX10_kindAt_64 (by decide) ?_
          obtain rfl := Option.some.inj h
          exact M_iret (pc := 65) dX10_kindAt_65 rfl rfl rfl rfl
        · have h := (if_neg hc8).symm.trans h
          refine M_aload_n (pc := 49) dX10_kindAt_49 rfl ?_
          refine M_getR (pc := 50) dX10_kindAt_50 (f_X10_9 hc) ha hx ?_
          refine M_iload_n (pc := 53) dX10_kindAt_53 rfl ?_
          obtain ⟨v9, hv10, h⟩ := bnd h
          refine M_aldI (pc := 54) dX10_kindAt_54 ar_tape hv10 ?_
          refine M_bipush (pc := 55) (v := 57) dX10_kindAt_55 (by decide) ?_
          refine M_icmp_gt (pc := 57) (tgt := 64) dX10_kindAt_57 (by decide) (fun hc11 => ?_) (fun hc11 => ?_)
          · have h := (if_pos hc11).symm.trans h
            refine M_iconst (pc := 64) (v := 3) dX10_kindAt_64 (by decide) ?_
            obtain rfl := Option.some.inj h
            exact M_iret (pc := 65) dX10_kindAt_65 rfl rfl rfl rfl
          · have h := (if_neg hc11).symm.trans h
            refine M_iconst (pc := 60) (v := 2) dX10_kindAt_60 (by decide) ?_
            refine M_goto (pc := 61) (tgt := 65) dX10_kindAt_61 (by decide) ?_
            obtain rfl := Option.some.inj h
            exact M_iret (pc := 65) dX10_kindAt_65 rfl rfl rfl rfl
      · have h := (if_neg hc5).symm.trans h
        refine M_aload_n (pc := 25) dX10_kindAt_25 rfl ?_
        refine M_getR (pc := 26) dX10_kindAt_26 (f_X10_9 hc) ha hx ?_
        refine M_iload_n (pc := 29) dX10_kindAt_29 rfl ?_
        obtain ⟨v12, hv13, h⟩ := bnd h
        refine M_aldI (pc := 30) dX10_kindAt_30 ar_tape hv13 ?_
        refine M_bipush (pc := 31) (v := 122) dX10_kindAt_31 (by decide) ?_
        refine M_icmp_gt (pc := 33) (tgt := 38) dX10_kindAt_33 (by decide) (fun hc14 => ?_) (fun hc14 => ?_)
        · have h := (if_pos hc14).symm.trans h
          refine M_aload_n (pc := 38) dX10_kindAt_38 rfl ?_
          refine M_getR (pc := 39) dX10_kindAt_39 (f_X10_9 hc) ha hx ?_
          refine M_iload_n (pc := 42) dX10_kindAt_42 rfl ?_
          obtain ⟨v15, hv16, h⟩ := bnd h
          refine M_aldI (pc := 43) dX10_kindAt_43 ar_tape hv16 ?_
          refine M_bipush (pc := 44) (v := 48) dX10_kindAt_44 (by decide) ?_
          refine M_icmp_lt (pc := 46) (tgt := 64) dX10_kindAt_46 (by decide) (fun hc17 => ?_) (fun hc17 => ?_)
          · have h := (if_pos hc17).symm.trans h
            refine M_iconst (pc := 64) (v := 3) dX10_kindAt_64 (by decide) ?_
            obtain rfl := Option.some.inj h
            exact M_iret (pc := 65) dX10_kindAt_65 rfl rfl rfl rfl
          · have h := (if_neg hc17).symm.trans h
            refine M_aload_n (pc := 49) dX10_kindAt_49 rfl ?_
            refine M_getR (pc := 50) dX10_kindAt_50 (f_X10_9 hc) ha hx ?_
            refine M_iload_n (pc := 53) dX10_kindAt_53 rfl ?_
            obtain ⟨v18, hv19, h⟩ := bnd h
            refine M_aldI (pc := 54) dX10_kindAt_54 ar_tape hv19 ?_
            refine M_bipush (pc := 55) (v := 57) dX10_kindAt_55 (by decide) ?_
            refine M_icmp_gt (pc := 57) (tgt := 64) dX10_kindAt_57 (by decide) (fun hc20 => ?_) (fun hc20 => ?_)
            · have h := (if_pos hc20).symm.trans h
              refine M_iconst (pc := 64) (v := 3) dX10_kindAt_64 (by decide) ?_
              obtain rfl := Option.some.inj h
              exact M_iret (pc := 65) dX10_kindAt_65 rfl rfl rfl rfl
            · have h := (if_neg hc20).symm.trans h
              refine M_iconst (pc := 60) (v := 2) dX10_kindAt_60 (by decide) ?_
              refine M_goto (pc := 61) (tgt := 65) dX10_kindAt_61 (by decide) ?_
              obtain rfl := Option.some.inj h
              exact M_iret (pc := 65) dX10_kindAt_65 rfl rfl rfl rfl
        · have h := (if_neg hc14).symm.trans h
          refine M_iconst (pc := 36) (v := 1) dX10_kindAt_36 (by decide) ?_
          obtain rfl := Option.some.inj h
          exact M_iret (pc := 37) dX10_kindAt_37 rfl rfl rfl rfl
    · have h := (if_neg hc2).symm.trans h
      refine M_iconst (pc := 12) (v := 0) dX10_kindAt_12 (by decide) ?_
      obtain rfl := Option.some.inj h
      exact M_iret (pc := 13) dX10_kindAt_13 rfl rfl rfl rfl
def F_X10_isSign (I : HI) (a : Nat) (x1 : Int32) : Option (Int32) :=
  if (I a 2) = (3 : Int32) then if (I a 1) ≤ (I a 3) then some (0 : Int32) else (ald 400 (I 2) (I a 3)) >>= fun v3 => if v3 = x1 then some (1 : Int32) else some (0 : Int32) else some (0 : Int32)
set_option maxRecDepth 4000 in
set_option maxHeartbeats 4000000 in
theorem C_X10_isSign {g : gX} {d : Nat} {P : Nat → Nat → Option Nat} {I : HI} {a : Nat} {x1 : Int32} {J : HJ} (hp : Wp P) {c : Nat} (ha : OB NT a c) (hc : TX c) (hx : P a 0 = some 2) {r : Int32} (h : F_X10_isSign I a x1 = some r) : Cm g mX10_isSign (d + 0) [.ref a, .int x1] (NT, I, J, P) (some (.int r)) (NT, I, J, P) := by
  unfold F_X10_isSign at h
  refine Cm.of (by decide) (by simp [Value.category]) (Nat.le_of_ble_eq_true rfl) (Nat.le_refl _) (ls := [some (.ref a), some (.int x1)]) rfl ?_
  refine M_aload_n (pc := 0) dX10_isSign_0 rfl ?_
  refine M_getI (pc := 1) dX10_isSign_1 (f_X10_19 hc) ha ?_
  refine M_iconst (pc := 4) (v := 3) dX10_isSign_4 (by decide) ?_
  refine M_icmp_ne (pc := 5) (tgt := 36) dX10_isSign_5 (by decide) (fun hc1 => ?_) (fun hc1 => ?_)
  · have h := (if_neg hc1).symm.trans h
    refine M_iconst (pc := 36) (v := 0) dX10_isSign_36 (by decide) ?_
    obtain rfl := Option.some.inj h
    exact M_iret (pc := 37) dX10_isSign_37 rfl rfl rfl rfl
  · have h := (if_pos hc1).symm.trans h
    refine M_aload_n (pc := 8) dX10_isSign_8 rfl ?_
    refine M_getI (pc := 9) dX10_isSign_9 (f_X10_22 hc) ha ?_
    refine M_aload_n (pc := 12) dX10_isSign_12 rfl ?_
    refine M_getI (pc := 13) dX10_isSign_13 (f_X10_15 hc) ha ?_
    refine M_icmp_ge (pc := 16) (tgt := 36) dX10_isSign_16 (by decide) (fun hc2 => ?_) (fun hc2 => ?_)
    · have h := (if_pos hc2).symm.trans h
      refine M_iconst (pc := 36) (v := 0) dX10_isSign_36 (by decide) ?_
      obtain rfl := Option.some.inj h
      exact M_iret (pc := 37) dX10_isSign_37 rfl rfl rfl rfl
    · have h := (if_neg hc2).symm.trans h
      refine M_aload_n (pc := 19) dX10_isSign_19 rfl ?_
      refine M_getR (pc := 20) dX10_isSign_20 (f_X10_9 hc) ha hx ?_
      refine M_aload_n (pc := 23) dX10_isSign_23 rfl ?_
      refine M_getI (pc := 24) dX10_isSign_24 (f_X10_22 hc) ha ?_
      obtain ⟨v3, hv4, h⟩ := bnd h
      refine M_aldI (pc := 27) dX10_isSign_27 ar_tape hv4 ?_
      refine M_iload_n (pc := 28) dX10_isSign_28 rfl ?_
      refine M_icmp_ne (pc := 29) (tgt := 36) dX10_isSign_29 (by decide) (fun hc5 => ?_) (fun hc5 => ?_)
      · have h := (if_neg hc5).symm.trans h
        refine M_iconst (pc := 36) (v := 0) dX10_isSign_36 (by decide) ?_
        obtain rfl := Option.some.inj h
        exact M_iret (pc := 37) dX10_isSign_37 rfl rfl rfl rfl
      · have h := (if_pos hc5).symm.trans h
        refine M_iconst (pc := 32) (v := 1) dX10_isSign_32 (by decide) ?_
        refine M_goto (pc := 33) (tgt := 37) dX10_isSign_33 (by decide) ?_
        obtain rfl := Option.some.inj h
        exact M_iret (pc := 37) dX10_isSign_37 rfl rfl rfl rfl
def F_X10_isFigures (I : HI) (a : Nat) (x1 : Int32) : Option (Int32) :=
  if (I a 2) = (2 : Int32) then if ((I a 4) - (I a 3)) = x1 then some (1 : Int32) else some (0 : Int32) else some (0 : Int32)
set_option maxRecDepth 4000 in
set_option maxHeartbeats 4000000 in
theorem C_X10_isFigures {g : gX} {d : Nat} {P : Nat → Nat → Option Nat} {I : HI} {a : Nat} {x1 : Int32} {J : HJ} (hp : Wp P) {c : Nat} (ha : OB NT a c) (hc : TX c) {r : Int32} (h : F_X10_isFigures I a x1 = some r) : Cm g mX10_isFigures (d + 0) [.ref a, .int x1] (NT, I, J, P) (some (.int r)) (NT, I, J, P) := by
  unfold F_X10_isFigures at h
  refine Cm.of (by decide) (by simp [Value.category]) (Nat.le_of_ble_eq_true rfl) (Nat.le_refl _) (ls := [some (.ref a), some (.int x1)]) rfl ?_
  refine M_aload_n (pc := 0) dX10_isFigures_0 rfl ?_
  refine M_getI (pc := 1) dX10_isFigures_1 (f_X10_19 hc) ha ?_
  refine M_iconst (pc := 4) (v := 2) dX10_isFigures_4 (by decide) ?_
  refine M_icmp_ne (pc := 5) (tgt := 25) dX10_isFigures_5 (by decide) (fun hc1 => ?_) (fun hc1 => ?_)
  · have h := (if_neg hc1).symm.trans h
    refine M_iconst (pc := 25) (v := 0) dX10_isFigures_25 (by decide) ?_
    obtain rfl := Option.some.inj h
    exact M_iret (pc := 26) dX10_isFigures_26 rfl rfl rfl rfl
  · have h := (if_pos hc1).symm.trans h
    refine M_aload_n (pc := 8) dX10_isFigures_8 rfl ?_
    refine M_getI (pc := 9) dX10_isFigures_9 (f_X10_25 hc) ha ?_
    refine M_aload_n (pc := 12) dX10_isFigures_12 rfl ?_
    refine M_getI (pc := 13) dX10_isFigures_13 (f_X10_22 hc) ha ?_
    refine M_isub (pc := 16) dX10_isFigures_16 ?_
    refine M_iload_n (pc := 17) dX10_isFigures_17 rfl ?_
    refine M_icmp_ne (pc := 18) (tgt := 25) dX10_isFigures_18 (by decide) (fun hc2 => ?_) (fun hc2 => ?_)
    · have h := (if_neg hc2).symm.trans h
      refine M_iconst (pc := 25) (v := 0) dX10_isFigures_25 (by decide) ?_
      obtain rfl := Option.some.inj h
      exact M_iret (pc := 26) dX10_isFigures_26 rfl rfl rfl rfl
    · have h := (if_pos hc2).symm.trans h
      refine M_iconst (pc := 21) (v := 1) dX10_isFigures_21 (by decide) ?_
      refine M_goto (pc := 22) (tgt := 26) dX10_isFigures_22 (by decide) ?_
      obtain rfl := Option.some.inj h
      exact M_iret (pc := 26) dX10_isFigures_26 rfl rfl rfl rfl
def F_X10_figure (I : HI) (a : Nat) (x1 : Int32) : Option (Int32) :=
  if x1 < 0 then some (0 : Int32) else if (I a 1) ≤ ((I a 3) + x1) then some (0 : Int32) else (ald 400 (I 2) ((I a 3) + x1)) >>= fun v3 => some (v3 - (48 : Int32))
set_option maxRecDepth 4000 in
set_option maxHeartbeats 4000000 in
theorem C_X10_figure {g : gX} {d : Nat} {P : Nat → Nat → Option Nat} {I : HI} {a : Nat} {x1 : Int32} {J : HJ} (hp : Wp P) {c : Nat} (ha : OB NT a c) (hc : TX c) (hx : P a 0 = some 2) {r : Int32} (h : F_X10_figure I a x1 = some r) : Cm g mX10_figure (d + 0) [.ref a, .int x1] (NT, I, J, P) (some (.int r)) (NT, I, J, P) := by
  unfold F_X10_figure at h
  refine Cm.of (by decide) (by simp [Value.category]) (Nat.le_of_ble_eq_true rfl) (Nat.le_refl _) (ls := [some (.ref a), some (.int x1)]) rfl ?_
  refine M_iload_n (pc := 0) dX10_figure_0 rfl ?_
  refine M_if_lt (pc := 1) (tgt := 34) dX10_figure_1 (by decide) (fun hc1 => ?_) (fun hc1 => ?_)
  · have h := (if_pos hc1).symm.trans h
    refine M_iconst (pc := 34) (v := 0) dX10_figure_34 (by decide) ?_
    obtain rfl := Option.some.inj h
    exact M_iret (pc := 35) dX10_figure_35 rfl rfl rfl rfl
  · have h := (if_neg hc1).symm.trans h
    refine M_aload_n (pc := 4) dX10_figure_4 rfl ?_
    refine M_getI (pc := 5) dX10_figure_5 (f_X10_22 hc) ha ?_
    refine M_iload_n (pc := 8) dX10_figure_8 rfl ?_
    refine M_iadd (pc := 9) dX10_figure_9 ?_
    refine M_aload_n (pc := 10) dX10_figure_10 rfl ?_
    refine M_getI (pc := 11) dX10_figure_11 (f_X10_15 hc) ha ?_
    refine M_icmp_ge (pc := 14) (tgt := 34) dX10_figure_14 (by decide) (fun hc2 => ?_) (fun hc2 => ?_)
    · have h := (if_pos hc2).symm.trans h
      refine M_iconst (pc := 34) (v := 0) dX10_figure_34 (by decide) ?_
      obtain rfl := Option.some.inj h
      exact M_iret (pc := 35) dX10_figure_35 rfl rfl rfl rfl
    · have h := (if_neg hc2).symm.trans h
      refine M_aload_n (pc := 17) dX10_figure_17 rfl ?_
      refine M_getR (pc := 18) dX10_figure_18 (f_X10_9 hc) ha hx ?_
      refine M_aload_n (pc := 21) dX10_figure_21 rfl ?_
      refine M_getI (pc := 22) dX10_figure_22 (f_X10_22 hc) ha ?_
      refine M_iload_n (pc := 25) dX10_figure_25 rfl ?_
      refine M_iadd (pc := 26) dX10_figure_26 ?_
      obtain ⟨v3, hv4, h⟩ := bnd h
      refine M_aldI (pc := 27) dX10_figure_27 ar_tape hv4 ?_
      refine M_bipush (pc := 28) (v := 48) dX10_figure_28 (by decide) ?_
      refine M_isub (pc := 30) dX10_figure_30 ?_
      refine M_goto (pc := 31) (tgt := 35) dX10_figure_31 (by decide) ?_
      obtain rfl := Option.some.inj h
      exact M_iret (pc := 35) dX10_figure_35 rfl rfl rfl rfl
def L_X10_number_31 (I : HI) (a : Nat) (x1 : Int32) (x2 : Int32) (x3 : Int32) (x4 : Int32) : Option (Int32) :=
  if (I a 4) ≤ x4 then if x3 < x1 then some (-1 : Int32) else if x2 < x3 then some (-1 : Int32) else some x3 else if (I a 1) ≤ x4 then if x3 < x1 then some (-1 : Int32) else if x2 < x3 then some (-1 : Int32) else some x3 else (ald 400 (I 2) x4) >>= fun v9 => L_X10_number_31 I a x1 x2 (((x3 * (10 : Int32)) + v9) - (48 : Int32)) (x4 + (1 : Int32))
partial_fixpoint
def F_X10_number (I : HI) (a : Nat) (x1 : Int32) (x2 : Int32) : Option (Int32) :=
  if (I a 2) = (2 : Int32) then if ((I a 4) - (I a 3)) ≤ (3 : Int32) then L_X10_number_31 I a x1 x2 (0 : Int32) (I a 3) else some (-1 : Int32) else some (-1 : Int32)
set_option maxRecDepth 4000 in
set_option maxHeartbeats 4000000 in
theorem LC_X10_number_31 {g : gX} {d : Nat} {P : Nat → Nat → Option Nat} {J : HJ} {I : HI} {a : Nat} {x1 : Int32} {x2 : Int32} (hp : Wp P) {c : Nat} (ha : OB NT a c) (hc : TX c) (hx : P a 0 = some 2) : ∀ (x3 : Int32) (x4 : Int32) (r : Int32), L_X10_number_31 I a x1 x2 x3 x4 = some r → M g mX10_number (d + 0) (NT, NT, 0) ((.inl (some (.int r))), (NT, I, J, P)) 31 [some (.ref a), some (.int x1), some (.int x2), some (.int x3), some (.int x4)] [] (NT, I, J, P) := by
  refine L_X10_number_31.partial_correctness I a x1 x2 (fun x3 x4 r => M g mX10_number (d + 0) (NT, NT, 0) ((.inl (some (.int r))), (NT, I, J, P)) 31 [some (.ref a), some (.int x1), some (.int x2), some (.int x3), some (.int x4)] [] (NT, I, J, P)) ?_
  intro f ih x3 x4 r h
  refine M_iload (pc := 31) dX10_number_31 rfl ?_
  refine M_aload_n (pc := 33) dX10_number_33 rfl ?_
  refine M_getI (pc := 34) dX10_number_34 (f_X10_25 hc) ha ?_
  refine M_icmp_ge (pc := 37) (tgt := 71) dX10_number_37 (by decide) (fun hc3 => ?_) (fun hc3 => ?_)
  · have h := (if_pos hc3).symm.trans h
    refine M_iload_n (pc := 71) dX10_number_71 rfl ?_
    refine M_iload_n (pc := 72) dX10_number_72 rfl ?_
    refine M_icmp_lt (pc := 73) (tgt := 85) dX10_number_73 (by decide) (fun hc4 => ?_) (fun hc4 => ?_)
    · have h := (if_pos hc4).symm.trans h
      refine M_iconst (pc := 85) (v := -1) dX10_number_85 (by decide) ?_
      obtain rfl := Option.some.inj h
      exact M_iret (pc := 86) dX10_number_86 rfl rfl rfl rfl
    · have h := (if_neg hc4).symm.trans h
      refine M_iload_n (pc := 76) dX10_number_76 rfl ?_
      refine M_iload_n (pc := 77) dX10_number_77 rfl ?_
      refine M_icmp_gt (pc := 78) (tgt := 85) dX10_number_78 (by decide) (fun hc5 => ?_) (fun hc5 => ?_)
      · have h := (if_pos hc5).symm.trans h
        refine M_iconst (pc := 85) (v := -1) dX10_number_85 (by decide) ?_
        obtain rfl := Option.some.inj h
        exact M_iret (pc := 86) dX10_number_86 rfl rfl rfl rfl
      · have h := (if_neg hc5).symm.trans h
        refine M_iload_n (pc := 81) dX10_number_81 rfl ?_
        refine M_goto (pc := 82) (tgt := 86) dX10_number_82 (by decide) ?_
        obtain rfl := Option.some.inj h
        exact M_iret (pc := 86) dX10_number_86 rfl rfl rfl rfl
  · have h := (if_neg hc3).symm.trans h
    refine M_iload (pc := 40) dX10_number_40 rfl ?_
    refine M_aload_n (pc := 42) dX10_number_42 rfl ?_
    refine M_getI (pc := 43) dX10_number_43 (f_X10_15 hc) ha ?_
    refine M_icmp_ge (pc := 46) (tgt := 71) dX10_number_46 (by decide) (fun hc6 => ?_) (fun hc6 => ?_)
    · have h := (if_pos hc6).symm.trans h
      refine M_iload_n (pc := 71) dX10_number_71 rfl ?_
      refine M_iload_n (pc := 72) dX10_number_72 rfl ?_
      refine M_icmp_lt (pc := 73) (tgt := 85) dX10_number_73 (by decide) (fun hc7 => ?_) (fun hc7 => ?_)
      · have h := (if_pos hc7).symm.trans h
        refine M_iconst (pc := 85) (v := -1) dX10_number_85 (by decide) ?_
        obtain rfl := Option.some.inj h
        exact M_iret (pc := 86) dX10_number_86 rfl rfl rfl rfl
      · have h := (if_neg hc7).symm.trans h
        refine M_iload_n (pc := 76) dX10_number_76 rfl ?_
        refine M_iload_n (pc := 77) dX10_number_77 rfl ?_
        refine M_icmp_gt (pc := 78) (tgt := 85) dX10_number_78 (by decide) (fun hc8 => ?_) (fun hc8 => ?_)
        · have h := (if_pos hc8).symm.trans h
          refine M_iconst (pc := 85) (v := -1) dX10_number_85 (by decide) ?_
          obtain rfl := Option.some.inj h
          exact M_iret (pc := 86) dX10_number_86 rfl rfl rfl rfl
        · have h := (if_neg hc8).symm.trans h
          refine M_iload_n (pc := 81) dX10_number_81 rfl ?_
          refine M_goto (pc := 82) (tgt := 86) dX10_number_82 (by decide) ?_
          obtain rfl := Option.some.inj h
          exact M_iret (pc := 86) dX10_number_86 rfl rfl rfl rfl
    · have h := (if_neg hc6).symm.trans h
      refine M_iload_n (pc := 49) dX10_number_49 rfl ?_
      refine M_bipush (pc := 50) (v := 10) dX10_number_50 (by decide) ?_
      refine M_imul (pc := 52) dX10_number_52 ?_
      refine M_aload_n (pc := 53) dX10_number_53 rfl ?_
      refine M_getR (pc := 54) dX10_number_54 (f_X10_9 hc) ha hx ?_
      refine M_iload (pc := 57) dX10_number_57 rfl ?_
      obtain ⟨v9, hv10, h⟩ := bnd h
      refine M_aldI (pc := 59) dX10_number_59 ar_tape hv10 ?_
      refine M_iadd (pc := 60) dX10_number_60 ?_
      refine M_bipush (pc := 61) (v := 48) dX10_number_61 (by decide) ?_
      refine M_isub (pc := 63) dX10_number_63 ?_
      refine M_istore_n (pc := 64) (ls' := [some (.ref a), some (.int x1), some (.int x2), some (.int (((x3 * (10 : Int32)) + v9) - (48 : Int32))), some (.int x4)]) dX10_number_64 (by decide) rfl ?_
      refine M_iinc (pc := 65) (v := (x4 + (1 : Int32))) (ls' := [some (.ref a), some (.int x1), some (.int x2), some (.int (((x3 * (10 : Int32)) + v9) - (48 : Int32))), some (.int (x4 + (1 : Int32)))]) dX10_number_65 rfl rfl (by decide) rfl ?_
      refine M_goto (pc := 68) (tgt := 31) dX10_number_68 (by decide) ?_
      exact ih (((x3 * (10 : Int32)) + v9) - (48 : Int32)) (x4 + (1 : Int32)) _ h
set_option maxRecDepth 4000 in
set_option maxHeartbeats 4000000 in
theorem C_X10_number {g : gX} {d : Nat} {P : Nat → Nat → Option Nat} {I : HI} {a : Nat} {x1 : Int32} {x2 : Int32} {J : HJ} (hp : Wp P) {c : Nat} (ha : OB NT a c) (hc : TX c) (hx : P a 0 = some 2) {r : Int32} (h : F_X10_number I a x1 x2 = some r) : Cm g mX10_number (d + 0) [.ref a, .int x1, .int x2] (NT, I, J, P) (some (.int r)) (NT, I, J, P) := by
  unfold F_X10_number at h
  refine Cm.of (by decide) (by simp [Value.category]) (Nat.le_of_ble_eq_true rfl) (Nat.le_refl _) (ls := [some (.ref a), some (.int x1), some (.int x2), none, none]) rfl ?_
  refine M_aload_n (pc := 0) dX10_number_0 rfl ?_
  refine M_getI (pc := 1) dX10_number_1 (f_X10_19 hc) ha ?_
  refine M_iconst (pc := 4) (v := 2) dX10_number_4 (by decide) ?_
  refine M_icmp_ne (pc := 5) (tgt := 21) dX10_number_5 (by decide) (fun hc1 => ?_) (fun hc1 => ?_)
  · have h := (if_neg hc1).symm.trans h
    refine M_iconst (pc := 21) (v := -1) dX10_number_21 (by decide) ?_
    obtain rfl := Option.some.inj h
    exact M_iret (pc := 22) dX10_number_22 rfl rfl rfl rfl
  · have h := (if_pos hc1).symm.trans h
    refine M_aload_n (pc := 8) dX10_number_8 rfl ?_
    refine M_getI (pc := 9) dX10_number_9 (f_X10_25 hc) ha ?_
    refine M_aload_n (pc := 12) dX10_number_12 rfl ?_
    refine M_getI (pc := 13) dX10_number_13 (f_X10_22 hc) ha ?_
    refine M_isub (pc := 16) dX10_number_16 ?_
    refine M_iconst (pc := 17) (v := 3) dX10_number_17 (by decide) ?_
    refine M_icmp_le (pc := 18) (tgt := 23) dX10_number_18 (by decide) (fun hc2 => ?_) (fun hc2 => ?_)
    · have h := (if_pos hc2).symm.trans h
      refine M_iconst (pc := 23) (v := 0) dX10_number_23 (by decide) ?_
      refine M_istore_n (pc := 24) (ls' := [some (.ref a), some (.int x1), some (.int x2), some (.int (0 : Int32)), none]) dX10_number_24 (by decide) rfl ?_
      refine M_aload_n (pc := 25) dX10_number_25 rfl ?_
      refine M_getI (pc := 26) dX10_number_26 (f_X10_22 hc) ha ?_
      refine M_istore (pc := 29) (ls' := [some (.ref a), some (.int x1), some (.int x2), some (.int (0 : Int32)), some (.int (I a 3))]) dX10_number_29 (by decide) rfl ?_
      exact LC_X10_number_31 (P := P) hp ha hc hx (0 : Int32) (I a 3) _ h
    · have h := (if_neg hc2).symm.trans h
      refine M_iconst (pc := 21) (v := -1) dX10_number_21 (by decide) ?_
      obtain rfl := Option.some.inj h
      exact M_iret (pc := 22) dX10_number_22 rfl rfl rfl rfl
def F_J6_bitCount_0f7a4 (I : HI) (x0 : Int32) : Option (Int32) :=
  some ((((((((x0 - (((x0).toUInt32 >>> (((1 : Int32)).toUInt32 &&& Int32.toUInt32 31)).toInt32 &&& (1431655765 : Int32))) &&& (858993459 : Int32)) + ((((x0 - (((x0).toUInt32 >>> (((1 : Int32)).toUInt32 &&& Int32.toUInt32 31)).toInt32 &&& (1431655765 : Int32)))).toUInt32 >>> (((2 : Int32)).toUInt32 &&& Int32.toUInt32 31)).toInt32 &&& (858993459 : Int32))) + (((((x0 - (((x0).toUInt32 >>> (((1 : Int32)).toUInt32 &&& Int32.toUInt32 31)).toInt32 &&& (1431655765 : Int32))) &&& (858993459 : Int32)) + ((((x0 - (((x0).toUInt32 >>> (((1 : Int32)).toUInt32 &&& Int32.toUInt32 31)).toInt32 &&& (1431655765 : Int32)))).toUInt32 >>> (((2 : Int32)).toUInt32 &&& Int32.toUInt32 31)).toInt32 &&& (858993459 : Int32)))).toUInt32 >>> (((4 : Int32)).toUInt32 &&& Int32.toUInt32 31)).toInt32) &&& (252645135 : Int32)) + (((((((x0 - (((x0).toUInt32 >>> (((1 : Int32)).toUInt32 &&& Int32.toUInt32 31)).toInt32 &&& (1431655765 : Int32))) &&& (858993459 : Int32)) + ((((x0 - (((x0).toUInt32 >>> (((1 : Int32)).toUInt32 &&& Int32.toUInt32 31)).toInt32 &&& (1431655765 : Int32)))).toUInt32 >>> (((2 : Int32)).toUInt32 &&& Int32.toUInt32 31)).toInt32 &&& (858993459 : Int32))) + (((((x0 - (((x0).toUInt32 >>> (((1 : Int32)).toUInt32 &&& Int32.toUInt32 31)).toInt32 &&& (1431655765 : Int32))) &&& (858993459 : Int32)) + ((((x0 - (((x0).toUInt32 >>> (((1 : Int32)).toUInt32 &&& Int32.toUInt32 31)).toInt32 &&& (1431655765 : Int32)))).toUInt32 >>> (((2 : Int32)).toUInt32 &&& Int32.toUInt32 31)).toInt32 &&& (858993459 : Int32)))).toUInt32 >>> (((4 : Int32)).toUInt32 &&& Int32.toUInt32 31)).toInt32) &&& (252645135 : Int32))).toUInt32 >>> (((8 : Int32)).toUInt32 &&& Int32.toUInt32 31)).toInt32) + ((((((((x0 - (((x0).toUInt32 >>> (((1 : Int32)).toUInt32 &&& Int32.toUInt32 31)).toInt32 &&& (1431655765 : Int32))) &&& (858993459 : Int32)) + ((((x0 - (((x0).toUInt32 >>> (((1 : Int32)).toUInt32 &&& Int32.toUInt32 31)).toInt32 &&& (1431655765 : Int32)))).toUInt32 >>> (((2 : Int32)).toUInt32 &&& Int32.toUInt32 31)).toInt32 &&& (858993459 : Int32))) + (((((x0 - (((x0).toUInt32 >>> (((1 : Int32)).toUInt32 &&& Int32.toUInt32 31)).toInt32 &&& (1431655765 : Int32))) &&& (858993459 : Int32)) + ((((x0 - (((x0).toUInt32 >>> (((1 : Int32)).toUInt32 &&& Int32.toUInt32 31)).toInt32 &&& (1431655765 : Int32)))).toUInt32 >>> (((2 : Int32)).toUInt32 &&& Int32.toUInt32 31)).toInt32 &&& (858993459 : Int32)))).toUInt32 >>> (((4 : Int32)).toUInt32 &&& Int32.toUInt32 31)).toInt32) &&& (252645135 : Int32)) + (((((((x0 - (((x0).toUInt32 >>> (((1 : Int32)).toUInt32 &&& Int32.toUInt32 31)).toInt32 &&& (1431655765 : Int32))) &&& (858993459 : Int32)) + ((((x0 - (((x0).toUInt32 >>> (((1 : Int32)).toUInt32 &&& Int32.toUInt32 31)).toInt32 &&& (1431655765 : Int32)))).toUInt32 >>> (((2 : Int32)).toUInt32 &&& Int32.toUInt32 31)).toInt32 &&& (858993459 : Int32))) + (((((x0 - (((x0).toUInt32 >>> (((1 : Int32)).toUInt32 &&& Int32.toUInt32 31)).toInt32 &&& (1431655765 : Int32))) &&& (858993459 : Int32)) + ((((x0 - (((x0).toUInt32 >>> (((1 : Int32)).toUInt32 &&& Int32.toUInt32 31)).toInt32 &&& (1431655765 : Int32)))).toUInt32 >>> (((2 : Int32)).toUInt32 &&& Int32.toUInt32 31)).toInt32 &&& (858993459 : Int32)))).toUInt32 >>> (((4 : Int32)).toUInt32 &&& Int32.toUInt32 31)).toInt32) &&& (252645135 : Int32))).toUInt32 >>> (((8 : Int32)).toUInt32 &&& Int32.toUInt32 31)).toInt32)).toUInt32 >>> (((16 : Int32)).toUInt32 &&& Int32.toUInt32 31)).toInt32) &&& (63 : Int32))
set_option maxRecDepth 4000 in
set_option maxHeartbeats 4000000 in
theorem C_J6_bitCount_0f7a4 {g : gX} {d : Nat} {P : Nat → Nat → Option Nat} {I : HI} {x0 : Int32} {J : HJ} (hp : Wp P) {r : Int32} (h : F_J6_bitCount_0f7a4 I x0 = some r) : Cm g mJ6_bitCount_0f7a4 (d + 0) [.int x0] (NT, I, J, P) (some (.int r)) (NT, I, J, P) := by
  unfold F_J6_bitCount_0f7a4 at h
  refine Cm.of (by decide) (by simp [Value.category]) (Nat.le_of_ble_eq_true rfl) (Nat.le_refl _) (ls := [some (.int x0)]) rfl ?_
  refine M_iload_n (pc := 0) dJ6_bitCount_0f7a4_0 rfl ?_
  refine M_iload_n (pc := 1) dJ6_bitCount_0f7a4_1 rfl ?_
  refine M_iconst (pc := 2) (v := 1) dJ6_bitCount_0f7a4_2 (by decide) ?_
  refine M_iushr (pc := 3) dJ6_bitCount_0f7a4_3 ?_
  refine M_ldcw (pc := 4) (v := 1431655765) dJ6_bitCount_0f7a4_4 w_527 ?_
  refine M_iand (pc := 7) dJ6_bitCount_0f7a4_7 ?_
  refine M_isub (pc := 8) dJ6_bitCount_0f7a4_8 ?_
  refine M_istore_n (pc := 9) (ls' := [some (.int (x0 - (((x0).toUInt32 >>> (((1 : Int32)).toUInt32 &&& Int32.toUInt32 31)).toInt32 &&& (1431655765 : Int32))))]) dJ6_bitCount_0f7a4_9 (by decide) rfl ?_
  refine M_iload_n (pc := 10) dJ6_bitCount_0f7a4_10 rfl ?_
  refine M_ldcw (pc := 11) (v := 858993459) dJ6_bitCount_0f7a4_11 w_528 ?_
  refine M_iand (pc := 14) dJ6_bitCount_0f7a4_14 ?_
  refine M_iload_n (pc := 15) dJ6_bitCount_0f7a4_15 rfl ?_
  refine M_iconst (pc := 16) (v := 2) dJ6_bitCount_0f7a4_16 (by decide) ?_
  refine M_iushr (pc := 17) dJ6_bitCount_0f7a4_17 ?_
  refine M_ldcw (pc := 18) (v := 858993459) dJ6_bitCount_0f7a4_18 w_528 ?_
  refine M_iand (pc := 21) dJ6_bitCount_0f7a4_21 ?_
  refine M_iadd (pc := 22) dJ6_bitCount_0f7a4_22 ?_
  refine M_istore_n (pc := 23) (ls' := [some (.int (((x0 - (((x0).toUInt32 >>> (((1 : Int32)).toUInt32 &&& Int32.toUInt32 31)).toInt32 &&& (1431655765 : Int32))) &&& (858993459 : Int32)) + ((((x0 - (((x0).toUInt32 >>> (((1 : Int32)).toUInt32 &&& Int32.toUInt32 31)).toInt32 &&& (1431655765 : Int32)))).toUInt32 >>> (((2 : Int32)).toUInt32 &&& Int32.toUInt32 31)).toInt32 &&& (858993459 : Int32))))]) dJ6_bitCount_0f7a4_23 (by decide) rfl ?_
  refine M_iload_n (pc := 24) dJ6_bitCount_0f7a4_24 rfl ?_
  refine M_iload_n (pc := 25) dJ6_bitCount_0f7a4_25 rfl ?_
  refine M_iconst (pc := 26) (v := 4) dJ6_bitCount_0f7a4_26 (by decide) ?_
  refine M_iushr (pc := 27) dJ6_bitCount_0f7a4_27 ?_
  refine M_iadd (pc := 28) dJ6_bitCount_0f7a4_28 ?_
  refine M_ldcw (pc := 29) (v := 252645135) dJ6_bitCount_0f7a4_29 w_529 ?_
  refine M_iand (pc := 32) dJ6_bitCount_0f7a4_32 ?_
  refine M_istore_n (pc := 33) (ls' := [some (.int (((((x0 - (((x0).toUInt32 >>> (((1 : Int32)).toUInt32 &&& Int32.toUInt32 31)).toInt32 &&& (1431655765 : Int32))) &&& (858993459 : Int32)) + ((((x0 - (((x0).toUInt32 >>> (((1 : Int32)).toUInt32 &&& Int32.toUInt32 31)).toInt32 &&& (1431655765 : Int32)))).toUInt32 >>> (((2 : Int32)).toUInt32 &&& Int32.toUInt32 31)).toInt32 &&& (858993459 : Int32))) + (((((x0 - (((x0).toUInt32 >>> (((1 : Int32)).toUInt32 &&& Int32.toUInt32 31)).toInt32 &&& (1431655765 : Int32))) &&& (858993459 : Int32)) + ((((x0 - (((x0).toUInt32 >>> (((1 : Int32)).toUInt32 &&& Int32.toUInt32 31)).toInt32 &&& (1431655765 : Int32)))).toUInt32 >>> (((2 : Int32)).toUInt32 &&& Int32.toUInt32 31)).toInt32 &&& (858993459 : Int32)))).toUInt32 >>> (((4 : Int32)).toUInt32 &&& Int32.toUInt32 31)).toInt32) &&& (252645135 : Int32)))]) dJ6_bitCount_0f7a4_33 (by decide) rfl ?_
  refine M_iload_n (pc := 34) dJ6_bitCount_0f7a4_34 rfl ?_
  refine M_iload_n (pc := 35) dJ6_bitCount_0f7a4_35 rfl ?_
  refine M_bipush (pc := 36) (v := 8) dJ6_bitCount_0f7a4_36 (by decide) ?_
  refine M_iushr (pc := 38) dJ6_bitCount_0f7a4_38 ?_
  refine M_iadd (pc := 39) dJ6_bitCount_0f7a4_39 ?_
  refine M_istore_n (pc := 40) (ls' := [some (.int ((((((x0 - (((x0).toUInt32 >>> (((1 : Int32)).toUInt32 &&& Int32.toUInt32 31)).toInt32 &&& (1431655765 : Int32))) &&& (858993459 : Int32)) + ((((x0 - (((x0).toUInt32 >>> (((1 : Int32)).toUInt32 &&& Int32.toUInt32 31)).toInt32 &&& (1431655765 : Int32)))).toUInt32 >>> (((2 : Int32)).toUInt32 &&& Int32.toUInt32 31)).toInt32 &&& (858993459 : Int32))) + (((((x0 - (((x0).toUInt32 >>> (((1 : Int32)).toUInt32 &&& Int32.toUInt32 31)).toInt32 &&& (1431655765 : Int32))) &&& (858993459 : Int32)) + ((((x0 - (((x0).toUInt32 >>> (((1 : Int32)).toUInt32 &&& Int32.toUInt32 31)).toInt32 &&& (1431655765 : Int32)))).toUInt32 >>> (((2 : Int32)).toUInt32 &&& Int32.toUInt32 31)).toInt32 &&& (858993459 : Int32)))).toUInt32 >>> (((4 : Int32)).toUInt32 &&& Int32.toUInt32 31)).toInt32) &&& (252645135 : Int32)) + (((((((x0 - (((x0).toUInt32 >>> (((1 : Int32)).toUInt32 &&& Int32.toUInt32 31)).toInt32 &&& (1431655765 : Int32))) &&& (858993459 : Int32)) + ((((x0 - (((x0).toUInt32 >>> (((1 : Int32)).toUInt32 &&& Int32.toUInt32 31)).toInt32 &&& (1431655765 : Int32)))).toUInt32 >>> (((2 : Int32)).toUInt32 &&& Int32.toUInt32 31)).toInt32 &&& (858993459 : Int32))) + (((((x0 - (((x0).toUInt32 >>> (((1 : Int32)).toUInt32 &&& Int32.toUInt32 31)).toInt32 &&& (1431655765 : Int32))) &&& (858993459 : Int32)) + ((((x0 - (((x0).toUInt32 >>> (((1 : Int32)).toUInt32 &&& Int32.toUInt32 31)).toInt32 &&& (1431655765 : Int32)))).toUInt32 >>> (((2 : Int32)).toUInt32 &&& Int32.toUInt32 31)).toInt32 &&& (858993459 : Int32)))).toUInt32 >>> (((4 : Int32)).toUInt32 &&& Int32.toUInt32 31)).toInt32) &&& (252645135 : Int32))).toUInt32 >>> (((8 : Int32)).toUInt32 &&& Int32.toUInt32 31)).toInt32))]) dJ6_bitCount_0f7a4_40 (by decide) rfl ?_
  refine M_iload_n (pc := 41) dJ6_bitCount_0f7a4_41 rfl ?_
  refine M_iload_n (pc := 42) dJ6_bitCount_0f7a4_42 rfl ?_
  refine M_bipush (pc := 43) (v := 16) dJ6_bitCount_0f7a4_43 (by decide) ?_
  refine M_iushr (pc := 45) dJ6_bitCount_0f7a4_45 ?_
  refine M_iadd (pc := 46) dJ6_bitCount_0f7a4_46 ?_
  refine M_istore_n (pc := 47) (ls' := [some (.int (((((((x0 - (((x0).toUInt32 >>> (((1 : Int32)).toUInt32 &&& Int32.toUInt32 31)).toInt32 &&& (1431655765 : Int32))) &&& (858993459 : Int32)) + ((((x0 - (((x0).toUInt32 >>> (((1 : Int32)).toUInt32 &&& Int32.toUInt32 31)).toInt32 &&& (1431655765 : Int32)))).toUInt32 >>> (((2 : Int32)).toUInt32 &&& Int32.toUInt32 31)).toInt32 &&& (858993459 : Int32))) + (((((x0 - (((x0).toUInt32 >>> (((1 : Int32)).toUInt32 &&& Int32.toUInt32 31)).toInt32 &&& (1431655765 : Int32))) &&& (858993459 : Int32)) + ((((x0 - (((x0).toUInt32 >>> (((1 : Int32)).toUInt32 &&& Int32.toUInt32 31)).toInt32 &&& (1431655765 : Int32)))).toUInt32 >>> (((2 : Int32)).toUInt32 &&& Int32.toUInt32 31)).toInt32 &&& (858993459 : Int32)))).toUInt32 >>> (((4 : Int32)).toUInt32 &&& Int32.toUInt32 31)).toInt32) &&& (252645135 : Int32)) + (((((((x0 - (((x0).toUInt32 >>> (((1 : Int32)).toUInt32 &&& Int32.toUInt32 31)).toInt32 &&& (1431655765 : Int32))) &&& (858993459 : Int32)) + ((((x0 - (((x0).toUInt32 >>> (((1 : Int32)).toUInt32 &&& Int32.toUInt32 31)).toInt32 &&& (1431655765 : Int32)))).toUInt32 >>> (((2 : Int32)).toUInt32 &&& Int32.toUInt32 31)).toInt32 &&& (858993459 : Int32))) + (((((x0 - (((x0).toUInt32 >>> (((1 : Int32)).toUInt32 &&& Int32.toUInt32 31)).toInt32 &&& (1431655765 : Int32))) &&& (858993459 : Int32)) + ((((x0 - (((x0).toUInt32 >>> (((1 : Int32)).toUInt32 &&& Int32.toUInt32 31)).toInt32 &&& (1431655765 : Int32)))).toUInt32 >>> (((2 : Int32)).toUInt32 &&& Int32.toUInt32 31)).toInt32 &&& (858993459 : Int32)))).toUInt32 >>> (((4 : Int32)).toUInt32 &&& Int32.toUInt32 31)).toInt32) &&& (252645135 : Int32))).toUInt32 >>> (((8 : Int32)).toUInt32 &&& Int32.toUInt32 31)).toInt32) + ((((((((x0 - (((x0).toUInt32 >>> (((1 : Int32)).toUInt32 &&& Int32.toUInt32 31)).toInt32 &&& (1431655765 : Int32))) &&& (858993459 : Int32)) + ((((x0 - (((x0).toUInt32 >>> (((1 : Int32)).toUInt32 &&& Int32.toUInt32 31)).toInt32 &&& (1431655765 : Int32)))).toUInt32 >>> (((2 : Int32)).toUInt32 &&& Int32.toUInt32 31)).toInt32 &&& (858993459 : Int32))) + (((((x0 - (((x0).toUInt32 >>> (((1 : Int32)).toUInt32 &&& Int32.toUInt32 31)).toInt32 &&& (1431655765 : Int32))) &&& (858993459 : Int32)) + ((((x0 - (((x0).toUInt32 >>> (((1 : Int32)).toUInt32 &&& Int32.toUInt32 31)).toInt32 &&& (1431655765 : Int32)))).toUInt32 >>> (((2 : Int32)).toUInt32 &&& Int32.toUInt32 31)).toInt32 &&& (858993459 : Int32)))).toUInt32 >>> (((4 : Int32)).toUInt32 &&& Int32.toUInt32 31)).toInt32) &&& (252645135 : Int32)) + (((((((x0 - (((x0).toUInt32 >>> (((1 : Int32)).toUInt32 &&& Int32.toUInt32 31)).toInt32 &&& (1431655765 : Int32))) &&& (858993459 : Int32)) + ((((x0 - (((x0).toUInt32 >>> (((1 : Int32)).toUInt32 &&& Int32.toUInt32 31)).toInt32 &&& (1431655765 : Int32)))).toUInt32 >>> (((2 : Int32)).toUInt32 &&& Int32.toUInt32 31)).toInt32 &&& (858993459 : Int32))) + (((((x0 - (((x0).toUInt32 >>> (((1 : Int32)).toUInt32 &&& Int32.toUInt32 31)).toInt32 &&& (1431655765 : Int32))) &&& (858993459 : Int32)) + ((((x0 - (((x0).toUInt32 >>> (((1 : Int32)).toUInt32 &&& Int32.toUInt32 31)).toInt32 &&& (1431655765 : Int32)))).toUInt32 >>> (((2 : Int32)).toUInt32 &&& Int32.toUInt32 31)).toInt32 &&& (858993459 : Int32)))).toUInt32 >>> (((4 : Int32)).toUInt32 &&& Int32.toUInt32 31)).toInt32) &&& (252645135 : Int32))).toUInt32 >>> (((8 : Int32)).toUInt32 &&& Int32.toUInt32 31)).toInt32)).toUInt32 >>> (((16 : Int32)).toUInt32 &&& Int32.toUInt32 31)).toInt32))]) dJ6_bitCount_0f7a4_47 (by decide) rfl ?_
  refine M_iload_n (pc := 48) dJ6_bitCount_0f7a4_48 rfl ?_
  refine M_bipush (pc := 49) (v := 63) dJ6_bitCount_0f7a4_49 (by decide) ?_
  refine M_iand (pc := 51) dJ6_bitCount_0f7a4_51 ?_
  obtain rfl := Option.some.inj h
  exact M_iret (pc := 52) dJ6_bitCount_0f7a4_52 rfl rfl rfl rfl
def F_X0_remember (I : HI) (b1 : Nat) (b2 : Nat) : Option (HI) :=
  if (I 17 1) < 0 then some (up2 (up2 I 17 1 (((I 17 1) + (1 : Int32)) - ((I 17 1) + (1 : Int32)) / (12 : Int32) * (12 : Int32))) 17 0 (if (((up2 I 17 1 (((I 17 1) + (1 : Int32)) - ((I 17 1) + (1 : Int32)) / (12 : Int32) * (12 : Int32))) 17 0) + (1 : Int32)) < (12 : Int32) then (((up2 I 17 1 (((I 17 1) + (1 : Int32)) - ((I 17 1) + (1 : Int32)) / (12 : Int32) * (12 : Int32))) 17 0) + (1 : Int32)) else (12 : Int32))) else if (12 : Int32) ≤ (I 17 1) then some (up2 (up2 I 17 1 (((I 17 1) + (1 : Int32)) - ((I 17 1) + (1 : Int32)) / (12 : Int32) * (12 : Int32))) 17 0 (if (((up2 I 17 1 (((I 17 1) + (1 : Int32)) - ((I 17 1) + (1 : Int32)) / (12 : Int32) * (12 : Int32))) 17 0) + (1 : Int32)) < (12 : Int32) then (((up2 I 17 1 (((I 17 1) + (1 : Int32)) - ((I 17 1) + (1 : Int32)) / (12 : Int32) * (12 : Int32))) 17 0) + (1 : Int32)) else (12 : Int32))) else if inB (I 17 1) 12 = true then (F_X3_copy I (20 + 8 * ((I 17 1)).toNatClampNeg) b1) >>= fun r5 => if inB (r5 17 1) 12 = true then (F_X7_copy r5 (26 + 8 * ((r5 17 1)).toNatClampNeg) b2) >>= fun r9 => some (up2 (up2 r9 17 1 (((r9 17 1) + (1 : Int32)) - ((r9 17 1) + (1 : Int32)) / (12 : Int32) * (12 : Int32))) 17 0 (if (((up2 r9 17 1 (((r9 17 1) + (1 : Int32)) - ((r9 17 1) + (1 : Int32)) / (12 : Int32) * (12 : Int32))) 17 0) + (1 : Int32)) < (12 : Int32) then (((up2 r9 17 1 (((r9 17 1) + (1 : Int32)) - ((r9 17 1) + (1 : Int32)) / (12 : Int32) * (12 : Int32))) 17 0) + (1 : Int32)) else (12 : Int32))) else none else none
set_option maxRecDepth 4000 in
set_option maxHeartbeats 4000000 in
theorem C_X0_remember {g : gX} {d : Nat} {P : Nat → Nat → Option Nat} {I : HI} {b1 : Nat} {b2 : Nat} {J : HJ} (hp : Wp P) (hb1 : OB NT b1 3) (hb2 : OB NT b2 7) {r : HI} (h : F_X0_remember I b1 b2 = some r) : Cm g mX0_remember (d + 3) [.ref 17, .ref b1, .ref b2] (NT, I, J, P) none (NT, r, J, P) := by
  unfold F_X0_remember at h
  refine Cm.of (by decide) (by simp [Value.category]) (Nat.le_of_ble_eq_true rfl) (Nat.le_refl _) (ls := [some (.ref 17), some (.ref b1), some (.ref b2)]) rfl ?_
  refine M_aload_n (pc := 0) dX0_remember_0 rfl ?_
  refine M_getI (pc := 1) dX0_remember_1 f_X0_13 at_0 ?_
  refine M_if_lt (pc := 4) (tgt := 42) dX0_remember_4 (by decide) (fun hc1 => ?_) (fun hc1 => ?_)
  · have h := (if_pos hc1).symm.trans h
    refine M_aload_n (pc := 42) dX0_remember_42 rfl ?_
    refine M_aload_n (pc := 43) dX0_remember_43 rfl ?_
    refine M_getI (pc := 44) dX0_remember_44 f_X0_13 at_0 ?_
    refine M_iconst (pc := 47) (v := 1) dX0_remember_47 (by decide) ?_
    refine M_iadd (pc := 48) dX0_remember_48 ?_
    refine M_bipush (pc := 49) (v := 12) dX0_remember_49 (by decide) ?_
    refine M_irem (pc := 51) dX0_remember_51 (by decide) ?_
    refine M_putI (pc := 52) dX0_remember_52 f_X0_13 at_0 rfl ⟨rfl, rfl⟩ ?_
    refine M_aload_n (pc := 55) dX0_remember_55 rfl ?_
    refine M_bipush (pc := 56) (v := 12) dX0_remember_56 (by decide) ?_
    refine M_aload_n (pc := 58) dX0_remember_58 rfl ?_
    refine M_getI (pc := 59) dX0_remember_59 f_X0_7 at_0 ?_
    refine M_iconst (pc := 62) (v := 1) dX0_remember_62 (by decide) ?_
    refine M_iadd (pc := 63) dX0_remember_63 ?_
    refine M_mmin (pc := 64) dX0_remember_64 mm_X0_37.1 mm_X0_37.2.1 mm_X0_37.2.2.1 mm_X0_37.2.2.2 (Nat.le_of_ble_eq_true rfl) ?_
    refine M_putI (pc := 67) dX0_remember_67 f_X0_7 at_0 rfl ⟨rfl, rfl⟩ ?_
    obtain rfl := Option.some.inj h
    exact M_vret (pc := 70) dX0_remember_70 rfl rfl rfl
  · have h := (if_neg hc1).symm.trans h
    refine M_aload_n (pc := 7) dX0_remember_7 rfl ?_
    refine M_getI (pc := 8) dX0_remember_8 f_X0_13 at_0 ?_
    refine M_bipush (pc := 11) (v := 12) dX0_remember_11 (by decide) ?_
    refine M_icmp_ge (pc := 13) (tgt := 42) dX0_remember_13 (by decide) (fun hc2 => ?_) (fun hc2 => ?_)
    · have h := (if_pos hc2).symm.trans h
      refine M_aload_n (pc := 42) dX0_remember_42 rfl ?_
      refine M_aload_n (pc := 43) dX0_remember_43 rfl ?_
      refine M_getI (pc := 44) dX0_remember_44 f_X0_13 at_0 ?_
      refine M_iconst (pc := 47) (v := 1) dX0_remember_47 (by decide) ?_
      refine M_iadd (pc := 48) dX0_remember_48 ?_
      refine M_bipush (pc := 49) (v := 12) dX0_remember_49 (by decide) ?_
      refine M_irem (pc := 51) dX0_remember_51 (by decide) ?_
      refine M_putI (pc := 52) dX0_remember_52 f_X0_13 at_0 rfl ⟨rfl, rfl⟩ ?_
      refine M_aload_n (pc := 55) dX0_remember_55 rfl ?_
      refine M_bipush (pc := 56) (v := 12) dX0_remember_56 (by decide) ?_
      refine M_aload_n (pc := 58) dX0_remember_58 rfl ?_
      refine M_getI (pc := 59) dX0_remember_59 f_X0_7 at_0 ?_
      refine M_iconst (pc := 62) (v := 1) dX0_remember_62 (by decide) ?_
      refine M_iadd (pc := 63) dX0_remember_63 ?_
      refine M_mmin (pc := 64) dX0_remember_64 mm_X0_37.1 mm_X0_37.2.1 mm_X0_37.2.2.1 mm_X0_37.2.2.2 (Nat.le_of_ble_eq_true rfl) ?_
      refine M_putI (pc := 67) dX0_remember_67 f_X0_7 at_0 rfl ⟨rfl, rfl⟩ ?_
      obtain rfl := Option.some.inj h
      exact M_vret (pc := 70) dX0_remember_70 rfl rfl rfl
    · have h := (if_neg hc2).symm.trans h
      refine M_aload_n (pc := 16) dX0_remember_16 rfl ?_
      refine M_getR (pc := 17) dX0_remember_17 f_X0_18 at_0 (gr_0_2 hp at_0).1 ?_
      refine M_aload_n (pc := 20) dX0_remember_20 rfl ?_
      refine M_getI (pc := 21) dX0_remember_21 f_X0_13 at_0 ?_
      obtain ⟨hb3, h⟩ := chk h
      have fo4 := gr_al hp (inB_lt hb3)
      refine M_aaldL (pc := 24) dX0_remember_24 ar_al (inB_in hb3) fo4.1 ?_
      refine M_aload_n (pc := 25) dX0_remember_25 rfl ?_
      obtain ⟨r5, hr6, h⟩ := bnd h
      refine M_callVv (pc := 26) dX0_remember_26 v_X0_30 rfl rfl fo4.2 (Nat.le_of_ble_eq_true rfl) (C_X3_copy (d := d + 0) hp fo4.2 hb1 hr6) (Nat.le_refl _) ?_
      refine M_aload_n (pc := 29) dX0_remember_29 rfl ?_
      refine M_getR (pc := 30) dX0_remember_30 f_X0_24 at_0 (gr_0_3 hp at_0).1 ?_
      refine M_aload_n (pc := 33) dX0_remember_33 rfl ?_
      refine M_getI (pc := 34) dX0_remember_34 f_X0_13 at_0 ?_
      obtain ⟨hb7, h⟩ := chk h
      have fo8 := gr_ag hp (inB_lt hb7)
      refine M_aaldG (pc := 37) dX0_remember_37 ar_ag (inB_in hb7) fo8.1 ?_
      refine M_aload_n (pc := 38) dX0_remember_38 rfl ?_
      obtain ⟨r9, hr10, h⟩ := bnd h
      refine M_callVv (pc := 39) dX0_remember_39 v_X0_34 rfl rfl fo8.2 (Nat.le_of_ble_eq_true rfl) (C_X7_copy (d := d + 1) hp fo8.2 hb2 hr10) (Nat.le_refl _) ?_
      refine M_aload_n (pc := 42) dX0_remember_42 rfl ?_
      refine M_aload_n (pc := 43) dX0_remember_43 rfl ?_
      refine M_getI (pc := 44) dX0_remember_44 f_X0_13 at_0 ?_
      refine M_iconst (pc := 47) (v := 1) dX0_remember_47 (by decide) ?_
      refine M_iadd (pc := 48) dX0_remember_48 ?_
      refine M_bipush (pc := 49) (v := 12) dX0_remember_49 (by decide) ?_
      refine M_irem (pc := 51) dX0_remember_51 (by decide) ?_
      refine M_putI (pc := 52) dX0_remember_52 f_X0_13 at_0 rfl ⟨rfl, rfl⟩ ?_
      refine M_aload_n (pc := 55) dX0_remember_55 rfl ?_
      refine M_bipush (pc := 56) (v := 12) dX0_remember_56 (by decide) ?_
      refine M_aload_n (pc := 58) dX0_remember_58 rfl ?_
      refine M_getI (pc := 59) dX0_remember_59 f_X0_7 at_0 ?_
      refine M_iconst (pc := 62) (v := 1) dX0_remember_62 (by decide) ?_
      refine M_iadd (pc := 63) dX0_remember_63 ?_
      refine M_mmin (pc := 64) dX0_remember_64 mm_X0_37.1 mm_X0_37.2.1 mm_X0_37.2.2.1 mm_X0_37.2.2.2 (Nat.le_of_ble_eq_true rfl) ?_
      refine M_putI (pc := 67) dX0_remember_67 f_X0_7 at_0 rfl ⟨rfl, rfl⟩ ?_
      obtain rfl := Option.some.inj h
      exact M_vret (pc := 70) dX0_remember_70 rfl rfl rfl
def F_X0_recall (I : HI) (b1 : Nat) (b2 : Nat) : Option (Int32 × HI) :=
  if 0 < (I 17 0) then if ((up2 (up2 I 17 1 ((((I 17 1) + (12 : Int32)) - (1 : Int32)) - (((I 17 1) + (12 : Int32)) - (1 : Int32)) / (12 : Int32) * (12 : Int32))) 17 0 (((up2 I 17 1 ((((I 17 1) + (12 : Int32)) - (1 : Int32)) - (((I 17 1) + (12 : Int32)) - (1 : Int32)) / (12 : Int32) * (12 : Int32))) 17 0) - (1 : Int32))) 17 1) < 0 then some ((1 : Int32), (up2 (up2 I 17 1 ((((I 17 1) + (12 : Int32)) - (1 : Int32)) - (((I 17 1) + (12 : Int32)) - (1 : Int32)) / (12 : Int32) * (12 : Int32))) 17 0 (((up2 I 17 1 ((((I 17 1) + (12 : Int32)) - (1 : Int32)) - (((I 17 1) + (12 : Int32)) - (1 : Int32)) / (12 : Int32) * (12 : Int32))) 17 0) - (1 : Int32)))) else if (12 : Int32) ≤ ((up2 (up2 I 17 1 ((((I 17 1) + (12 : Int32)) - (1 : Int32)) - (((I 17 1) + (12 : Int32)) - (1 : Int32)) / (12 : Int32) * (12 : Int32))) 17 0 (((up2 I 17 1 ((((I 17 1) + (12 : Int32)) - (1 : Int32)) - (((I 17 1) + (12 : Int32)) - (1 : Int32)) / (12 : Int32) * (12 : Int32))) 17 0) - (1 : Int32))) 17 1) then some ((1 : Int32), (up2 (up2 I 17 1 ((((I 17 1) + (12 : Int32)) - (1 : Int32)) - (((I 17 1) + (12 : Int32)) - (1 : Int32)) / (12 : Int32) * (12 : Int32))) 17 0 (((up2 I 17 1 ((((I 17 1) + (12 : Int32)) - (1 : Int32)) - (((I 17 1) + (12 : Int32)) - (1 : Int32)) / (12 : Int32) * (12 : Int32))) 17 0) - (1 : Int32)))) else if inB ((up2 (up2 I 17 1 ((((I 17 1) + (12 : Int32)) - (1 : Int32)) - (((I 17 1) + (12 : Int32)) - (1 : Int32)) / (12 : Int32) * (12 : Int32))) 17 0 (((up2 I 17 1 ((((I 17 1) + (12 : Int32)) - (1 : Int32)) - (((I 17 1) + (12 : Int32)) - (1 : Int32)) / (12 : Int32) * (12 : Int32))) 17 0) - (1 : Int32))) 17 1) 12 = true then (F_X3_copy (up2 (up2 I 17 1 ((((I 17 1) + (12 : Int32)) - (1 : Int32)) - (((I 17 1) + (12 : Int32)) - (1 : Int32)) / (12 : Int32) * (12 : Int32))) 17 0 (((up2 I 17 1 ((((I 17 1) + (12 : Int32)) - (1 : Int32)) - (((I 17 1) + (12 : Int32)) - (1 : Int32)) / (12 : Int32) * (12 : Int32))) 17 0) - (1 : Int32))) b1 (20 + 8 * (((up2 (up2 I 17 1 ((((I 17 1) + (12 : Int32)) - (1 : Int32)) - (((I 17 1) + (12 : Int32)) - (1 : Int32)) / (12 : Int32) * (12 : Int32))) 17 0 (((up2 I 17 1 ((((I 17 1) + (12 : Int32)) - (1 : Int32)) - (((I 17 1) + (12 : Int32)) - (1 : Int32)) / (12 : Int32) * (12 : Int32))) 17 0) - (1 : Int32))) 17 1)).toNatClampNeg)) >>= fun r6 => if inB (r6 17 1) 12 = true then (F_X7_copy r6 b2 (26 + 8 * ((r6 17 1)).toNatClampNeg)) >>= fun r10 => some ((1 : Int32), r10) else none else none else some ((0 : Int32), I)
set_option maxRecDepth 4000 in
set_option maxHeartbeats 4000000 in
theorem C_X0_recall {g : gX} {d : Nat} {P : Nat → Nat → Option Nat} {I : HI} {b1 : Nat} {b2 : Nat} {J : HJ} (hp : Wp P) (hb1 : OB NT b1 3) (hb2 : OB NT b2 7) {r : Int32 × HI} (h : F_X0_recall I b1 b2 = some r) : Cm g mX0_recall (d + 3) [.ref 17, .ref b1, .ref b2] (NT, I, J, P) (some (.int r.1)) (NT, r.2, J, P) := by
  unfold F_X0_recall at h
  refine Cm.of (by decide) (by simp [Value.category]) (Nat.le_of_ble_eq_true rfl) (Nat.le_refl _) (ls := [some (.ref 17), some (.ref b1), some (.ref b2)]) rfl ?_
  refine M_aload_n (pc := 0) dX0_recall_0 rfl ?_
  refine M_getI (pc := 1) dX0_recall_1 f_X0_7 at_0 ?_
  refine M_if_gt (pc := 4) (tgt := 9) dX0_recall_4 (by decide) (fun hc1 => ?_) (fun hc1 => ?_)
  · have h := (if_pos hc1).symm.trans h
    refine M_aload_n (pc := 9) dX0_recall_9 rfl ?_
    refine M_aload_n (pc := 10) dX0_recall_10 rfl ?_
    refine M_getI (pc := 11) dX0_recall_11 f_X0_13 at_0 ?_
    refine M_bipush (pc := 14) (v := 12) dX0_recall_14 (by decide) ?_
    refine M_iadd (pc := 16) dX0_recall_16 ?_
    refine M_iconst (pc := 17) (v := 1) dX0_recall_17 (by decide) ?_
    refine M_isub (pc := 18) dX0_recall_18 ?_
    refine M_bipush (pc := 19) (v := 12) dX0_recall_19 (by decide) ?_
    refine M_irem (pc := 21) dX0_recall_21 (by decide) ?_
    refine M_putI (pc := 22) dX0_recall_22 f_X0_13 at_0 rfl ⟨rfl, rfl⟩ ?_
    refine M_aload_n (pc := 25) dX0_recall_25 rfl ?_
    refine M_dup (pc := 26) dX0_recall_26 rfl ?_
    refine M_getI (pc := 27) dX0_recall_27 f_X0_7 at_0 ?_
    refine M_iconst (pc := 30) (v := 1) dX0_recall_30 (by decide) ?_
    refine M_isub (pc := 31) dX0_recall_31 ?_
    refine M_putI (pc := 32) dX0_recall_32 f_X0_7 at_0 rfl ⟨rfl, rfl⟩ ?_
    refine M_aload_n (pc := 35) dX0_recall_35 rfl ?_
    refine M_getI (pc := 36) dX0_recall_36 f_X0_13 at_0 ?_
    refine M_if_lt (pc := 39) (tgt := 77) dX0_recall_39 (by decide) (fun hc2 => ?_) (fun hc2 => ?_)
    · have h := (if_pos hc2).symm.trans h
      refine M_iconst (pc := 77) (v := 1) dX0_recall_77 (by decide) ?_
      obtain rfl := Option.some.inj h
      exact M_iret (pc := 78) dX0_recall_78 rfl rfl rfl rfl
    · have h := (if_neg hc2).symm.trans h
      refine M_aload_n (pc := 42) dX0_recall_42 rfl ?_
      refine M_getI (pc := 43) dX0_recall_43 f_X0_13 at_0 ?_
      refine M_bipush (pc := 46) (v := 12) dX0_recall_46 (by decide) ?_
      refine M_icmp_ge (pc := 48) (tgt := 77) dX0_recall_48 (by decide) (fun hc3 => ?_) (fun hc3 => ?_)
      · have h := (if_pos hc3).symm.trans h
        refine M_iconst (pc := 77) (v := 1) dX0_recall_77 (by decide) ?_
        obtain rfl := Option.some.inj h
        exact M_iret (pc := 78) dX0_recall_78 rfl rfl rfl rfl
      · have h := (if_neg hc3).symm.trans h
        refine M_aload_n (pc := 51) dX0_recall_51 rfl ?_
        refine M_aload_n (pc := 52) dX0_recall_52 rfl ?_
        refine M_getR (pc := 53) dX0_recall_53 f_X0_18 at_0 (gr_0_2 hp at_0).1 ?_
        refine M_aload_n (pc := 56) dX0_recall_56 rfl ?_
        refine M_getI (pc := 57) dX0_recall_57 f_X0_13 at_0 ?_
        obtain ⟨hb4, h⟩ := chk h
        have fo5 := gr_al hp (inB_lt hb4)
        refine M_aaldL (pc := 60) dX0_recall_60 ar_al (inB_in hb4) fo5.1 ?_
        obtain ⟨r6, hr7, h⟩ := bnd h
        refine M_callVv (pc := 61) dX0_recall_61 v_X0_30 rfl rfl hb1 (Nat.le_of_ble_eq_true rfl) (C_X3_copy (d := d + 0) hp hb1 fo5.2 hr7) (Nat.le_refl _) ?_
        refine M_aload_n (pc := 64) dX0_recall_64 rfl ?_
        refine M_aload_n (pc := 65) dX0_recall_65 rfl ?_
        refine M_getR (pc := 66) dX0_recall_66 f_X0_24 at_0 (gr_0_3 hp at_0).1 ?_
        refine M_aload_n (pc := 69) dX0_recall_69 rfl ?_
        refine M_getI (pc := 70) dX0_recall_70 f_X0_13 at_0 ?_
        obtain ⟨hb8, h⟩ := chk h
        have fo9 := gr_ag hp (inB_lt hb8)
        refine M_aaldG (pc := 73) dX0_recall_73 ar_ag (inB_in hb8) fo9.1 ?_
        obtain ⟨r10, hr11, h⟩ := bnd h
        refine M_callVv (pc := 74) dX0_recall_74 v_X0_34 rfl rfl hb2 (Nat.le_of_ble_eq_true rfl) (C_X7_copy (d := d + 1) hp hb2 fo9.2 hr11) (Nat.le_refl _) ?_
        refine M_iconst (pc := 77) (v := 1) dX0_recall_77 (by decide) ?_
        obtain rfl := Option.some.inj h
        exact M_iret (pc := 78) dX0_recall_78 rfl rfl rfl rfl
  · have h := (if_neg hc1).symm.trans h
    refine M_iconst (pc := 7) (v := 0) dX0_recall_7 (by decide) ?_
    obtain rfl := Option.some.inj h
    exact M_iret (pc := 8) dX0_recall_8 rfl rfl rfl rfl
def F_X1_allHad (I : HI) (a : Nat) : Option (Int32) :=
  (F_X1_firstIn I a (0 : Int32) (9999 : Int32)) >>= fun r1 => some r1
set_option maxRecDepth 4000 in
set_option maxHeartbeats 4000000 in
theorem C_X1_allHad {g : gX} {d : Nat} {P : Nat → Nat → Option Nat} {I : HI} {a : Nat} {J : HJ} (hp : Wp P) (ha : OB NT a 1) {r : Int32} (h : F_X1_allHad I a = some r) : Cm g mX1_allHad (d + 1) [.ref a] (NT, I, J, P) (some (.int r)) (NT, I, J, P) := by
  unfold F_X1_allHad at h
  refine Cm.of (by decide) (by simp [Value.category]) (Nat.le_of_ble_eq_true rfl) (Nat.le_refl _) (ls := [some (.ref a)]) rfl ?_
  refine M_aload_n (pc := 0) dX1_allHad_0 rfl ?_
  refine M_iconst (pc := 1) (v := 0) dX1_allHad_1 (by decide) ?_
  refine M_sipush (pc := 2) (v := 9999) dX1_allHad_2 (by decide) ?_
  obtain ⟨r1, hr2, h⟩ := bnd h
  refine M_callVi (pc := 5) dX1_allHad_5 v_X1_32 rfl rfl ha (Nat.le_of_ble_eq_true rfl) (C_X1_firstIn (d := d + 0) hp ha hr2) (Nat.le_refl _) ?_
  obtain rfl := Option.some.inj h
  exact M_iret (pc := 8) dX1_allHad_8 rfl rfl rfl rfl
def F_X4_step (I : HI) (a : Nat) (x1 : Int32) (x2 : Int32) : Option (Int32 × HI) :=
  if (1010 : Int32) ≤ x1 then if x1 = (1013 : Int32) then if x2 < (1 : Int32) then if (2 : Int32) ≤ x2 then (ald 64 (I (a + 5)) (x2 - (2 : Int32))) >>= fun v13 => (ald 64 (I (a + 5)) (x2 - (1 : Int32))) >>= fun v15 => (F_X4_join I x1 v13 v15) >>= fun r17 => if inB (x2 - (2 : Int32)) 64 = true then some ((x2 - (1 : Int32)), (up2 I (a + 5) ((x2 - (2 : Int32))).toNatClampNeg r17)) else none else some (x2, I) else (ald 64 (I (a + 5)) (x2 - (1 : Int32))) >>= fun v20 => if inB (x2 - (1 : Int32)) 64 = true then some (x2, (up2 I (a + 5) ((x2 - (1 : Int32))).toNatClampNeg ((1 : Int32) - v20))) else none else if (2 : Int32) ≤ x2 then (ald 64 (I (a + 5)) (x2 - (2 : Int32))) >>= fun v4 => (ald 64 (I (a + 5)) (x2 - (1 : Int32))) >>= fun v6 => (F_X4_join I x1 v4 v6) >>= fun r8 => if inB (x2 - (2 : Int32)) 64 = true then some ((x2 - (1 : Int32)), (up2 I (a + 5) ((x2 - (2 : Int32))).toNatClampNeg r8)) else none else some (x2, I) else (F_X4_push I a x1 x2) >>= fun r23 => some (r23.1, r23.2)
set_option maxRecDepth 4000 in
set_option maxHeartbeats 4000000 in
theorem C_X4_step {g : gX} {d : Nat} {P : Nat → Nat → Option Nat} {I : HI} {a : Nat} {x1 : Int32} {x2 : Int32} {J : HJ} (hp : Wp P) (ha : OB NT a 4) {r : Int32 × HI} (h : F_X4_step I a x1 x2 = some r) : Cm g mX4_step (d + 1) [.ref a, .int x1, .int x2, .ref 136] (NT, I, J, P) (some (.int r.1)) (NT, r.2, J, P) := by
  unfold F_X4_step at h
  refine Cm.of (by decide) (by simp [Value.category]) (Nat.le_of_ble_eq_true rfl) (Nat.le_refl _) (ls := [some (.ref a), some (.int x1), some (.int x2), some (.ref 136)]) rfl ?_
  refine M_iload_n (pc := 0) dX4_step_0 rfl ?_
  refine M_sipush (pc := 1) (v := 1010) dX4_step_1 (by decide) ?_
  refine M_icmp_ge (pc := 4) (tgt := 15) dX4_step_4 (by decide) (fun hc1 => ?_) (fun hc1 => ?_)
  · have h := (if_pos hc1).symm.trans h
    refine M_iload_n (pc := 15) dX4_step_15 rfl ?_
    refine M_sipush (pc := 16) (v := 1013) dX4_step_16 (by decide) ?_
    refine M_icmp_ne (pc := 19) (tgt := 47) dX4_step_19 (by decide) (fun hc2 => ?_) (fun hc2 => ?_)
    · have h := (if_neg hc2).symm.trans h
      refine M_iload_n (pc := 47) dX4_step_47 rfl ?_
      refine M_iconst (pc := 48) (v := 2) dX4_step_48 (by decide) ?_
      refine M_icmp_ge (pc := 49) (tgt := 54) dX4_step_49 (by decide) (fun hc3 => ?_) (fun hc3 => ?_)
      · have h := (if_pos hc3).symm.trans h
        refine M_aload_n (pc := 54) dX4_step_54 rfl ?_
        refine M_getR (pc := 55) dX4_step_55 f_X4_31 ha (gr_4_6 hp ha).1 ?_
        refine M_iload_n (pc := 58) dX4_step_58 rfl ?_
        refine M_iconst (pc := 59) (v := 2) dX4_step_59 (by decide) ?_
        refine M_isub (pc := 60) dX4_step_60 ?_
        refine M_iload_n (pc := 61) dX4_step_61 rfl ?_
        refine M_aload_n (pc := 62) dX4_step_62 rfl ?_
        refine M_getR (pc := 63) dX4_step_63 f_X4_31 ha (gr_4_6 hp ha).1 ?_
        refine M_iload_n (pc := 66) dX4_step_66 rfl ?_
        refine M_iconst (pc := 67) (v := 2) dX4_step_67 (by decide) ?_
        refine M_isub (pc := 68) dX4_step_68 ?_
        obtain ⟨v4, hv5, h⟩ := bnd h
        refine M_aldI (pc := 69) dX4_step_69 (gr_4_6 hp ha).2 hv5 ?_
        refine M_aload_n (pc := 70) dX4_step_70 rfl ?_
        refine M_getR (pc := 71) dX4_step_71 f_X4_31 ha (gr_4_6 hp ha).1 ?_
        refine M_iload_n (pc := 74) dX4_step_74 rfl ?_
        refine M_iconst (pc := 75) (v := 1) dX4_step_75 (by decide) ?_
        refine M_isub (pc := 76) dX4_step_76 ?_
        obtain ⟨v6, hv7, h⟩ := bnd h
        refine M_aldI (pc := 77) dX4_step_77 (gr_4_6 hp ha).2 hv7 ?_
        obtain ⟨r8, hr9, h⟩ := bnd h
        refine M_callSi (pc := 78) dX4_step_78 s_X4_53 rfl rfl (Nat.le_of_ble_eq_true rfl) (C_X4_join (d := d + 0) hp hr9) (Nat.le_refl _) ?_
        obtain ⟨hb10, h⟩ := chk h
        refine M_iast (pc := 81) dX4_step_81 (gr_4_6 hp ha).2 (inB_in hb10) ?_
        refine M_iload_n (pc := 82) dX4_step_82 rfl ?_
        refine M_iconst (pc := 83) (v := 1) dX4_step_83 (by decide) ?_
        refine M_isub (pc := 84) dX4_step_84 ?_
        obtain rfl := Option.some.inj h
        exact M_iret (pc := 85) dX4_step_85 rfl rfl rfl rfl
      · have h := (if_neg hc3).symm.trans h
        refine M_iload_n (pc := 52) dX4_step_52 rfl ?_
        obtain rfl := Option.some.inj h
        exact M_iret (pc := 53) dX4_step_53 rfl rfl rfl rfl
    · have h := (if_pos hc2).symm.trans h
      refine M_iload_n (pc := 22) dX4_step_22 rfl ?_
      refine M_iconst (pc := 23) (v := 1) dX4_step_23 (by decide) ?_
      refine M_icmp_lt (pc := 24) (tgt := 47) dX4_step_24 (by decide) (fun hc11 => ?_) (fun hc11 => ?_)
      · have h := (if_pos hc11).symm.trans h
        refine M_iload_n (pc := 47) dX4_step_47 rfl ?_
        refine M_iconst (pc := 48) (v := 2) dX4_step_48 (by decide) ?_
        refine M_icmp_ge (pc := 49) (tgt := 54) dX4_step_49 (by decide) (fun hc12 => ?_) (fun hc12 => ?_)
        · have h := (if_pos hc12).symm.trans h
          refine M_aload_n (pc := 54) dX4_step_54 rfl ?_
          refine M_getR (pc := 55) dX4_step_55 f_X4_31 ha (gr_4_6 hp ha).1 ?_
          refine M_iload_n (pc := 58) dX4_step_58 rfl ?_
          refine M_iconst (pc := 59) (v := 2) dX4_step_59 (by decide) ?_
          refine M_isub (pc := 60) dX4_step_60 ?_
          refine M_iload_n (pc := 61) dX4_step_61 rfl ?_
          refine M_aload_n (pc := 62) dX4_step_62 rfl ?_
          refine M_getR (pc := 63) dX4_step_63 f_X4_31 ha (gr_4_6 hp ha).1 ?_
          refine M_iload_n (pc := 66) dX4_step_66 rfl ?_
          refine M_iconst (pc := 67) (v := 2) dX4_step_67 (by decide) ?_
          refine M_isub (pc := 68) dX4_step_68 ?_
          obtain ⟨v13, hv14, h⟩ := bnd h
          refine M_aldI (pc := 69) dX4_step_69 (gr_4_6 hp ha).2 hv14 ?_
          refine M_aload_n (pc := 70) dX4_step_70 rfl ?_
          refine M_getR (pc := 71) dX4_step_71 f_X4_31 ha (gr_4_6 hp ha).1 ?_
          refine M_iload_n (pc := 74) dX4_step_74 rfl ?_
          refine M_iconst (pc := 75) (v := 1) dX4_step_75 (by decide) ?_
          refine M_isub (pc := 76) dX4_step_76 ?_
          obtain ⟨v15, hv16, h⟩ := bnd h
          refine M_aldI (pc := 77) dX4_step_77 (gr_4_6 hp ha).2 hv16 ?_
          obtain ⟨r17, hr18, h⟩ := bnd h
          refine M_callSi (pc := 78) dX4_step_78 s_X4_53 rfl rfl (Nat.le_of_ble_eq_true rfl) (C_X4_join (d := d + 0) hp hr18) (Nat.le_refl _) ?_
          obtain ⟨hb19, h⟩ := chk h
          refine M_iast (pc := 81) dX4_step_81 (gr_4_6 hp ha).2 (inB_in hb19) ?_
          refine M_iload_n (pc := 82) dX4_step_82 rfl ?_
          refine M_iconst (pc := 83) (v := 1) dX4_step_83 (by decide) ?_
          refine M_isub (pc := 84) dX4_step_84 ?_
          obtain rfl := Option.some.inj h
          exact M_iret (pc := 85) dX4_step_85 rfl rfl rfl rfl
        · have h := (if_neg hc12).symm.trans h
          refine M_iload_n (pc := 52) dX4_step_52 rfl ?_
          obtain rfl := Option.some.inj h
          exact M_iret (pc := 53) dX4_step_53 rfl rfl rfl rfl
      · have h := (if_neg hc11).symm.trans h
        refine M_aload_n (pc := 27) dX4_step_27 rfl ?_
        refine M_getR (pc := 28) dX4_step_28 f_X4_31 ha (gr_4_6 hp ha).1 ?_
        refine M_iload_n (pc := 31) dX4_step_31 rfl ?_
        refine M_iconst (pc := 32) (v := 1) dX4_step_32 (by decide) ?_
        refine M_isub (pc := 33) dX4_step_33 ?_
        refine M_iconst (pc := 34) (v := 1) dX4_step_34 (by decide) ?_
        refine M_aload_n (pc := 35) dX4_step_35 rfl ?_
        refine M_getR (pc := 36) dX4_step_36 f_X4_31 ha (gr_4_6 hp ha).1 ?_
        refine M_iload_n (pc := 39) dX4_step_39 rfl ?_
        refine M_iconst (pc := 40) (v := 1) dX4_step_40 (by decide) ?_
        refine M_isub (pc := 41) dX4_step_41 ?_
        obtain ⟨v20, hv21, h⟩ := bnd h
        refine M_aldI (pc := 42) dX4_step_42 (gr_4_6 hp ha).2 hv21 ?_
        refine M_isub (pc := 43) dX4_step_43 ?_
        obtain ⟨hb22, h⟩ := chk h
        refine M_iast (pc := 44) dX4_step_44 (gr_4_6 hp ha).2 (inB_in hb22) ?_
        refine M_iload_n (pc := 45) dX4_step_45 rfl ?_
        obtain rfl := Option.some.inj h
        exact M_iret (pc := 46) dX4_step_46 rfl rfl rfl rfl
  · have h := (if_neg hc1).symm.trans h
    refine M_aload_n (pc := 7) dX4_step_7 rfl ?_
    refine M_iload_n (pc := 8) dX4_step_8 rfl ?_
    refine M_iload_n (pc := 9) dX4_step_9 rfl ?_
    refine M_aload_n (pc := 10) dX4_step_10 rfl ?_
    obtain ⟨r23, hr24, h⟩ := bnd h
    refine M_callVi (pc := 11) dX4_step_11 v_X4_50 rfl rfl ha (Nat.le_of_ble_eq_true rfl) (C_X4_push (d := d + 0) hp ha hr24) (Nat.le_refl _) ?_
    obtain rfl := Option.some.inj h
    exact M_iret (pc := 14) dX4_step_14 rfl rfl rfl rfl
def F_X9_put (I : HI) (b1 : Nat) (x2 : Int32) : Option (HI) :=
  (F_X1_calledUp (up2 (up2 I 136 1 (0 : Int32)) 136 2 ((up2 I 136 1 (0 : Int32)) b1 12)) (b1 + 1) x2 ((up2 (up2 I 136 1 (0 : Int32)) 136 2 ((up2 I 136 1 (0 : Int32)) b1 12)) b1 7)) >>= fun r1 => (F_X1_isHad (up2 (up2 (up2 (up2 (up2 (up2 I 136 1 (0 : Int32)) 136 2 ((up2 I 136 1 (0 : Int32)) b1 12)) 136 0 r1) 137 0 x2) 137 4 ((up2 (up2 (up2 (up2 I 136 1 (0 : Int32)) 136 2 ((up2 I 136 1 (0 : Int32)) b1 12)) 136 0 r1) 137 0 x2) b1 4)) 137 5 ((up2 (up2 (up2 (up2 (up2 I 136 1 (0 : Int32)) 136 2 ((up2 I 136 1 (0 : Int32)) b1 12)) 136 0 r1) 137 0 x2) 137 4 ((up2 (up2 (up2 (up2 I 136 1 (0 : Int32)) 136 2 ((up2 I 136 1 (0 : Int32)) b1 12)) 136 0 r1) 137 0 x2) b1 4)) b1 5)) (b1 + 1) x2) >>= fun r3 => if r3 = 0 then (F_X1_has (up2 (up2 (up2 (up2 (up2 (up2 (up2 (up2 (up2 (up2 (up2 (up2 I 136 1 (0 : Int32)) 136 2 ((up2 I 136 1 (0 : Int32)) b1 12)) 136 0 r1) 137 0 x2) 137 4 ((up2 (up2 (up2 (up2 I 136 1 (0 : Int32)) 136 2 ((up2 I 136 1 (0 : Int32)) b1 12)) 136 0 r1) 137 0 x2) b1 4)) 137 5 ((up2 (up2 (up2 (up2 (up2 I 136 1 (0 : Int32)) 136 2 ((up2 I 136 1 (0 : Int32)) b1 12)) 136 0 r1) 137 0 x2) 137 4 ((up2 (up2 (up2 (up2 I 136 1 (0 : Int32)) 136 2 ((up2 I 136 1 (0 : Int32)) b1 12)) 136 0 r1) 137 0 x2) b1 4)) b1 5)) 137 6 (1 : Int32)) 137 1 ((up2 (up2 (up2 (up2 (up2 (up2 (up2 I 136 1 (0 : Int32)) 136 2 ((up2 I 136 1 (0 : Int32)) b1 12)) 136 0 r1) 137 0 x2) 137 4 ((up2 (up2 (up2 (up2 I 136 1 (0 : Int32)) 136 2 ((up2 I 136 1 (0 : Int32)) b1 12)) 136 0 r1) 137 0 x2) b1 4)) 137 5 ((up2 (up2 (up2 (up2 (up2 I 136 1 (0 : Int32)) 136 2 ((up2 I 136 1 (0 : Int32)) b1 12)) 136 0 r1) 137 0 x2) 137 4 ((up2 (up2 (up2 (up2 I 136 1 (0 : Int32)) 136 2 ((up2 I 136 1 (0 : Int32)) b1 12)) 136 0 r1) 137 0 x2) b1 4)) b1 5)) 137 6 (1 : Int32)) b1 2)) 137 2 ((up2 (up2 (up2 (up2 (up2 (up2 (up2 (up2 I 136 1 (0 : Int32)) 136 2 ((up2 I 136 1 (0 : Int32)) b1 12)) 136 0 r1) 137 0 x2) 137 4 ((up2 (up2 (up2 (up2 I 136 1 (0 : Int32)) 136 2 ((up2 I 136 1 (0 : Int32)) b1 12)) 136 0 r1) 137 0 x2) b1 4)) 137 5 ((up2 (up2 (up2 (up2 (up2 I 136 1 (0 : Int32)) 136 2 ((up2 I 136 1 (0 : Int32)) b1 12)) 136 0 r1) 137 0 x2) 137 4 ((up2 (up2 (up2 (up2 I 136 1 (0 : Int32)) 136 2 ((up2 I 136 1 (0 : Int32)) b1 12)) 136 0 r1) 137 0 x2) b1 4)) b1 5)) 137 6 (1 : Int32)) 137 1 ((up2 (up2 (up2 (up2 (up2 (up2 (up2 I 136 1 (0 : Int32)) 136 2 ((up2 I 136 1 (0 : Int32)) b1 12)) 136 0 r1) 137 0 x2) 137 4 ((up2 (up2 (up2 (up2 I 136 1 (0 : Int32)) 136 2 ((up2 I 136 1 (0 : Int32)) b1 12)) 136 0 r1) 137 0 x2) b1 4)) 137 5 ((up2 (up2 (up2 (up2 (up2 I 136 1 (0 : Int32)) 136 2 ((up2 I 136 1 (0 : Int32)) b1 12)) 136 0 r1) 137 0 x2) 137 4 ((up2 (up2 (up2 (up2 I 136 1 (0 : Int32)) 136 2 ((up2 I 136 1 (0 : Int32)) b1 12)) 136 0 r1) 137 0 x2) b1 4)) b1 5)) 137 6 (1 : Int32)) b1 2)) b1 11)) 137 3 (9 : Int32)) 137 7 (0 : Int32)) 137 8 (0 : Int32)) (b1 + 1) ((up2 (up2 (up2 (up2 (up2 (up2 (up2 (up2 (up2 (up2 (up2 (up2 I 136 1 (0 : Int32)) 136 2 ((up2 I 136 1 (0 : Int32)) b1 12)) 136 0 r1) 137 0 x2) 137 4 ((up2 (up2 (up2 (up2 I 136 1 (0 : Int32)) 136 2 ((up2 I 136 1 (0 : Int32)) b1 12)) 136 0 r1) 137 0 x2) b1 4)) 137 5 ((up2 (up2 (up2 (up2 (up2 I 136 1 (0 : Int32)) 136 2 ((up2 I 136 1 (0 : Int32)) b1 12)) 136 0 r1) 137 0 x2) 137 4 ((up2 (up2 (up2 (up2 I 136 1 (0 : Int32)) 136 2 ((up2 I 136 1 (0 : Int32)) b1 12)) 136 0 r1) 137 0 x2) b1 4)) b1 5)) 137 6 (1 : Int32)) 137 1 ((up2 (up2 (up2 (up2 (up2 (up2 (up2 I 136 1 (0 : Int32)) 136 2 ((up2 I 136 1 (0 : Int32)) b1 12)) 136 0 r1) 137 0 x2) 137 4 ((up2 (up2 (up2 (up2 I 136 1 (0 : Int32)) 136 2 ((up2 I 136 1 (0 : Int32)) b1 12)) 136 0 r1) 137 0 x2) b1 4)) 137 5 ((up2 (up2 (up2 (up2 (up2 I 136 1 (0 : Int32)) 136 2 ((up2 I 136 1 (0 : Int32)) b1 12)) 136 0 r1) 137 0 x2) 137 4 ((up2 (up2 (up2 (up2 I 136 1 (0 : Int32)) 136 2 ((up2 I 136 1 (0 : Int32)) b1 12)) 136 0 r1) 137 0 x2) b1 4)) b1 5)) 137 6 (1 : Int32)) b1 2)) 137 2 ((up2 (up2 (up2 (up2 (up2 (up2 (up2 (up2 I 136 1 (0 : Int32)) 136 2 ((up2 I 136 1 (0 : Int32)) b1 12)) 136 0 r1) 137 0 x2) 137 4 ((up2 (up2 (up2 (up2 I 136 1 (0 : Int32)) 136 2 ((up2 I 136 1 (0 : Int32)) b1 12)) 136 0 r1) 137 0 x2) b1 4)) 137 5 ((up2 (up2 (up2 (up2 (up2 I 136 1 (0 : Int32)) 136 2 ((up2 I 136 1 (0 : Int32)) b1 12)) 136 0 r1) 137 0 x2) 137 4 ((up2 (up2 (up2 (up2 I 136 1 (0 : Int32)) 136 2 ((up2 I 136 1 (0 : Int32)) b1 12)) 136 0 r1) 137 0 x2) b1 4)) b1 5)) 137 6 (1 : Int32)) 137 1 ((up2 (up2 (up2 (up2 (up2 (up2 (up2 I 136 1 (0 : Int32)) 136 2 ((up2 I 136 1 (0 : Int32)) b1 12)) 136 0 r1) 137 0 x2) 137 4 ((up2 (up2 (up2 (up2 I 136 1 (0 : Int32)) 136 2 ((up2 I 136 1 (0 : Int32)) b1 12)) 136 0 r1) 137 0 x2) b1 4)) 137 5 ((up2 (up2 (up2 (up2 (up2 I 136 1 (0 : Int32)) 136 2 ((up2 I 136 1 (0 : Int32)) b1 12)) 136 0 r1) 137 0 x2) 137 4 ((up2 (up2 (up2 (up2 I 136 1 (0 : Int32)) 136 2 ((up2 I 136 1 (0 : Int32)) b1 12)) 136 0 r1) 137 0 x2) b1 4)) b1 5)) 137 6 (1 : Int32)) b1 2)) b1 11)) 137 3 (9 : Int32)) 137 7 (0 : Int32)) 137 8 (0 : Int32)) 136 0)) >>= fun r6 => if r6 = 0 then some (up2 (up2 (up2 (up2 (up2 (up2 (up2 (up2 (up2 (up2 (up2 (up2 I 136 1 (0 : Int32)) 136 2 ((up2 I 136 1 (0 : Int32)) b1 12)) 136 0 r1) 137 0 x2) 137 4 ((up2 (up2 (up2 (up2 I 136 1 (0 : Int32)) 136 2 ((up2 I 136 1 (0 : Int32)) b1 12)) 136 0 r1) 137 0 x2) b1 4)) 137 5 ((up2 (up2 (up2 (up2 (up2 I 136 1 (0 : Int32)) 136 2 ((up2 I 136 1 (0 : Int32)) b1 12)) 136 0 r1) 137 0 x2) 137 4 ((up2 (up2 (up2 (up2 I 136 1 (0 : Int32)) 136 2 ((up2 I 136 1 (0 : Int32)) b1 12)) 136 0 r1) 137 0 x2) b1 4)) b1 5)) 137 6 (1 : Int32)) 137 1 ((up2 (up2 (up2 (up2 (up2 (up2 (up2 I 136 1 (0 : Int32)) 136 2 ((up2 I 136 1 (0 : Int32)) b1 12)) 136 0 r1) 137 0 x2) 137 4 ((up2 (up2 (up2 (up2 I 136 1 (0 : Int32)) 136 2 ((up2 I 136 1 (0 : Int32)) b1 12)) 136 0 r1) 137 0 x2) b1 4)) 137 5 ((up2 (up2 (up2 (up2 (up2 I 136 1 (0 : Int32)) 136 2 ((up2 I 136 1 (0 : Int32)) b1 12)) 136 0 r1) 137 0 x2) 137 4 ((up2 (up2 (up2 (up2 I 136 1 (0 : Int32)) 136 2 ((up2 I 136 1 (0 : Int32)) b1 12)) 136 0 r1) 137 0 x2) b1 4)) b1 5)) 137 6 (1 : Int32)) b1 2)) 137 2 ((up2 (up2 (up2 (up2 (up2 (up2 (up2 (up2 I 136 1 (0 : Int32)) 136 2 ((up2 I 136 1 (0 : Int32)) b1 12)) 136 0 r1) 137 0 x2) 137 4 ((up2 (up2 (up2 (up2 I 136 1 (0 : Int32)) 136 2 ((up2 I 136 1 (0 : Int32)) b1 12)) 136 0 r1) 137 0 x2) b1 4)) 137 5 ((up2 (up2 (up2 (up2 (up2 I 136 1 (0 : Int32)) 136 2 ((up2 I 136 1 (0 : Int32)) b1 12)) 136 0 r1) 137 0 x2) 137 4 ((up2 (up2 (up2 (up2 I 136 1 (0 : Int32)) 136 2 ((up2 I 136 1 (0 : Int32)) b1 12)) 136 0 r1) 137 0 x2) b1 4)) b1 5)) 137 6 (1 : Int32)) 137 1 ((up2 (up2 (up2 (up2 (up2 (up2 (up2 I 136 1 (0 : Int32)) 136 2 ((up2 I 136 1 (0 : Int32)) b1 12)) 136 0 r1) 137 0 x2) 137 4 ((up2 (up2 (up2 (up2 I 136 1 (0 : Int32)) 136 2 ((up2 I 136 1 (0 : Int32)) b1 12)) 136 0 r1) 137 0 x2) b1 4)) 137 5 ((up2 (up2 (up2 (up2 (up2 I 136 1 (0 : Int32)) 136 2 ((up2 I 136 1 (0 : Int32)) b1 12)) 136 0 r1) 137 0 x2) 137 4 ((up2 (up2 (up2 (up2 I 136 1 (0 : Int32)) 136 2 ((up2 I 136 1 (0 : Int32)) b1 12)) 136 0 r1) 137 0 x2) b1 4)) b1 5)) 137 6 (1 : Int32)) b1 2)) b1 11)) 137 3 (9 : Int32)) 137 7 (0 : Int32)) 137 8 (0 : Int32)) else (F_X9_putCalled (up2 (up2 (up2 (up2 (up2 (up2 (up2 (up2 (up2 (up2 (up2 (up2 I 136 1 (0 : Int32)) 136 2 ((up2 I 136 1 (0 : Int32)) b1 12)) 136 0 r1) 137 0 x2) 137 4 ((up2 (up2 (up2 (up2 I 136 1 (0 : Int32)) 136 2 ((up2 I 136 1 (0 : Int32)) b1 12)) 136 0 r1) 137 0 x2) b1 4)) 137 5 ((up2 (up2 (up2 (up2 (up2 I 136 1 (0 : Int32)) 136 2 ((up2 I 136 1 (0 : Int32)) b1 12)) 136 0 r1) 137 0 x2) 137 4 ((up2 (up2 (up2 (up2 I 136 1 (0 : Int32)) 136 2 ((up2 I 136 1 (0 : Int32)) b1 12)) 136 0 r1) 137 0 x2) b1 4)) b1 5)) 137 6 (1 : Int32)) 137 1 ((up2 (up2 (up2 (up2 (up2 (up2 (up2 I 136 1 (0 : Int32)) 136 2 ((up2 I 136 1 (0 : Int32)) b1 12)) 136 0 r1) 137 0 x2) 137 4 ((up2 (up2 (up2 (up2 I 136 1 (0 : Int32)) 136 2 ((up2 I 136 1 (0 : Int32)) b1 12)) 136 0 r1) 137 0 x2) b1 4)) 137 5 ((up2 (up2 (up2 (up2 (up2 I 136 1 (0 : Int32)) 136 2 ((up2 I 136 1 (0 : Int32)) b1 12)) 136 0 r1) 137 0 x2) 137 4 ((up2 (up2 (up2 (up2 I 136 1 (0 : Int32)) 136 2 ((up2 I 136 1 (0 : Int32)) b1 12)) 136 0 r1) 137 0 x2) b1 4)) b1 5)) 137 6 (1 : Int32)) b1 2)) 137 2 ((up2 (up2 (up2 (up2 (up2 (up2 (up2 (up2 I 136 1 (0 : Int32)) 136 2 ((up2 I 136 1 (0 : Int32)) b1 12)) 136 0 r1) 137 0 x2) 137 4 ((up2 (up2 (up2 (up2 I 136 1 (0 : Int32)) 136 2 ((up2 I 136 1 (0 : Int32)) b1 12)) 136 0 r1) 137 0 x2) b1 4)) 137 5 ((up2 (up2 (up2 (up2 (up2 I 136 1 (0 : Int32)) 136 2 ((up2 I 136 1 (0 : Int32)) b1 12)) 136 0 r1) 137 0 x2) 137 4 ((up2 (up2 (up2 (up2 I 136 1 (0 : Int32)) 136 2 ((up2 I 136 1 (0 : Int32)) b1 12)) 136 0 r1) 137 0 x2) b1 4)) b1 5)) 137 6 (1 : Int32)) 137 1 ((up2 (up2 (up2 (up2 (up2 (up2 (up2 I 136 1 (0 : Int32)) 136 2 ((up2 I 136 1 (0 : Int32)) b1 12)) 136 0 r1) 137 0 x2) 137 4 ((up2 (up2 (up2 (up2 I 136 1 (0 : Int32)) 136 2 ((up2 I 136 1 (0 : Int32)) b1 12)) 136 0 r1) 137 0 x2) b1 4)) 137 5 ((up2 (up2 (up2 (up2 (up2 I 136 1 (0 : Int32)) 136 2 ((up2 I 136 1 (0 : Int32)) b1 12)) 136 0 r1) 137 0 x2) 137 4 ((up2 (up2 (up2 (up2 I 136 1 (0 : Int32)) 136 2 ((up2 I 136 1 (0 : Int32)) b1 12)) 136 0 r1) 137 0 x2) b1 4)) b1 5)) 137 6 (1 : Int32)) b1 2)) b1 11)) 137 3 (9 : Int32)) 137 7 (0 : Int32)) 137 8 (0 : Int32)) b1) >>= fun r9 => some r9 else (F_X1_has (up2 (up2 (up2 (up2 (up2 (up2 (up2 (up2 (up2 (up2 (up2 (up2 I 136 1 (0 : Int32)) 136 2 ((up2 I 136 1 (0 : Int32)) b1 12)) 136 0 r1) 137 0 x2) 137 4 ((up2 (up2 (up2 (up2 I 136 1 (0 : Int32)) 136 2 ((up2 I 136 1 (0 : Int32)) b1 12)) 136 0 r1) 137 0 x2) b1 4)) 137 5 ((up2 (up2 (up2 (up2 (up2 I 136 1 (0 : Int32)) 136 2 ((up2 I 136 1 (0 : Int32)) b1 12)) 136 0 r1) 137 0 x2) 137 4 ((up2 (up2 (up2 (up2 I 136 1 (0 : Int32)) 136 2 ((up2 I 136 1 (0 : Int32)) b1 12)) 136 0 r1) 137 0 x2) b1 4)) b1 5)) 137 6 (0 : Int32)) 137 1 ((up2 (up2 (up2 (up2 (up2 (up2 (up2 I 136 1 (0 : Int32)) 136 2 ((up2 I 136 1 (0 : Int32)) b1 12)) 136 0 r1) 137 0 x2) 137 4 ((up2 (up2 (up2 (up2 I 136 1 (0 : Int32)) 136 2 ((up2 I 136 1 (0 : Int32)) b1 12)) 136 0 r1) 137 0 x2) b1 4)) 137 5 ((up2 (up2 (up2 (up2 (up2 I 136 1 (0 : Int32)) 136 2 ((up2 I 136 1 (0 : Int32)) b1 12)) 136 0 r1) 137 0 x2) 137 4 ((up2 (up2 (up2 (up2 I 136 1 (0 : Int32)) 136 2 ((up2 I 136 1 (0 : Int32)) b1 12)) 136 0 r1) 137 0 x2) b1 4)) b1 5)) 137 6 (0 : Int32)) b1 2)) 137 2 ((up2 (up2 (up2 (up2 (up2 (up2 (up2 (up2 I 136 1 (0 : Int32)) 136 2 ((up2 I 136 1 (0 : Int32)) b1 12)) 136 0 r1) 137 0 x2) 137 4 ((up2 (up2 (up2 (up2 I 136 1 (0 : Int32)) 136 2 ((up2 I 136 1 (0 : Int32)) b1 12)) 136 0 r1) 137 0 x2) b1 4)) 137 5 ((up2 (up2 (up2 (up2 (up2 I 136 1 (0 : Int32)) 136 2 ((up2 I 136 1 (0 : Int32)) b1 12)) 136 0 r1) 137 0 x2) 137 4 ((up2 (up2 (up2 (up2 I 136 1 (0 : Int32)) 136 2 ((up2 I 136 1 (0 : Int32)) b1 12)) 136 0 r1) 137 0 x2) b1 4)) b1 5)) 137 6 (0 : Int32)) 137 1 ((up2 (up2 (up2 (up2 (up2 (up2 (up2 I 136 1 (0 : Int32)) 136 2 ((up2 I 136 1 (0 : Int32)) b1 12)) 136 0 r1) 137 0 x2) 137 4 ((up2 (up2 (up2 (up2 I 136 1 (0 : Int32)) 136 2 ((up2 I 136 1 (0 : Int32)) b1 12)) 136 0 r1) 137 0 x2) b1 4)) 137 5 ((up2 (up2 (up2 (up2 (up2 I 136 1 (0 : Int32)) 136 2 ((up2 I 136 1 (0 : Int32)) b1 12)) 136 0 r1) 137 0 x2) 137 4 ((up2 (up2 (up2 (up2 I 136 1 (0 : Int32)) 136 2 ((up2 I 136 1 (0 : Int32)) b1 12)) 136 0 r1) 137 0 x2) b1 4)) b1 5)) 137 6 (0 : Int32)) b1 2)) b1 11)) 137 3 (9 : Int32)) 137 7 (0 : Int32)) 137 8 (0 : Int32)) (b1 + 1) ((up2 (up2 (up2 (up2 (up2 (up2 (up2 (up2 (up2 (up2 (up2 (up2 I 136 1 (0 : Int32)) 136 2 ((up2 I 136 1 (0 : Int32)) b1 12)) 136 0 r1) 137 0 x2) 137 4 ((up2 (up2 (up2 (up2 I 136 1 (0 : Int32)) 136 2 ((up2 I 136 1 (0 : Int32)) b1 12)) 136 0 r1) 137 0 x2) b1 4)) 137 5 ((up2 (up2 (up2 (up2 (up2 I 136 1 (0 : Int32)) 136 2 ((up2 I 136 1 (0 : Int32)) b1 12)) 136 0 r1) 137 0 x2) 137 4 ((up2 (up2 (up2 (up2 I 136 1 (0 : Int32)) 136 2 ((up2 I 136 1 (0 : Int32)) b1 12)) 136 0 r1) 137 0 x2) b1 4)) b1 5)) 137 6 (0 : Int32)) 137 1 ((up2 (up2 (up2 (up2 (up2 (up2 (up2 I 136 1 (0 : Int32)) 136 2 ((up2 I 136 1 (0 : Int32)) b1 12)) 136 0 r1) 137 0 x2) 137 4 ((up2 (up2 (up2 (up2 I 136 1 (0 : Int32)) 136 2 ((up2 I 136 1 (0 : Int32)) b1 12)) 136 0 r1) 137 0 x2) b1 4)) 137 5 ((up2 (up2 (up2 (up2 (up2 I 136 1 (0 : Int32)) 136 2 ((up2 I 136 1 (0 : Int32)) b1 12)) 136 0 r1) 137 0 x2) 137 4 ((up2 (up2 (up2 (up2 I 136 1 (0 : Int32)) 136 2 ((up2 I 136 1 (0 : Int32)) b1 12)) 136 0 r1) 137 0 x2) b1 4)) b1 5)) 137 6 (0 : Int32)) b1 2)) 137 2 ((up2 (up2 (up2 (up2 (up2 (up2 (up2 (up2 I 136 1 (0 : Int32)) 136 2 ((up2 I 136 1 (0 : Int32)) b1 12)) 136 0 r1) 137 0 x2) 137 4 ((up2 (up2 (up2 (up2 I 136 1 (0 : Int32)) 136 2 ((up2 I 136 1 (0 : Int32)) b1 12)) 136 0 r1) 137 0 x2) b1 4)) 137 5 ((up2 (up2 (up2 (up2 (up2 I 136 1 (0 : Int32)) 136 2 ((up2 I 136 1 (0 : Int32)) b1 12)) 136 0 r1) 137 0 x2) 137 4 ((up2 (up2 (up2 (up2 I 136 1 (0 : Int32)) 136 2 ((up2 I 136 1 (0 : Int32)) b1 12)) 136 0 r1) 137 0 x2) b1 4)) b1 5)) 137 6 (0 : Int32)) 137 1 ((up2 (up2 (up2 (up2 (up2 (up2 (up2 I 136 1 (0 : Int32)) 136 2 ((up2 I 136 1 (0 : Int32)) b1 12)) 136 0 r1) 137 0 x2) 137 4 ((up2 (up2 (up2 (up2 I 136 1 (0 : Int32)) 136 2 ((up2 I 136 1 (0 : Int32)) b1 12)) 136 0 r1) 137 0 x2) b1 4)) 137 5 ((up2 (up2 (up2 (up2 (up2 I 136 1 (0 : Int32)) 136 2 ((up2 I 136 1 (0 : Int32)) b1 12)) 136 0 r1) 137 0 x2) 137 4 ((up2 (up2 (up2 (up2 I 136 1 (0 : Int32)) 136 2 ((up2 I 136 1 (0 : Int32)) b1 12)) 136 0 r1) 137 0 x2) b1 4)) b1 5)) 137 6 (0 : Int32)) b1 2)) b1 11)) 137 3 (9 : Int32)) 137 7 (0 : Int32)) 137 8 (0 : Int32)) 136 0)) >>= fun r11 => if r11 = 0 then some (up2 (up2 (up2 (up2 (up2 (up2 (up2 (up2 (up2 (up2 (up2 (up2 I 136 1 (0 : Int32)) 136 2 ((up2 I 136 1 (0 : Int32)) b1 12)) 136 0 r1) 137 0 x2) 137 4 ((up2 (up2 (up2 (up2 I 136 1 (0 : Int32)) 136 2 ((up2 I 136 1 (0 : Int32)) b1 12)) 136 0 r1) 137 0 x2) b1 4)) 137 5 ((up2 (up2 (up2 (up2 (up2 I 136 1 (0 : Int32)) 136 2 ((up2 I 136 1 (0 : Int32)) b1 12)) 136 0 r1) 137 0 x2) 137 4 ((up2 (up2 (up2 (up2 I 136 1 (0 : Int32)) 136 2 ((up2 I 136 1 (0 : Int32)) b1 12)) 136 0 r1) 137 0 x2) b1 4)) b1 5)) 137 6 (0 : Int32)) 137 1 ((up2 (up2 (up2 (up2 (up2 (up2 (up2 I 136 1 (0 : Int32)) 136 2 ((up2 I 136 1 (0 : Int32)) b1 12)) 136 0 r1) 137 0 x2) 137 4 ((up2 (up2 (up2 (up2 I 136 1 (0 : Int32)) 136 2 ((up2 I 136 1 (0 : Int32)) b1 12)) 136 0 r1) 137 0 x2) b1 4)) 137 5 ((up2 (up2 (up2 (up2 (up2 I 136 1 (0 : Int32)) 136 2 ((up2 I 136 1 (0 : Int32)) b1 12)) 136 0 r1) 137 0 x2) 137 4 ((up2 (up2 (up2 (up2 I 136 1 (0 : Int32)) 136 2 ((up2 I 136 1 (0 : Int32)) b1 12)) 136 0 r1) 137 0 x2) b1 4)) b1 5)) 137 6 (0 : Int32)) b1 2)) 137 2 ((up2 (up2 (up2 (up2 (up2 (up2 (up2 (up2 I 136 1 (0 : Int32)) 136 2 ((up2 I 136 1 (0 : Int32)) b1 12)) 136 0 r1) 137 0 x2) 137 4 ((up2 (up2 (up2 (up2 I 136 1 (0 : Int32)) 136 2 ((up2 I 136 1 (0 : Int32)) b1 12)) 136 0 r1) 137 0 x2) b1 4)) 137 5 ((up2 (up2 (up2 (up2 (up2 I 136 1 (0 : Int32)) 136 2 ((up2 I 136 1 (0 : Int32)) b1 12)) 136 0 r1) 137 0 x2) 137 4 ((up2 (up2 (up2 (up2 I 136 1 (0 : Int32)) 136 2 ((up2 I 136 1 (0 : Int32)) b1 12)) 136 0 r1) 137 0 x2) b1 4)) b1 5)) 137 6 (0 : Int32)) 137 1 ((up2 (up2 (up2 (up2 (up2 (up2 (up2 I 136 1 (0 : Int32)) 136 2 ((up2 I 136 1 (0 : Int32)) b1 12)) 136 0 r1) 137 0 x2) 137 4 ((up2 (up2 (up2 (up2 I 136 1 (0 : Int32)) 136 2 ((up2 I 136 1 (0 : Int32)) b1 12)) 136 0 r1) 137 0 x2) b1 4)) 137 5 ((up2 (up2 (up2 (up2 (up2 I 136 1 (0 : Int32)) 136 2 ((up2 I 136 1 (0 : Int32)) b1 12)) 136 0 r1) 137 0 x2) 137 4 ((up2 (up2 (up2 (up2 I 136 1 (0 : Int32)) 136 2 ((up2 I 136 1 (0 : Int32)) b1 12)) 136 0 r1) 137 0 x2) b1 4)) b1 5)) 137 6 (0 : Int32)) b1 2)) b1 11)) 137 3 (9 : Int32)) 137 7 (0 : Int32)) 137 8 (0 : Int32)) else (F_X9_putCalled (up2 (up2 (up2 (up2 (up2 (up2 (up2 (up2 (up2 (up2 (up2 (up2 I 136 1 (0 : Int32)) 136 2 ((up2 I 136 1 (0 : Int32)) b1 12)) 136 0 r1) 137 0 x2) 137 4 ((up2 (up2 (up2 (up2 I 136 1 (0 : Int32)) 136 2 ((up2 I 136 1 (0 : Int32)) b1 12)) 136 0 r1) 137 0 x2) b1 4)) 137 5 ((up2 (up2 (up2 (up2 (up2 I 136 1 (0 : Int32)) 136 2 ((up2 I 136 1 (0 : Int32)) b1 12)) 136 0 r1) 137 0 x2) 137 4 ((up2 (up2 (up2 (up2 I 136 1 (0 : Int32)) 136 2 ((up2 I 136 1 (0 : Int32)) b1 12)) 136 0 r1) 137 0 x2) b1 4)) b1 5)) 137 6 (0 : Int32)) 137 1 ((up2 (up2 (up2 (up2 (up2 (up2 (up2 I 136 1 (0 : Int32)) 136 2 ((up2 I 136 1 (0 : Int32)) b1 12)) 136 0 r1) 137 0 x2) 137 4 ((up2 (up2 (up2 (up2 I 136 1 (0 : Int32)) 136 2 ((up2 I 136 1 (0 : Int32)) b1 12)) 136 0 r1) 137 0 x2) b1 4)) 137 5 ((up2 (up2 (up2 (up2 (up2 I 136 1 (0 : Int32)) 136 2 ((up2 I 136 1 (0 : Int32)) b1 12)) 136 0 r1) 137 0 x2) 137 4 ((up2 (up2 (up2 (up2 I 136 1 (0 : Int32)) 136 2 ((up2 I 136 1 (0 : Int32)) b1 12)) 136 0 r1) 137 0 x2) b1 4)) b1 5)) 137 6 (0 : Int32)) b1 2)) 137 2 ((up2 (up2 (up2 (up2 (up2 (up2 (up2 (up2 I 136 1 (0 : Int32)) 136 2 ((up2 I 136 1 (0 : Int32)) b1 12)) 136 0 r1) 137 0 x2) 137 4 ((up2 (up2 (up2 (up2 I 136 1 (0 : Int32)) 136 2 ((up2 I 136 1 (0 : Int32)) b1 12)) 136 0 r1) 137 0 x2) b1 4)) 137 5 ((up2 (up2 (up2 (up2 (up2 I 136 1 (0 : Int32)) 136 2 ((up2 I 136 1 (0 : Int32)) b1 12)) 136 0 r1) 137 0 x2) 137 4 ((up2 (up2 (up2 (up2 I 136 1 (0 : Int32)) 136 2 ((up2 I 136 1 (0 : Int32)) b1 12)) 136 0 r1) 137 0 x2) b1 4)) b1 5)) 137 6 (0 : Int32)) 137 1 ((up2 (up2 (up2 (up2 (up2 (up2 (up2 I 136 1 (0 : Int32)) 136 2 ((up2 I 136 1 (0 : Int32)) b1 12)) 136 0 r1) 137 0 x2) 137 4 ((up2 (up2 (up2 (up2 I 136 1 (0 : Int32)) 136 2 ((up2 I 136 1 (0 : Int32)) b1 12)) 136 0 r1) 137 0 x2) b1 4)) 137 5 ((up2 (up2 (up2 (up2 (up2 I 136 1 (0 : Int32)) 136 2 ((up2 I 136 1 (0 : Int32)) b1 12)) 136 0 r1) 137 0 x2) 137 4 ((up2 (up2 (up2 (up2 I 136 1 (0 : Int32)) 136 2 ((up2 I 136 1 (0 : Int32)) b1 12)) 136 0 r1) 137 0 x2) b1 4)) b1 5)) 137 6 (0 : Int32)) b1 2)) b1 11)) 137 3 (9 : Int32)) 137 7 (0 : Int32)) 137 8 (0 : Int32)) b1) >>= fun r14 => some r14
set_option maxRecDepth 4000 in
set_option maxHeartbeats 4000000 in
theorem C_X9_put {g : gX} {d : Nat} {P : Nat → Nat → Option Nat} {I : HI} {b1 : Nat} {x2 : Int32} {J : HJ} (hp : Wp P) (hb1 : OB NT b1 3) {r : HI} (h : F_X9_put I b1 x2 = some r) : Cm g mX9_put (d + 3) [.ref 136, .ref b1, .int x2] (NT, I, J, P) none (NT, r, J, P) := by
  unfold F_X9_put at h
  refine Cm.of (by decide) (by simp [Value.category]) (Nat.le_of_ble_eq_true rfl) (Nat.le_refl _) (ls := [some (.ref 136), some (.ref b1), some (.int x2)]) rfl ?_
  refine M_aload_n (pc := 0) dX9_put_0 rfl ?_
  refine M_iconst (pc := 1) (v := 0) dX9_put_1 (by decide) ?_
  refine M_putI (pc := 2) dX9_put_2 f_X9_15 at_9 rfl ⟨rfl, rfl⟩ ?_
  refine M_aload_n (pc := 5) dX9_put_5 rfl ?_
  refine M_aload_n (pc := 6) dX9_put_6 rfl ?_
  refine M_getI (pc := 7) dX9_put_7 f_X9_25 hb1 ?_
  refine M_putI (pc := 10) dX9_put_10 f_X9_18 at_9 rfl ⟨rfl, rfl⟩ ?_
  refine M_aload_n (pc := 13) dX9_put_13 rfl ?_
  refine M_aload_n (pc := 14) dX9_put_14 rfl ?_
  refine M_getR (pc := 15) dX9_put_15 f_X9_30 hb1 (gr_3_0 hp hb1).1 ?_
  refine M_iload_n (pc := 18) dX9_put_18 rfl ?_
  refine M_aload_n (pc := 19) dX9_put_19 rfl ?_
  refine M_getI (pc := 20) dX9_put_20 f_X9_34 hb1 ?_
  obtain ⟨r1, hr2, h⟩ := bnd h
  refine M_callVi (pc := 23) dX9_put_23 v_X9_37 rfl rfl (gr_3_0 hp hb1).2 (Nat.le_of_ble_eq_true rfl) (C_X1_calledUp (d := d + 0) hp (gr_3_0 hp hb1).2 hr2) (Nat.le_refl _) ?_
  refine M_putI (pc := 26) dX9_put_26 f_X9_9 at_9 rfl ⟨rfl, rfl⟩ ?_
  refine M_aload_n (pc := 29) dX9_put_29 rfl ?_
  refine M_getR (pc := 30) dX9_put_30 f_X9_21 at_9 (gr_9_3 hp at_9).1 ?_
  refine M_iconst (pc := 33) (v := 0) dX9_put_33 (by decide) ?_
  refine M_iload_n (pc := 34) dX9_put_34 rfl ?_
  refine M_istc (pc := 35) (j := 0) dX9_put_35 (gr_9_3 hp at_9).2 (by decide) (by decide) ?_
  refine M_aload_n (pc := 36) dX9_put_36 rfl ?_
  refine M_getR (pc := 37) dX9_put_37 f_X9_21 at_9 (gr_9_3 hp at_9).1 ?_
  refine M_iconst (pc := 40) (v := 4) dX9_put_40 (by decide) ?_
  refine M_aload_n (pc := 41) dX9_put_41 rfl ?_
  refine M_getI (pc := 42) dX9_put_42 f_X9_43 hb1 ?_
  refine M_istc (pc := 45) (j := 4) dX9_put_45 (gr_9_3 hp at_9).2 (by decide) (by decide) ?_
  refine M_aload_n (pc := 46) dX9_put_46 rfl ?_
  refine M_getR (pc := 47) dX9_put_47 f_X9_21 at_9 (gr_9_3 hp at_9).1 ?_
  refine M_iconst (pc := 50) (v := 5) dX9_put_50 (by decide) ?_
  refine M_aload_n (pc := 51) dX9_put_51 rfl ?_
  refine M_getI (pc := 52) dX9_put_52 f_X9_46 hb1 ?_
  refine M_istc (pc := 55) (j := 5) dX9_put_55 (gr_9_3 hp at_9).2 (by decide) (by decide) ?_
  refine M_aload_n (pc := 56) dX9_put_56 rfl ?_
  refine M_getR (pc := 57) dX9_put_57 f_X9_21 at_9 (gr_9_3 hp at_9).1 ?_
  refine M_bipush (pc := 60) (v := 6) dX9_put_60 (by decide) ?_
  refine M_aload_n (pc := 62) dX9_put_62 rfl ?_
  refine M_getR (pc := 63) dX9_put_63 f_X9_30 hb1 (gr_3_0 hp hb1).1 ?_
  refine M_iload_n (pc := 66) dX9_put_66 rfl ?_
  obtain ⟨r3, hr4, h⟩ := bnd h
  refine M_callVi (pc := 67) dX9_put_67 v_X9_49 rfl rfl (gr_3_0 hp hb1).2 (Nat.le_of_ble_eq_true rfl) (C_X1_isHad (d := d + 1) hp (gr_3_0 hp hb1).2 hr4) (Nat.le_refl _) ?_
  refine M_if_eq (pc := 70) (tgt := 77) dX9_put_70 (by decide) (fun hc5 => ?_) (fun hc5 => ?_)
  · have h := (if_pos hc5).symm.trans h
    refine M_iconst (pc := 77) (v := 1) dX9_put_77 (by decide) ?_
    refine M_istc (pc := 78) (j := 6) dX9_put_78 (gr_9_3 hp at_9).2 (by decide) (by decide) ?_
    refine M_aload_n (pc := 79) dX9_put_79 rfl ?_
    refine M_getR (pc := 80) dX9_put_80 f_X9_21 at_9 (gr_9_3 hp at_9).1 ?_
    refine M_iconst (pc := 83) (v := 1) dX9_put_83 (by decide) ?_
    refine M_aload_n (pc := 84) dX9_put_84 rfl ?_
    refine M_getI (pc := 85) dX9_put_85 f_X9_53 hb1 ?_
    refine M_istc (pc := 88) (j := 1) dX9_put_88 (gr_9_3 hp at_9).2 (by decide) (by decide) ?_
    refine M_aload_n (pc := 89) dX9_put_89 rfl ?_
    refine M_getR (pc := 90) dX9_put_90 f_X9_21 at_9 (gr_9_3 hp at_9).1 ?_
    refine M_iconst (pc := 93) (v := 2) dX9_put_93 (by decide) ?_
    refine M_aload_n (pc := 94) dX9_put_94 rfl ?_
    refine M_getI (pc := 95) dX9_put_95 f_X9_56 hb1 ?_
    refine M_istc (pc := 98) (j := 2) dX9_put_98 (gr_9_3 hp at_9).2 (by decide) (by decide) ?_
    refine M_aload_n (pc := 99) dX9_put_99 rfl ?_
    refine M_getR (pc := 100) dX9_put_100 f_X9_21 at_9 (gr_9_3 hp at_9).1 ?_
    refine M_iconst (pc := 103) (v := 3) dX9_put_103 (by decide) ?_
    refine M_bipush (pc := 104) (v := 9) dX9_put_104 (by decide) ?_
    refine M_istc (pc := 106) (j := 3) dX9_put_106 (gr_9_3 hp at_9).2 (by decide) (by decide) ?_
    refine M_aload_n (pc := 107) dX9_put_107 rfl ?_
    refine M_getR (pc := 108) dX9_put_108 f_X9_21 at_9 (gr_9_3 hp at_9).1 ?_
    refine M_bipush (pc := 111) (v := 7) dX9_put_111 (by decide) ?_
    refine M_iconst (pc := 113) (v := 0) dX9_put_113 (by decide) ?_
    refine M_istc (pc := 114) (j := 7) dX9_put_114 (gr_9_3 hp at_9).2 (by decide) (by decide) ?_
    refine M_aload_n (pc := 115) dX9_put_115 rfl ?_
    refine M_getR (pc := 116) dX9_put_116 f_X9_21 at_9 (gr_9_3 hp at_9).1 ?_
    refine M_bipush (pc := 119) (v := 8) dX9_put_119 (by decide) ?_
    refine M_iconst (pc := 121) (v := 0) dX9_put_121 (by decide) ?_
    refine M_istc (pc := 122) (j := 8) dX9_put_122 (gr_9_3 hp at_9).2 (by decide) (by decide) ?_
    refine M_aload_n (pc := 123) dX9_put_123 rfl ?_
    refine M_getR (pc := 124) dX9_put_124 f_X9_30 hb1 (gr_3_0 hp hb1).1 ?_
    refine M_aload_n (pc := 127) dX9_put_127 rfl ?_
    refine M_getI (pc := 128) dX9_put_128 f_X9_9 at_9 ?_
    obtain ⟨r6, hr7, h⟩ := bnd h
    refine M_callVi (pc := 131) dX9_put_131 v_X9_59 rfl rfl (gr_3_0 hp hb1).2 (Nat.le_of_ble_eq_true rfl) (C_X1_has (d := d + 2) hp (gr_3_0 hp hb1).2 hr7) (Nat.le_refl _) ?_
    refine M_if_eq (pc := 134) (tgt := 142) dX9_put_134 (by decide) (fun hc8 => ?_) (fun hc8 => ?_)
    · have h := (if_pos hc8).symm.trans h
      obtain rfl := Option.some.inj h
      exact M_vret (pc := 142) dX9_put_142 rfl rfl rfl
    · have h := (if_neg hc8).symm.trans h
      refine M_aload_n (pc := 137) dX9_put_137 rfl ?_
      refine M_aload_n (pc := 138) dX9_put_138 rfl ?_
      obtain ⟨r9, hr10, h⟩ := bnd h
      refine M_callVv (pc := 139) dX9_put_139 v_X9_62 rfl rfl at_9 (Nat.le_of_ble_eq_true rfl) (C_X9_putCalled (d := d + 2) hp hb1 hr10) (Nat.le_refl _) ?_
      obtain rfl := Option.some.inj h
      exact M_vret (pc := 142) dX9_put_142 rfl rfl rfl
  · have h := (if_neg hc5).symm.trans h
    refine M_iconst (pc := 73) (v := 0) dX9_put_73 (by decide) ?_
    refine M_goto (pc := 74) (tgt := 78) dX9_put_74 (by decide) ?_
    refine M_istc (pc := 78) (j := 6) dX9_put_78 (gr_9_3 hp at_9).2 (by decide) (by decide) ?_
    refine M_aload_n (pc := 79) dX9_put_79 rfl ?_
    refine M_getR (pc := 80) dX9_put_80 f_X9_21 at_9 (gr_9_3 hp at_9).1 ?_
    refine M_iconst (pc := 83) (v := 1) dX9_put_83 (by decide) ?_
    refine M_aload_n (pc := 84) dX9_put_84 rfl ?_
    refine M_getI (pc := 85) dX9_put_85 f_X9_53 hb1 ?_
    refine M_istc (pc := 88) (j := 1) dX9_put_88 (gr_9_3 hp at_9).2 (by decide) (by decide) ?_
    refine M_aload_n (pc := 89) dX9_put_89 rfl ?_
    refine M_getR (pc := 90) dX9_put_90 f_X9_21 at_9 (gr_9_3 hp at_9).1 ?_
    refine M_iconst (pc := 93) (v := 2) dX9_put_93 (by decide) ?_
    refine M_aload_n (pc := 94) dX9_put_94 rfl ?_
    refine M_getI (pc := 95) dX9_put_95 f_X9_56 hb1 ?_
    refine M_istc (pc := 98) (j := 2) dX9_put_98 (gr_9_3 hp at_9).2 (by decide) (by decide) ?_
    refine M_aload_n (pc := 99) dX9_put_99 rfl ?_
    refine M_getR (pc := 100) dX9_put_100 f_X9_21 at_9 (gr_9_3 hp at_9).1 ?_
    refine M_iconst (pc := 103) (v := 3) dX9_put_103 (by decide) ?_
    refine M_bipush (pc := 104) (v := 9) dX9_put_104 (by decide) ?_
    refine M_istc (pc := 106) (j := 3) dX9_put_106 (gr_9_3 hp at_9).2 (by decide) (by decide) ?_
    refine M_aload_n (pc := 107) dX9_put_107 rfl ?_
    refine M_getR (pc := 108) dX9_put_108 f_X9_21 at_9 (gr_9_3 hp at_9).1 ?_
    refine M_bipush (pc := 111) (v := 7) dX9_put_111 (by decide) ?_
    refine M_iconst (pc := 113) (v := 0) dX9_put_113 (by decide) ?_
    refine M_istc (pc := 114) (j := 7) dX9_put_114 (gr_9_3 hp at_9).2 (by decide) (by decide) ?_
    refine M_aload_n (pc := 115) dX9_put_115 rfl ?_
    refine M_getR (pc := 116) dX9_put_116 f_X9_21 at_9 (gr_9_3 hp at_9).1 ?_
    refine M_bipush (pc := 119) (v := 8) dX9_put_119 (by decide) ?_
    refine M_iconst (pc := 121) (v := 0) dX9_put_121 (by decide) ?_
    refine M_istc (pc := 122) (j := 8) dX9_put_122 (gr_9_3 hp at_9).2 (by decide) (by decide) ?_
    refine M_aload_n (pc := 123) dX9_put_123 rfl ?_
    refine M_getR (pc := 124) dX9_put_124 f_X9_30 hb1 (gr_3_0 hp hb1).1 ?_
    refine M_aload_n (pc := 127) dX9_put_127 rfl ?_
    refine M_getI (pc := 128) dX9_put_128 f_X9_9 at_9 ?_
    obtain ⟨r11, hr12, h⟩ := bnd h
    refine M_callVi (pc := 131) dX9_put_131 v_X9_59 rfl rfl (gr_3_0 hp hb1).2 (Nat.le_of_ble_eq_true rfl) (C_X1_has (d := d + 2) hp (gr_3_0 hp hb1).2 hr12) (Nat.le_refl _) ?_
    refine M_if_eq (pc := 134) (tgt := 142) dX9_put_134 (by decide) (fun hc13 => ?_) (fun hc13 => ?_)
    · have h := (if_pos hc13).symm.trans h
      obtain rfl := Option.some.inj h
      exact M_vret (pc := 142) dX9_put_142 rfl rfl rfl
    · have h := (if_neg hc13).symm.trans h
      refine M_aload_n (pc := 137) dX9_put_137 rfl ?_
      refine M_aload_n (pc := 138) dX9_put_138 rfl ?_
      obtain ⟨r14, hr15, h⟩ := bnd h
      refine M_callVv (pc := 139) dX9_put_139 v_X9_62 rfl rfl at_9 (Nat.le_of_ble_eq_true rfl) (C_X9_putCalled (d := d + 2) hp hb1 hr15) (Nat.le_refl _) ?_
      obtain rfl := Option.some.inj h
      exact M_vret (pc := 142) dX9_put_142 rfl rfl rfl
def L_X10_advance_54 (I : HI) (a : Nat) (x1 : Int32) : Option (HI) :=
  if (I a 1) ≤ x1 then some (up2 I a 4 x1) else if (I a 2) = (3 : Int32) then some (up2 I a 4 x1) else (F_X10_kindAt I a x1) >>= fun r7 => if r7 = (I a 2) then L_X10_advance_54 I a (x1 + (1 : Int32)) else some (up2 I a 4 x1)
partial_fixpoint
def L_X10_advance_5 (I : HI) (a : Nat) (x1 : Int32) : Option (HI) :=
  if (I a 1) ≤ x1 then (F_X10_kindAt (up2 I a 3 x1) a x1) >>= fun r2 => if ((up2 (up2 I a 3 x1) a 2 r2) a 2) = 0 then L_X10_advance_54 (up2 (up2 I a 3 x1) a 2 r2) a x1 else L_X10_advance_54 (up2 (up2 I a 3 x1) a 2 r2) a (x1 + (1 : Int32)) else (ald 400 (I 2) x1) >>= fun v10 => if v10 = (32 : Int32) then L_X10_advance_5 I a (x1 + (1 : Int32)) else (F_X10_kindAt (up2 I a 3 x1) a x1) >>= fun r13 => if ((up2 (up2 I a 3 x1) a 2 r13) a 2) = 0 then L_X10_advance_54 (up2 (up2 I a 3 x1) a 2 r13) a x1 else L_X10_advance_54 (up2 (up2 I a 3 x1) a 2 r13) a (x1 + (1 : Int32))
partial_fixpoint
def F_X10_advance (I : HI) (a : Nat) : Option (HI) :=
  L_X10_advance_5 I a (I a 4)
set_option maxRecDepth 4000 in
set_option maxHeartbeats 4000000 in
theorem LC_X10_advance_54 {g : gX} {d : Nat} {P : Nat → Nat → Option Nat} {J : HJ} {I : HI} {a : Nat} (hp : Wp P) {c : Nat} (ha : OB NT a c) (hc : TX c) (hx : P a 0 = some 2) : ∀ (x1 : Int32) (r : HI), L_X10_advance_54 I a x1 = some r → M g mX10_advance (d + 1) (NT, NT, 0) ((.inl none), (NT, r, J, P)) 54 [some (.ref a), some (.int x1)] [] (NT, I, J, P) := by
  refine L_X10_advance_54.partial_correctness I a (fun x1 r => M g mX10_advance (d + 1) (NT, NT, 0) ((.inl none), (NT, r, J, P)) 54 [some (.ref a), some (.int x1)] [] (NT, I, J, P)) ?_
  intro f ih x1 r h
  refine M_iload_n (pc := 54) dX10_advance_54 rfl ?_
  refine M_aload_n (pc := 55) dX10_advance_55 rfl ?_
  refine M_getI (pc := 56) dX10_advance_56 (f_X10_15 hc) ha ?_
  refine M_icmp_ge (pc := 59) (tgt := 88) dX10_advance_59 (by decide) (fun hc5 => ?_) (fun hc5 => ?_)
  · have h := (if_pos hc5).symm.trans h
    refine M_aload_n (pc := 88) dX10_advance_88 rfl ?_
    refine M_iload_n (pc := 89) dX10_advance_89 rfl ?_
    refine M_putI (pc := 90) dX10_advance_90 (f_X10_25 hc) ha (by rcases hc with rfl | rfl <;> rfl) (by rcases hc with rfl | rfl <;> exact ⟨rfl, rfl⟩) ?_
    obtain rfl := Option.some.inj h
    exact M_vret (pc := 93) dX10_advance_93 rfl rfl rfl
  · have h := (if_neg hc5).symm.trans h
    refine M_aload_n (pc := 62) dX10_advance_62 rfl ?_
    refine M_getI (pc := 63) dX10_advance_63 (f_X10_19 hc) ha ?_
    refine M_iconst (pc := 66) (v := 3) dX10_advance_66 (by decide) ?_
    refine M_icmp_eq (pc := 67) (tgt := 88) dX10_advance_67 (by decide) (fun hc6 => ?_) (fun hc6 => ?_)
    · have h := (if_pos hc6).symm.trans h
      refine M_aload_n (pc := 88) dX10_advance_88 rfl ?_
      refine M_iload_n (pc := 89) dX10_advance_89 rfl ?_
      refine M_putI (pc := 90) dX10_advance_90 (f_X10_25 hc) ha (by rcases hc with rfl | rfl <;> rfl) (by rcases hc with rfl | rfl <;> exact ⟨rfl, rfl⟩) ?_
      obtain rfl := Option.some.inj h
      exact M_vret (pc := 93) dX10_advance_93 rfl rfl rfl
    · have h := (if_neg hc6).symm.trans h
      refine M_aload_n (pc := 70) dX10_advance_70 rfl ?_
      refine M_iload_n (pc := 71) dX10_advance_71 rfl ?_
      obtain ⟨r7, hr8, h⟩ := bnd h
      refine M_callUi (pc := 72) dX10_advance_72 (u_X10_48 hc) rfl rfl ha (Nat.le_of_ble_eq_true rfl) (C_X10_kindAt (d := d + 0) hp ha hc hx hr8) (Nat.le_refl _) ?_
      refine M_aload_n (pc := 75) dX10_advance_75 rfl ?_
      refine M_getI (pc := 76) dX10_advance_76 (f_X10_19 hc) ha ?_
      refine M_icmp_ne (pc := 79) (tgt := 88) dX10_advance_79 (by decide) (fun hc9 => ?_) (fun hc9 => ?_)
      · have h := (if_neg hc9).symm.trans h
        refine M_aload_n (pc := 88) dX10_advance_88 rfl ?_
        refine M_iload_n (pc := 89) dX10_advance_89 rfl ?_
        refine M_putI (pc := 90) dX10_advance_90 (f_X10_25 hc) ha (by rcases hc with rfl | rfl <;> rfl) (by rcases hc with rfl | rfl <;> exact ⟨rfl, rfl⟩) ?_
        obtain rfl := Option.some.inj h
        exact M_vret (pc := 93) dX10_advance_93 rfl rfl rfl
      · have h := (if_pos hc9).symm.trans h
        refine M_iinc (pc := 82) (v := (x1 + (1 : Int32))) (ls' := [some (.ref a), some (.int (x1 + (1 : Int32)))]) dX10_advance_82 rfl rfl (by decide) rfl ?_
        refine M_goto (pc := 85) (tgt := 54) dX10_advance_85 (by decide) ?_
        exact ih (x1 + (1 : Int32)) _ h
set_option maxRecDepth 4000 in
set_option maxHeartbeats 4000000 in
theorem LC_X10_advance_5 {g : gX} {d : Nat} {P : Nat → Nat → Option Nat} {J : HJ} {I : HI} {a : Nat} (hp : Wp P) {c : Nat} (ha : OB NT a c) (hc : TX c) (hx : P a 0 = some 2) : ∀ (x1 : Int32) (r : HI), L_X10_advance_5 I a x1 = some r → M g mX10_advance (d + 1) (NT, NT, 0) ((.inl none), (NT, r, J, P)) 5 [some (.ref a), some (.int x1)] [] (NT, I, J, P) := by
  refine L_X10_advance_5.partial_correctness I a (fun x1 r => M g mX10_advance (d + 1) (NT, NT, 0) ((.inl none), (NT, r, J, P)) 5 [some (.ref a), some (.int x1)] [] (NT, I, J, P)) ?_
  intro f ih x1 r h
  refine M_iload_n (pc := 5) dX10_advance_5 rfl ?_
  refine M_aload_n (pc := 6) dX10_advance_6 rfl ?_
  refine M_getI (pc := 7) dX10_advance_7 (f_X10_15 hc) ha ?_
  refine M_icmp_ge (pc := 10) (tgt := 30) dX10_advance_10 (by decide) (fun hc1 => ?_) (fun hc1 => ?_)
  · have h := (if_pos hc1).symm.trans h
    refine M_aload_n (pc := 30) dX10_advance_30 rfl ?_
    refine M_iload_n (pc := 31) dX10_advance_31 rfl ?_
    refine M_putI (pc := 32) dX10_advance_32 (f_X10_22 hc) ha (by rcases hc with rfl | rfl <;> rfl) (by rcases hc with rfl | rfl <;> exact ⟨rfl, rfl⟩) ?_
    refine M_aload_n (pc := 35) dX10_advance_35 rfl ?_
    refine M_aload_n (pc := 36) dX10_advance_36 rfl ?_
    refine M_iload_n (pc := 37) dX10_advance_37 rfl ?_
    obtain ⟨r2, hr3, h⟩ := bnd h
    refine M_callUi (pc := 38) dX10_advance_38 (u_X10_48 hc) rfl rfl ha (Nat.le_of_ble_eq_true rfl) (C_X10_kindAt (d := d + 0) hp ha hc hx hr3) (Nat.le_refl _) ?_
    refine M_putI (pc := 41) dX10_advance_41 (f_X10_19 hc) ha (by rcases hc with rfl | rfl <;> rfl) (by rcases hc with rfl | rfl <;> exact ⟨rfl, rfl⟩) ?_
    refine M_aload_n (pc := 44) dX10_advance_44 rfl ?_
    refine M_getI (pc := 45) dX10_advance_45 (f_X10_19 hc) ha ?_
    refine M_if_eq (pc := 48) (tgt := 54) dX10_advance_48 (by decide) (fun hc4 => ?_) (fun hc4 => ?_)
    · have h := (if_pos hc4).symm.trans h
      exact LC_X10_advance_54 (P := P) hp ha hc hx x1 _ h
    · have h := (if_neg hc4).symm.trans h
      refine M_iinc (pc := 51) (v := (x1 + (1 : Int32))) (ls' := [some (.ref a), some (.int (x1 + (1 : Int32)))]) dX10_advance_51 rfl rfl (by decide) rfl ?_
      exact LC_X10_advance_54 (P := P) hp ha hc hx (x1 + (1 : Int32)) _ h
  · have h := (if_neg hc1).symm.trans h
    refine M_aload_n (pc := 13) dX10_advance_13 rfl ?_
    refine M_getR (pc := 14) dX10_advance_14 (f_X10_9 hc) ha hx ?_
    refine M_iload_n (pc := 17) dX10_advance_17 rfl ?_
    obtain ⟨v10, hv11, h⟩ := bnd h
    refine M_aldI (pc := 18) dX10_advance_18 ar_tape hv11 ?_
    refine M_bipush (pc := 19) (v := 32) dX10_advance_19 (by decide) ?_
    refine M_icmp_ne (pc := 21) (tgt := 30) dX10_advance_21 (by decide) (fun hc12 => ?_) (fun hc12 => ?_)
    · have h := (if_neg hc12).symm.trans h
      refine M_aload_n (pc := 30) dX10_advance_30 rfl ?_
      refine M_iload_n (pc := 31) dX10_advance_31 rfl ?_
      refine M_putI (pc := 32) dX10_advance_32 (f_X10_22 hc) ha (by rcases hc with rfl | rfl <;> rfl) (by rcases hc with rfl | rfl <;> exact ⟨rfl, rfl⟩) ?_
      refine M_aload_n (pc := 35) dX10_advance_35 rfl ?_
      refine M_aload_n (pc := 36) dX10_advance_36 rfl ?_
      refine M_iload_n (pc := 37) dX10_advance_37 rfl ?_
      obtain ⟨r13, hr14, h⟩ := bnd h
      refine M_callUi (pc := 38) dX10_advance_38 (u_X10_48 hc) rfl rfl ha (Nat.le_of_ble_eq_true rfl) (C_X10_kindAt (d := d + 0) hp ha hc hx hr14) (Nat.le_refl _) ?_
      refine M_putI (pc := 41) dX10_advance_41 (f_X10_19 hc) ha (by rcases hc with rfl | rfl <;> rfl) (by rcases hc with rfl | rfl <;> exact ⟨rfl, rfl⟩) ?_
      refine M_aload_n (pc := 44) dX10_advance_44 rfl ?_
      refine M_getI (pc := 45) dX10_advance_45 (f_X10_19 hc) ha ?_
      refine M_if_eq (pc := 48) (tgt := 54) dX10_advance_48 (by decide) (fun hc15 => ?_) (fun hc15 => ?_)
      · have h := (if_pos hc15).symm.trans h
        exact LC_X10_advance_54 (P := P) hp ha hc hx x1 _ h
      · have h := (if_neg hc15).symm.trans h
        refine M_iinc (pc := 51) (v := (x1 + (1 : Int32))) (ls' := [some (.ref a), some (.int (x1 + (1 : Int32)))]) dX10_advance_51 rfl rfl (by decide) rfl ?_
        exact LC_X10_advance_54 (P := P) hp ha hc hx (x1 + (1 : Int32)) _ h
    · have h := (if_pos hc12).symm.trans h
      refine M_iinc (pc := 24) (v := (x1 + (1 : Int32))) (ls' := [some (.ref a), some (.int (x1 + (1 : Int32)))]) dX10_advance_24 rfl rfl (by decide) rfl ?_
      refine M_goto (pc := 27) (tgt := 5) dX10_advance_27 (by decide) ?_
      exact ih (x1 + (1 : Int32)) _ h
set_option maxRecDepth 4000 in
set_option maxHeartbeats 4000000 in
theorem C_X10_advance {g : gX} {d : Nat} {P : Nat → Nat → Option Nat} {I : HI} {a : Nat} {J : HJ} (hp : Wp P) {c : Nat} (ha : OB NT a c) (hc : TX c) (hx : P a 0 = some 2) {r : HI} (h : F_X10_advance I a = some r) : Cm g mX10_advance (d + 1) [.ref a] (NT, I, J, P) none (NT, r, J, P) := by
  unfold F_X10_advance at h
  refine Cm.of (by decide) (by simp [Value.category]) (Nat.le_of_ble_eq_true rfl) (Nat.le_refl _) (ls := [some (.ref a), none]) rfl ?_
  refine M_aload_n (pc := 0) dX10_advance_0 rfl ?_
  refine M_getI (pc := 1) dX10_advance_1 (f_X10_25 hc) ha ?_
  refine M_istore_n (pc := 4) (ls' := [some (.ref a), some (.int (I a 4))]) dX10_advance_4 (by decide) rfl ?_
  exact LC_X10_advance_5 (P := P) hp ha hc hx (I a 4) _ h
def F_X10_numberBehind (I : HI) (a : Nat) (x1 : Int32) (x2 : Int32) : Option (Int32 × HI) :=
  (F_X10_advance I a) >>= fun r1 => (F_X10_number r1 a x1 x2) >>= fun r3 => if r3 = (-1 : Int32) then some (r3, r1) else (F_X10_advance r1 a) >>= fun r6 => some (r3, r6)
set_option maxRecDepth 4000 in
set_option maxHeartbeats 4000000 in
theorem C_X10_numberBehind {g : gX} {d : Nat} {P : Nat → Nat → Option Nat} {I : HI} {a : Nat} {x1 : Int32} {x2 : Int32} {J : HJ} (hp : Wp P) {c : Nat} (ha : OB NT a c) (hc : TX c) (hx : P a 0 = some 2) {r : Int32 × HI} (h : F_X10_numberBehind I a x1 x2 = some r) : Cm g mX10_numberBehind (d + 2) [.ref a, .int x1, .int x2] (NT, I, J, P) (some (.int r.1)) (NT, r.2, J, P) := by
  unfold F_X10_numberBehind at h
  refine Cm.of (by decide) (by simp [Value.category]) (Nat.le_of_ble_eq_true rfl) (Nat.le_refl _) (ls := [some (.ref a), some (.int x1), some (.int x2), none]) rfl ?_
  refine M_aload_n (pc := 0) dX10_numberBehind_0 rfl ?_
  obtain ⟨r1, hr2, h⟩ := bnd h
  refine M_callUv (pc := 1) dX10_numberBehind_1 (u_X10_37 hc) rfl rfl ha (Nat.le_of_ble_eq_true rfl) (C_X10_advance (d := d + 0) hp ha hc hx hr2) (Nat.le_refl _) ?_
  refine M_aload_n (pc := 4) dX10_numberBehind_4 rfl ?_
  refine M_iload_n (pc := 5) dX10_numberBehind_5 rfl ?_
  refine M_iload_n (pc := 6) dX10_numberBehind_6 rfl ?_
  obtain ⟨r3, hr4, h⟩ := bnd h
  refine M_callUi (pc := 7) dX10_numberBehind_7 (u_X10_61 hc) rfl rfl ha (Nat.le_of_ble_eq_true rfl) (C_X10_number (d := d + 1) hp ha hc hx hr4) (Nat.le_refl _) ?_
  refine M_istore_n (pc := 10) (ls' := [some (.ref a), some (.int x1), some (.int x2), some (.int r3)]) dX10_numberBehind_10 (by decide) rfl ?_
  refine M_iload_n (pc := 11) dX10_numberBehind_11 rfl ?_
  refine M_iconst (pc := 12) (v := -1) dX10_numberBehind_12 (by decide) ?_
  refine M_icmp_eq (pc := 13) (tgt := 20) dX10_numberBehind_13 (by decide) (fun hc5 => ?_) (fun hc5 => ?_)
  · have h := (if_pos hc5).symm.trans h
    refine M_iload_n (pc := 20) dX10_numberBehind_20 rfl ?_
    obtain rfl := Option.some.inj h
    exact M_iret (pc := 21) dX10_numberBehind_21 rfl rfl rfl rfl
  · have h := (if_neg hc5).symm.trans h
    refine M_aload_n (pc := 16) dX10_numberBehind_16 rfl ?_
    obtain ⟨r6, hr7, h⟩ := bnd h
    refine M_callUv (pc := 17) dX10_numberBehind_17 (u_X10_37 hc) rfl rfl ha (Nat.le_of_ble_eq_true rfl) (C_X10_advance (d := d + 0) hp ha hc hx hr7) (Nat.le_refl _) ?_
    refine M_iload_n (pc := 20) dX10_numberBehind_20 rfl ?_
    obtain rfl := Option.some.inj h
    exact M_iret (pc := 21) dX10_numberBehind_21 rfl rfl rfl rfl
def L_X4_holds_20 (a : Nat) (x1 : Int32) (x3 : Int32) (x4 : Int32) (I : HI) : Option (Int32 × HI) :=
  (ald 12 (I (a + 3)) x1) >>= fun v2 => if v2 ≤ x4 then if x3 = 0 then some ((1 : Int32), I) else if (I (a + 5) 0) = 0 then some ((0 : Int32), I) else some ((1 : Int32), I) else (ald 400 (I (a + 4)) x4) >>= fun v7 => (F_X4_step I a v7 x3) >>= fun r9 => L_X4_holds_20 a x1 r9.1 (x4 + (1 : Int32)) r9.2
partial_fixpoint
def F_X4_holds (I : HI) (a : Nat) (x1 : Int32) : Option (Int32 × HI) :=
  if x1 ≤ 0 then L_X4_holds_20 a x1 (0 : Int32) (0 : Int32) I else (ald 12 (I (a + 3)) (x1 - (1 : Int32))) >>= fun v11 => L_X4_holds_20 a x1 (0 : Int32) v11 I
set_option maxRecDepth 4000 in
set_option maxHeartbeats 4000000 in
theorem LC_X4_holds_20 {g : gX} {d : Nat} {P : Nat → Nat → Option Nat} {J : HJ} {a : Nat} {x1 : Int32} (hp : Wp P) (ha : OB NT a 4) : ∀ (x3 : Int32) (x4 : Int32) (I : HI) (r : Int32 × HI), L_X4_holds_20 a x1 x3 x4 I = some r → M g mX4_holds (d + 2) (NT, NT, 0) ((.inl (some (.int r.1))), (NT, r.2, J, P)) 20 [some (.ref a), some (.int x1), some (.ref 136), some (.int x3), some (.int x4)] [] (NT, I, J, P) := by
  refine L_X4_holds_20.partial_correctness a x1 (fun x3 x4 I r => M g mX4_holds (d + 2) (NT, NT, 0) ((.inl (some (.int r.1))), (NT, r.2, J, P)) 20 [some (.ref a), some (.int x1), some (.ref 136), some (.int x3), some (.int x4)] [] (NT, I, J, P)) ?_
  intro f ih x3 x4 I r h
  refine M_iload (pc := 20) dX4_holds_20 rfl ?_
  refine M_aload_n (pc := 22) dX4_holds_22 rfl ?_
  refine M_getR (pc := 23) dX4_holds_23 f_X4_22 ha (gr_4_3 hp ha).1 ?_
  refine M_iload_n (pc := 26) dX4_holds_26 rfl ?_
  obtain ⟨v2, hv3, h⟩ := bnd h
  refine M_aldI (pc := 27) dX4_holds_27 (gr_4_3 hp ha).2 hv3 ?_
  refine M_icmp_ge (pc := 28) (tgt := 51) dX4_holds_28 (by decide) (fun hc4 => ?_) (fun hc4 => ?_)
  · have h := (if_pos hc4).symm.trans h
    refine M_iload_n (pc := 51) dX4_holds_51 rfl ?_
    refine M_if_eq (pc := 52) (tgt := 64) dX4_holds_52 (by decide) (fun hc5 => ?_) (fun hc5 => ?_)
    · have h := (if_pos hc5).symm.trans h
      refine M_iconst (pc := 64) (v := 1) dX4_holds_64 (by decide) ?_
      refine M_goto (pc := 65) (tgt := 69) dX4_holds_65 (by decide) ?_
      obtain rfl := Option.some.inj h
      exact M_iret (pc := 69) dX4_holds_69 rfl rfl rfl rfl
    · have h := (if_neg hc5).symm.trans h
      refine M_aload_n (pc := 55) dX4_holds_55 rfl ?_
      refine M_getR (pc := 56) dX4_holds_56 f_X4_31 ha (gr_4_6 hp ha).1 ?_
      refine M_iconst (pc := 59) (v := 0) dX4_holds_59 (by decide) ?_
      refine M_ildc (pc := 60) (j := 0) dX4_holds_60 (gr_4_6 hp ha).2 (by decide) (by decide) ?_
      refine M_if_eq (pc := 61) (tgt := 68) dX4_holds_61 (by decide) (fun hc6 => ?_) (fun hc6 => ?_)
      · have h := (if_pos hc6).symm.trans h
        refine M_iconst (pc := 68) (v := 0) dX4_holds_68 (by decide) ?_
        obtain rfl := Option.some.inj h
        exact M_iret (pc := 69) dX4_holds_69 rfl rfl rfl rfl
      · have h := (if_neg hc6).symm.trans h
        refine M_iconst (pc := 64) (v := 1) dX4_holds_64 (by decide) ?_
        refine M_goto (pc := 65) (tgt := 69) dX4_holds_65 (by decide) ?_
        obtain rfl := Option.some.inj h
        exact M_iret (pc := 69) dX4_holds_69 rfl rfl rfl rfl
  · have h := (if_neg hc4).symm.trans h
    refine M_aload_n (pc := 31) dX4_holds_31 rfl ?_
    refine M_aload_n (pc := 32) dX4_holds_32 rfl ?_
    refine M_getR (pc := 33) dX4_holds_33 f_X4_25 ha (gr_4_4 hp ha).1 ?_
    refine M_iload (pc := 36) dX4_holds_36 rfl ?_
    obtain ⟨v7, hv8, h⟩ := bnd h
    refine M_aldI (pc := 38) dX4_holds_38 (gr_4_4 hp ha).2 hv8 ?_
    refine M_iload_n (pc := 39) dX4_holds_39 rfl ?_
    refine M_aload_n (pc := 40) dX4_holds_40 rfl ?_
    obtain ⟨r9, hr10, h⟩ := bnd h
    refine M_callVi (pc := 41) dX4_holds_41 v_X4_46 rfl rfl ha (Nat.le_of_ble_eq_true rfl) (C_X4_step (d := d + 0) hp ha hr10) (Nat.le_refl _) ?_
    refine M_istore_n (pc := 44) (ls' := [some (.ref a), some (.int x1), some (.ref 136), some (.int r9.1), some (.int x4)]) dX4_holds_44 (by decide) rfl ?_
    refine M_iinc (pc := 45) (v := (x4 + (1 : Int32))) (ls' := [some (.ref a), some (.int x1), some (.ref 136), some (.int r9.1), some (.int (x4 + (1 : Int32)))]) dX4_holds_45 rfl rfl (by decide) rfl ?_
    refine M_goto (pc := 48) (tgt := 20) dX4_holds_48 (by decide) ?_
    exact ih r9.1 (x4 + (1 : Int32)) r9.2 _ h
set_option maxRecDepth 4000 in
set_option maxHeartbeats 4000000 in
theorem C_X4_holds {g : gX} {d : Nat} {P : Nat → Nat → Option Nat} {I : HI} {a : Nat} {x1 : Int32} {J : HJ} (hp : Wp P) (ha : OB NT a 4) {r : Int32 × HI} (h : F_X4_holds I a x1 = some r) : Cm g mX4_holds (d + 2) [.ref a, .int x1, .ref 136] (NT, I, J, P) (some (.int r.1)) (NT, r.2, J, P) := by
  unfold F_X4_holds at h
  refine Cm.of (by decide) (by simp [Value.category]) (Nat.le_of_ble_eq_true rfl) (Nat.le_refl _) (ls := [some (.ref a), some (.int x1), some (.ref 136), none, none]) rfl ?_
  refine M_iconst (pc := 0) (v := 0) dX4_holds_0 (by decide) ?_
  refine M_istore_n (pc := 1) (ls' := [some (.ref a), some (.int x1), some (.ref 136), some (.int (0 : Int32)), none]) dX4_holds_1 (by decide) rfl ?_
  refine M_iload_n (pc := 2) dX4_holds_2 rfl ?_
  refine M_if_le (pc := 3) (tgt := 17) dX4_holds_3 (by decide) (fun hc1 => ?_) (fun hc1 => ?_)
  · have h := (if_pos hc1).symm.trans h
    refine M_iconst (pc := 17) (v := 0) dX4_holds_17 (by decide) ?_
    refine M_istore (pc := 18) (ls' := [some (.ref a), some (.int x1), some (.ref 136), some (.int (0 : Int32)), some (.int (0 : Int32))]) dX4_holds_18 (by decide) rfl ?_
    exact LC_X4_holds_20 (P := P) hp ha (0 : Int32) (0 : Int32) I _ h
  · have h := (if_neg hc1).symm.trans h
    refine M_aload_n (pc := 6) dX4_holds_6 rfl ?_
    refine M_getR (pc := 7) dX4_holds_7 f_X4_22 ha (gr_4_3 hp ha).1 ?_
    refine M_iload_n (pc := 10) dX4_holds_10 rfl ?_
    refine M_iconst (pc := 11) (v := 1) dX4_holds_11 (by decide) ?_
    refine M_isub (pc := 12) dX4_holds_12 ?_
    obtain ⟨v11, hv12, h⟩ := bnd h
    refine M_aldI (pc := 13) dX4_holds_13 (gr_4_3 hp ha).2 hv12 ?_
    refine M_goto (pc := 14) (tgt := 18) dX4_holds_14 (by decide) ?_
    refine M_istore (pc := 18) (ls' := [some (.ref a), some (.int x1), some (.ref 136), some (.int (0 : Int32)), some (.int v11)]) dX4_holds_18 (by decide) rfl ?_
    exact LC_X4_holds_20 (P := P) hp ha (0 : Int32) v11 I _ h
def F_X5_putOff (I : HI) (x1 : Int32) : Option (HI) :=
  if (21 : Int32) ≤ (I 146 7) then (F_X10_advance I 146) >>= fun r2 => some r2 else if inB (I 146 7) 21 = true then (F_X10_advance (up2 (up2 I 154 ((I 146 7)).toNatClampNeg x1) 146 7 (((up2 I 154 ((I 146 7)).toNatClampNeg x1) 146 7) + (1 : Int32))) 146) >>= fun r5 => some r5 else none
set_option maxRecDepth 4000 in
set_option maxHeartbeats 4000000 in
theorem C_X5_putOff {g : gX} {d : Nat} {P : Nat → Nat → Option Nat} {I : HI} {x1 : Int32} {J : HJ} (hp : Wp P) (hx : P 146 0 = some 2) {r : HI} (h : F_X5_putOff I x1 = some r) : Cm g mX5_putOff (d + 2) [.ref 146, .int x1] (NT, I, J, P) none (NT, r, J, P) := by
  unfold F_X5_putOff at h
  refine Cm.of (by decide) (by simp [Value.category]) (Nat.le_of_ble_eq_true rfl) (Nat.le_refl _) (ls := [some (.ref 146), some (.int x1)]) rfl ?_
  refine M_aload_n (pc := 0) dX5_putOff_0 rfl ?_
  refine M_getI (pc := 1) dX5_putOff_1 f_X5_22 at_5 ?_
  refine M_bipush (pc := 4) (v := 21) dX5_putOff_4 (by decide) ?_
  refine M_icmp_ge (pc := 6) (tgt := 29) dX5_putOff_6 (by decide) (fun hc1 => ?_) (fun hc1 => ?_)
  · have h := (if_pos hc1).symm.trans h
    refine M_aload_n (pc := 29) dX5_putOff_29 rfl ?_
    obtain ⟨r2, hr3, h⟩ := bnd h
    refine M_callUv (pc := 30) dX5_putOff_30 u_X5_43 rfl rfl at_5 (Nat.le_of_ble_eq_true rfl) (C_X10_advance (d := d + 0) hp at_5 (Or.inl rfl) hx hr3) (Nat.le_refl _) ?_
    obtain rfl := Option.some.inj h
    exact M_vret (pc := 33) dX5_putOff_33 rfl rfl rfl
  · have h := (if_neg hc1).symm.trans h
    refine M_aload_n (pc := 9) dX5_putOff_9 rfl ?_
    refine M_getR (pc := 10) dX5_putOff_10 f_X5_18 at_5 (gr_5_6 hp at_5).1 ?_
    refine M_aload_n (pc := 13) dX5_putOff_13 rfl ?_
    refine M_getI (pc := 14) dX5_putOff_14 f_X5_22 at_5 ?_
    refine M_iload_n (pc := 17) dX5_putOff_17 rfl ?_
    obtain ⟨hb4, h⟩ := chk h
    refine M_iast (pc := 18) dX5_putOff_18 (gr_5_6 hp at_5).2 (inB_in hb4) ?_
    refine M_aload_n (pc := 19) dX5_putOff_19 rfl ?_
    refine M_dup (pc := 20) dX5_putOff_20 rfl ?_
    refine M_getI (pc := 21) dX5_putOff_21 f_X5_22 at_5 ?_
    refine M_iconst (pc := 24) (v := 1) dX5_putOff_24 (by decide) ?_
    refine M_iadd (pc := 25) dX5_putOff_25 ?_
    refine M_putI (pc := 26) dX5_putOff_26 f_X5_22 at_5 rfl ⟨rfl, rfl⟩ ?_
    refine M_aload_n (pc := 29) dX5_putOff_29 rfl ?_
    obtain ⟨r5, hr6, h⟩ := bnd h
    refine M_callUv (pc := 30) dX5_putOff_30 u_X5_43 rfl rfl at_5 (Nat.le_of_ble_eq_true rfl) (C_X10_advance (d := d + 0) hp at_5 (Or.inl rfl) hx hr6) (Nat.le_refl _) ?_
    obtain rfl := Option.some.inj h
    exact M_vret (pc := 33) dX5_putOff_33 rfl rfl rfl
def L_X5_closeBrackets_2 (x1 : Int32) (I : HI) : Option (HI) :=
  if (6 : Int32) ≤ x1 then some I else (F_X10_isSign I 146 (41 : Int32)) >>= fun r2 => if r2 = 0 then some I else (F_X5_settle I (1015 : Int32)) >>= fun r5 => if (r5 146 7) = 0 then some r5 else (F_X10_advance (up2 (up2 r5 146 7 ((r5 146 7) - (1 : Int32))) 146 8 (((up2 r5 146 7 ((r5 146 7) - (1 : Int32))) 146 8) - (1 : Int32))) 146) >>= fun r8 => L_X5_closeBrackets_2 (x1 + (1 : Int32)) r8
partial_fixpoint
def F_X5_closeBrackets (I : HI) : Option (HI) :=
  L_X5_closeBrackets_2 (0 : Int32) I
set_option maxRecDepth 4000 in
set_option maxHeartbeats 4000000 in
theorem LC_X5_closeBrackets_2 {g : gX} {d : Nat} {P : Nat → Nat → Option Nat} {J : HJ}  (hp : Wp P) (hx : P 146 0 = some 2) : ∀ (x1 : Int32) (I : HI) (r : HI), L_X5_closeBrackets_2  x1 I = some r → M g mX5_closeBrackets (d + 2) (NT, NT, 0) ((.inl none), (NT, r, J, P)) 2 [some (.ref 146), some (.int x1)] [] (NT, I, J, P) := by
  refine L_X5_closeBrackets_2.partial_correctness  (fun x1 I r => M g mX5_closeBrackets (d + 2) (NT, NT, 0) ((.inl none), (NT, r, J, P)) 2 [some (.ref 146), some (.int x1)] [] (NT, I, J, P)) ?_
  intro f ih x1 I r h
  refine M_iload_n (pc := 2) dX5_closeBrackets_2 rfl ?_
  refine M_bipush (pc := 3) (v := 6) dX5_closeBrackets_3 (by decide) ?_
  refine M_icmp_ge (pc := 5) (tgt := 62) dX5_closeBrackets_5 (by decide) (fun hc1 => ?_) (fun hc1 => ?_)
  · have h := (if_pos hc1).symm.trans h
    obtain rfl := Option.some.inj h
    exact M_vret (pc := 62) dX5_closeBrackets_62 rfl rfl rfl
  · have h := (if_neg hc1).symm.trans h
    refine M_aload_n (pc := 8) dX5_closeBrackets_8 rfl ?_
    refine M_bipush (pc := 9) (v := 41) dX5_closeBrackets_9 (by decide) ?_
    obtain ⟨r2, hr3, h⟩ := bnd h
    refine M_callUi (pc := 11) dX5_closeBrackets_11 u_X5_84 rfl rfl at_5 (Nat.le_of_ble_eq_true rfl) (C_X10_isSign (d := d + 1) hp at_5 (Or.inl rfl) hx hr3) (Nat.le_refl _) ?_
    refine M_if_eq (pc := 14) (tgt := 62) dX5_closeBrackets_14 (by decide) (fun hc4 => ?_) (fun hc4 => ?_)
    · have h := (if_pos hc4).symm.trans h
      obtain rfl := Option.some.inj h
      exact M_vret (pc := 62) dX5_closeBrackets_62 rfl rfl rfl
    · have h := (if_neg hc4).symm.trans h
      refine M_aload_n (pc := 17) dX5_closeBrackets_17 rfl ?_
      refine M_sipush (pc := 18) (v := 1015) dX5_closeBrackets_18 (by decide) ?_
      obtain ⟨r5, hr6, h⟩ := bnd h
      refine M_callVv (pc := 21) dX5_closeBrackets_21 v_X5_79 rfl rfl at_5 (Nat.le_of_ble_eq_true rfl) (C_X5_settle (d := d + 0) hp hx hr6) (Nat.le_refl _) ?_
      refine M_aload_n (pc := 24) dX5_closeBrackets_24 rfl ?_
      refine M_getI (pc := 25) dX5_closeBrackets_25 f_X5_22 at_5 ?_
      refine M_if_ne (pc := 28) (tgt := 32) dX5_closeBrackets_28 (by decide) (fun hc7 => ?_) (fun hc7 => ?_)
      · have h := (if_neg hc7).symm.trans h
        refine M_aload_n (pc := 32) dX5_closeBrackets_32 rfl ?_
        refine M_dup (pc := 33) dX5_closeBrackets_33 rfl ?_
        refine M_getI (pc := 34) dX5_closeBrackets_34 f_X5_22 at_5 ?_
        refine M_iconst (pc := 37) (v := 1) dX5_closeBrackets_37 (by decide) ?_
        refine M_isub (pc := 38) dX5_closeBrackets_38 ?_
        refine M_putI (pc := 39) dX5_closeBrackets_39 f_X5_22 at_5 rfl ⟨rfl, rfl⟩ ?_
        refine M_aload_n (pc := 42) dX5_closeBrackets_42 rfl ?_
        refine M_dup (pc := 43) dX5_closeBrackets_43 rfl ?_
        refine M_getI (pc := 44) dX5_closeBrackets_44 f_X5_26 at_5 ?_
        refine M_iconst (pc := 47) (v := 1) dX5_closeBrackets_47 (by decide) ?_
        refine M_isub (pc := 48) dX5_closeBrackets_48 ?_
        refine M_putI (pc := 49) dX5_closeBrackets_49 f_X5_26 at_5 rfl ⟨rfl, rfl⟩ ?_
        refine M_aload_n (pc := 52) dX5_closeBrackets_52 rfl ?_
        obtain ⟨r8, hr9, h⟩ := bnd h
        refine M_callUv (pc := 53) dX5_closeBrackets_53 u_X5_43 rfl rfl at_5 (Nat.le_of_ble_eq_true rfl) (C_X10_advance (d := d + 0) hp at_5 (Or.inl rfl) hx hr9) (Nat.le_refl _) ?_
        refine M_iinc (pc := 56) (v := (x1 + (1 : Int32))) (ls' := [some (.ref 146), some (.int (x1 + (1 : Int32)))]) dX5_closeBrackets_56 rfl rfl (by decide) rfl ?_
        refine M_goto (pc := 59) (tgt := 2) dX5_closeBrackets_59 (by decide) ?_
        exact ih (x1 + (1 : Int32)) r8 _ h
      · have h := (if_pos hc7).symm.trans h
        obtain rfl := Option.some.inj h
        exact M_vret (pc := 31) dX5_closeBrackets_31 rfl rfl rfl
set_option maxRecDepth 4000 in
set_option maxHeartbeats 4000000 in
theorem C_X5_closeBrackets {g : gX} {d : Nat} {P : Nat → Nat → Option Nat} {I : HI} {J : HJ} (hp : Wp P) (hx : P 146 0 = some 2) {r : HI} (h : F_X5_closeBrackets I = some r) : Cm g mX5_closeBrackets (d + 2) [.ref 146] (NT, I, J, P) none (NT, r, J, P) := by
  unfold F_X5_closeBrackets at h
  refine Cm.of (by decide) (by simp [Value.category]) (Nat.le_of_ble_eq_true rfl) (Nat.le_refl _) (ls := [some (.ref 146), none]) rfl ?_
  refine M_iconst (pc := 0) (v := 0) dX5_closeBrackets_0 (by decide) ?_
  refine M_istore_n (pc := 1) (ls' := [some (.ref 146), some (.int (0 : Int32))]) dX5_closeBrackets_1 (by decide) rfl ?_
  exact LC_X5_closeBrackets_2 (P := P) hp hx (0 : Int32) I _ h
def L_X4_weigh_2 (a : Nat) (x2 : Int32) (I : HI) : Option (HI) :=
  if (I a 0) ≤ x2 then some I else if (12 : Int32) ≤ x2 then some I else (F_X4_holds I a x2) >>= fun r3 => if r3.1 = 0 then L_X4_weigh_2 a (x2 + (1 : Int32)) r3.2 else (ald 12 (r3.2 (a + 1)) x2) >>= fun v6 => if v6 = (2 : Int32) then (ald 12 (r3.2 (a + 2)) x2) >>= fun v16 => L_X4_weigh_2 a (x2 + (1 : Int32)) (up2 r3.2 136 2 ((r3.2 136 2) + v16)) else (ald 12 (r3.2 (a + 1)) x2) >>= fun v9 => if v9 = 0 then (ald 12 (r3.2 (a + 2)) x2) >>= fun v14 => L_X4_weigh_2 a (x2 + (1 : Int32)) (up2 r3.2 136 1 ((r3.2 136 1) + v14)) else (ald 12 (r3.2 (a + 2)) x2) >>= fun v12 => L_X4_weigh_2 a (x2 + (1 : Int32)) (up2 r3.2 136 1 ((r3.2 136 1) + (-v12)))
partial_fixpoint
def F_X4_weigh (I : HI) (a : Nat) : Option (HI) :=
  L_X4_weigh_2 a (0 : Int32) I
set_option maxRecDepth 4000 in
set_option maxHeartbeats 4000000 in
theorem LC_X4_weigh_2 {g : gX} {d : Nat} {P : Nat → Nat → Option Nat} {J : HJ} {a : Nat} (hp : Wp P) (ha : OB NT a 4) : ∀ (x2 : Int32) (I : HI) (r : HI), L_X4_weigh_2 a x2 I = some r → M g mX4_weigh (d + 3) (NT, NT, 0) ((.inl none), (NT, r, J, P)) 2 [some (.ref a), some (.ref 136), some (.int x2)] [] (NT, I, J, P) := by
  refine L_X4_weigh_2.partial_correctness a (fun x2 I r => M g mX4_weigh (d + 3) (NT, NT, 0) ((.inl none), (NT, r, J, P)) 2 [some (.ref a), some (.ref 136), some (.int x2)] [] (NT, I, J, P)) ?_
  intro f ih x2 I r h
  refine M_iload_n (pc := 2) dX4_weigh_2 rfl ?_
  refine M_aload_n (pc := 3) dX4_weigh_3 rfl ?_
  refine M_getI (pc := 4) dX4_weigh_4 f_X4_9 ha ?_
  refine M_icmp_ge (pc := 7) (tgt := 93) dX4_weigh_7 (by decide) (fun hc1 => ?_) (fun hc1 => ?_)
  · have h := (if_pos hc1).symm.trans h
    obtain rfl := Option.some.inj h
    exact M_vret (pc := 93) dX4_weigh_93 rfl rfl rfl
  · have h := (if_neg hc1).symm.trans h
    refine M_iload_n (pc := 10) dX4_weigh_10 rfl ?_
    refine M_bipush (pc := 11) (v := 12) dX4_weigh_11 (by decide) ?_
    refine M_icmp_ge (pc := 13) (tgt := 93) dX4_weigh_13 (by decide) (fun hc2 => ?_) (fun hc2 => ?_)
    · have h := (if_pos hc2).symm.trans h
      obtain rfl := Option.some.inj h
      exact M_vret (pc := 93) dX4_weigh_93 rfl rfl rfl
    · have h := (if_neg hc2).symm.trans h
      refine M_aload_n (pc := 16) dX4_weigh_16 rfl ?_
      refine M_iload_n (pc := 17) dX4_weigh_17 rfl ?_
      refine M_aload_n (pc := 18) dX4_weigh_18 rfl ?_
      obtain ⟨r3, hr4, h⟩ := bnd h
      refine M_callVi (pc := 19) dX4_weigh_19 v_X4_34 rfl rfl ha (Nat.le_of_ble_eq_true rfl) (C_X4_holds (d := d + 0) hp ha hr4) (Nat.le_refl _) ?_
      refine M_if_eq (pc := 22) (tgt := 87) dX4_weigh_22 (by decide) (fun hc5 => ?_) (fun hc5 => ?_)
      · have h := (if_pos hc5).symm.trans h
        refine M_iinc (pc := 87) (v := (x2 + (1 : Int32))) (ls' := [some (.ref a), some (.ref 136), some (.int (x2 + (1 : Int32)))]) dX4_weigh_87 rfl rfl (by decide) rfl ?_
        refine M_goto (pc := 90) (tgt := 2) dX4_weigh_90 (by decide) ?_
        exact ih (x2 + (1 : Int32)) r3.2 _ h
      · have h := (if_neg hc5).symm.trans h
        refine M_aload_n (pc := 25) dX4_weigh_25 rfl ?_
        refine M_getR (pc := 26) dX4_weigh_26 f_X4_15 ha (gr_4_1 hp ha).1 ?_
        refine M_iload_n (pc := 29) dX4_weigh_29 rfl ?_
        obtain ⟨v6, hv7, h⟩ := bnd h
        refine M_aldI (pc := 30) dX4_weigh_30 (gr_4_1 hp ha).2 hv7 ?_
        refine M_iconst (pc := 31) (v := 2) dX4_weigh_31 (by decide) ?_
        refine M_icmp_ne (pc := 32) (tgt := 53) dX4_weigh_32 (by decide) (fun hc8 => ?_) (fun hc8 => ?_)
        · have h := (if_neg hc8).symm.trans h
          refine M_aload_n (pc := 53) dX4_weigh_53 rfl ?_
          refine M_dup (pc := 54) dX4_weigh_54 rfl ?_
          refine M_getI (pc := 55) dX4_weigh_55 f_X4_43 at_9 ?_
          refine M_aload_n (pc := 58) dX4_weigh_58 rfl ?_
          refine M_getR (pc := 59) dX4_weigh_59 f_X4_15 ha (gr_4_1 hp ha).1 ?_
          refine M_iload_n (pc := 62) dX4_weigh_62 rfl ?_
          obtain ⟨v9, hv10, h⟩ := bnd h
          refine M_aldI (pc := 63) dX4_weigh_63 (gr_4_1 hp ha).2 hv10 ?_
          refine M_if_ne (pc := 64) (tgt := 76) dX4_weigh_64 (by decide) (fun hc11 => ?_) (fun hc11 => ?_)
          · have h := (if_neg hc11).symm.trans h
            refine M_aload_n (pc := 76) dX4_weigh_76 rfl ?_
            refine M_getR (pc := 77) dX4_weigh_77 f_X4_19 ha (gr_4_2 hp ha).1 ?_
            refine M_iload_n (pc := 80) dX4_weigh_80 rfl ?_
            obtain ⟨v12, hv13, h⟩ := bnd h
            refine M_aldI (pc := 81) dX4_weigh_81 (gr_4_2 hp ha).2 hv13 ?_
            refine M_ineg (pc := 82) dX4_weigh_82 ?_
            refine M_iadd (pc := 83) dX4_weigh_83 ?_
            refine M_putI (pc := 84) dX4_weigh_84 f_X4_43 at_9 rfl ⟨rfl, rfl⟩ ?_
            refine M_iinc (pc := 87) (v := (x2 + (1 : Int32))) (ls' := [some (.ref a), some (.ref 136), some (.int (x2 + (1 : Int32)))]) dX4_weigh_87 rfl rfl (by decide) rfl ?_
            refine M_goto (pc := 90) (tgt := 2) dX4_weigh_90 (by decide) ?_
            exact ih (x2 + (1 : Int32)) (up2 r3.2 136 1 ((r3.2 136 1) + (-v12))) _ h
          · have h := (if_pos hc11).symm.trans h
            refine M_aload_n (pc := 67) dX4_weigh_67 rfl ?_
            refine M_getR (pc := 68) dX4_weigh_68 f_X4_19 ha (gr_4_2 hp ha).1 ?_
            refine M_iload_n (pc := 71) dX4_weigh_71 rfl ?_
            obtain ⟨v14, hv15, h⟩ := bnd h
            refine M_aldI (pc := 72) dX4_weigh_72 (gr_4_2 hp ha).2 hv15 ?_
            refine M_goto (pc := 73) (tgt := 83) dX4_weigh_73 (by decide) ?_
            refine M_iadd (pc := 83) dX4_weigh_83 ?_
            refine M_putI (pc := 84) dX4_weigh_84 f_X4_43 at_9 rfl ⟨rfl, rfl⟩ ?_
            refine M_iinc (pc := 87) (v := (x2 + (1 : Int32))) (ls' := [some (.ref a), some (.ref 136), some (.int (x2 + (1 : Int32)))]) dX4_weigh_87 rfl rfl (by decide) rfl ?_
            refine M_goto (pc := 90) (tgt := 2) dX4_weigh_90 (by decide) ?_
            exact ih (x2 + (1 : Int32)) (up2 r3.2 136 1 ((r3.2 136 1) + v14)) _ h
        · have h := (if_pos hc8).symm.trans h
          refine M_aload_n (pc := 35) dX4_weigh_35 rfl ?_
          refine M_dup (pc := 36) dX4_weigh_36 rfl ?_
          refine M_getI (pc := 37) dX4_weigh_37 f_X4_38 at_9 ?_
          refine M_aload_n (pc := 40) dX4_weigh_40 rfl ?_
          refine M_getR (pc := 41) dX4_weigh_41 f_X4_19 ha (gr_4_2 hp ha).1 ?_
          refine M_iload_n (pc := 44) dX4_weigh_44 rfl ?_
          obtain ⟨v16, hv17, h⟩ := bnd h
          refine M_aldI (pc := 45) dX4_weigh_45 (gr_4_2 hp ha).2 hv17 ?_
          refine M_iadd (pc := 46) dX4_weigh_46 ?_
          refine M_putI (pc := 47) dX4_weigh_47 f_X4_38 at_9 rfl ⟨rfl, rfl⟩ ?_
          refine M_goto (pc := 50) (tgt := 87) dX4_weigh_50 (by decide) ?_
          refine M_iinc (pc := 87) (v := (x2 + (1 : Int32))) (ls' := [some (.ref a), some (.ref 136), some (.int (x2 + (1 : Int32)))]) dX4_weigh_87 rfl rfl (by decide) rfl ?_
          refine M_goto (pc := 90) (tgt := 2) dX4_weigh_90 (by decide) ?_
          exact ih (x2 + (1 : Int32)) (up2 r3.2 136 2 ((r3.2 136 2) + v16)) _ h
set_option maxRecDepth 4000 in
set_option maxHeartbeats 4000000 in
theorem C_X4_weigh {g : gX} {d : Nat} {P : Nat → Nat → Option Nat} {I : HI} {a : Nat} {J : HJ} (hp : Wp P) (ha : OB NT a 4) {r : HI} (h : F_X4_weigh I a = some r) : Cm g mX4_weigh (d + 3) [.ref a, .ref 136] (NT, I, J, P) none (NT, r, J, P) := by
  unfold F_X4_weigh at h
  refine Cm.of (by decide) (by simp [Value.category]) (Nat.le_of_ble_eq_true rfl) (Nat.le_refl _) (ls := [some (.ref a), some (.ref 136), none]) rfl ?_
  refine M_iconst (pc := 0) (v := 0) dX4_weigh_0 (by decide) ?_
  refine M_istore_n (pc := 1) (ls' := [some (.ref a), some (.ref 136), some (.int (0 : Int32))]) dX4_weigh_1 (by decide) rfl ?_
  exact LC_X4_weigh_2 (P := P) hp ha (0 : Int32) I _ h
def F_X3_bite (I : HI) (a : Nat) (x1 : Int32) (b2 : Nat) : Option (HI) :=
  (F_X9_put I a x1) >>= fun r1 => (F_X4_weigh r1 b2) >>= fun r3 => (F_X1_isHad (up2 (up2 (up2 r3 a 13 (if ((r3 a 13) + (r3 136 2)) < (9999 : Int32) then ((r3 a 13) + (r3 136 2)) else (9999 : Int32))) a 4 (if (0 : Int32) < (if (((up2 r3 a 13 (if ((r3 a 13) + (r3 136 2)) < (9999 : Int32) then ((r3 a 13) + (r3 136 2)) else (9999 : Int32))) a 4) + ((up2 r3 a 13 (if ((r3 a 13) + (r3 136 2)) < (9999 : Int32) then ((r3 a 13) + (r3 136 2)) else (9999 : Int32))) 136 1)) < (99 : Int32) then (((up2 r3 a 13 (if ((r3 a 13) + (r3 136 2)) < (9999 : Int32) then ((r3 a 13) + (r3 136 2)) else (9999 : Int32))) a 4) + ((up2 r3 a 13 (if ((r3 a 13) + (r3 136 2)) < (9999 : Int32) then ((r3 a 13) + (r3 136 2)) else (9999 : Int32))) 136 1)) else (99 : Int32)) then (if (((up2 r3 a 13 (if ((r3 a 13) + (r3 136 2)) < (9999 : Int32) then ((r3 a 13) + (r3 136 2)) else (9999 : Int32))) a 4) + ((up2 r3 a 13 (if ((r3 a 13) + (r3 136 2)) < (9999 : Int32) then ((r3 a 13) + (r3 136 2)) else (9999 : Int32))) 136 1)) < (99 : Int32) then (((up2 r3 a 13 (if ((r3 a 13) + (r3 136 2)) < (9999 : Int32) then ((r3 a 13) + (r3 136 2)) else (9999 : Int32))) a 4) + ((up2 r3 a 13 (if ((r3 a 13) + (r3 136 2)) < (9999 : Int32) then ((r3 a 13) + (r3 136 2)) else (9999 : Int32))) 136 1)) else (99 : Int32)) else (0 : Int32))) a 3 ((up2 (up2 r3 a 13 (if ((r3 a 13) + (r3 136 2)) < (9999 : Int32) then ((r3 a 13) + (r3 136 2)) else (9999 : Int32))) a 4 (if (0 : Int32) < (if (((up2 r3 a 13 (if ((r3 a 13) + (r3 136 2)) < (9999 : Int32) then ((r3 a 13) + (r3 136 2)) else (9999 : Int32))) a 4) + ((up2 r3 a 13 (if ((r3 a 13) + (r3 136 2)) < (9999 : Int32) then ((r3 a 13) + (r3 136 2)) else (9999 : Int32))) 136 1)) < (99 : Int32) then (((up2 r3 a 13 (if ((r3 a 13) + (r3 136 2)) < (9999 : Int32) then ((r3 a 13) + (r3 136 2)) else (9999 : Int32))) a 4) + ((up2 r3 a 13 (if ((r3 a 13) + (r3 136 2)) < (9999 : Int32) then ((r3 a 13) + (r3 136 2)) else (9999 : Int32))) 136 1)) else (99 : Int32)) then (if (((up2 r3 a 13 (if ((r3 a 13) + (r3 136 2)) < (9999 : Int32) then ((r3 a 13) + (r3 136 2)) else (9999 : Int32))) a 4) + ((up2 r3 a 13 (if ((r3 a 13) + (r3 136 2)) < (9999 : Int32) then ((r3 a 13) + (r3 136 2)) else (9999 : Int32))) 136 1)) < (99 : Int32) then (((up2 r3 a 13 (if ((r3 a 13) + (r3 136 2)) < (9999 : Int32) then ((r3 a 13) + (r3 136 2)) else (9999 : Int32))) a 4) + ((up2 r3 a 13 (if ((r3 a 13) + (r3 136 2)) < (9999 : Int32) then ((r3 a 13) + (r3 136 2)) else (9999 : Int32))) 136 1)) else (99 : Int32)) else (0 : Int32))) 137 1)) (a + 1) x1) >>= fun r5 => if r5 = 0 then (F_X1_tell (up2 (up2 (up2 r3 a 13 (if ((r3 a 13) + (r3 136 2)) < (9999 : Int32) then ((r3 a 13) + (r3 136 2)) else (9999 : Int32))) a 4 (if (0 : Int32) < (if (((up2 r3 a 13 (if ((r3 a 13) + (r3 136 2)) < (9999 : Int32) then ((r3 a 13) + (r3 136 2)) else (9999 : Int32))) a 4) + ((up2 r3 a 13 (if ((r3 a 13) + (r3 136 2)) < (9999 : Int32) then ((r3 a 13) + (r3 136 2)) else (9999 : Int32))) 136 1)) < (99 : Int32) then (((up2 r3 a 13 (if ((r3 a 13) + (r3 136 2)) < (9999 : Int32) then ((r3 a 13) + (r3 136 2)) else (9999 : Int32))) a 4) + ((up2 r3 a 13 (if ((r3 a 13) + (r3 136 2)) < (9999 : Int32) then ((r3 a 13) + (r3 136 2)) else (9999 : Int32))) 136 1)) else (99 : Int32)) then (if (((up2 r3 a 13 (if ((r3 a 13) + (r3 136 2)) < (9999 : Int32) then ((r3 a 13) + (r3 136 2)) else (9999 : Int32))) a 4) + ((up2 r3 a 13 (if ((r3 a 13) + (r3 136 2)) < (9999 : Int32) then ((r3 a 13) + (r3 136 2)) else (9999 : Int32))) 136 1)) < (99 : Int32) then (((up2 r3 a 13 (if ((r3 a 13) + (r3 136 2)) < (9999 : Int32) then ((r3 a 13) + (r3 136 2)) else (9999 : Int32))) a 4) + ((up2 r3 a 13 (if ((r3 a 13) + (r3 136 2)) < (9999 : Int32) then ((r3 a 13) + (r3 136 2)) else (9999 : Int32))) 136 1)) else (99 : Int32)) else (0 : Int32))) a 3 ((up2 (up2 r3 a 13 (if ((r3 a 13) + (r3 136 2)) < (9999 : Int32) then ((r3 a 13) + (r3 136 2)) else (9999 : Int32))) a 4 (if (0 : Int32) < (if (((up2 r3 a 13 (if ((r3 a 13) + (r3 136 2)) < (9999 : Int32) then ((r3 a 13) + (r3 136 2)) else (9999 : Int32))) a 4) + ((up2 r3 a 13 (if ((r3 a 13) + (r3 136 2)) < (9999 : Int32) then ((r3 a 13) + (r3 136 2)) else (9999 : Int32))) 136 1)) < (99 : Int32) then (((up2 r3 a 13 (if ((r3 a 13) + (r3 136 2)) < (9999 : Int32) then ((r3 a 13) + (r3 136 2)) else (9999 : Int32))) a 4) + ((up2 r3 a 13 (if ((r3 a 13) + (r3 136 2)) < (9999 : Int32) then ((r3 a 13) + (r3 136 2)) else (9999 : Int32))) 136 1)) else (99 : Int32)) then (if (((up2 r3 a 13 (if ((r3 a 13) + (r3 136 2)) < (9999 : Int32) then ((r3 a 13) + (r3 136 2)) else (9999 : Int32))) a 4) + ((up2 r3 a 13 (if ((r3 a 13) + (r3 136 2)) < (9999 : Int32) then ((r3 a 13) + (r3 136 2)) else (9999 : Int32))) 136 1)) < (99 : Int32) then (((up2 r3 a 13 (if ((r3 a 13) + (r3 136 2)) < (9999 : Int32) then ((r3 a 13) + (r3 136 2)) else (9999 : Int32))) a 4) + ((up2 r3 a 13 (if ((r3 a 13) + (r3 136 2)) < (9999 : Int32) then ((r3 a 13) + (r3 136 2)) else (9999 : Int32))) 136 1)) else (99 : Int32)) else (0 : Int32))) 137 1)) (a + 1) x1 ((up2 (up2 (up2 r3 a 13 (if ((r3 a 13) + (r3 136 2)) < (9999 : Int32) then ((r3 a 13) + (r3 136 2)) else (9999 : Int32))) a 4 (if (0 : Int32) < (if (((up2 r3 a 13 (if ((r3 a 13) + (r3 136 2)) < (9999 : Int32) then ((r3 a 13) + (r3 136 2)) else (9999 : Int32))) a 4) + ((up2 r3 a 13 (if ((r3 a 13) + (r3 136 2)) < (9999 : Int32) then ((r3 a 13) + (r3 136 2)) else (9999 : Int32))) 136 1)) < (99 : Int32) then (((up2 r3 a 13 (if ((r3 a 13) + (r3 136 2)) < (9999 : Int32) then ((r3 a 13) + (r3 136 2)) else (9999 : Int32))) a 4) + ((up2 r3 a 13 (if ((r3 a 13) + (r3 136 2)) < (9999 : Int32) then ((r3 a 13) + (r3 136 2)) else (9999 : Int32))) 136 1)) else (99 : Int32)) then (if (((up2 r3 a 13 (if ((r3 a 13) + (r3 136 2)) < (9999 : Int32) then ((r3 a 13) + (r3 136 2)) else (9999 : Int32))) a 4) + ((up2 r3 a 13 (if ((r3 a 13) + (r3 136 2)) < (9999 : Int32) then ((r3 a 13) + (r3 136 2)) else (9999 : Int32))) 136 1)) < (99 : Int32) then (((up2 r3 a 13 (if ((r3 a 13) + (r3 136 2)) < (9999 : Int32) then ((r3 a 13) + (r3 136 2)) else (9999 : Int32))) a 4) + ((up2 r3 a 13 (if ((r3 a 13) + (r3 136 2)) < (9999 : Int32) then ((r3 a 13) + (r3 136 2)) else (9999 : Int32))) 136 1)) else (99 : Int32)) else (0 : Int32))) a 3 ((up2 (up2 r3 a 13 (if ((r3 a 13) + (r3 136 2)) < (9999 : Int32) then ((r3 a 13) + (r3 136 2)) else (9999 : Int32))) a 4 (if (0 : Int32) < (if (((up2 r3 a 13 (if ((r3 a 13) + (r3 136 2)) < (9999 : Int32) then ((r3 a 13) + (r3 136 2)) else (9999 : Int32))) a 4) + ((up2 r3 a 13 (if ((r3 a 13) + (r3 136 2)) < (9999 : Int32) then ((r3 a 13) + (r3 136 2)) else (9999 : Int32))) 136 1)) < (99 : Int32) then (((up2 r3 a 13 (if ((r3 a 13) + (r3 136 2)) < (9999 : Int32) then ((r3 a 13) + (r3 136 2)) else (9999 : Int32))) a 4) + ((up2 r3 a 13 (if ((r3 a 13) + (r3 136 2)) < (9999 : Int32) then ((r3 a 13) + (r3 136 2)) else (9999 : Int32))) 136 1)) else (99 : Int32)) then (if (((up2 r3 a 13 (if ((r3 a 13) + (r3 136 2)) < (9999 : Int32) then ((r3 a 13) + (r3 136 2)) else (9999 : Int32))) a 4) + ((up2 r3 a 13 (if ((r3 a 13) + (r3 136 2)) < (9999 : Int32) then ((r3 a 13) + (r3 136 2)) else (9999 : Int32))) 136 1)) < (99 : Int32) then (((up2 r3 a 13 (if ((r3 a 13) + (r3 136 2)) < (9999 : Int32) then ((r3 a 13) + (r3 136 2)) else (9999 : Int32))) a 4) + ((up2 r3 a 13 (if ((r3 a 13) + (r3 136 2)) < (9999 : Int32) then ((r3 a 13) + (r3 136 2)) else (9999 : Int32))) 136 1)) else (99 : Int32)) else (0 : Int32))) 137 1)) a 2) ((up2 (up2 (up2 r3 a 13 (if ((r3 a 13) + (r3 136 2)) < (9999 : Int32) then ((r3 a 13) + (r3 136 2)) else (9999 : Int32))) a 4 (if (0 : Int32) < (if (((up2 r3 a 13 (if ((r3 a 13) + (r3 136 2)) < (9999 : Int32) then ((r3 a 13) + (r3 136 2)) else (9999 : Int32))) a 4) + ((up2 r3 a 13 (if ((r3 a 13) + (r3 136 2)) < (9999 : Int32) then ((r3 a 13) + (r3 136 2)) else (9999 : Int32))) 136 1)) < (99 : Int32) then (((up2 r3 a 13 (if ((r3 a 13) + (r3 136 2)) < (9999 : Int32) then ((r3 a 13) + (r3 136 2)) else (9999 : Int32))) a 4) + ((up2 r3 a 13 (if ((r3 a 13) + (r3 136 2)) < (9999 : Int32) then ((r3 a 13) + (r3 136 2)) else (9999 : Int32))) 136 1)) else (99 : Int32)) then (if (((up2 r3 a 13 (if ((r3 a 13) + (r3 136 2)) < (9999 : Int32) then ((r3 a 13) + (r3 136 2)) else (9999 : Int32))) a 4) + ((up2 r3 a 13 (if ((r3 a 13) + (r3 136 2)) < (9999 : Int32) then ((r3 a 13) + (r3 136 2)) else (9999 : Int32))) 136 1)) < (99 : Int32) then (((up2 r3 a 13 (if ((r3 a 13) + (r3 136 2)) < (9999 : Int32) then ((r3 a 13) + (r3 136 2)) else (9999 : Int32))) a 4) + ((up2 r3 a 13 (if ((r3 a 13) + (r3 136 2)) < (9999 : Int32) then ((r3 a 13) + (r3 136 2)) else (9999 : Int32))) 136 1)) else (99 : Int32)) else (0 : Int32))) a 3 ((up2 (up2 r3 a 13 (if ((r3 a 13) + (r3 136 2)) < (9999 : Int32) then ((r3 a 13) + (r3 136 2)) else (9999 : Int32))) a 4 (if (0 : Int32) < (if (((up2 r3 a 13 (if ((r3 a 13) + (r3 136 2)) < (9999 : Int32) then ((r3 a 13) + (r3 136 2)) else (9999 : Int32))) a 4) + ((up2 r3 a 13 (if ((r3 a 13) + (r3 136 2)) < (9999 : Int32) then ((r3 a 13) + (r3 136 2)) else (9999 : Int32))) 136 1)) < (99 : Int32) then (((up2 r3 a 13 (if ((r3 a 13) + (r3 136 2)) < (9999 : Int32) then ((r3 a 13) + (r3 136 2)) else (9999 : Int32))) a 4) + ((up2 r3 a 13 (if ((r3 a 13) + (r3 136 2)) < (9999 : Int32) then ((r3 a 13) + (r3 136 2)) else (9999 : Int32))) 136 1)) else (99 : Int32)) then (if (((up2 r3 a 13 (if ((r3 a 13) + (r3 136 2)) < (9999 : Int32) then ((r3 a 13) + (r3 136 2)) else (9999 : Int32))) a 4) + ((up2 r3 a 13 (if ((r3 a 13) + (r3 136 2)) < (9999 : Int32) then ((r3 a 13) + (r3 136 2)) else (9999 : Int32))) 136 1)) < (99 : Int32) then (((up2 r3 a 13 (if ((r3 a 13) + (r3 136 2)) < (9999 : Int32) then ((r3 a 13) + (r3 136 2)) else (9999 : Int32))) a 4) + ((up2 r3 a 13 (if ((r3 a 13) + (r3 136 2)) < (9999 : Int32) then ((r3 a 13) + (r3 136 2)) else (9999 : Int32))) 136 1)) else (99 : Int32)) else (0 : Int32))) 137 1)) a 11) (-1 : Int32)) >>= fun r8 => some (up2 r8 a 5 ((r8 a 5) + (1 : Int32))) else some (up2 (up2 (up2 (up2 r3 a 13 (if ((r3 a 13) + (r3 136 2)) < (9999 : Int32) then ((r3 a 13) + (r3 136 2)) else (9999 : Int32))) a 4 (if (0 : Int32) < (if (((up2 r3 a 13 (if ((r3 a 13) + (r3 136 2)) < (9999 : Int32) then ((r3 a 13) + (r3 136 2)) else (9999 : Int32))) a 4) + ((up2 r3 a 13 (if ((r3 a 13) + (r3 136 2)) < (9999 : Int32) then ((r3 a 13) + (r3 136 2)) else (9999 : Int32))) 136 1)) < (99 : Int32) then (((up2 r3 a 13 (if ((r3 a 13) + (r3 136 2)) < (9999 : Int32) then ((r3 a 13) + (r3 136 2)) else (9999 : Int32))) a 4) + ((up2 r3 a 13 (if ((r3 a 13) + (r3 136 2)) < (9999 : Int32) then ((r3 a 13) + (r3 136 2)) else (9999 : Int32))) 136 1)) else (99 : Int32)) then (if (((up2 r3 a 13 (if ((r3 a 13) + (r3 136 2)) < (9999 : Int32) then ((r3 a 13) + (r3 136 2)) else (9999 : Int32))) a 4) + ((up2 r3 a 13 (if ((r3 a 13) + (r3 136 2)) < (9999 : Int32) then ((r3 a 13) + (r3 136 2)) else (9999 : Int32))) 136 1)) < (99 : Int32) then (((up2 r3 a 13 (if ((r3 a 13) + (r3 136 2)) < (9999 : Int32) then ((r3 a 13) + (r3 136 2)) else (9999 : Int32))) a 4) + ((up2 r3 a 13 (if ((r3 a 13) + (r3 136 2)) < (9999 : Int32) then ((r3 a 13) + (r3 136 2)) else (9999 : Int32))) 136 1)) else (99 : Int32)) else (0 : Int32))) a 3 ((up2 (up2 r3 a 13 (if ((r3 a 13) + (r3 136 2)) < (9999 : Int32) then ((r3 a 13) + (r3 136 2)) else (9999 : Int32))) a 4 (if (0 : Int32) < (if (((up2 r3 a 13 (if ((r3 a 13) + (r3 136 2)) < (9999 : Int32) then ((r3 a 13) + (r3 136 2)) else (9999 : Int32))) a 4) + ((up2 r3 a 13 (if ((r3 a 13) + (r3 136 2)) < (9999 : Int32) then ((r3 a 13) + (r3 136 2)) else (9999 : Int32))) 136 1)) < (99 : Int32) then (((up2 r3 a 13 (if ((r3 a 13) + (r3 136 2)) < (9999 : Int32) then ((r3 a 13) + (r3 136 2)) else (9999 : Int32))) a 4) + ((up2 r3 a 13 (if ((r3 a 13) + (r3 136 2)) < (9999 : Int32) then ((r3 a 13) + (r3 136 2)) else (9999 : Int32))) 136 1)) else (99 : Int32)) then (if (((up2 r3 a 13 (if ((r3 a 13) + (r3 136 2)) < (9999 : Int32) then ((r3 a 13) + (r3 136 2)) else (9999 : Int32))) a 4) + ((up2 r3 a 13 (if ((r3 a 13) + (r3 136 2)) < (9999 : Int32) then ((r3 a 13) + (r3 136 2)) else (9999 : Int32))) 136 1)) < (99 : Int32) then (((up2 r3 a 13 (if ((r3 a 13) + (r3 136 2)) < (9999 : Int32) then ((r3 a 13) + (r3 136 2)) else (9999 : Int32))) a 4) + ((up2 r3 a 13 (if ((r3 a 13) + (r3 136 2)) < (9999 : Int32) then ((r3 a 13) + (r3 136 2)) else (9999 : Int32))) 136 1)) else (99 : Int32)) else (0 : Int32))) 137 1)) a 5 (((up2 (up2 (up2 r3 a 13 (if ((r3 a 13) + (r3 136 2)) < (9999 : Int32) then ((r3 a 13) + (r3 136 2)) else (9999 : Int32))) a 4 (if (0 : Int32) < (if (((up2 r3 a 13 (if ((r3 a 13) + (r3 136 2)) < (9999 : Int32) then ((r3 a 13) + (r3 136 2)) else (9999 : Int32))) a 4) + ((up2 r3 a 13 (if ((r3 a 13) + (r3 136 2)) < (9999 : Int32) then ((r3 a 13) + (r3 136 2)) else (9999 : Int32))) 136 1)) < (99 : Int32) then (((up2 r3 a 13 (if ((r3 a 13) + (r3 136 2)) < (9999 : Int32) then ((r3 a 13) + (r3 136 2)) else (9999 : Int32))) a 4) + ((up2 r3 a 13 (if ((r3 a 13) + (r3 136 2)) < (9999 : Int32) then ((r3 a 13) + (r3 136 2)) else (9999 : Int32))) 136 1)) else (99 : Int32)) then (if (((up2 r3 a 13 (if ((r3 a 13) + (r3 136 2)) < (9999 : Int32) then ((r3 a 13) + (r3 136 2)) else (9999 : Int32))) a 4) + ((up2 r3 a 13 (if ((r3 a 13) + (r3 136 2)) < (9999 : Int32) then ((r3 a 13) + (r3 136 2)) else (9999 : Int32))) 136 1)) < (99 : Int32) then (((up2 r3 a 13 (if ((r3 a 13) + (r3 136 2)) < (9999 : Int32) then ((r3 a 13) + (r3 136 2)) else (9999 : Int32))) a 4) + ((up2 r3 a 13 (if ((r3 a 13) + (r3 136 2)) < (9999 : Int32) then ((r3 a 13) + (r3 136 2)) else (9999 : Int32))) 136 1)) else (99 : Int32)) else (0 : Int32))) a 3 ((up2 (up2 r3 a 13 (if ((r3 a 13) + (r3 136 2)) < (9999 : Int32) then ((r3 a 13) + (r3 136 2)) else (9999 : Int32))) a 4 (if (0 : Int32) < (if (((up2 r3 a 13 (if ((r3 a 13) + (r3 136 2)) < (9999 : Int32) then ((r3 a 13) + (r3 136 2)) else (9999 : Int32))) a 4) + ((up2 r3 a 13 (if ((r3 a 13) + (r3 136 2)) < (9999 : Int32) then ((r3 a 13) + (r3 136 2)) else (9999 : Int32))) 136 1)) < (99 : Int32) then (((up2 r3 a 13 (if ((r3 a 13) + (r3 136 2)) < (9999 : Int32) then ((r3 a 13) + (r3 136 2)) else (9999 : Int32))) a 4) + ((up2 r3 a 13 (if ((r3 a 13) + (r3 136 2)) < (9999 : Int32) then ((r3 a 13) + (r3 136 2)) else (9999 : Int32))) 136 1)) else (99 : Int32)) then (if (((up2 r3 a 13 (if ((r3 a 13) + (r3 136 2)) < (9999 : Int32) then ((r3 a 13) + (r3 136 2)) else (9999 : Int32))) a 4) + ((up2 r3 a 13 (if ((r3 a 13) + (r3 136 2)) < (9999 : Int32) then ((r3 a 13) + (r3 136 2)) else (9999 : Int32))) 136 1)) < (99 : Int32) then (((up2 r3 a 13 (if ((r3 a 13) + (r3 136 2)) < (9999 : Int32) then ((r3 a 13) + (r3 136 2)) else (9999 : Int32))) a 4) + ((up2 r3 a 13 (if ((r3 a 13) + (r3 136 2)) < (9999 : Int32) then ((r3 a 13) + (r3 136 2)) else (9999 : Int32))) 136 1)) else (99 : Int32)) else (0 : Int32))) 137 1)) a 5) + (1 : Int32)))
set_option maxRecDepth 4000 in
set_option maxHeartbeats 4000000 in
theorem C_X3_bite {g : gX} {d : Nat} {P : Nat → Nat → Option Nat} {I : HI} {a : Nat} {x1 : Int32} {b2 : Nat} {J : HJ} (hp : Wp P) (ha : OB NT a 3) (hb2 : OB NT b2 4) {r : HI} (h : F_X3_bite I a x1 b2 = some r) : Cm g mX3_bite (d + 4) [.ref a, .int x1, .ref b2, .ref 136] (NT, I, J, P) none (NT, r, J, P) := by
  unfold F_X3_bite at h
  refine Cm.of (by decide) (by simp [Value.category]) (Nat.le_of_ble_eq_true rfl) (Nat.le_refl _) (ls := [some (.ref a), some (.int x1), some (.ref b2), some (.ref 136)]) rfl ?_
  refine M_aload_n (pc := 0) dX3_bite_0 rfl ?_
  refine M_aload_n (pc := 1) dX3_bite_1 rfl ?_
  refine M_iload_n (pc := 2) dX3_bite_2 rfl ?_
  obtain ⟨r1, hr2, h⟩ := bnd h
  refine M_callVv (pc := 3) dX3_bite_3 v_X3_65 rfl rfl at_9 (Nat.le_of_ble_eq_true rfl) (C_X9_put (d := d + 0) hp ha hr2) (Nat.le_refl _) ?_
  refine M_aload_n (pc := 6) dX3_bite_6 rfl ?_
  refine M_aload_n (pc := 7) dX3_bite_7 rfl ?_
  obtain ⟨r3, hr4, h⟩ := bnd h
  refine M_callVv (pc := 8) dX3_bite_8 v_X3_71 rfl rfl hb2 (Nat.le_of_ble_eq_true rfl) (C_X4_weigh (d := d + 0) hp hb2 hr4) (Nat.le_refl _) ?_
  refine M_aload_n (pc := 11) dX3_bite_11 rfl ?_
  refine M_sipush (pc := 12) (v := 9999) dX3_bite_12 (by decide) ?_
  refine M_aload_n (pc := 15) dX3_bite_15 rfl ?_
  refine M_getI (pc := 16) dX3_bite_16 f_X3_55 ha ?_
  refine M_aload_n (pc := 19) dX3_bite_19 rfl ?_
  refine M_getI (pc := 20) dX3_bite_20 f_X3_77 at_9 ?_
  refine M_iadd (pc := 23) dX3_bite_23 ?_
  refine M_mmin (pc := 24) dX3_bite_24 mm_X3_80.1 mm_X3_80.2.1 mm_X3_80.2.2.1 mm_X3_80.2.2.2 (Nat.le_of_ble_eq_true rfl) ?_
  refine M_putI (pc := 27) dX3_bite_27 f_X3_55 ha rfl ⟨rfl, rfl⟩ ?_
  refine M_aload_n (pc := 30) dX3_bite_30 rfl ?_
  refine M_iconst (pc := 31) (v := 0) dX3_bite_31 (by decide) ?_
  refine M_bipush (pc := 32) (v := 99) dX3_bite_32 (by decide) ?_
  refine M_aload_n (pc := 34) dX3_bite_34 rfl ?_
  refine M_getI (pc := 35) dX3_bite_35 f_X3_28 ha ?_
  refine M_aload_n (pc := 38) dX3_bite_38 rfl ?_
  refine M_getI (pc := 39) dX3_bite_39 f_X3_86 at_9 ?_
  refine M_iadd (pc := 42) dX3_bite_42 ?_
  refine M_mmin (pc := 43) dX3_bite_43 mm_X3_80.1 mm_X3_80.2.1 mm_X3_80.2.2.1 mm_X3_80.2.2.2 (Nat.le_of_ble_eq_true rfl) ?_
  refine M_mmax (pc := 46) dX3_bite_46 mm_X3_89.1 mm_X3_89.2.1 mm_X3_89.2.2.1 mm_X3_89.2.2.2 (Nat.le_of_ble_eq_true rfl) ?_
  refine M_putI (pc := 49) dX3_bite_49 f_X3_28 ha rfl ⟨rfl, rfl⟩ ?_
  refine M_aload_n (pc := 52) dX3_bite_52 rfl ?_
  refine M_aload_n (pc := 53) dX3_bite_53 rfl ?_
  refine M_getR (pc := 54) dX3_bite_54 f_X3_92 at_9 (gr_9_3 hp at_9).1 ?_
  refine M_iconst (pc := 57) (v := 1) dX3_bite_57 (by decide) ?_
  refine M_ildc (pc := 58) (j := 1) dX3_bite_58 (gr_9_3 hp at_9).2 (by decide) (by decide) ?_
  refine M_putI (pc := 59) dX3_bite_59 f_X3_25 ha rfl ⟨rfl, rfl⟩ ?_
  refine M_aload_n (pc := 62) dX3_bite_62 rfl ?_
  refine M_getR (pc := 63) dX3_bite_63 f_X3_12 ha (gr_3_0 hp ha).1 ?_
  refine M_iload_n (pc := 66) dX3_bite_66 rfl ?_
  obtain ⟨r5, hr6, h⟩ := bnd h
  refine M_callVi (pc := 67) dX3_bite_67 v_X3_96 rfl rfl (gr_3_0 hp ha).2 (Nat.le_of_ble_eq_true rfl) (C_X1_isHad (d := d + 2) hp (gr_3_0 hp ha).2 hr6) (Nat.le_refl _) ?_
  refine M_if_ne (pc := 70) (tgt := 90) dX3_bite_70 (by decide) (fun hc7 => ?_) (fun hc7 => ?_)
  · have h := (if_neg hc7).symm.trans h
    refine M_aload_n (pc := 90) dX3_bite_90 rfl ?_
    refine M_dup (pc := 91) dX3_bite_91 rfl ?_
    refine M_getI (pc := 92) dX3_bite_92 f_X3_31 ha ?_
    refine M_iconst (pc := 95) (v := 1) dX3_bite_95 (by decide) ?_
    refine M_iadd (pc := 96) dX3_bite_96 ?_
    refine M_putI (pc := 97) dX3_bite_97 f_X3_31 ha rfl ⟨rfl, rfl⟩ ?_
    obtain rfl := Option.some.inj h
    exact M_vret (pc := 100) dX3_bite_100 rfl rfl rfl
  · have h := (if_pos hc7).symm.trans h
    refine M_aload_n (pc := 73) dX3_bite_73 rfl ?_
    refine M_getR (pc := 74) dX3_bite_74 f_X3_12 ha (gr_3_0 hp ha).1 ?_
    refine M_iload_n (pc := 77) dX3_bite_77 rfl ?_
    refine M_aload_n (pc := 78) dX3_bite_78 rfl ?_
    refine M_getI (pc := 79) dX3_bite_79 f_X3_22 ha ?_
    refine M_aload_n (pc := 82) dX3_bite_82 rfl ?_
    refine M_getI (pc := 83) dX3_bite_83 f_X3_49 ha ?_
    refine M_iconst (pc := 86) (v := -1) dX3_bite_86 (by decide) ?_
    obtain ⟨r8, hr9, h⟩ := bnd h
    refine M_callVv (pc := 87) dX3_bite_87 v_X3_99 rfl rfl (gr_3_0 hp ha).2 (Nat.le_of_ble_eq_true rfl) (C_X1_tell (d := d + 2) hp (gr_3_0 hp ha).2 hr9) (Nat.le_refl _) ?_
    refine M_aload_n (pc := 90) dX3_bite_90 rfl ?_
    refine M_dup (pc := 91) dX3_bite_91 rfl ?_
    refine M_getI (pc := 92) dX3_bite_92 f_X3_31 ha ?_
    refine M_iconst (pc := 95) (v := 1) dX3_bite_95 (by decide) ?_
    refine M_iadd (pc := 96) dX3_bite_96 ?_
    refine M_putI (pc := 97) dX3_bite_97 f_X3_31 ha rfl ⟨rfl, rfl⟩ ?_
    obtain rfl := Option.some.inj h
    exact M_vret (pc := 100) dX3_bite_100 rfl rfl rfl
