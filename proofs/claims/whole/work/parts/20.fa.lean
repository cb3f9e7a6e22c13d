def F_X0_clear (I : HI) : Option (HI) :=
  some (up2 I 17 0 (0 : Int32))
set_option maxRecDepth 4000 in
set_option maxHeartbeats 4000000 in
theorem C_X0_clear {g : gX} {d : Nat} {P : Nat → Nat → Option Nat} {I : HI} {J : HJ} (hp : Wp P) {r : HI} (h : F_X0_clear I = some r) : Cm g mX0_clear (d + 0) [.ref 17] (NT, I, J, P) none (NT, r, J, P) := by
  unfold F_X0_clear at h
  refine Cm.of (by decide) (by simp [Value.category]) (Nat.le_of_ble_eq_true rfl) (Nat.le_refl _) (ls := [some (.ref 17)]) rfl ?_
  refine M_aload_n (pc := 0) dX0_clear_0 rfl ?_
  refine M_iconst (pc := 1) (v := 0) dX0_clear_1 (by decide) ?_
  refine M_putI (pc := 2) dX0_clear_2 f_X0_7 at_0 rfl ⟨rfl, rfl⟩ ?_
  obtain rfl := Option.some.inj h
  exact M_vret (pc := 5) dX0_clear_5 rfl rfl rfl
def F_X1_has (I : HI) (a : Nat) (x1 : Int32) : Option (Int32) :=
  if x1 < 0 then some (0 : Int32) else if (I a 0) ≤ x1 then some (0 : Int32) else some (1 : Int32)
set_option maxRecDepth 4000 in
set_option maxHeartbeats 4000000 in
theorem C_X1_has {g : gX} {d : Nat} {P : Nat → Nat → Option Nat} {I : HI} {a : Nat} {x1 : Int32} {J : HJ} (hp : Wp P) (ha : OB NT a 1) {r : Int32} (h : F_X1_has I a x1 = some r) : Cm g mX1_has (d + 0) [.ref a, .int x1] (NT, I, J, P) (some (.int r)) (NT, I, J, P) := by
  unfold F_X1_has at h
  refine Cm.of (by decide) (by simp [Value.category]) (Nat.le_of_ble_eq_true rfl) (Nat.le_refl _) (ls := [some (.ref a), some (.int x1)]) rfl ?_
  refine M_iload_n (pc := 0) dX1_has_0 rfl ?_
  refine M_if_lt (pc := 1) (tgt := 16) dX1_has_1 (by decide) (fun hc1 => ?_) (fun hc1 => ?_)
  · have h := (if_pos hc1).symm.trans h
    refine M_iconst (pc := 16) (v := 0) dX1_has_16 (by decide) ?_
    obtain rfl := Option.some.inj h
    exact M_iret (pc := 17) dX1_has_17 rfl rfl rfl rfl
  · have h := (if_neg hc1).symm.trans h
    refine M_iload_n (pc := 4) dX1_has_4 rfl ?_
    refine M_aload_n (pc := 5) dX1_has_5 rfl ?_
    refine M_getI (pc := 6) dX1_has_6 f_X1_9 ha ?_
    refine M_icmp_ge (pc := 9) (tgt := 16) dX1_has_9 (by decide) (fun hc2 => ?_) (fun hc2 => ?_)
    · have h := (if_pos hc2).symm.trans h
      refine M_iconst (pc := 16) (v := 0) dX1_has_16 (by decide) ?_
      obtain rfl := Option.some.inj h
      exact M_iret (pc := 17) dX1_has_17 rfl rfl rfl rfl
    · have h := (if_neg hc2).symm.trans h
      refine M_iconst (pc := 12) (v := 1) dX1_has_12 (by decide) ?_
      refine M_goto (pc := 13) (tgt := 17) dX1_has_13 (by decide) ?_
      obtain rfl := Option.some.inj h
      exact M_iret (pc := 17) dX1_has_17 rfl rfl rfl rfl
def F_X1_isHad (I : HI) (a : Nat) (x1 : Int32) : Option (Int32) :=
  (F_X1_has I a x1) >>= fun r1 => if r1 = 0 then some (0 : Int32) else (ald 12 (I (a + 2)) x1) >>= fun v4 => if v4 = (-1 : Int32) then some (0 : Int32) else some (1 : Int32)
set_option maxRecDepth 4000 in
set_option maxHeartbeats 4000000 in
theorem C_X1_isHad {g : gX} {d : Nat} {P : Nat → Nat → Option Nat} {I : HI} {a : Nat} {x1 : Int32} {J : HJ} (hp : Wp P) (ha : OB NT a 1) {r : Int32} (h : F_X1_isHad I a x1 = some r) : Cm g mX1_isHad (d + 1) [.ref a, .int x1] (NT, I, J, P) (some (.int r)) (NT, I, J, P) := by
  unfold F_X1_isHad at h
  refine Cm.of (by decide) (by simp [Value.category]) (Nat.le_of_ble_eq_true rfl) (Nat.le_refl _) (ls := [some (.ref a), some (.int x1)]) rfl ?_
  refine M_aload_n (pc := 0) dX1_isHad_0 rfl ?_
  refine M_iload_n (pc := 1) dX1_isHad_1 rfl ?_
  obtain ⟨r1, hr2, h⟩ := bnd h
  refine M_callVi (pc := 2) dX1_isHad_2 v_X1_28 rfl rfl ha (Nat.le_of_ble_eq_true rfl) (C_X1_has (d := d + 0) hp ha hr2) (Nat.le_refl _) ?_
  refine M_if_eq (pc := 5) (tgt := 22) dX1_isHad_5 (by decide) (fun hc3 => ?_) (fun hc3 => ?_)
  · have h := (if_pos hc3).symm.trans h
    refine M_iconst (pc := 22) (v := 0) dX1_isHad_22 (by decide) ?_
    obtain rfl := Option.some.inj h
    exact M_iret (pc := 23) dX1_isHad_23 rfl rfl rfl rfl
  · have h := (if_neg hc3).symm.trans h
    refine M_aload_n (pc := 8) dX1_isHad_8 rfl ?_
    refine M_getR (pc := 9) dX1_isHad_9 f_X1_19 ha (gr_1_2 hp ha).1 ?_
    refine M_iload_n (pc := 12) dX1_isHad_12 rfl ?_
    obtain ⟨v4, hv5, h⟩ := bnd h
    refine M_aldI (pc := 13) dX1_isHad_13 (gr_1_2 hp ha).2 hv5 ?_
    refine M_iconst (pc := 14) (v := -1) dX1_isHad_14 (by decide) ?_
    refine M_icmp_eq (pc := 15) (tgt := 22) dX1_isHad_15 (by decide) (fun hc6 => ?_) (fun hc6 => ?_)
    · have h := (if_pos hc6).symm.trans h
      refine M_iconst (pc := 22) (v := 0) dX1_isHad_22 (by decide) ?_
      obtain rfl := Option.some.inj h
      exact M_iret (pc := 23) dX1_isHad_23 rfl rfl rfl rfl
    · have h := (if_neg hc6).symm.trans h
      refine M_iconst (pc := 18) (v := 1) dX1_isHad_18 (by decide) ?_
      refine M_goto (pc := 19) (tgt := 23) dX1_isHad_19 (by decide) ?_
      obtain rfl := Option.some.inj h
      exact M_iret (pc := 23) dX1_isHad_23 rfl rfl rfl rfl
def F_X1_all (I : HI) (a : Nat) : Option (Int32) :=
  some (((1 : Int32) <<< ((I a 0) &&& 31)) - (1 : Int32))
set_option maxRecDepth 4000 in
set_option maxHeartbeats 4000000 in
theorem C_X1_all {g : gX} {d : Nat} {P : Nat → Nat → Option Nat} {I : HI} {a : Nat} {J : HJ} (hp : Wp P) (ha : OB NT a 1) {r : Int32} (h : F_X1_all I a = some r) : Cm g mX1_all (d + 0) [.ref a] (NT, I, J, P) (some (.int r)) (NT, I, J, P) := by
  unfold F_X1_all at h
  refine Cm.of (by decide) (by simp [Value.category]) (Nat.le_of_ble_eq_true rfl) (Nat.le_refl _) (ls := [some (.ref a)]) rfl ?_
  refine M_iconst (pc := 0) (v := 1) dX1_all_0 (by decide) ?_
  refine M_aload_n (pc := 1) dX1_all_1 rfl ?_
  refine M_getI (pc := 2) dX1_all_2 f_X1_9 ha ?_
  refine M_ishl (pc := 5) dX1_all_5 ?_
  refine M_iconst (pc := 6) (v := 1) dX1_all_6 (by decide) ?_
  refine M_isub (pc := 7) dX1_all_7 ?_
  obtain rfl := Option.some.inj h
  exact M_iret (pc := 8) dX1_all_8 rfl rfl rfl rfl
def L_X1_distance_5 (I : HI) (a : Nat) (x1 : Int32) (x2 : Int32) (x3 : Int32) (x4 : Int32) : Option (Int32) :=
  if (5 : Int32) ≤ x4 then some x3 else (ald 60 (I (a + 1)) ((x1 * (5 : Int32)) + x4)) >>= fun v2 => (ald 60 (I (a + 1)) ((x2 * (5 : Int32)) + x4)) >>= fun v4 => if 0 ≤ (v2 - v4) then L_X1_distance_5 I a x1 x2 (x3 + (v2 - v4)) (x4 + (1 : Int32)) else L_X1_distance_5 I a x1 x2 (x3 + (-(v2 - v4))) (x4 + (1 : Int32))
partial_fixpoint
def F_X1_distance (I : HI) (a : Nat) (x1 : Int32) (x2 : Int32) : Option (Int32) :=
  L_X1_distance_5 I a x1 x2 (0 : Int32) (0 : Int32)
set_option maxRecDepth 4000 in
set_option maxHeartbeats 4000000 in
theorem LC_X1_distance_5 {g : gX} {d : Nat} {P : Nat → Nat → Option Nat} {J : HJ} {I : HI} {a : Nat} {x1 : Int32} {x2 : Int32} (hp : Wp P) (ha : OB NT a 1) : ∀ (x3 : Int32) (x4 : Int32) (r : Int32), L_X1_distance_5 I a x1 x2 x3 x4 = some r → M g mX1_distance (d + 0) (NT, NT, 0) ((.inl (some (.int r))), (NT, I, J, P)) 5 [some (.ref a), some (.int x1), some (.int x2), some (.int x3), some (.int x4), none] [] (NT, I, J, P) := by
  refine L_X1_distance_5.partial_correctness I a x1 x2 (fun x3 x4 r => M g mX1_distance (d + 0) (NT, NT, 0) ((.inl (some (.int r))), (NT, I, J, P)) 5 [some (.ref a), some (.int x1), some (.int x2), some (.int x3), some (.int x4), none] [] (NT, I, J, P)) ?_
  intro f ih x3 x4 r h
  refine M_iload (pc := 5) dX1_distance_5 rfl ?_
  refine M_iconst (pc := 7) (v := 5) dX1_distance_7 (by decide) ?_
  refine M_icmp_ge (pc := 8) (tgt := 58) dX1_distance_8 (by decide) (fun hc1 => ?_) (fun hc1 => ?_)
  · have h := (if_pos hc1).symm.trans h
    refine M_iload_n (pc := 58) dX1_distance_58 rfl ?_
    obtain rfl := Option.some.inj h
    exact M_iret (pc := 59) dX1_distance_59 rfl rfl rfl rfl
  · have h := (if_neg hc1).symm.trans h
    refine M_aload_n (pc := 11) dX1_distance_11 rfl ?_
    refine M_getR (pc := 12) dX1_distance_12 f_X1_15 ha (gr_1_1 hp ha).1 ?_
    refine M_iload_n (pc := 15) dX1_distance_15 rfl ?_
    refine M_iconst (pc := 16) (v := 5) dX1_distance_16 (by decide) ?_
    refine M_imul (pc := 17) dX1_distance_17 ?_
    refine M_iload (pc := 18) dX1_distance_18 rfl ?_
    refine M_iadd (pc := 20) dX1_distance_20 ?_
    obtain ⟨v2, hv3, h⟩ := bnd h
    refine M_aldI (pc := 21) dX1_distance_21 (gr_1_1 hp ha).2 hv3 ?_
    refine M_aload_n (pc := 22) dX1_distance_22 rfl ?_
    refine M_getR (pc := 23) dX1_distance_23 f_X1_15 ha (gr_1_1 hp ha).1 ?_
    refine M_iload_n (pc := 26) dX1_distance_26 rfl ?_
    refine M_iconst (pc := 27) (v := 5) dX1_distance_27 (by decide) ?_
    refine M_imul (pc := 28) dX1_distance_28 ?_
    refine M_iload (pc := 29) dX1_distance_29 rfl ?_
    refine M_iadd (pc := 31) dX1_distance_31 ?_
    obtain ⟨v4, hv5, h⟩ := bnd h
    refine M_aldI (pc := 32) dX1_distance_32 (gr_1_1 hp ha).2 hv5 ?_
    refine M_isub (pc := 33) dX1_distance_33 ?_
    refine M_istore (pc := 34) (ls' := [some (.ref a), some (.int x1), some (.int x2), some (.int x3), some (.int x4), some (.int (v2 - v4))]) dX1_distance_34 (by decide) rfl ?_
    refine M_iload_n (pc := 36) dX1_distance_36 rfl ?_
    refine M_iload (pc := 37) dX1_distance_37 rfl ?_
    refine M_if_ge (pc := 39) (tgt := 48) dX1_distance_39 (by decide) (fun hc6 => ?_) (fun hc6 => ?_)
    · have h := (if_pos hc6).symm.trans h
      refine M_iload (pc := 48) dX1_distance_48 rfl ?_
      refine M_iadd (pc := 50) dX1_distance_50 ?_
      refine M_istore_n (pc := 51) (ls' := [some (.ref a), some (.int x1), some (.int x2), some (.int (x3 + (v2 - v4))), some (.int x4), some (.int (v2 - v4))]) dX1_distance_51 (by decide) rfl ?_
      refine M_iinc (pc := 52) (v := (x4 + (1 : Int32))) (ls' := [some (.ref a), some (.int x1), some (.int x2), some (.int (x3 + (v2 - v4))), some (.int (x4 + (1 : Int32))), some (.int (v2 - v4))]) dX1_distance_52 rfl rfl (by decide) rfl ?_
      refine M_goto (pc := 55) (tgt := 5) dX1_distance_55 (by decide) ?_
      refine M_mask (pc := 5) [true, true, true, true, true, false] rfl ?_
      exact ih (x3 + (v2 - v4)) (x4 + (1 : Int32)) _ h
    · have h := (if_neg hc6).symm.trans h
      refine M_iload (pc := 42) dX1_distance_42 rfl ?_
      refine M_ineg (pc := 44) dX1_distance_44 ?_
      refine M_goto (pc := 45) (tgt := 50) dX1_distance_45 (by decide) ?_
      refine M_iadd (pc := 50) dX1_distance_50 ?_
      refine M_istore_n (pc := 51) (ls' := [some (.ref a), some (.int x1), some (.int x2), some (.int (x3 + (-(v2 - v4)))), some (.int x4), some (.int (v2 - v4))]) dX1_distance_51 (by decide) rfl ?_
      refine M_iinc (pc := 52) (v := (x4 + (1 : Int32))) (ls' := [some (.ref a), some (.int x1), some (.int x2), some (.int (x3 + (-(v2 - v4)))), some (.int (x4 + (1 : Int32))), some (.int (v2 - v4))]) dX1_distance_52 rfl rfl (by decide) rfl ?_
      refine M_goto (pc := 55) (tgt := 5) dX1_distance_55 (by decide) ?_
      refine M_mask (pc := 5) [true, true, true, true, true, false] rfl ?_
      exact ih (x3 + (-(v2 - v4))) (x4 + (1 : Int32)) _ h
set_option maxRecDepth 4000 in
set_option maxHeartbeats 4000000 in
theorem C_X1_distance {g : gX} {d : Nat} {P : Nat → Nat → Option Nat} {I : HI} {a : Nat} {x1 : Int32} {x2 : Int32} {J : HJ} (hp : Wp P) (ha : OB NT a 1) {r : Int32} (h : F_X1_distance I a x1 x2 = some r) : Cm g mX1_distance (d + 0) [.ref a, .int x1, .int x2] (NT, I, J, P) (some (.int r)) (NT, I, J, P) := by
  unfold F_X1_distance at h
  refine Cm.of (by decide) (by simp [Value.category]) (Nat.le_of_ble_eq_true rfl) (Nat.le_refl _) (ls := [some (.ref a), some (.int x1), some (.int x2), none, none, none]) rfl ?_
  refine M_iconst (pc := 0) (v := 0) dX1_distance_0 (by decide) ?_
  refine M_istore_n (pc := 1) (ls' := [some (.ref a), some (.int x1), some (.int x2), some (.int (0 : Int32)), none, none]) dX1_distance_1 (by decide) rfl ?_
  refine M_iconst (pc := 2) (v := 0) dX1_distance_2 (by decide) ?_
  refine M_istore (pc := 3) (ls' := [some (.ref a), some (.int x1), some (.int x2), some (.int (0 : Int32)), some (.int (0 : Int32)), none]) dX1_distance_3 (by decide) rfl ?_
  exact LC_X1_distance_5 (P := P) hp ha (0 : Int32) (0 : Int32) _ h
def L_X1_calledUp_20 (I : HI) (a : Nat) (x1 : Int32) (x3 : Int32) (x4 : Int32) (x5 : Int32) : Option (Int32) :=
  if (I a 0) ≤ x5 then some x3 else (ald 12 (I (a + 2)) x5) >>= fun v5 => if v5 = (-1 : Int32) then L_X1_calledUp_20 I a x1 x3 x4 (x5 + (1 : Int32)) else (F_X1_distance I a x1 x5) >>= fun r8 => if x4 ≤ r8 then L_X1_calledUp_20 I a x1 x3 x4 (x5 + (1 : Int32)) else L_X1_calledUp_20 I a x1 x5 r8 (x5 + (1 : Int32))
partial_fixpoint
def F_X1_calledUp (I : HI) (a : Nat) (x1 : Int32) (x2 : Int32) : Option (Int32) :=
  (F_X1_isHad I a x1) >>= fun r1 => if r1 = 0 then L_X1_calledUp_20 I a x1 (-1 : Int32) (x2 + (1 : Int32)) (0 : Int32) else some x1
set_option maxRecDepth 4000 in
set_option maxHeartbeats 4000000 in
theorem LC_X1_calledUp_20 {g : gX} {d : Nat} {P : Nat → Nat → Option Nat} {J : HJ} {I : HI} {a : Nat} {x1 : Int32} (hp : Wp P) (ha : OB NT a 1) : ∀ (x3 : Int32) (x4 : Int32) (x5 : Int32) (r : Int32), L_X1_calledUp_20 I a x1 x3 x4 x5 = some r → M g mX1_calledUp (d + 2) (NT, NT, 0) ((.inl (some (.int r))), (NT, I, J, P)) 20 [some (.ref a), some (.int x1), none, some (.int x3), some (.int x4), some (.int x5), none] [] (NT, I, J, P) := by
  refine L_X1_calledUp_20.partial_correctness I a x1 (fun x3 x4 x5 r => M g mX1_calledUp (d + 2) (NT, NT, 0) ((.inl (some (.int r))), (NT, I, J, P)) 20 [some (.ref a), some (.int x1), none, some (.int x3), some (.int x4), some (.int x5), none] [] (NT, I, J, P)) ?_
  intro f ih x3 x4 x5 r h
  refine M_iload (pc := 20) dX1_calledUp_20 rfl ?_
  refine M_aload_n (pc := 22) dX1_calledUp_22 rfl ?_
  refine M_getI (pc := 23) dX1_calledUp_23 f_X1_9 ha ?_
  refine M_icmp_ge (pc := 26) (tgt := 69) dX1_calledUp_26 (by decide) (fun hc4 => ?_) (fun hc4 => ?_)
  · have h := (if_pos hc4).symm.trans h
    refine M_iload_n (pc := 69) dX1_calledUp_69 rfl ?_
    obtain rfl := Option.some.inj h
    exact M_iret (pc := 70) dX1_calledUp_70 rfl rfl rfl rfl
  · have h := (if_neg hc4).symm.trans h
    refine M_aload_n (pc := 29) dX1_calledUp_29 rfl ?_
    refine M_getR (pc := 30) dX1_calledUp_30 f_X1_19 ha (gr_1_2 hp ha).1 ?_
    refine M_iload (pc := 33) dX1_calledUp_33 rfl ?_
    obtain ⟨v5, hv6, h⟩ := bnd h
    refine M_aldI (pc := 35) dX1_calledUp_35 (gr_1_2 hp ha).2 hv6 ?_
    refine M_iconst (pc := 36) (v := -1) dX1_calledUp_36 (by decide) ?_
    refine M_icmp_eq (pc := 37) (tgt := 63) dX1_calledUp_37 (by decide) (fun hc7 => ?_) (fun hc7 => ?_)
    · have h := (if_pos hc7).symm.trans h
      refine M_iinc (pc := 63) (v := (x5 + (1 : Int32))) (ls' := [some (.ref a), some (.int x1), none, some (.int x3), some (.int x4), some (.int (x5 + (1 : Int32))), none]) dX1_calledUp_63 rfl rfl (by decide) rfl ?_
      refine M_goto (pc := 66) (tgt := 20) dX1_calledUp_66 (by decide) ?_
      exact ih x3 x4 (x5 + (1 : Int32)) _ h
    · have h := (if_neg hc7).symm.trans h
      refine M_aload_n (pc := 40) dX1_calledUp_40 rfl ?_
      refine M_iload_n (pc := 41) dX1_calledUp_41 rfl ?_
      refine M_iload (pc := 42) dX1_calledUp_42 rfl ?_
      obtain ⟨r8, hr9, h⟩ := bnd h
      refine M_callVi (pc := 44) dX1_calledUp_44 v_X1_39 rfl rfl ha (Nat.le_of_ble_eq_true rfl) (C_X1_distance (d := d + 1) hp ha hr9) (Nat.le_refl _) ?_
      refine M_istore (pc := 47) (ls' := [some (.ref a), some (.int x1), none, some (.int x3), some (.int x4), some (.int x5), some (.int r8)]) dX1_calledUp_47 (by decide) rfl ?_
      refine M_iload (pc := 49) dX1_calledUp_49 rfl ?_
      refine M_iload (pc := 51) dX1_calledUp_51 rfl ?_
      refine M_icmp_ge (pc := 53) (tgt := 63) dX1_calledUp_53 (by decide) (fun hc10 => ?_) (fun hc10 => ?_)
      · have h := (if_pos hc10).symm.trans h
        refine M_iinc (pc := 63) (v := (x5 + (1 : Int32))) (ls' := [some (.ref a), some (.int x1), none, some (.int x3), some (.int x4), some (.int (x5 + (1 : Int32))), some (.int r8)]) dX1_calledUp_63 rfl rfl (by decide) rfl ?_
        refine M_goto (pc := 66) (tgt := 20) dX1_calledUp_66 (by decide) ?_
        refine M_mask (pc := 20) [true, true, false, true, true, true, false] rfl ?_
        exact ih x3 x4 (x5 + (1 : Int32)) _ h
      · have h := (if_neg hc10).symm.trans h
        refine M_iload (pc := 56) dX1_calledUp_56 rfl ?_
        refine M_istore (pc := 58) (ls' := [some (.ref a), some (.int x1), none, some (.int x3), some (.int r8), some (.int x5), some (.int r8)]) dX1_calledUp_58 (by decide) rfl ?_
        refine M_iload (pc := 60) dX1_calledUp_60 rfl ?_
        refine M_istore_n (pc := 62) (ls' := [some (.ref a), some (.int x1), none, some (.int x5), some (.int r8), some (.int x5), some (.int r8)]) dX1_calledUp_62 (by decide) rfl ?_
        refine M_iinc (pc := 63) (v := (x5 + (1 : Int32))) (ls' := [some (.ref a), some (.int x1), none, some (.int x5), some (.int r8), some (.int (x5 + (1 : Int32))), some (.int r8)]) dX1_calledUp_63 rfl rfl (by decide) rfl ?_
        refine M_goto (pc := 66) (tgt := 20) dX1_calledUp_66 (by decide) ?_
        refine M_mask (pc := 20) [true, true, false, true, true, true, false] rfl ?_
        exact ih x5 r8 (x5 + (1 : Int32)) _ h
set_option maxRecDepth 4000 in
set_option maxHeartbeats 4000000 in
theorem C_X1_calledUp {g : gX} {d : Nat} {P : Nat → Nat → Option Nat} {I : HI} {a : Nat} {x1 : Int32} {x2 : Int32} {J : HJ} (hp : Wp P) (ha : OB NT a 1) {r : Int32} (h : F_X1_calledUp I a x1 x2 = some r) : Cm g mX1_calledUp (d + 2) [.ref a, .int x1, .int x2] (NT, I, J, P) (some (.int r)) (NT, I, J, P) := by
  unfold F_X1_calledUp at h
  refine Cm.of (by decide) (by simp [Value.category]) (Nat.le_of_ble_eq_true rfl) (Nat.le_refl _) (ls := [some (.ref a), some (.int x1), some (.int x2), none, none, none, none]) rfl ?_
  refine M_aload_n (pc := 0) dX1_calledUp_0 rfl ?_
  refine M_iload_n (pc := 1) dX1_calledUp_1 rfl ?_
  obtain ⟨r1, hr2, h⟩ := bnd h
  refine M_callVi (pc := 2) dX1_calledUp_2 v_X1_36 rfl rfl ha (Nat.le_of_ble_eq_true rfl) (C_X1_isHad (d := d + 0) hp ha hr2) (Nat.le_refl _) ?_
  refine M_if_eq (pc := 5) (tgt := 10) dX1_calledUp_5 (by decide) (fun hc3 => ?_) (fun hc3 => ?_)
  · have h := (if_pos hc3).symm.trans h
    refine M_iconst (pc := 10) (v := -1) dX1_calledUp_10 (by decide) ?_
    refine M_istore_n (pc := 11) (ls' := [some (.ref a), some (.int x1), some (.int x2), some (.int (-1 : Int32)), none, none, none]) dX1_calledUp_11 (by decide) rfl ?_
    refine M_iload_n (pc := 12) dX1_calledUp_12 rfl ?_
    refine M_iconst (pc := 13) (v := 1) dX1_calledUp_13 (by decide) ?_
    refine M_iadd (pc := 14) dX1_calledUp_14 ?_
    refine M_istore (pc := 15) (ls' := [some (.ref a), some (.int x1), some (.int x2), some (.int (-1 : Int32)), some (.int (x2 + (1 : Int32))), none, none]) dX1_calledUp_15 (by decide) rfl ?_
    refine M_iconst (pc := 17) (v := 0) dX1_calledUp_17 (by decide) ?_
    refine M_istore (pc := 18) (ls' := [some (.ref a), some (.int x1), some (.int x2), some (.int (-1 : Int32)), some (.int (x2 + (1 : Int32))), some (.int (0 : Int32)), none]) dX1_calledUp_18 (by decide) rfl ?_
    refine M_mask (pc := 20) [true, true, false, true, true, true, false] rfl ?_
    exact LC_X1_calledUp_20 (P := P) hp ha (-1 : Int32) (x2 + (1 : Int32)) (0 : Int32) _ h
  · have h := (if_neg hc3).symm.trans h
    refine M_iload_n (pc := 8) dX1_calledUp_8 rfl ?_
    obtain rfl := Option.some.inj h
    exact M_iret (pc := 9) dX1_calledUp_9 rfl rfl rfl rfl
def L_X1_earliestBehind_4 (I : HI) (a : Nat) (x1 : Int32) (x2 : Int32) (x3 : Int32) : Option (Int32) :=
  if (I a 0) ≤ x3 then some x2 else (ald 12 (I (a + 2)) x3) >>= fun v2 => if v2 ≤ x1 then L_X1_earliestBehind_4 I a x1 x2 (x3 + (1 : Int32)) else if x2 = (-1 : Int32) then L_X1_earliestBehind_4 I a x1 x3 (x3 + (1 : Int32)) else (ald 12 (I (a + 2)) x3) >>= fun v6 => (ald 12 (I (a + 2)) x2) >>= fun v8 => if v8 ≤ v6 then L_X1_earliestBehind_4 I a x1 x2 (x3 + (1 : Int32)) else L_X1_earliestBehind_4 I a x1 x3 (x3 + (1 : Int32))
partial_fixpoint
def F_X1_earliestBehind (I : HI) (a : Nat) (x1 : Int32) : Option (Int32) :=
  L_X1_earliestBehind_4 I a x1 (-1 : Int32) (0 : Int32)
set_option maxRecDepth 4000 in
set_option maxHeartbeats 4000000 in
theorem LC_X1_earliestBehind_4 {g : gX} {d : Nat} {P : Nat → Nat → Option Nat} {J : HJ} {I : HI} {a : Nat} {x1 : Int32} (hp : Wp P) (ha : OB NT a 1) : ∀ (x2 : Int32) (x3 : Int32) (r : Int32), L_X1_earliestBehind_4 I a x1 x2 x3 = some r → M g mX1_earliestBehind (d + 0) (NT, NT, 0) ((.inl (some (.int r))), (NT, I, J, P)) 4 [some (.ref a), some (.int x1), some (.int x2), some (.int x3)] [] (NT, I, J, P) := by
  refine L_X1_earliestBehind_4.partial_correctness I a x1 (fun x2 x3 r => M g mX1_earliestBehind (d + 0) (NT, NT, 0) ((.inl (some (.int r))), (NT, I, J, P)) 4 [some (.ref a), some (.int x1), some (.int x2), some (.int x3)] [] (NT, I, J, P)) ?_
  intro f ih x2 x3 r h
  refine M_iload_n (pc := 4) dX1_earliestBehind_4 rfl ?_
  refine M_aload_n (pc := 5) dX1_earliestBehind_5 rfl ?_
  refine M_getI (pc := 6) dX1_earliestBehind_6 f_X1_9 ha ?_
  refine M_icmp_ge (pc := 9) (tgt := 50) dX1_earliestBehind_9 (by decide) (fun hc1 => ?_) (fun hc1 => ?_)
  · have h := (if_pos hc1).symm.trans h
    refine M_iload_n (pc := 50) dX1_earliestBehind_50 rfl ?_
    obtain rfl := Option.some.inj h
    exact M_iret (pc := 51) dX1_earliestBehind_51 rfl rfl rfl rfl
  · have h := (if_neg hc1).symm.trans h
    refine M_aload_n (pc := 12) dX1_earliestBehind_12 rfl ?_
    refine M_getR (pc := 13) dX1_earliestBehind_13 f_X1_19 ha (gr_1_2 hp ha).1 ?_
    refine M_iload_n (pc := 16) dX1_earliestBehind_16 rfl ?_
    obtain ⟨v2, hv3, h⟩ := bnd h
    refine M_aldI (pc := 17) dX1_earliestBehind_17 (gr_1_2 hp ha).2 hv3 ?_
    refine M_iload_n (pc := 18) dX1_earliestBehind_18 rfl ?_
    refine M_icmp_le (pc := 19) (tgt := 44) dX1_earliestBehind_19 (by decide) (fun hc4 => ?_) (fun hc4 => ?_)
    · have h := (if_pos hc4).symm.trans h
      refine M_iinc (pc := 44) (v := (x3 + (1 : Int32))) (ls' := [some (.ref a), some (.int x1), some (.int x2), some (.int (x3 + (1 : Int32)))]) dX1_earliestBehind_44 rfl rfl (by decide) rfl ?_
      refine M_goto (pc := 47) (tgt := 4) dX1_earliestBehind_47 (by decide) ?_
      exact ih x2 (x3 + (1 : Int32)) _ h
    · have h := (if_neg hc4).symm.trans h
      refine M_iload_n (pc := 22) dX1_earliestBehind_22 rfl ?_
      refine M_iconst (pc := 23) (v := -1) dX1_earliestBehind_23 (by decide) ?_
      refine M_icmp_eq (pc := 24) (tgt := 42) dX1_earliestBehind_24 (by decide) (fun hc5 => ?_) (fun hc5 => ?_)
      · have h := (if_pos hc5).symm.trans h
        refine M_iload_n (pc := 42) dX1_earliestBehind_42 rfl ?_
        refine M_istore_n (pc := 43) (ls' := [some (.ref a), some (.int x1), some (.int x3), some (.int x3)]) dX1_earliestBehind_43 (by decide) rfl ?_
        refine M_iinc (pc := 44) (v := (x3 + (1 : Int32))) (ls' := [some (.ref a), some (.int x1), some (.int x3), some (.int (x3 + (1 : Int32)))]) dX1_earliestBehind_44 rfl rfl (by decide) rfl ?_
        refine M_goto (pc := 47) (tgt := 4) dX1_earliestBehind_47 (by decide) ?_
        exact ih x3 (x3 + (1 : Int32)) _ h
      · have h := (if_neg hc5).symm.trans h
        refine M_aload_n (pc := 27) dX1_earliestBehind_27 rfl ?_
        refine M_getR (pc := 28) dX1_earliestBehind_28 f_X1_19 ha (gr_1_2 hp ha).1 ?_
        refine M_iload_n (pc := 31) dX1_earliestBehind_31 rfl ?_
        obtain ⟨v6, hv7, h⟩ := bnd h
        refine M_aldI (pc := 32) dX1_earliestBehind_32 (gr_1_2 hp ha).2 hv7 ?_
        refine M_aload_n (pc := 33) dX1_earliestBehind_33 rfl ?_
        refine M_getR (pc := 34) dX1_earliestBehind_34 f_X1_19 ha (gr_1_2 hp ha).1 ?_
        refine M_iload_n (pc := 37) dX1_earliestBehind_37 rfl ?_
        obtain ⟨v8, hv9, h⟩ := bnd h
        refine M_aldI (pc := 38) dX1_earliestBehind_38 (gr_1_2 hp ha).2 hv9 ?_
        refine M_icmp_ge (pc := 39) (tgt := 44) dX1_earliestBehind_39 (by decide) (fun hc10 => ?_) (fun hc10 => ?_)
        · have h := (if_pos hc10).symm.trans h
          refine M_iinc (pc := 44) (v := (x3 + (1 : Int32))) (ls' := [some (.ref a), some (.int x1), some (.int x2), some (.int (x3 + (1 : Int32)))]) dX1_earliestBehind_44 rfl rfl (by decide) rfl ?_
          refine M_goto (pc := 47) (tgt := 4) dX1_earliestBehind_47 (by decide) ?_
          exact ih x2 (x3 + (1 : Int32)) _ h
        · have h := (if_neg hc10).symm.trans h
          refine M_iload_n (pc := 42) dX1_earliestBehind_42 rfl ?_
          refine M_istore_n (pc := 43) (ls' := [some (.ref a), some (.int x1), some (.int x3), some (.int x3)]) dX1_earliestBehind_43 (by decide) rfl ?_
          refine M_iinc (pc := 44) (v := (x3 + (1 : Int32))) (ls' := [some (.ref a), some (.int x1), some (.int x3), some (.int (x3 + (1 : Int32)))]) dX1_earliestBehind_44 rfl rfl (by decide) rfl ?_
          refine M_goto (pc := 47) (tgt := 4) dX1_earliestBehind_47 (by decide) ?_
          exact ih x3 (x3 + (1 : Int32)) _ h
set_option maxRecDepth 4000 in
set_option maxHeartbeats 4000000 in
theorem C_X1_earliestBehind {g : gX} {d : Nat} {P : Nat → Nat → Option Nat} {I : HI} {a : Nat} {x1 : Int32} {J : HJ} (hp : Wp P) (ha : OB NT a 1) {r : Int32} (h : F_X1_earliestBehind I a x1 = some r) : Cm g mX1_earliestBehind (d + 0) [.ref a, .int x1] (NT, I, J, P) (some (.int r)) (NT, I, J, P) := by
  unfold F_X1_earliestBehind at h
  refine Cm.of (by decide) (by simp [Value.category]) (Nat.le_of_ble_eq_true rfl) (Nat.le_refl _) (ls := [some (.ref a), some (.int x1), none, none]) rfl ?_
  refine M_iconst (pc := 0) (v := -1) dX1_earliestBehind_0 (by decide) ?_
  refine M_istore_n (pc := 1) (ls' := [some (.ref a), some (.int x1), some (.int (-1 : Int32)), none]) dX1_earliestBehind_1 (by decide) rfl ?_
  refine M_iconst (pc := 2) (v := 0) dX1_earliestBehind_2 (by decide) ?_
  refine M_istore_n (pc := 3) (ls' := [some (.ref a), some (.int x1), some (.int (-1 : Int32)), some (.int (0 : Int32))]) dX1_earliestBehind_3 (by decide) rfl ?_
  exact LC_X1_earliestBehind_4 (P := P) hp ha (-1 : Int32) (0 : Int32) _ h
def L_X1_firstIn_5 (I : HI) (a : Nat) (x1 : Int32) (x2 : Int32) (x3 : Int32) (x4 : Int32) : Option (Int32) :=
  if (I a 0) ≤ x4 then some x3 else (ald 12 (I (a + 2)) x4) >>= fun v2 => if v2 = (-1 : Int32) then L_X1_firstIn_5 I a x1 x2 x3 (x4 + (1 : Int32)) else (ald 12 (I (a + 2)) x4) >>= fun v5 => if v5 < x1 then L_X1_firstIn_5 I a x1 x2 x3 (x4 + (1 : Int32)) else (ald 12 (I (a + 2)) x4) >>= fun v8 => if x2 < v8 then L_X1_firstIn_5 I a x1 x2 x3 (x4 + (1 : Int32)) else L_X1_firstIn_5 I a x1 x2 (x3 ||| ((1 : Int32) <<< (x4 &&& 31))) (x4 + (1 : Int32))
partial_fixpoint
def F_X1_firstIn (I : HI) (a : Nat) (x1 : Int32) (x2 : Int32) : Option (Int32) :=
  L_X1_firstIn_5 I a x1 x2 (0 : Int32) (0 : Int32)
set_option maxRecDepth 4000 in
set_option maxHeartbeats 4000000 in
theorem LC_X1_firstIn_5 {g : gX} {d : Nat} {P : Nat → Nat → Option Nat} {J : HJ} {I : HI} {a : Nat} {x1 : Int32} {x2 : Int32} (hp : Wp P) (ha : OB NT a 1) : ∀ (x3 : Int32) (x4 : Int32) (r : Int32), L_X1_firstIn_5 I a x1 x2 x3 x4 = some r → M g mX1_firstIn (d + 0) (NT, NT, 0) ((.inl (some (.int r))), (NT, I, J, P)) 5 [some (.ref a), some (.int x1), some (.int x2), some (.int x3), some (.int x4)] [] (NT, I, J, P) := by
  refine L_X1_firstIn_5.partial_correctness I a x1 x2 (fun x3 x4 r => M g mX1_firstIn (d + 0) (NT, NT, 0) ((.inl (some (.int r))), (NT, I, J, P)) 5 [some (.ref a), some (.int x1), some (.int x2), some (.int x3), some (.int x4)] [] (NT, I, J, P)) ?_
  intro f ih x3 x4 r h
  refine M_iload (pc := 5) dX1_firstIn_5 rfl ?_
  refine M_aload_n (pc := 7) dX1_firstIn_7 rfl ?_
  refine M_getI (pc := 8) dX1_firstIn_8 f_X1_9 ha ?_
  refine M_icmp_ge (pc := 11) (tgt := 60) dX1_firstIn_11 (by decide) (fun hc1 => ?_) (fun hc1 => ?_)
  · have h := (if_pos hc1).symm.trans h
    refine M_iload_n (pc := 60) dX1_firstIn_60 rfl ?_
    obtain rfl := Option.some.inj h
    exact M_iret (pc := 61) dX1_firstIn_61 rfl rfl rfl rfl
  · have h := (if_neg hc1).symm.trans h
    refine M_aload_n (pc := 14) dX1_firstIn_14 rfl ?_
    refine M_getR (pc := 15) dX1_firstIn_15 f_X1_19 ha (gr_1_2 hp ha).1 ?_
    refine M_iload (pc := 18) dX1_firstIn_18 rfl ?_
    obtain ⟨v2, hv3, h⟩ := bnd h
    refine M_aldI (pc := 20) dX1_firstIn_20 (gr_1_2 hp ha).2 hv3 ?_
    refine M_iconst (pc := 21) (v := -1) dX1_firstIn_21 (by decide) ?_
    refine M_icmp_eq (pc := 22) (tgt := 54) dX1_firstIn_22 (by decide) (fun hc4 => ?_) (fun hc4 => ?_)
    · have h := (if_pos hc4).symm.trans h
      refine M_iinc (pc := 54) (v := (x4 + (1 : Int32))) (ls' := [some (.ref a), some (.int x1), some (.int x2), some (.int x3), some (.int (x4 + (1 : Int32)))]) dX1_firstIn_54 rfl rfl (by decide) rfl ?_
      refine M_goto (pc := 57) (tgt := 5) dX1_firstIn_57 (by decide) ?_
      exact ih x3 (x4 + (1 : Int32)) _ h
    · have h := (if_neg hc4).symm.trans h
      refine M_aload_n (pc := 25) dX1_firstIn_25 rfl ?_
      refine M_getR (pc := 26) dX1_firstIn_26 f_X1_19 ha (gr_1_2 hp ha).1 ?_
      refine M_iload (pc := 29) dX1_firstIn_29 rfl ?_
      obtain ⟨v5, hv6, h⟩ := bnd h
      refine M_aldI (pc := 31) dX1_firstIn_31 (gr_1_2 hp ha).2 hv6 ?_
      refine M_iload_n (pc := 32) dX1_firstIn_32 rfl ?_
      refine M_icmp_lt (pc := 33) (tgt := 54) dX1_firstIn_33 (by decide) (fun hc7 => ?_) (fun hc7 => ?_)
      · have h := (if_pos hc7).symm.trans h
        refine M_iinc (pc := 54) (v := (x4 + (1 : Int32))) (ls' := [some (.ref a), some (.int x1), some (.int x2), some (.int x3), some (.int (x4 + (1 : Int32)))]) dX1_firstIn_54 rfl rfl (by decide) rfl ?_
        refine M_goto (pc := 57) (tgt := 5) dX1_firstIn_57 (by decide) ?_
        exact ih x3 (x4 + (1 : Int32)) _ h
      · have h := (if_neg hc7).symm.trans h
        refine M_aload_n (pc := 36) dX1_firstIn_36 rfl ?_
        refine M_getR (pc := 37) dX1_firstIn_37 f_X1_19 ha (gr_1_2 hp ha).1 ?_
        refine M_iload (pc := 40) dX1_firstIn_40 rfl ?_
        obtain ⟨v8, hv9, h⟩ := bnd h
        refine M_aldI (pc := 42) dX1_firstIn_42 (gr_1_2 hp ha).2 hv9 ?_
        refine M_iload_n (pc := 43) dX1_firstIn_43 rfl ?_
        refine M_icmp_gt (pc := 44) (tgt := 54) dX1_firstIn_44 (by decide) (fun hc10 => ?_) (fun hc10 => ?_)
        · have h := (if_pos hc10).symm.trans h
          refine M_iinc (pc := 54) (v := (x4 + (1 : Int32))) (ls' := [some (.ref a), some (.int x1), some (.int x2), some (.int x3), some (.int (x4 + (1 : Int32)))]) dX1_firstIn_54 rfl rfl (by decide) rfl ?_
          refine M_goto (pc := 57) (tgt := 5) dX1_firstIn_57 (by decide) ?_
          exact ih x3 (x4 + (1 : Int32)) _ h
        · have h := (if_neg hc10).symm.trans h
          refine M_iload_n (pc := 47) dX1_firstIn_47 rfl ?_
          refine M_iconst (pc := 48) (v := 1) dX1_firstIn_48 (by decide) ?_
          refine M_iload (pc := 49) dX1_firstIn_49 rfl ?_
          refine M_ishl (pc := 51) dX1_firstIn_51 ?_
          refine M_ior (pc := 52) dX1_firstIn_52 ?_
          refine M_istore_n (pc := 53) (ls' := [some (.ref a), some (.int x1), some (.int x2), some (.int (x3 ||| ((1 : Int32) <<< (x4 &&& 31)))), some (.int x4)]) dX1_firstIn_53 (by decide) rfl ?_
          refine M_iinc (pc := 54) (v := (x4 + (1 : Int32))) (ls' := [some (.ref a), some (.int x1), some (.int x2), some (.int (x3 ||| ((1 : Int32) <<< (x4 &&& 31)))), some (.int (x4 + (1 : Int32)))]) dX1_firstIn_54 rfl rfl (by decide) rfl ?_
          refine M_goto (pc := 57) (tgt := 5) dX1_firstIn_57 (by decide) ?_
          exact ih (x3 ||| ((1 : Int32) <<< (x4 &&& 31))) (x4 + (1 : Int32)) _ h
set_option maxRecDepth 4000 in
set_option maxHeartbeats 4000000 in
theorem C_X1_firstIn {g : gX} {d : Nat} {P : Nat → Nat → Option Nat} {I : HI} {a : Nat} {x1 : Int32} {x2 : Int32} {J : HJ} (hp : Wp P) (ha : OB NT a 1) {r : Int32} (h : F_X1_firstIn I a x1 x2 = some r) : Cm g mX1_firstIn (d + 0) [.ref a, .int x1, .int x2] (NT, I, J, P) (some (.int r)) (NT, I, J, P) := by
  unfold F_X1_firstIn at h
  refine Cm.of (by decide) (by simp [Value.category]) (Nat.le_of_ble_eq_true rfl) (Nat.le_refl _) (ls := [some (.ref a), some (.int x1), some (.int x2), none, none]) rfl ?_
  refine M_iconst (pc := 0) (v := 0) dX1_firstIn_0 (by decide) ?_
  refine M_istore_n (pc := 1) (ls' := [some (.ref a), some (.int x1), some (.int x2), some (.int (0 : Int32)), none]) dX1_firstIn_1 (by decide) rfl ?_
  refine M_iconst (pc := 2) (v := 0) dX1_firstIn_2 (by decide) ?_
  refine M_istore (pc := 3) (ls' := [some (.ref a), some (.int x1), some (.int x2), some (.int (0 : Int32)), some (.int (0 : Int32))]) dX1_firstIn_3 (by decide) rfl ?_
  exact LC_X1_firstIn_5 (P := P) hp ha (0 : Int32) (0 : Int32) _ h
def F_X1_inDecade (I : HI) (a : Nat) (x1 : Int32) : Option (Int32) :=
  if 0 ≤ x1 then (F_X1_firstIn I a (x1 * (10 : Int32)) ((x1 * (10 : Int32)) + (9 : Int32))) >>= fun r2 => some r2 else some (0 : Int32)
set_option maxRecDepth 4000 in
set_option maxHeartbeats 4000000 in
theorem C_X1_inDecade {g : gX} {d : Nat} {P : Nat → Nat → Option Nat} {I : HI} {a : Nat} {x1 : Int32} {J : HJ} (hp : Wp P) (ha : OB NT a 1) {r : Int32} (h : F_X1_inDecade I a x1 = some r) : Cm g mX1_inDecade (d + 1) [.ref a, .int x1] (NT, I, J, P) (some (.int r)) (NT, I, J, P) := by
  unfold F_X1_inDecade at h
  refine Cm.of (by decide) (by simp [Value.category]) (Nat.le_of_ble_eq_true rfl) (Nat.le_refl _) (ls := [some (.ref a), some (.int x1)]) rfl ?_
  refine M_iload_n (pc := 0) dX1_inDecade_0 rfl ?_
  refine M_if_ge (pc := 1) (tgt := 8) dX1_inDecade_1 (by decide) (fun hc1 => ?_) (fun hc1 => ?_)
  · have h := (if_pos hc1).symm.trans h
    refine M_aload_n (pc := 8) dX1_inDecade_8 rfl ?_
    refine M_iload_n (pc := 9) dX1_inDecade_9 rfl ?_
    refine M_bipush (pc := 10) (v := 10) dX1_inDecade_10 (by decide) ?_
    refine M_imul (pc := 12) dX1_inDecade_12 ?_
    refine M_iload_n (pc := 13) dX1_inDecade_13 rfl ?_
    refine M_bipush (pc := 14) (v := 10) dX1_inDecade_14 (by decide) ?_
    refine M_imul (pc := 16) dX1_inDecade_16 ?_
    refine M_bipush (pc := 17) (v := 9) dX1_inDecade_17 (by decide) ?_
    refine M_iadd (pc := 19) dX1_inDecade_19 ?_
    obtain ⟨r2, hr3, h⟩ := bnd h
    refine M_callVi (pc := 20) dX1_inDecade_20 v_X1_32 rfl rfl ha (Nat.le_of_ble_eq_true rfl) (C_X1_firstIn (d := d + 0) hp ha hr3) (Nat.le_refl _) ?_
    obtain rfl := Option.some.inj h
    exact M_iret (pc := 23) dX1_inDecade_23 rfl rfl rfl rfl
  · have h := (if_neg hc1).symm.trans h
    refine M_iconst (pc := 4) (v := 0) dX1_inDecade_4 (by decide) ?_
    refine M_goto (pc := 5) (tgt := 23) dX1_inDecade_5 (by decide) ?_
    obtain rfl := Option.some.inj h
    exact M_iret (pc := 23) dX1_inDecade_23 rfl rfl rfl rfl
def F_X1_inAge (I : HI) (a : Nat) (x1 : Int32) : Option (Int32) :=
  (F_X1_firstIn I a (x1 * (100 : Int32)) ((x1 * (100 : Int32)) + (99 : Int32))) >>= fun r1 => some r1
set_option maxRecDepth 4000 in
set_option maxHeartbeats 4000000 in
theorem C_X1_inAge {g : gX} {d : Nat} {P : Nat → Nat → Option Nat} {I : HI} {a : Nat} {x1 : Int32} {J : HJ} (hp : Wp P) (ha : OB NT a 1) {r : Int32} (h : F_X1_inAge I a x1 = some r) : Cm g mX1_inAge (d + 1) [.ref a, .int x1] (NT, I, J, P) (some (.int r)) (NT, I, J, P) := by
  unfold F_X1_inAge at h
  refine Cm.of (by decide) (by simp [Value.category]) (Nat.le_of_ble_eq_true rfl) (Nat.le_refl _) (ls := [some (.ref a), some (.int x1)]) rfl ?_
  refine M_aload_n (pc := 0) dX1_inAge_0 rfl ?_
  refine M_iload_n (pc := 1) dX1_inAge_1 rfl ?_
  refine M_bipush (pc := 2) (v := 100) dX1_inAge_2 (by decide) ?_
  refine M_imul (pc := 4) dX1_inAge_4 ?_
  refine M_iload_n (pc := 5) dX1_inAge_5 rfl ?_
  refine M_bipush (pc := 6) (v := 100) dX1_inAge_6 (by decide) ?_
  refine M_imul (pc := 8) dX1_inAge_8 ?_
  refine M_bipush (pc := 9) (v := 99) dX1_inAge_9 (by decide) ?_
  refine M_iadd (pc := 11) dX1_inAge_11 ?_
  obtain ⟨r1, hr2, h⟩ := bnd h
  refine M_callVi (pc := 12) dX1_inAge_12 v_X1_32 rfl rfl ha (Nat.le_of_ble_eq_true rfl) (C_X1_firstIn (d := d + 0) hp ha hr2) (Nat.le_refl _) ?_
  obtain rfl := Option.some.inj h
  exact M_iret (pc := 15) dX1_inAge_15 rfl rfl rfl rfl
def L_X1_leastOfAge_8 (I : HI) (a : Nat) (x2 : Int32) (x3 : Int32) : Option (Int32) :=
  if (I a 0) ≤ x3 then some (-1 : Int32) else if ((x2 >>> (x3 &&& 31)) &&& (1 : Int32)) = 0 then L_X1_leastOfAge_8 I a x2 (x3 + (1 : Int32)) else some x3
partial_fixpoint
def F_X1_leastOfAge (I : HI) (a : Nat) (x1 : Int32) : Option (Int32) :=
  (F_X1_inAge I a x1) >>= fun r1 => L_X1_leastOfAge_8 I a r1 (0 : Int32)
set_option maxRecDepth 4000 in
set_option maxHeartbeats 4000000 in
theorem LC_X1_leastOfAge_8 {g : gX} {d : Nat} {P : Nat → Nat → Option Nat} {J : HJ} {I : HI} {a : Nat} {x2 : Int32} (hp : Wp P) (ha : OB NT a 1) : ∀ (x3 : Int32) (r : Int32), L_X1_leastOfAge_8 I a x2 x3 = some r → M g mX1_leastOfAge (d + 2) (NT, NT, 0) ((.inl (some (.int r))), (NT, I, J, P)) 8 [some (.ref a), none, some (.int x2), some (.int x3)] [] (NT, I, J, P) := by
  refine L_X1_leastOfAge_8.partial_correctness I a x2 (fun x3 r => M g mX1_leastOfAge (d + 2) (NT, NT, 0) ((.inl (some (.int r))), (NT, I, J, P)) 8 [some (.ref a), none, some (.int x2), some (.int x3)] [] (NT, I, J, P)) ?_
  intro f ih x3 r h
  refine M_iload_n (pc := 8) dX1_leastOfAge_8 rfl ?_
  refine M_aload_n (pc := 9) dX1_leastOfAge_9 rfl ?_
  refine M_getI (pc := 10) dX1_leastOfAge_10 f_X1_9 ha ?_
  refine M_icmp_ge (pc := 13) (tgt := 32) dX1_leastOfAge_13 (by decide) (fun hc3 => ?_) (fun hc3 => ?_)
  · have h := (if_pos hc3).symm.trans h
    refine M_iconst (pc := 32) (v := -1) dX1_leastOfAge_32 (by decide) ?_
    obtain rfl := Option.some.inj h
    exact M_iret (pc := 33) dX1_leastOfAge_33 rfl rfl rfl rfl
  · have h := (if_neg hc3).symm.trans h
    refine M_iload_n (pc := 16) dX1_leastOfAge_16 rfl ?_
    refine M_iload_n (pc := 17) dX1_leastOfAge_17 rfl ?_
    refine M_ishr (pc := 18) dX1_leastOfAge_18 ?_
    refine M_iconst (pc := 19) (v := 1) dX1_leastOfAge_19 (by decide) ?_
    refine M_iand (pc := 20) dX1_leastOfAge_20 ?_
    refine M_if_eq (pc := 21) (tgt := 26) dX1_leastOfAge_21 (by decide) (fun hc4 => ?_) (fun hc4 => ?_)
    · have h := (if_pos hc4).symm.trans h
      refine M_iinc (pc := 26) (v := (x3 + (1 : Int32))) (ls' := [some (.ref a), none, some (.int x2), some (.int (x3 + (1 : Int32)))]) dX1_leastOfAge_26 rfl rfl (by decide) rfl ?_
      refine M_goto (pc := 29) (tgt := 8) dX1_leastOfAge_29 (by decide) ?_
      exact ih (x3 + (1 : Int32)) _ h
    · have h := (if_neg hc4).symm.trans h
      refine M_iload_n (pc := 24) dX1_leastOfAge_24 rfl ?_
      obtain rfl := Option.some.inj h
      exact M_iret (pc := 25) dX1_leastOfAge_25 rfl rfl rfl rfl
set_option maxRecDepth 4000 in
set_option maxHeartbeats 4000000 in
theorem C_X1_leastOfAge {g : gX} {d : Nat} {P : Nat → Nat → Option Nat} {I : HI} {a : Nat} {x1 : Int32} {J : HJ} (hp : Wp P) (ha : OB NT a 1) {r : Int32} (h : F_X1_leastOfAge I a x1 = some r) : Cm g mX1_leastOfAge (d + 2) [.ref a, .int x1] (NT, I, J, P) (some (.int r)) (NT, I, J, P) := by
  unfold F_X1_leastOfAge at h
  refine Cm.of (by decide) (by simp [Value.category]) (Nat.le_of_ble_eq_true rfl) (Nat.le_refl _) (ls := [some (.ref a), some (.int x1), none, none]) rfl ?_
  refine M_aload_n (pc := 0) dX1_leastOfAge_0 rfl ?_
  refine M_iload_n (pc := 1) dX1_leastOfAge_1 rfl ?_
  obtain ⟨r1, hr2, h⟩ := bnd h
  refine M_callVi (pc := 2) dX1_leastOfAge_2 v_X1_42 rfl rfl ha (Nat.le_of_ble_eq_true rfl) (C_X1_inAge (d := d + 0) hp ha hr2) (Nat.le_refl _) ?_
  refine M_istore_n (pc := 5) (ls' := [some (.ref a), some (.int x1), some (.int r1), none]) dX1_leastOfAge_5 (by decide) rfl ?_
  refine M_iconst (pc := 6) (v := 0) dX1_leastOfAge_6 (by decide) ?_
  refine M_istore_n (pc := 7) (ls' := [some (.ref a), some (.int x1), some (.int r1), some (.int (0 : Int32))]) dX1_leastOfAge_7 (by decide) rfl ?_
  refine M_mask (pc := 8) [true, false, true, true] rfl ?_
  exact LC_X1_leastOfAge_8 (P := P) hp ha (0 : Int32) _ h
def L_X1_hadAt_4 (I : HI) (a : Nat) (x1 : Int32) (x2 : Int32) (x3 : Int32) : Option (Int32) :=
  if (I a 0) ≤ x3 then some x2 else (ald 12 (I (a + 2)) x3) >>= fun v2 => if v2 = (-1 : Int32) then L_X1_hadAt_4 I a x1 x2 (x3 + (1 : Int32)) else (ald 12 (I (a + 3)) x3) >>= fun v5 => if v5 = x1 then L_X1_hadAt_4 I a x1 (x2 ||| ((1 : Int32) <<< (x3 &&& 31))) (x3 + (1 : Int32)) else L_X1_hadAt_4 I a x1 x2 (x3 + (1 : Int32))
partial_fixpoint
def F_X1_hadAt (I : HI) (a : Nat) (x1 : Int32) : Option (Int32) :=
  L_X1_hadAt_4 I a x1 (0 : Int32) (0 : Int32)
set_option maxRecDepth 4000 in
set_option maxHeartbeats 4000000 in
theorem LC_X1_hadAt_4 {g : gX} {d : Nat} {P : Nat → Nat → Option Nat} {J : HJ} {I : HI} {a : Nat} {x1 : Int32} (hp : Wp P) (ha : OB NT a 1) : ∀ (x2 : Int32) (x3 : Int32) (r : Int32), L_X1_hadAt_4 I a x1 x2 x3 = some r → M g mX1_hadAt (d + 0) (NT, NT, 0) ((.inl (some (.int r))), (NT, I, J, P)) 4 [some (.ref a), some (.int x1), some (.int x2), some (.int x3)] [] (NT, I, J, P) := by
  refine L_X1_hadAt_4.partial_correctness I a x1 (fun x2 x3 r => M g mX1_hadAt (d + 0) (NT, NT, 0) ((.inl (some (.int r))), (NT, I, J, P)) 4 [some (.ref a), some (.int x1), some (.int x2), some (.int x3)] [] (NT, I, J, P)) ?_
  intro f ih x2 x3 r h
  refine M_iload_n (pc := 4) dX1_hadAt_4 rfl ?_
  refine M_aload_n (pc := 5) dX1_hadAt_5 rfl ?_
  refine M_getI (pc := 6) dX1_hadAt_6 f_X1_9 ha ?_
  refine M_icmp_ge (pc := 9) (tgt := 44) dX1_hadAt_9 (by decide) (fun hc1 => ?_) (fun hc1 => ?_)
  · have h := (if_pos hc1).symm.trans h
    refine M_iload_n (pc := 44) dX1_hadAt_44 rfl ?_
    obtain rfl := Option.some.inj h
    exact M_iret (pc := 45) dX1_hadAt_45 rfl rfl rfl rfl
  · have h := (if_neg hc1).symm.trans h
    refine M_aload_n (pc := 12) dX1_hadAt_12 rfl ?_
    refine M_getR (pc := 13) dX1_hadAt_13 f_X1_19 ha (gr_1_2 hp ha).1 ?_
    refine M_iload_n (pc := 16) dX1_hadAt_16 rfl ?_
    obtain ⟨v2, hv3, h⟩ := bnd h
    refine M_aldI (pc := 17) dX1_hadAt_17 (gr_1_2 hp ha).2 hv3 ?_
    refine M_iconst (pc := 18) (v := -1) dX1_hadAt_18 (by decide) ?_
    refine M_icmp_eq (pc := 19) (tgt := 38) dX1_hadAt_19 (by decide) (fun hc4 => ?_) (fun hc4 => ?_)
    · have h := (if_pos hc4).symm.trans h
      refine M_iinc (pc := 38) (v := (x3 + (1 : Int32))) (ls' := [some (.ref a), some (.int x1), some (.int x2), some (.int (x3 + (1 : Int32)))]) dX1_hadAt_38 rfl rfl (by decide) rfl ?_
      refine M_goto (pc := 41) (tgt := 4) dX1_hadAt_41 (by decide) ?_
      exact ih x2 (x3 + (1 : Int32)) _ h
    · have h := (if_neg hc4).symm.trans h
      refine M_aload_n (pc := 22) dX1_hadAt_22 rfl ?_
      refine M_getR (pc := 23) dX1_hadAt_23 f_X1_22 ha (gr_1_3 hp ha).1 ?_
      refine M_iload_n (pc := 26) dX1_hadAt_26 rfl ?_
      obtain ⟨v5, hv6, h⟩ := bnd h
      refine M_aldI (pc := 27) dX1_hadAt_27 (gr_1_3 hp ha).2 hv6 ?_
      refine M_iload_n (pc := 28) dX1_hadAt_28 rfl ?_
      refine M_icmp_ne (pc := 29) (tgt := 38) dX1_hadAt_29 (by decide) (fun hc7 => ?_) (fun hc7 => ?_)
      · have h := (if_neg hc7).symm.trans h
        refine M_iinc (pc := 38) (v := (x3 + (1 : Int32))) (ls' := [some (.ref a), some (.int x1), some (.int x2), some (.int (x3 + (1 : Int32)))]) dX1_hadAt_38 rfl rfl (by decide) rfl ?_
        refine M_goto (pc := 41) (tgt := 4) dX1_hadAt_41 (by decide) ?_
        exact ih x2 (x3 + (1 : Int32)) _ h
      · have h := (if_pos hc7).symm.trans h
        refine M_iload_n (pc := 32) dX1_hadAt_32 rfl ?_
        refine M_iconst (pc := 33) (v := 1) dX1_hadAt_33 (by decide) ?_
        refine M_iload_n (pc := 34) dX1_hadAt_34 rfl ?_
        refine M_ishl (pc := 35) dX1_hadAt_35 ?_
        refine M_ior (pc := 36) dX1_hadAt_36 ?_
        refine M_istore_n (pc := 37) (ls' := [some (.ref a), some (.int x1), some (.int (x2 ||| ((1 : Int32) <<< (x3 &&& 31)))), some (.int x3)]) dX1_hadAt_37 (by decide) rfl ?_
        refine M_iinc (pc := 38) (v := (x3 + (1 : Int32))) (ls' := [some (.ref a), some (.int x1), some (.int (x2 ||| ((1 : Int32) <<< (x3 &&& 31)))), some (.int (x3 + (1 : Int32)))]) dX1_hadAt_38 rfl rfl (by decide) rfl ?_
        refine M_goto (pc := 41) (tgt := 4) dX1_hadAt_41 (by decide) ?_
        exact ih (x2 ||| ((1 : Int32) <<< (x3 &&& 31))) (x3 + (1 : Int32)) _ h
set_option maxRecDepth 4000 in
set_option maxHeartbeats 4000000 in
theorem C_X1_hadAt {g : gX} {d : Nat} {P : Nat → Nat → Option Nat} {I : HI} {a : Nat} {x1 : Int32} {J : HJ} (hp : Wp P) (ha : OB NT a 1) {r : Int32} (h : F_X1_hadAt I a x1 = some r) : Cm g mX1_hadAt (d + 0) [.ref a, .int x1] (NT, I, J, P) (some (.int r)) (NT, I, J, P) := by
  unfold F_X1_hadAt at h
  refine Cm.of (by decide) (by simp [Value.category]) (Nat.le_of_ble_eq_true rfl) (Nat.le_refl _) (ls := [some (.ref a), some (.int x1), none, none]) rfl ?_
  refine M_iconst (pc := 0) (v := 0) dX1_hadAt_0 (by decide) ?_
  refine M_istore_n (pc := 1) (ls' := [some (.ref a), some (.int x1), some (.int (0 : Int32)), none]) dX1_hadAt_1 (by decide) rfl ?_
  refine M_iconst (pc := 2) (v := 0) dX1_hadAt_2 (by decide) ?_
  refine M_istore_n (pc := 3) (ls' := [some (.ref a), some (.int x1), some (.int (0 : Int32)), some (.int (0 : Int32))]) dX1_hadAt_3 (by decide) rfl ?_
  exact LC_X1_hadAt_4 (P := P) hp ha (0 : Int32) (0 : Int32) _ h
def L_X1_hadWith_4 (I : HI) (a : Nat) (x1 : Int32) (x2 : Int32) (x3 : Int32) : Option (Int32) :=
  if (I a 0) ≤ x3 then some x2 else (ald 12 (I (a + 2)) x3) >>= fun v2 => if v2 = (-1 : Int32) then L_X1_hadWith_4 I a x1 x2 (x3 + (1 : Int32)) else (ald 12 (I (a + 4)) x3) >>= fun v5 => if v5 = x1 then L_X1_hadWith_4 I a x1 (x2 ||| ((1 : Int32) <<< (x3 &&& 31))) (x3 + (1 : Int32)) else L_X1_hadWith_4 I a x1 x2 (x3 + (1 : Int32))
partial_fixpoint
def F_X1_hadWith (I : HI) (a : Nat) (x1 : Int32) : Option (Int32) :=
  L_X1_hadWith_4 I a x1 (0 : Int32) (0 : Int32)
set_option maxRecDepth 4000 in
set_option maxHeartbeats 4000000 in
theorem LC_X1_hadWith_4 {g : gX} {d : Nat} {P : Nat → Nat → Option Nat} {J : HJ} {I : HI} {a : Nat} {x1 : Int32} (hp : Wp P) (ha : OB NT a 1) : ∀ (x2 : Int32) (x3 : Int32) (r : Int32), L_X1_hadWith_4 I a x1 x2 x3 = some r → M g mX1_hadWith (d + 0) (NT, NT, 0) ((.inl (some (.int r))), (NT, I, J, P)) 4 [some (.ref a), some (.int x1), some (.int x2), some (.int x3)] [] (NT, I, J, P) := by
  refine L_X1_hadWith_4.partial_correctness I a x1 (fun x2 x3 r => M g mX1_hadWith (d + 0) (NT, NT, 0) ((.inl (some (.int r))), (NT, I, J, P)) 4 [some (.ref a), some (.int x1), some (.int x2), some (.int x3)] [] (NT, I, J, P)) ?_
  intro f ih x2 x3 r h
  refine M_iload_n (pc := 4) dX1_hadWith_4 rfl ?_
  refine M_aload_n (pc := 5) dX1_hadWith_5 rfl ?_
  refine M_getI (pc := 6) dX1_hadWith_6 f_X1_9 ha ?_
  refine M_icmp_ge (pc := 9) (tgt := 44) dX1_hadWith_9 (by decide) (fun hc1 => ?_) (fun hc1 => ?_)
  · have h := (if_pos hc1).symm.trans h
    refine M_iload_n (pc := 44) dX1_hadWith_44 rfl ?_
    obtain rfl := Option.some.inj h
    exact M_iret (pc := 45) dX1_hadWith_45 rfl rfl rfl rfl
  · have h := (if_neg hc1).symm.trans h
    refine M_aload_n (pc := 12) dX1_hadWith_12 rfl ?_
    refine M_getR (pc := 13) dX1_hadWith_13 f_X1_19 ha (gr_1_2 hp ha).1 ?_
    refine M_iload_n (pc := 16) dX1_hadWith_16 rfl ?_
    obtain ⟨v2, hv3, h⟩ := bnd h
    refine M_aldI (pc := 17) dX1_hadWith_17 (gr_1_2 hp ha).2 hv3 ?_
    refine M_iconst (pc := 18) (v := -1) dX1_hadWith_18 (by decide) ?_
    refine M_icmp_eq (pc := 19) (tgt := 38) dX1_hadWith_19 (by decide) (fun hc4 => ?_) (fun hc4 => ?_)
    · have h := (if_pos hc4).symm.trans h
      refine M_iinc (pc := 38) (v := (x3 + (1 : Int32))) (ls' := [some (.ref a), some (.int x1), some (.int x2), some (.int (x3 + (1 : Int32)))]) dX1_hadWith_38 rfl rfl (by decide) rfl ?_
      refine M_goto (pc := 41) (tgt := 4) dX1_hadWith_41 (by decide) ?_
      exact ih x2 (x3 + (1 : Int32)) _ h
    · have h := (if_neg hc4).symm.trans h
      refine M_aload_n (pc := 22) dX1_hadWith_22 rfl ?_
      refine M_getR (pc := 23) dX1_hadWith_23 f_X1_25 ha (gr_1_4 hp ha).1 ?_
      refine M_iload_n (pc := 26) dX1_hadWith_26 rfl ?_
      obtain ⟨v5, hv6, h⟩ := bnd h
      refine M_aldI (pc := 27) dX1_hadWith_27 (gr_1_4 hp ha).2 hv6 ?_
      refine M_iload_n (pc := 28) dX1_hadWith_28 rfl ?_
      refine M_icmp_ne (pc := 29) (tgt := 38) dX1_hadWith_29 (by decide) (fun hc7 => ?_) (fun hc7 => ?_)
      · have h := (if_neg hc7).symm.trans h
        refine M_iinc (pc := 38) (v := (x3 + (1 : Int32))) (ls' := [some (.ref a), some (.int x1), some (.int x2), some (.int (x3 + (1 : Int32)))]) dX1_hadWith_38 rfl rfl (by decide) rfl ?_
        refine M_goto (pc := 41) (tgt := 4) dX1_hadWith_41 (by decide) ?_
        exact ih x2 (x3 + (1 : Int32)) _ h
      · have h := (if_pos hc7).symm.trans h
        refine M_iload_n (pc := 32) dX1_hadWith_32 rfl ?_
        refine M_iconst (pc := 33) (v := 1) dX1_hadWith_33 (by decide) ?_
        refine M_iload_n (pc := 34) dX1_hadWith_34 rfl ?_
        refine M_ishl (pc := 35) dX1_hadWith_35 ?_
        refine M_ior (pc := 36) dX1_hadWith_36 ?_
        refine M_istore_n (pc := 37) (ls' := [some (.ref a), some (.int x1), some (.int (x2 ||| ((1 : Int32) <<< (x3 &&& 31)))), some (.int x3)]) dX1_hadWith_37 (by decide) rfl ?_
        refine M_iinc (pc := 38) (v := (x3 + (1 : Int32))) (ls' := [some (.ref a), some (.int x1), some (.int (x2 ||| ((1 : Int32) <<< (x3 &&& 31)))), some (.int (x3 + (1 : Int32)))]) dX1_hadWith_38 rfl rfl (by decide) rfl ?_
        refine M_goto (pc := 41) (tgt := 4) dX1_hadWith_41 (by decide) ?_
        exact ih (x2 ||| ((1 : Int32) <<< (x3 &&& 31))) (x3 + (1 : Int32)) _ h
set_option maxRecDepth 4000 in
set_option maxHeartbeats 4000000 in
theorem C_X1_hadWith {g : gX} {d : Nat} {P : Nat → Nat → Option Nat} {I : HI} {a : Nat} {x1 : Int32} {J : HJ} (hp : Wp P) (ha : OB NT a 1) {r : Int32} (h : F_X1_hadWith I a x1 = some r) : Cm g mX1_hadWith (d + 0) [.ref a, .int x1] (NT, I, J, P) (some (.int r)) (NT, I, J, P) := by
  unfold F_X1_hadWith at h
  refine Cm.of (by decide) (by simp [Value.category]) (Nat.le_of_ble_eq_true rfl) (Nat.le_refl _) (ls := [some (.ref a), some (.int x1), none, none]) rfl ?_
  refine M_iconst (pc := 0) (v := 0) dX1_hadWith_0 (by decide) ?_
  refine M_istore_n (pc := 1) (ls' := [some (.ref a), some (.int x1), some (.int (0 : Int32)), none]) dX1_hadWith_1 (by decide) rfl ?_
  refine M_iconst (pc := 2) (v := 0) dX1_hadWith_2 (by decide) ?_
  refine M_istore_n (pc := 3) (ls' := [some (.ref a), some (.int x1), some (.int (0 : Int32)), some (.int (0 : Int32))]) dX1_hadWith_3 (by decide) rfl ?_
  exact LC_X1_hadWith_4 (P := P) hp ha (0 : Int32) (0 : Int32) _ h
def L_X1_companyIn_18 (I : HI) (a : Nat) (x3 : Int32) (x4 : Int32) (x5 : Int32) : Option (Int32) :=
  if (I a 0) ≤ x5 then some x4 else if ((x3 >>> (x5 &&& 31)) &&& (1 : Int32)) = 0 then L_X1_companyIn_18 I a x3 x4 (x5 + (1 : Int32)) else (ald 12 (I (a + 4)) x5) >>= fun v7 => if v7 = (-1 : Int32) then L_X1_companyIn_18 I a x3 x4 (x5 + (1 : Int32)) else (ald 12 (I (a + 4)) x5) >>= fun v10 => L_X1_companyIn_18 I a x3 (x4 ||| ((1 : Int32) <<< (v10 &&& 31))) (x5 + (1 : Int32))
partial_fixpoint
def F_X1_companyIn (I : HI) (a : Nat) (x1 : Int32) (x2 : Int32) : Option (Int32) :=
  (F_X1_inAge I a x1) >>= fun r1 => (F_X1_hadAt I a x2) >>= fun r3 => L_X1_companyIn_18 I a (r1 &&& r3) (0 : Int32) (0 : Int32)
set_option maxRecDepth 4000 in
set_option maxHeartbeats 4000000 in
theorem LC_X1_companyIn_18 {g : gX} {d : Nat} {P : Nat → Nat → Option Nat} {J : HJ} {I : HI} {a : Nat} {x3 : Int32} (hp : Wp P) (ha : OB NT a 1) : ∀ (x4 : Int32) (x5 : Int32) (r : Int32), L_X1_companyIn_18 I a x3 x4 x5 = some r → M g mX1_companyIn (d + 2) (NT, NT, 0) ((.inl (some (.int r))), (NT, I, J, P)) 18 [some (.ref a), none, none, some (.int x3), some (.int x4), some (.int x5)] [] (NT, I, J, P) := by
  refine L_X1_companyIn_18.partial_correctness I a x3 (fun x4 x5 r => M g mX1_companyIn (d + 2) (NT, NT, 0) ((.inl (some (.int r))), (NT, I, J, P)) 18 [some (.ref a), none, none, some (.int x3), some (.int x4), some (.int x5)] [] (NT, I, J, P)) ?_
  intro f ih x4 x5 r h
  refine M_iload (pc := 18) dX1_companyIn_18 rfl ?_
  refine M_aload_n (pc := 20) dX1_companyIn_20 rfl ?_
  refine M_getI (pc := 21) dX1_companyIn_21 f_X1_9 ha ?_
  refine M_icmp_ge (pc := 24) (tgt := 67) dX1_companyIn_24 (by decide) (fun hc5 => ?_) (fun hc5 => ?_)
  · have h := (if_pos hc5).symm.trans h
    refine M_iload (pc := 67) dX1_companyIn_67 rfl ?_
    obtain rfl := Option.some.inj h
    exact M_iret (pc := 69) dX1_companyIn_69 rfl rfl rfl rfl
  · have h := (if_neg hc5).symm.trans h
    refine M_iload_n (pc := 27) dX1_companyIn_27 rfl ?_
    refine M_iload (pc := 28) dX1_companyIn_28 rfl ?_
    refine M_ishr (pc := 30) dX1_companyIn_30 ?_
    refine M_iconst (pc := 31) (v := 1) dX1_companyIn_31 (by decide) ?_
    refine M_iand (pc := 32) dX1_companyIn_32 ?_
    refine M_if_eq (pc := 33) (tgt := 61) dX1_companyIn_33 (by decide) (fun hc6 => ?_) (fun hc6 => ?_)
    · have h := (if_pos hc6).symm.trans h
      refine M_iinc (pc := 61) (v := (x5 + (1 : Int32))) (ls' := [some (.ref a), none, none, some (.int x3), some (.int x4), some (.int (x5 + (1 : Int32)))]) dX1_companyIn_61 rfl rfl (by decide) rfl ?_
      refine M_goto (pc := 64) (tgt := 18) dX1_companyIn_64 (by decide) ?_
      exact ih x4 (x5 + (1 : Int32)) _ h
    · have h := (if_neg hc6).symm.trans h
      refine M_aload_n (pc := 36) dX1_companyIn_36 rfl ?_
      refine M_getR (pc := 37) dX1_companyIn_37 f_X1_25 ha (gr_1_4 hp ha).1 ?_
      refine M_iload (pc := 40) dX1_companyIn_40 rfl ?_
      obtain ⟨v7, hv8, h⟩ := bnd h
      refine M_aldI (pc := 42) dX1_companyIn_42 (gr_1_4 hp ha).2 hv8 ?_
      refine M_iconst (pc := 43) (v := -1) dX1_companyIn_43 (by decide) ?_
      refine M_icmp_eq (pc := 44) (tgt := 61) dX1_companyIn_44 (by decide) (fun hc9 => ?_) (fun hc9 => ?_)
      · have h := (if_pos hc9).symm.trans h
        refine M_iinc (pc := 61) (v := (x5 + (1 : Int32))) (ls' := [some (.ref a), none, none, some (.int x3), some (.int x4), some (.int (x5 + (1 : Int32)))]) dX1_companyIn_61 rfl rfl (by decide) rfl ?_
        refine M_goto (pc := 64) (tgt := 18) dX1_companyIn_64 (by decide) ?_
        exact ih x4 (x5 + (1 : Int32)) _ h
      · have h := (if_neg hc9).symm.trans h
        refine M_iload (pc := 47) dX1_companyIn_47 rfl ?_
        refine M_iconst (pc := 49) (v := 1) dX1_companyIn_49 (by decide) ?_
        refine M_aload_n (pc := 50) dX1_companyIn_50 rfl ?_
        refine M_getR (pc := 51) dX1_companyIn_51 f_X1_25 ha (gr_1_4 hp ha).1 ?_
        refine M_iload (pc := 54) dX1_companyIn_54 rfl ?_
        obtain ⟨v10, hv11, h⟩ := bnd h
        refine M_aldI (pc := 56) dX1_companyIn_56 (gr_1_4 hp ha).2 hv11 ?_
        refine M_ishl (pc := 57) dX1_companyIn_57 ?_
        refine M_ior (pc := 58) dX1_companyIn_58 ?_
        refine M_istore (pc := 59) (ls' := [some (.ref a), none, none, some (.int x3), some (.int (x4 ||| ((1 : Int32) <<< (v10 &&& 31)))), some (.int x5)]) dX1_companyIn_59 (by decide) rfl ?_
        refine M_iinc (pc := 61) (v := (x5 + (1 : Int32))) (ls' := [some (.ref a), none, none, some (.int x3), some (.int (x4 ||| ((1 : Int32) <<< (v10 &&& 31)))), some (.int (x5 + (1 : Int32)))]) dX1_companyIn_61 rfl rfl (by decide) rfl ?_
        refine M_goto (pc := 64) (tgt := 18) dX1_companyIn_64 (by decide) ?_
        exact ih (x4 ||| ((1 : Int32) <<< (v10 &&& 31))) (x5 + (1 : Int32)) _ h
set_option maxRecDepth 4000 in
set_option maxHeartbeats 4000000 in
theorem C_X1_companyIn {g : gX} {d : Nat} {P : Nat → Nat → Option Nat} {I : HI} {a : Nat} {x1 : Int32} {x2 : Int32} {J : HJ} (hp : Wp P) (ha : OB NT a 1) {r : Int32} (h : F_X1_companyIn I a x1 x2 = some r) : Cm g mX1_companyIn (d + 2) [.ref a, .int x1, .int x2] (NT, I, J, P) (some (.int r)) (NT, I, J, P) := by
  unfold F_X1_companyIn at h
  refine Cm.of (by decide) (by simp [Value.category]) (Nat.le_of_ble_eq_true rfl) (Nat.le_refl _) (ls := [some (.ref a), some (.int x1), some (.int x2), none, none, none]) rfl ?_
  refine M_aload_n (pc := 0) dX1_companyIn_0 rfl ?_
  refine M_iload_n (pc := 1) dX1_companyIn_1 rfl ?_
  obtain ⟨r1, hr2, h⟩ := bnd h
  refine M_callVi (pc := 2) dX1_companyIn_2 v_X1_42 rfl rfl ha (Nat.le_of_ble_eq_true rfl) (C_X1_inAge (d := d + 0) hp ha hr2) (Nat.le_refl _) ?_
  refine M_aload_n (pc := 5) dX1_companyIn_5 rfl ?_
  refine M_iload_n (pc := 6) dX1_companyIn_6 rfl ?_
  obtain ⟨r3, hr4, h⟩ := bnd h
  refine M_callVi (pc := 7) dX1_companyIn_7 v_X1_46 rfl rfl ha (Nat.le_of_ble_eq_true rfl) (C_X1_hadAt (d := d + 1) hp ha hr4) (Nat.le_refl _) ?_
  refine M_iand (pc := 10) dX1_companyIn_10 ?_
  refine M_istore_n (pc := 11) (ls' := [some (.ref a), some (.int x1), some (.int x2), some (.int (r1 &&& r3)), none, none]) dX1_companyIn_11 (by decide) rfl ?_
  refine M_iconst (pc := 12) (v := 0) dX1_companyIn_12 (by decide) ?_
  refine M_istore (pc := 13) (ls' := [some (.ref a), some (.int x1), some (.int x2), some (.int (r1 &&& r3)), some (.int (0 : Int32)), none]) dX1_companyIn_13 (by decide) rfl ?_
  refine M_iconst (pc := 15) (v := 0) dX1_companyIn_15 (by decide) ?_
  refine M_istore (pc := 16) (ls' := [some (.ref a), some (.int x1), some (.int x2), some (.int (r1 &&& r3)), some (.int (0 : Int32)), some (.int (0 : Int32))]) dX1_companyIn_16 (by decide) rfl ?_
  refine M_mask (pc := 18) [true, false, false, true, true, true] rfl ?_
  exact LC_X1_companyIn_18 (P := P) hp ha (0 : Int32) (0 : Int32) _ h
def F_X1_tell (I : HI) (a : Nat) (x1 : Int32) (x2 : Int32) (x3 : Int32) (x4 : Int32) : Option (HI) :=
  (F_X1_has I a x1) >>= fun r1 => if r1 = 0 then some I else if inB x1 12 = true then if inB x1 12 = true then if inB x1 12 = true then some (up2 (up2 (up2 I (a + 2) (x1).toNatClampNeg x2) (a + 3) (x1).toNatClampNeg x3) (a + 4) (x1).toNatClampNeg x4) else none else none else none
set_option maxRecDepth 4000 in
set_option maxHeartbeats 4000000 in
theorem C_X1_tell {g : gX} {d : Nat} {P : Nat → Nat → Option Nat} {I : HI} {a : Nat} {x1 : Int32} {x2 : Int32} {x3 : Int32} {x4 : Int32} {J : HJ} (hp : Wp P) (ha : OB NT a 1) {r : HI} (h : F_X1_tell I a x1 x2 x3 x4 = some r) : Cm g mX1_tell (d + 1) [.ref a, .int x1, .int x2, .int x3, .int x4] (NT, I, J, P) none (NT, r, J, P) := by
  unfold F_X1_tell at h
  refine Cm.of (by decide) (by simp [Value.category]) (Nat.le_of_ble_eq_true rfl) (Nat.le_refl _) (ls := [some (.ref a), some (.int x1), some (.int x2), some (.int x3), some (.int x4)]) rfl ?_
  refine M_aload_n (pc := 0) dX1_tell_0 rfl ?_
  refine M_iload_n (pc := 1) dX1_tell_1 rfl ?_
  obtain ⟨r1, hr2, h⟩ := bnd h
  refine M_callVi (pc := 2) dX1_tell_2 v_X1_28 rfl rfl ha (Nat.le_of_ble_eq_true rfl) (C_X1_has (d := d + 0) hp ha hr2) (Nat.le_refl _) ?_
  refine M_if_eq (pc := 5) (tgt := 30) dX1_tell_5 (by decide) (fun hc3 => ?_) (fun hc3 => ?_)
  · have h := (if_pos hc3).symm.trans h
    obtain rfl := Option.some.inj h
    exact M_vret (pc := 30) dX1_tell_30 rfl rfl rfl
  · have h := (if_neg hc3).symm.trans h
    refine M_aload_n (pc := 8) dX1_tell_8 rfl ?_
    refine M_getR (pc := 9) dX1_tell_9 f_X1_19 ha (gr_1_2 hp ha).1 ?_
    refine M_iload_n (pc := 12) dX1_tell_12 rfl ?_
    refine M_iload_n (pc := 13) dX1_tell_13 rfl ?_
    obtain ⟨hq4, h⟩ := chk h
    refine M_iast (pc := 14) dX1_tell_14 (gr_1_2 hp ha).2 (inB_in hq4) ?_
    refine M_aload_n (pc := 15) dX1_tell_15 rfl ?_
    refine M_getR (pc := 16) dX1_tell_16 f_X1_22 ha (gr_1_3 hp ha).1 ?_
    refine M_iload_n (pc := 19) dX1_tell_19 rfl ?_
    refine M_iload_n (pc := 20) dX1_tell_20 rfl ?_
    obtain ⟨hq5, h⟩ := chk h
    refine M_iast (pc := 21) dX1_tell_21 (gr_1_3 hp ha).2 (inB_in hq5) ?_
    refine M_aload_n (pc := 22) dX1_tell_22 rfl ?_
    refine M_getR (pc := 23) dX1_tell_23 f_X1_25 ha (gr_1_4 hp ha).1 ?_
    refine M_iload_n (pc := 26) dX1_tell_26 rfl ?_
    refine M_iload (pc := 27) dX1_tell_27 rfl ?_
    obtain ⟨hq6, h⟩ := chk h
    refine M_iast (pc := 29) dX1_tell_29 (gr_1_4 hp ha).2 (inB_in hq6) ?_
    obtain rfl := Option.some.inj h
    exact M_vret (pc := 30) dX1_tell_30 rfl rfl rfl
def F_X1_add (I : HI) (a : Nat) (x1 : Int32) (x2 : Int32) (x3 : Int32) : Option (HI) :=
  if (12 : Int32) ≤ (I a 0) then some I else (F_X1_tell (up2 I a 0 ((I a 0) + (1 : Int32))) a (((I a 0) + (1 : Int32)) - (1 : Int32)) x1 x2 x3) >>= fun r2 => some r2
set_option maxRecDepth 4000 in
set_option maxHeartbeats 4000000 in
theorem C_X1_add {g : gX} {d : Nat} {P : Nat → Nat → Option Nat} {I : HI} {a : Nat} {x1 : Int32} {x2 : Int32} {x3 : Int32} {J : HJ} (hp : Wp P) (ha : OB NT a 1) {r : HI} (h : F_X1_add I a x1 x2 x3 = some r) : Cm g mX1_add (d + 2) [.ref a, .int x1, .int x2, .int x3] (NT, I, J, P) none (NT, r, J, P) := by
  unfold F_X1_add at h
  refine Cm.of (by decide) (by simp [Value.category]) (Nat.le_of_ble_eq_true rfl) (Nat.le_refl _) (ls := [some (.ref a), some (.int x1), some (.int x2), some (.int x3)]) rfl ?_
  refine M_aload_n (pc := 0) dX1_add_0 rfl ?_
  refine M_getI (pc := 1) dX1_add_1 f_X1_9 ha ?_
  refine M_bipush (pc := 4) (v := 12) dX1_add_4 (by decide) ?_
  refine M_icmp_ge (pc := 6) (tgt := 32) dX1_add_6 (by decide) (fun hc1 => ?_) (fun hc1 => ?_)
  · have h := (if_pos hc1).symm.trans h
    obtain rfl := Option.some.inj h
    exact M_vret (pc := 32) dX1_add_32 rfl rfl rfl
  · have h := (if_neg hc1).symm.trans h
    refine M_aload_n (pc := 9) dX1_add_9 rfl ?_
    refine M_dup (pc := 10) dX1_add_10 rfl ?_
    refine M_getI (pc := 11) dX1_add_11 f_X1_9 ha ?_
    refine M_iconst (pc := 14) (v := 1) dX1_add_14 (by decide) ?_
    refine M_iadd (pc := 15) dX1_add_15 ?_
    refine M_putI (pc := 16) dX1_add_16 f_X1_9 ha rfl ⟨rfl, rfl⟩ ?_
    refine M_aload_n (pc := 19) dX1_add_19 rfl ?_
    refine M_aload_n (pc := 20) dX1_add_20 rfl ?_
    refine M_getIs (pc := 21) (x := ((I a 0) + (1 : Int32))) dX1_add_21 f_X1_9 ha rd_eq ?_
    refine M_iconst (pc := 24) (v := 1) dX1_add_24 (by decide) ?_
    refine M_isub (pc := 25) dX1_add_25 ?_
    refine M_iload_n (pc := 26) dX1_add_26 rfl ?_
    refine M_iload_n (pc := 27) dX1_add_27 rfl ?_
    refine M_iload_n (pc := 28) dX1_add_28 rfl ?_
    obtain ⟨r2, hr3, h⟩ := bnd h
    refine M_callVv (pc := 29) dX1_add_29 v_X1_49 rfl rfl ha (Nat.le_of_ble_eq_true rfl) (C_X1_tell (d := d + 0) hp ha hr3) (Nat.le_refl _) ?_
    obtain rfl := Option.some.inj h
    exact M_vret (pc := 32) dX1_add_32 rfl rfl rfl
def F_X1_copy (I : HI) (a : Nat) (b1 : Nat) : Option (HI) :=
  some (up1 (up1 (up1 (up1 (up2 I a 0 (I b1 0)) (a + 1) (va_cpy ((up2 I a 0 (I b1 0)) (b1 + 1)) ((up2 I a 0 (I b1 0)) (a + 1)) 0 0 60)) (a + 2) (va_cpy ((up1 (up2 I a 0 (I b1 0)) (a + 1) (va_cpy ((up2 I a 0 (I b1 0)) (b1 + 1)) ((up2 I a 0 (I b1 0)) (a + 1)) 0 0 60)) (b1 + 2)) ((up1 (up2 I a 0 (I b1 0)) (a + 1) (va_cpy ((up2 I a 0 (I b1 0)) (b1 + 1)) ((up2 I a 0 (I b1 0)) (a + 1)) 0 0 60)) (a + 2)) 0 0 12)) (a + 3) (va_cpy ((up1 (up1 (up2 I a 0 (I b1 0)) (a + 1) (va_cpy ((up2 I a 0 (I b1 0)) (b1 + 1)) ((up2 I a 0 (I b1 0)) (a + 1)) 0 0 60)) (a + 2) (va_cpy ((up1 (up2 I a 0 (I b1 0)) (a + 1) (va_cpy ((up2 I a 0 (I b1 0)) (b1 + 1)) ((up2 I a 0 (I b1 0)) (a + 1)) 0 0 60)) (b1 + 2)) ((up1 (up2 I a 0 (I b1 0)) (a + 1) (va_cpy ((up2 I a 0 (I b1 0)) (b1 + 1)) ((up2 I a 0 (I b1 0)) (a + 1)) 0 0 60)) (a + 2)) 0 0 12)) (b1 + 3)) ((up1 (up1 (up2 I a 0 (I b1 0)) (a + 1) (va_cpy ((up2 I a 0 (I b1 0)) (b1 + 1)) ((up2 I a 0 (I b1 0)) (a + 1)) 0 0 60)) (a + 2) (va_cpy ((up1 (up2 I a 0 (I b1 0)) (a + 1) (va_cpy ((up2 I a 0 (I b1 0)) (b1 + 1)) ((up2 I a 0 (I b1 0)) (a + 1)) 0 0 60)) (b1 + 2)) ((up1 (up2 I a 0 (I b1 0)) (a + 1) (va_cpy ((up2 I a 0 (I b1 0)) (b1 + 1)) ((up2 I a 0 (I b1 0)) (a + 1)) 0 0 60)) (a + 2)) 0 0 12)) (a + 3)) 0 0 12)) (a + 4) (va_cpy ((up1 (up1 (up1 (up2 I a 0 (I b1 0)) (a + 1) (va_cpy ((up2 I a 0 (I b1 0)) (b1 + 1)) ((up2 I a 0 (I b1 0)) (a + 1)) 0 0 60)) (a + 2) (va_cpy ((up1 (up2 I a 0 (I b1 0)) (a + 1) (va_cpy ((up2 I a 0 (I b1 0)) (b1 + 1)) ((up2 I a 0 (I b1 0)) (a + 1)) 0 0 60)) (b1 + 2)) ((up1 (up2 I a 0 (I b1 0)) (a + 1) (va_cpy ((up2 I a 0 (I b1 0)) (b1 + 1)) ((up2 I a 0 (I b1 0)) (a + 1)) 0 0 60)) (a + 2)) 0 0 12)) (a + 3) (va_cpy ((up1 (up1 (up2 I a 0 (I b1 0)) (a + 1) (va_cpy ((up2 I a 0 (I b1 0)) (b1 + 1)) ((up2 I a 0 (I b1 0)) (a + 1)) 0 0 60)) (a + 2) (va_cpy ((up1 (up2 I a 0 (I b1 0)) (a + 1) (va_cpy ((up2 I a 0 (I b1 0)) (b1 + 1)) ((up2 I a 0 (I b1 0)) (a + 1)) 0 0 60)) (b1 + 2)) ((up1 (up2 I a 0 (I b1 0)) (a + 1) (va_cpy ((up2 I a 0 (I b1 0)) (b1 + 1)) ((up2 I a 0 (I b1 0)) (a + 1)) 0 0 60)) (a + 2)) 0 0 12)) (b1 + 3)) ((up1 (up1 (up2 I a 0 (I b1 0)) (a + 1) (va_cpy ((up2 I a 0 (I b1 0)) (b1 + 1)) ((up2 I a 0 (I b1 0)) (a + 1)) 0 0 60)) (a + 2) (va_cpy ((up1 (up2 I a 0 (I b1 0)) (a + 1) (va_cpy ((up2 I a 0 (I b1 0)) (b1 + 1)) ((up2 I a 0 (I b1 0)) (a + 1)) 0 0 60)) (b1 + 2)) ((up1 (up2 I a 0 (I b1 0)) (a + 1) (va_cpy ((up2 I a 0 (I b1 0)) (b1 + 1)) ((up2 I a 0 (I b1 0)) (a + 1)) 0 0 60)) (a + 2)) 0 0 12)) (a + 3)) 0 0 12)) (b1 + 4)) ((up1 (up1 (up1 (up2 I a 0 (I b1 0)) (a + 1) (va_cpy ((up2 I a 0 (I b1 0)) (b1 + 1)) ((up2 I a 0 (I b1 0)) (a + 1)) 0 0 60)) (a + 2) (va_cpy ((up1 (up2 I a 0 (I b1 0)) (a + 1) (va_cpy ((up2 I a 0 (I b1 0)) (b1 + 1)) ((up2 I a 0 (I b1 0)) (a + 1)) 0 0 60)) (b1 + 2)) ((up1 (up2 I a 0 (I b1 0)) (a + 1) (va_cpy ((up2 I a 0 (I b1 0)) (b1 + 1)) ((up2 I a 0 (I b1 0)) (a + 1)) 0 0 60)) (a + 2)) 0 0 12)) (a + 3) (va_cpy ((up1 (up1 (up2 I a 0 (I b1 0)) (a + 1) (va_cpy ((up2 I a 0 (I b1 0)) (b1 + 1)) ((up2 I a 0 (I b1 0)) (a + 1)) 0 0 60)) (a + 2) (va_cpy ((up1 (up2 I a 0 (I b1 0)) (a + 1) (va_cpy ((up2 I a 0 (I b1 0)) (b1 + 1)) ((up2 I a 0 (I b1 0)) (a + 1)) 0 0 60)) (b1 + 2)) ((up1 (up2 I a 0 (I b1 0)) (a + 1) (va_cpy ((up2 I a 0 (I b1 0)) (b1 + 1)) ((up2 I a 0 (I b1 0)) (a + 1)) 0 0 60)) (a + 2)) 0 0 12)) (b1 + 3)) ((up1 (up1 (up2 I a 0 (I b1 0)) (a + 1) (va_cpy ((up2 I a 0 (I b1 0)) (b1 + 1)) ((up2 I a 0 (I b1 0)) (a + 1)) 0 0 60)) (a + 2) (va_cpy ((up1 (up2 I a 0 (I b1 0)) (a + 1) (va_cpy ((up2 I a 0 (I b1 0)) (b1 + 1)) ((up2 I a 0 (I b1 0)) (a + 1)) 0 0 60)) (b1 + 2)) ((up1 (up2 I a 0 (I b1 0)) (a + 1) (va_cpy ((up2 I a 0 (I b1 0)) (b1 + 1)) ((up2 I a 0 (I b1 0)) (a + 1)) 0 0 60)) (a + 2)) 0 0 12)) (a + 3)) 0 0 12)) (a + 4)) 0 0 12))
set_option maxRecDepth 4000 in
set_option maxHeartbeats 4000000 in
theorem C_X1_copy {g : gX} {d : Nat} {P : Nat → Nat → Option Nat} {I : HI} {a : Nat} {b1 : Nat} {J : HJ} (hp : Wp P) (ha : OB NT a 1) (hb1 : OB NT b1 1) {r : HI} (h : F_X1_copy I a b1 = some r) : Cm g mX1_copy (d + 1) [.ref a, .ref b1] (NT, I, J, P) none (NT, r, J, P) := by
  unfold F_X1_copy at h
  refine Cm.of (by decide) (by simp [Value.category]) (Nat.le_of_ble_eq_true rfl) (Nat.le_refl _) (ls := [some (.ref a), some (.ref b1)]) rfl ?_
  refine M_aload_n (pc := 0) dX1_copy_0 rfl ?_
  refine M_aload_n (pc := 1) dX1_copy_1 rfl ?_
  refine M_getI (pc := 2) dX1_copy_2 f_X1_9 hb1 ?_
  refine M_putI (pc := 5) dX1_copy_5 f_X1_9 ha rfl ⟨rfl, rfl⟩ ?_
  refine M_aload_n (pc := 8) dX1_copy_8 rfl ?_
  refine M_getR (pc := 9) dX1_copy_9 f_X1_15 hb1 (gr_1_1 hp hb1).1 ?_
  refine M_iconst (pc := 12) (v := 0) dX1_copy_12 (by decide) ?_
  refine M_aload_n (pc := 13) dX1_copy_13 rfl ?_
  refine M_getR (pc := 14) dX1_copy_14 f_X1_15 ha (gr_1_1 hp ha).1 ?_
  refine M_iconst (pc := 17) (v := 0) dX1_copy_17 (by decide) ?_
  refine M_bipush (pc := 18) (v := 60) dX1_copy_18 (by decide) ?_
  refine M_copy0 (pc := 20) (k := 60) dX1_copy_20 w_468 w_470 w_469 w_14 (by omega) (by decide) (gr_1_1 hp ha).2 (gr_1_1 hp hb1).2 (by decide) (by decide) (by decide) (by decide) ?_
  refine M_aload_n (pc := 23) dX1_copy_23 rfl ?_
  refine M_getR (pc := 24) dX1_copy_24 f_X1_19 hb1 (gr_1_2 hp hb1).1 ?_
  refine M_iconst (pc := 27) (v := 0) dX1_copy_27 (by decide) ?_
  refine M_aload_n (pc := 28) dX1_copy_28 rfl ?_
  refine M_getR (pc := 29) dX1_copy_29 f_X1_19 ha (gr_1_2 hp ha).1 ?_
  refine M_iconst (pc := 32) (v := 0) dX1_copy_32 (by decide) ?_
  refine M_bipush (pc := 33) (v := 12) dX1_copy_33 (by decide) ?_
  refine M_copy0 (pc := 35) (k := 12) dX1_copy_35 w_468 w_470 w_469 w_14 (by omega) (by decide) (gr_1_2 hp ha).2 (gr_1_2 hp hb1).2 (by decide) (by decide) (by decide) (by decide) ?_
  refine M_aload_n (pc := 38) dX1_copy_38 rfl ?_
  refine M_getR (pc := 39) dX1_copy_39 f_X1_22 hb1 (gr_1_3 hp hb1).1 ?_
  refine M_iconst (pc := 42) (v := 0) dX1_copy_42 (by decide) ?_
  refine M_aload_n (pc := 43) dX1_copy_43 rfl ?_
  refine M_getR (pc := 44) dX1_copy_44 f_X1_22 ha (gr_1_3 hp ha).1 ?_
  refine M_iconst (pc := 47) (v := 0) dX1_copy_47 (by decide) ?_
  refine M_bipush (pc := 48) (v := 12) dX1_copy_48 (by decide) ?_
  refine M_copy0 (pc := 50) (k := 12) dX1_copy_50 w_468 w_470 w_469 w_14 (by omega) (by decide) (gr_1_3 hp ha).2 (gr_1_3 hp hb1).2 (by decide) (by decide) (by decide) (by decide) ?_
  refine M_aload_n (pc := 53) dX1_copy_53 rfl ?_
  refine M_getR (pc := 54) dX1_copy_54 f_X1_25 hb1 (gr_1_4 hp hb1).1 ?_
  refine M_iconst (pc := 57) (v := 0) dX1_copy_57 (by decide) ?_
  refine M_aload_n (pc := 58) dX1_copy_58 rfl ?_
  refine M_getR (pc := 59) dX1_copy_59 f_X1_25 ha (gr_1_4 hp ha).1 ?_
  refine M_iconst (pc := 62) (v := 0) dX1_copy_62 (by decide) ?_
  refine M_bipush (pc := 63) (v := 12) dX1_copy_63 (by decide) ?_
  refine M_copy0 (pc := 65) (k := 12) dX1_copy_65 w_468 w_470 w_469 w_14 (by omega) (by decide) (gr_1_4 hp ha).2 (gr_1_4 hp hb1).2 (by decide) (by decide) (by decide) (by decide) ?_
  obtain rfl := Option.some.inj h
  exact M_vret (pc := 68) dX1_copy_68 rfl rfl rfl
def L_X2_farFrom_6 (I : HI) (b2 : Nat) (x1 : Int32) (x3 : Int32) (x4 : Int32) (x5 : Int32) : Option (Int32) :=
  if (5 : Int32) ≤ x5 then some x4 else if (400 : Int32) ≤ ((x1 * (5 : Int32)) + x5) then some x4 else (ald 400 (I 2) ((x1 * (5 : Int32)) + x5)) >>= fun v3 => (ald 60 (I (b2 + 1)) ((x3 * (5 : Int32)) + x5)) >>= fun v5 => if 0 ≤ (v3 - v5) then L_X2_farFrom_6 I b2 x1 x3 (x4 + (v3 - v5)) (x5 + (1 : Int32)) else L_X2_farFrom_6 I b2 x1 x3 (x4 + (-(v3 - v5))) (x5 + (1 : Int32))
partial_fixpoint
def F_X2_farFrom (I : HI) (x1 : Int32) (b2 : Nat) (x3 : Int32) : Option (Int32) :=
  L_X2_farFrom_6 I b2 x1 x3 (0 : Int32) (0 : Int32)
set_option maxRecDepth 4000 in
set_option maxHeartbeats 4000000 in
theorem LC_X2_farFrom_6 {g : gX} {d : Nat} {P : Nat → Nat → Option Nat} {J : HJ} {I : HI} {b2 : Nat} {x1 : Int32} {x3 : Int32} (hp : Wp P) (hb2 : OB NT b2 1) : ∀ (x4 : Int32) (x5 : Int32) (r : Int32), L_X2_farFrom_6 I b2 x1 x3 x4 x5 = some r → M g mX2_farFrom (d + 0) (NT, NT, 0) ((.inl (some (.int r))), (NT, I, J, P)) 6 [some (.ref 2), some (.int x1), some (.ref b2), some (.int x3), some (.int x4), some (.int x5), none] [] (NT, I, J, P) := by
  refine L_X2_farFrom_6.partial_correctness I b2 x1 x3 (fun x4 x5 r => M g mX2_farFrom (d + 0) (NT, NT, 0) ((.inl (some (.int r))), (NT, I, J, P)) 6 [some (.ref 2), some (.int x1), some (.ref b2), some (.int x3), some (.int x4), some (.int x5), none] [] (NT, I, J, P)) ?_
  intro f ih x4 x5 r h
  refine M_iload (pc := 6) dX2_farFrom_6 rfl ?_
  refine M_iconst (pc := 8) (v := 5) dX2_farFrom_8 (by decide) ?_
  refine M_icmp_ge (pc := 9) (tgt := 69) dX2_farFrom_9 (by decide) (fun hc1 => ?_) (fun hc1 => ?_)
  · have h := (if_pos hc1).symm.trans h
    refine M_iload (pc := 69) dX2_farFrom_69 rfl ?_
    obtain rfl := Option.some.inj h
    exact M_iret (pc := 71) dX2_farFrom_71 rfl rfl rfl rfl
  · have h := (if_neg hc1).symm.trans h
    refine M_iload_n (pc := 12) dX2_farFrom_12 rfl ?_
    refine M_iconst (pc := 13) (v := 5) dX2_farFrom_13 (by decide) ?_
    refine M_imul (pc := 14) dX2_farFrom_14 ?_
    refine M_iload (pc := 15) dX2_farFrom_15 rfl ?_
    refine M_iadd (pc := 17) dX2_farFrom_17 ?_
    refine M_aload_n (pc := 18) dX2_farFrom_18 rfl ?_
    refine M_alen (pc := 19) (v := 400) (k := 0) dX2_farFrom_19 ar_tape (by decide) ?_
    refine M_icmp_ge (pc := 20) (tgt := 69) dX2_farFrom_20 (by decide) (fun hc2 => ?_) (fun hc2 => ?_)
    · have h := (if_pos hc2).symm.trans h
      refine M_iload (pc := 69) dX2_farFrom_69 rfl ?_
      obtain rfl := Option.some.inj h
      exact M_iret (pc := 71) dX2_farFrom_71 rfl rfl rfl rfl
    · have h := (if_neg hc2).symm.trans h
      refine M_aload_n (pc := 23) dX2_farFrom_23 rfl ?_
      refine M_iload_n (pc := 24) dX2_farFrom_24 rfl ?_
      refine M_iconst (pc := 25) (v := 5) dX2_farFrom_25 (by decide) ?_
      refine M_imul (pc := 26) dX2_farFrom_26 ?_
      refine M_iload (pc := 27) dX2_farFrom_27 rfl ?_
      refine M_iadd (pc := 29) dX2_farFrom_29 ?_
      obtain ⟨v3, hv4, h⟩ := bnd h
      refine M_aldI (pc := 30) dX2_farFrom_30 ar_tape hv4 ?_
      refine M_aload_n (pc := 31) dX2_farFrom_31 rfl ?_
      refine M_getR (pc := 32) dX2_farFrom_32 f_X2_50 hb2 (gr_1_1 hp hb2).1 ?_
      refine M_iload_n (pc := 35) dX2_farFrom_35 rfl ?_
      refine M_iconst (pc := 36) (v := 5) dX2_farFrom_36 (by decide) ?_
      refine M_imul (pc := 37) dX2_farFrom_37 ?_
      refine M_iload (pc := 38) dX2_farFrom_38 rfl ?_
      refine M_iadd (pc := 40) dX2_farFrom_40 ?_
      obtain ⟨v5, hv6, h⟩ := bnd h
      refine M_aldI (pc := 41) dX2_farFrom_41 (gr_1_1 hp hb2).2 hv6 ?_
      refine M_isub (pc := 42) dX2_farFrom_42 ?_
      refine M_istore (pc := 43) (ls' := [some (.ref 2), some (.int x1), some (.ref b2), some (.int x3), some (.int x4), some (.int x5), some (.int (v3 - v5))]) dX2_farFrom_43 (by decide) rfl ?_
      refine M_iload (pc := 45) dX2_farFrom_45 rfl ?_
      refine M_iload (pc := 47) dX2_farFrom_47 rfl ?_
      refine M_if_ge (pc := 49) (tgt := 58) dX2_farFrom_49 (by decide) (fun hc7 => ?_) (fun hc7 => ?_)
      · have h := (if_pos hc7).symm.trans h
        refine M_iload (pc := 58) dX2_farFrom_58 rfl ?_
        refine M_iadd (pc := 60) dX2_farFrom_60 ?_
        refine M_istore (pc := 61) (ls' := [some (.ref 2), some (.int x1), some (.ref b2), some (.int x3), some (.int (x4 + (v3 - v5))), some (.int x5), some (.int (v3 - v5))]) dX2_farFrom_61 (by decide) rfl ?_
        refine M_iinc (pc := 63) (v := (x5 + (1 : Int32))) (ls' := [some (.ref 2), some (.int x1), some (.ref b2), some (.int x3), some (.int (x4 + (v3 - v5))), some (.int (x5 + (1 : Int32))), some (.int (v3 - v5))]) dX2_farFrom_63 rfl rfl (by decide) rfl ?_
        refine M_goto (pc := 66) (tgt := 6) dX2_farFrom_66 (by decide) ?_
        refine M_mask (pc := 6) [true, true, true, true, true, true, false] rfl ?_
        exact ih (x4 + (v3 - v5)) (x5 + (1 : Int32)) _ h
      · have h := (if_neg hc7).symm.trans h
        refine M_iload (pc := 52) dX2_farFrom_52 rfl ?_
        refine M_ineg (pc := 54) dX2_farFrom_54 ?_
        refine M_goto (pc := 55) (tgt := 60) dX2_farFrom_55 (by decide) ?_
        refine M_iadd (pc := 60) dX2_farFrom_60 ?_
        refine M_istore (pc := 61) (ls' := [some (.ref 2), some (.int x1), some (.ref b2), some (.int x3), some (.int (x4 + (-(v3 - v5)))), some (.int x5), some (.int (v3 - v5))]) dX2_farFrom_61 (by decide) rfl ?_
        refine M_iinc (pc := 63) (v := (x5 + (1 : Int32))) (ls' := [some (.ref 2), some (.int x1), some (.ref b2), some (.int x3), some (.int (x4 + (-(v3 - v5)))), some (.int (x5 + (1 : Int32))), some (.int (v3 - v5))]) dX2_farFrom_63 rfl rfl (by decide) rfl ?_
        refine M_goto (pc := 66) (tgt := 6) dX2_farFrom_66 (by decide) ?_
        refine M_mask (pc := 6) [true, true, true, true, true, true, false] rfl ?_
        exact ih (x4 + (-(v3 - v5))) (x5 + (1 : Int32)) _ h
set_option maxRecDepth 4000 in
set_option maxHeartbeats 4000000 in
theorem C_X2_farFrom {g : gX} {d : Nat} {P : Nat → Nat → Option Nat} {I : HI} {x1 : Int32} {b2 : Nat} {x3 : Int32} {J : HJ} (hp : Wp P) (hb2 : OB NT b2 1) {r : Int32} (h : F_X2_farFrom I x1 b2 x3 = some r) : Cm g mX2_farFrom (d + 0) [.ref 2, .int x1, .ref b2, .int x3] (NT, I, J, P) (some (.int r)) (NT, I, J, P) := by
  unfold F_X2_farFrom at h
  refine Cm.of (by decide) (by simp [Value.category]) (Nat.le_of_ble_eq_true rfl) (Nat.le_refl _) (ls := [some (.ref 2), some (.int x1), some (.ref b2), some (.int x3), none, none, none]) rfl ?_
  refine M_iconst (pc := 0) (v := 0) dX2_farFrom_0 (by decide) ?_
  refine M_istore (pc := 1) (ls' := [some (.ref 2), some (.int x1), some (.ref b2), some (.int x3), some (.int (0 : Int32)), none, none]) dX2_farFrom_1 (by decide) rfl ?_
  refine M_iconst (pc := 3) (v := 0) dX2_farFrom_3 (by decide) ?_
  refine M_istore (pc := 4) (ls' := [some (.ref 2), some (.int x1), some (.ref b2), some (.int x3), some (.int (0 : Int32)), some (.int (0 : Int32)), none]) dX2_farFrom_4 (by decide) rfl ?_
  exact LC_X2_farFrom_6 (P := P) hp hb2 (0 : Int32) (0 : Int32) _ h
def L_X2_isWorthwhile_11 (I : HI) (x2 : Int32) (x3 : Int32) (x4 : Int32) (x5 : Int32) : Option (Int32) :=
  if (I 201 2) ≤ x5 then if (I 201 1) ≤ x4 then some (0 : Int32) else some (1 : Int32) else (ald 60 (I 202) (x3 + x5)) >>= fun v3 => (ald 60 (I 202) (x3 + x2)) >>= fun v5 => if (v3 - v5) < 0 then L_X2_isWorthwhile_11 I x2 x3 (x4 + (1 : Int32)) (x5 + (1 : Int32)) else if (v3 - v5) = 0 then if x2 ≤ x5 then L_X2_isWorthwhile_11 I x2 x3 x4 (x5 + (1 : Int32)) else L_X2_isWorthwhile_11 I x2 x3 (x4 + (1 : Int32)) (x5 + (1 : Int32)) else L_X2_isWorthwhile_11 I x2 x3 x4 (x5 + (1 : Int32))
partial_fixpoint
def F_X2_isWorthwhile (I : HI) (x1 : Int32) (x2 : Int32) : Option (Int32) :=
  L_X2_isWorthwhile_11 I x2 (x1 * (12 : Int32)) (0 : Int32) (0 : Int32)
set_option maxRecDepth 4000 in
set_option maxHeartbeats 4000000 in
theorem LC_X2_isWorthwhile_11 {g : gX} {d : Nat} {P : Nat → Nat → Option Nat} {J : HJ} {I : HI} {x2 : Int32} {x3 : Int32} (hp : Wp P) : ∀ (x4 : Int32) (x5 : Int32) (r : Int32), L_X2_isWorthwhile_11 I x2 x3 x4 x5 = some r → M g mX2_isWorthwhile (d + 0) (NT, NT, 0) ((.inl (some (.int r))), (NT, I, J, P)) 11 [some (.ref 201), none, some (.int x2), some (.int x3), some (.int x4), some (.int x5), none] [] (NT, I, J, P) := by
  refine L_X2_isWorthwhile_11.partial_correctness I x2 x3 (fun x4 x5 r => M g mX2_isWorthwhile (d + 0) (NT, NT, 0) ((.inl (some (.int r))), (NT, I, J, P)) 11 [some (.ref 201), none, some (.int x2), some (.int x3), some (.int x4), some (.int x5), none] [] (NT, I, J, P)) ?_
  intro f ih x4 x5 r h
  refine M_iload (pc := 11) dX2_isWorthwhile_11 rfl ?_
  refine M_aload_n (pc := 13) dX2_isWorthwhile_13 rfl ?_
  refine M_getI (pc := 14) dX2_isWorthwhile_14 f_X2_18 at_2 ?_
  refine M_icmp_ge (pc := 17) (tgt := 65) dX2_isWorthwhile_17 (by decide) (fun hc1 => ?_) (fun hc1 => ?_)
  · have h := (if_pos hc1).symm.trans h
    refine M_iload (pc := 65) dX2_isWorthwhile_65 rfl ?_
    refine M_aload_n (pc := 67) dX2_isWorthwhile_67 rfl ?_
    refine M_getI (pc := 68) dX2_isWorthwhile_68 f_X2_15 at_2 ?_
    refine M_icmp_ge (pc := 71) (tgt := 78) dX2_isWorthwhile_71 (by decide) (fun hc2 => ?_) (fun hc2 => ?_)
    · have h := (if_pos hc2).symm.trans h
      refine M_iconst (pc := 78) (v := 0) dX2_isWorthwhile_78 (by decide) ?_
      obtain rfl := Option.some.inj h
      exact M_iret (pc := 79) dX2_isWorthwhile_79 rfl rfl rfl rfl
    · have h := (if_neg hc2).symm.trans h
      refine M_iconst (pc := 74) (v := 1) dX2_isWorthwhile_74 (by decide) ?_
      refine M_goto (pc := 75) (tgt := 79) dX2_isWorthwhile_75 (by decide) ?_
      obtain rfl := Option.some.inj h
      exact M_iret (pc := 79) dX2_isWorthwhile_79 rfl rfl rfl rfl
  · have h := (if_neg hc1).symm.trans h
    refine M_aload_n (pc := 20) dX2_isWorthwhile_20 rfl ?_
    refine M_getR (pc := 21) dX2_isWorthwhile_21 f_X2_21 at_2 (gc_201_3 hp).1 ?_
    refine M_iload_n (pc := 24) dX2_isWorthwhile_24 rfl ?_
    refine M_iload (pc := 25) dX2_isWorthwhile_25 rfl ?_
    refine M_iadd (pc := 27) dX2_isWorthwhile_27 ?_
    obtain ⟨v3, hv4, h⟩ := bnd h
    refine M_aldI (pc := 28) dX2_isWorthwhile_28 (gc_201_3 hp).2 hv4 ?_
    refine M_aload_n (pc := 29) dX2_isWorthwhile_29 rfl ?_
    refine M_getR (pc := 30) dX2_isWorthwhile_30 f_X2_21 at_2 (gc_201_3 hp).1 ?_
    refine M_iload_n (pc := 33) dX2_isWorthwhile_33 rfl ?_
    refine M_iload_n (pc := 34) dX2_isWorthwhile_34 rfl ?_
    refine M_iadd (pc := 35) dX2_isWorthwhile_35 ?_
    obtain ⟨v5, hv6, h⟩ := bnd h
    refine M_aldI (pc := 36) dX2_isWorthwhile_36 (gc_201_3 hp).2 hv6 ?_
    refine M_isub (pc := 37) dX2_isWorthwhile_37 ?_
    refine M_istore (pc := 38) (ls' := [some (.ref 201), none, some (.int x2), some (.int x3), some (.int x4), some (.int x5), some (.int (v3 - v5))]) dX2_isWorthwhile_38 (by decide) rfl ?_
    refine M_iload (pc := 40) dX2_isWorthwhile_40 rfl ?_
    refine M_if_lt (pc := 42) (tgt := 56) dX2_isWorthwhile_42 (by decide) (fun hc7 => ?_) (fun hc7 => ?_)
    · have h := (if_pos hc7).symm.trans h
      refine M_iinc (pc := 56) (v := (x4 + (1 : Int32))) (ls' := [some (.ref 201), none, some (.int x2), some (.int x3), some (.int (x4 + (1 : Int32))), some (.int x5), some (.int (v3 - v5))]) dX2_isWorthwhile_56 rfl rfl (by decide) rfl ?_
      refine M_iinc (pc := 59) (v := (x5 + (1 : Int32))) (ls' := [some (.ref 201), none, some (.int x2), some (.int x3), some (.int (x4 + (1 : Int32))), some (.int (x5 + (1 : Int32))), some (.int (v3 - v5))]) dX2_isWorthwhile_59 rfl rfl (by decide) rfl ?_
      refine M_goto (pc := 62) (tgt := 11) dX2_isWorthwhile_62 (by decide) ?_
      refine M_mask (pc := 11) [true, false, true, true, true, true, false] rfl ?_
      exact ih (x4 + (1 : Int32)) (x5 + (1 : Int32)) _ h
    · have h := (if_neg hc7).symm.trans h
      refine M_iload (pc := 45) dX2_isWorthwhile_45 rfl ?_
      refine M_if_ne (pc := 47) (tgt := 59) dX2_isWorthwhile_47 (by decide) (fun hc8 => ?_) (fun hc8 => ?_)
      · have h := (if_neg hc8).symm.trans h
        refine M_iinc (pc := 59) (v := (x5 + (1 : Int32))) (ls' := [some (.ref 201), none, some (.int x2), some (.int x3), some (.int x4), some (.int (x5 + (1 : Int32))), some (.int (v3 - v5))]) dX2_isWorthwhile_59 rfl rfl (by decide) rfl ?_
        refine M_goto (pc := 62) (tgt := 11) dX2_isWorthwhile_62 (by decide) ?_
        refine M_mask (pc := 11) [true, false, true, true, true, true, false] rfl ?_
        exact ih x4 (x5 + (1 : Int32)) _ h
      · have h := (if_pos hc8).symm.trans h
        refine M_iload (pc := 50) dX2_isWorthwhile_50 rfl ?_
        refine M_iload_n (pc := 52) dX2_isWorthwhile_52 rfl ?_
        refine M_icmp_ge (pc := 53) (tgt := 59) dX2_isWorthwhile_53 (by decide) (fun hc9 => ?_) (fun hc9 => ?_)
        · have h := (if_pos hc9).symm.trans h
          refine M_iinc (pc := 59) (v := (x5 + (1 : Int32))) (ls' := [some (.ref 201), none, some (.int x2), some (.int x3), some (.int x4), some (.int (x5 + (1 : Int32))), some (.int (v3 - v5))]) dX2_isWorthwhile_59 rfl rfl (by decide) rfl ?_
          refine M_goto (pc := 62) (tgt := 11) dX2_isWorthwhile_62 (by decide) ?_
          refine M_mask (pc := 11) [true, false, true, true, true, true, false] rfl ?_
          exact ih x4 (x5 + (1 : Int32)) _ h
        · have h := (if_neg hc9).symm.trans h
          refine M_iinc (pc := 56) (v := (x4 + (1 : Int32))) (ls' := [some (.ref 201), none, some (.int x2), some (.int x3), some (.int (x4 + (1 : Int32))), some (.int x5), some (.int (v3 - v5))]) dX2_isWorthwhile_56 rfl rfl (by decide) rfl ?_
          refine M_iinc (pc := 59) (v := (x5 + (1 : Int32))) (ls' := [some (.ref 201), none, some (.int x2), some (.int x3), some (.int (x4 + (1 : Int32))), some (.int (x5 + (1 : Int32))), some (.int (v3 - v5))]) dX2_isWorthwhile_59 rfl rfl (by decide) rfl ?_
          refine M_goto (pc := 62) (tgt := 11) dX2_isWorthwhile_62 (by decide) ?_
          refine M_mask (pc := 11) [true, false, true, true, true, true, false] rfl ?_
          exact ih (x4 + (1 : Int32)) (x5 + (1 : Int32)) _ h
set_option maxRecDepth 4000 in
set_option maxHeartbeats 4000000 in
theorem C_X2_isWorthwhile {g : gX} {d : Nat} {P : Nat → Nat → Option Nat} {I : HI} {x1 : Int32} {x2 : Int32} {J : HJ} (hp : Wp P) {r : Int32} (h : F_X2_isWorthwhile I x1 x2 = some r) : Cm g mX2_isWorthwhile (d + 0) [.ref 201, .int x1, .int x2] (NT, I, J, P) (some (.int r)) (NT, I, J, P) := by
  unfold F_X2_isWorthwhile at h
  refine Cm.of (by decide) (by simp [Value.category]) (Nat.le_of_ble_eq_true rfl) (Nat.le_refl _) (ls := [some (.ref 201), some (.int x1), some (.int x2), none, none, none, none]) rfl ?_
  refine M_iload_n (pc := 0) dX2_isWorthwhile_0 rfl ?_
  refine M_bipush (pc := 1) (v := 12) dX2_isWorthwhile_1 (by decide) ?_
  refine M_imul (pc := 3) dX2_isWorthwhile_3 ?_
  refine M_istore_n (pc := 4) (ls' := [some (.ref 201), some (.int x1), some (.int x2), some (.int (x1 * (12 : Int32))), none, none, none]) dX2_isWorthwhile_4 (by decide) rfl ?_
  refine M_iconst (pc := 5) (v := 0) dX2_isWorthwhile_5 (by decide) ?_
  refine M_istore (pc := 6) (ls' := [some (.ref 201), some (.int x1), some (.int x2), some (.int (x1 * (12 : Int32))), some (.int (0 : Int32)), none, none]) dX2_isWorthwhile_6 (by decide) rfl ?_
  refine M_iconst (pc := 8) (v := 0) dX2_isWorthwhile_8 (by decide) ?_
  refine M_istore (pc := 9) (ls' := [some (.ref 201), some (.int x1), some (.int x2), some (.int (x1 * (12 : Int32))), some (.int (0 : Int32)), some (.int (0 : Int32)), none]) dX2_isWorthwhile_9 (by decide) rfl ?_
  refine M_mask (pc := 11) [true, false, true, true, true, true, false] rfl ?_
  exact LC_X2_isWorthwhile_11 (P := P) hp (0 : Int32) (0 : Int32) _ h
def F_X2_nth (I : HI) (x1 : Int32) : Option (Int32) :=
  if x1 < 0 then some (-1 : Int32) else if (I 201 1) ≤ x1 then some (-1 : Int32) else (ald 5 (I 204) x1) >>= fun v3 => some v3
set_option maxRecDepth 4000 in
set_option maxHeartbeats 4000000 in
theorem C_X2_nth {g : gX} {d : Nat} {P : Nat → Nat → Option Nat} {I : HI} {x1 : Int32} {J : HJ} (hp : Wp P) {r : Int32} (h : F_X2_nth I x1 = some r) : Cm g mX2_nth (d + 0) [.ref 201, .int x1] (NT, I, J, P) (some (.int r)) (NT, I, J, P) := by
  unfold F_X2_nth at h
  refine Cm.of (by decide) (by simp [Value.category]) (Nat.le_of_ble_eq_true rfl) (Nat.le_refl _) (ls := [some (.ref 201), some (.int x1)]) rfl ?_
  refine M_iload_n (pc := 0) dX2_nth_0 rfl ?_
  refine M_if_lt (pc := 1) (tgt := 21) dX2_nth_1 (by decide) (fun hc1 => ?_) (fun hc1 => ?_)
  · have h := (if_pos hc1).symm.trans h
    refine M_iconst (pc := 21) (v := -1) dX2_nth_21 (by decide) ?_
    obtain rfl := Option.some.inj h
    exact M_iret (pc := 22) dX2_nth_22 rfl rfl rfl rfl
  · have h := (if_neg hc1).symm.trans h
    refine M_iload_n (pc := 4) dX2_nth_4 rfl ?_
    refine M_aload_n (pc := 5) dX2_nth_5 rfl ?_
    refine M_getI (pc := 6) dX2_nth_6 f_X2_15 at_2 ?_
    refine M_icmp_ge (pc := 9) (tgt := 21) dX2_nth_9 (by decide) (fun hc2 => ?_) (fun hc2 => ?_)
    · have h := (if_pos hc2).symm.trans h
      refine M_iconst (pc := 21) (v := -1) dX2_nth_21 (by decide) ?_
      obtain rfl := Option.some.inj h
      exact M_iret (pc := 22) dX2_nth_22 rfl rfl rfl rfl
    · have h := (if_neg hc2).symm.trans h
      refine M_aload_n (pc := 12) dX2_nth_12 rfl ?_
      refine M_getR (pc := 13) dX2_nth_13 f_X2_28 at_2 (gc_201_5 hp).1 ?_
      refine M_iload_n (pc := 16) dX2_nth_16 rfl ?_
      obtain ⟨v3, hv4, h⟩ := bnd h
      refine M_aldI (pc := 17) dX2_nth_17 (gc_201_5 hp).2 hv4 ?_
      refine M_goto (pc := 18) (tgt := 22) dX2_nth_18 (by decide) ?_
      obtain rfl := Option.some.inj h
      exact M_iret (pc := 22) dX2_nth_22 rfl rfl rfl rfl
def F_X3_takes (I : HI) (a : Nat) (x1 : Int32) : Option (Int32) :=
  if (99 : Int32) ≤ (I a 4) then some (0 : Int32) else (F_X1_has I (a + 1) x1) >>= fun r2 => if r2 = 0 then some (0 : Int32) else some (1 : Int32)
set_option maxRecDepth 4000 in
set_option maxHeartbeats 4000000 in
theorem C_X3_takes {g : gX} {d : Nat} {P : Nat → Nat → Option Nat} {I : HI} {a : Nat} {x1 : Int32} {J : HJ} (hp : Wp P) (ha : OB NT a 3) {r : Int32} (h : F_X3_takes I a x1 = some r) : Cm g mX3_takes (d + 1) [.ref a, .int x1] (NT, I, J, P) (some (.int r)) (NT, I, J, P) := by
  unfold F_X3_takes at h
  refine Cm.of (by decide) (by simp [Value.category]) (Nat.le_of_ble_eq_true rfl) (Nat.le_refl _) (ls := [some (.ref a), some (.int x1)]) rfl ?_
  refine M_aload_n (pc := 0) dX3_takes_0 rfl ?_
  refine M_getI (pc := 1) dX3_takes_1 f_X3_28 ha ?_
  refine M_bipush (pc := 4) (v := 99) dX3_takes_4 (by decide) ?_
  refine M_icmp_ge (pc := 6) (tgt := 24) dX3_takes_6 (by decide) (fun hc1 => ?_) (fun hc1 => ?_)
  · have h := (if_pos hc1).symm.trans h
    refine M_iconst (pc := 24) (v := 0) dX3_takes_24 (by decide) ?_
    obtain rfl := Option.some.inj h
    exact M_iret (pc := 25) dX3_takes_25 rfl rfl rfl rfl
  · have h := (if_neg hc1).symm.trans h
    refine M_aload_n (pc := 9) dX3_takes_9 rfl ?_
    refine M_getR (pc := 10) dX3_takes_10 f_X3_12 ha (gr_3_0 hp ha).1 ?_
    refine M_iload_n (pc := 13) dX3_takes_13 rfl ?_
    obtain ⟨r2, hr3, h⟩ := bnd h
    refine M_callVi (pc := 14) dX3_takes_14 v_X3_61 rfl rfl (gr_3_0 hp ha).2 (Nat.le_of_ble_eq_true rfl) (C_X1_has (d := d + 0) hp (gr_3_0 hp ha).2 hr3) (Nat.le_refl _) ?_
    refine M_if_eq (pc := 17) (tgt := 24) dX3_takes_17 (by decide) (fun hc4 => ?_) (fun hc4 => ?_)
    · have h := (if_pos hc4).symm.trans h
      refine M_iconst (pc := 24) (v := 0) dX3_takes_24 (by decide) ?_
      obtain rfl := Option.some.inj h
      exact M_iret (pc := 25) dX3_takes_25 rfl rfl rfl rfl
    · have h := (if_neg hc4).symm.trans h
      refine M_iconst (pc := 20) (v := 1) dX3_takes_20 (by decide) ?_
      refine M_goto (pc := 21) (tgt := 25) dX3_takes_21 (by decide) ?_
      obtain rfl := Option.some.inj h
      exact M_iret (pc := 25) dX3_takes_25 rfl rfl rfl rfl
def F_X3_comeBack (I : HI) (a : Nat) : Option (HI) :=
  some (up2 (up2 (up2 (up2 (up2 I a 2 (if ((I a 2) + (1 : Int32)) < (9999 : Int32) then ((I a 2) + (1 : Int32)) else (9999 : Int32))) a 3 (if ((I a 2) + (1 : Int32)) < (9999 : Int32) then ((I a 2) + (1 : Int32)) else (9999 : Int32))) a 4 ((I a 4) / (2 : Int32))) a 5 (0 : Int32)) a 6 (if ((I a 6) + (1 : Int32)) < (9999 : Int32) then ((I a 6) + (1 : Int32)) else (9999 : Int32)))
set_option maxRecDepth 4000 in
set_option maxHeartbeats 4000000 in
theorem C_X3_comeBack {g : gX} {d : Nat} {P : Nat → Nat → Option Nat} {I : HI} {a : Nat} {J : HJ} (hp : Wp P) (ha : OB NT a 3) {r : HI} (h : F_X3_comeBack I a = some r) : Cm g mX3_comeBack (d + 1) [.ref a] (NT, I, J, P) none (NT, r, J, P) := by
  unfold F_X3_comeBack at h
  refine Cm.of (by decide) (by simp [Value.category]) (Nat.le_of_ble_eq_true rfl) (Nat.le_refl _) (ls := [some (.ref a)]) rfl ?_
  refine M_aload_n (pc := 0) dX3_comeBack_0 rfl ?_
  refine M_sipush (pc := 1) (v := 9999) dX3_comeBack_1 (by decide) ?_
  refine M_aload_n (pc := 4) dX3_comeBack_4 rfl ?_
  refine M_getI (pc := 5) dX3_comeBack_5 f_X3_22 ha ?_
  refine M_iconst (pc := 8) (v := 1) dX3_comeBack_8 (by decide) ?_
  refine M_iadd (pc := 9) dX3_comeBack_9 ?_
  refine M_mmin (pc := 10) dX3_comeBack_10 mm_X3_80.1 mm_X3_80.2.1 mm_X3_80.2.2.1 mm_X3_80.2.2.2 (Nat.le_of_ble_eq_true rfl) ?_
  refine M_putI (pc := 13) dX3_comeBack_13 f_X3_22 ha rfl ⟨rfl, rfl⟩ ?_
  refine M_aload_n (pc := 16) dX3_comeBack_16 rfl ?_
  refine M_aload_n (pc := 17) dX3_comeBack_17 rfl ?_
  refine M_getIs (pc := 18) (x := (if ((I a 2) + (1 : Int32)) < (9999 : Int32) then ((I a 2) + (1 : Int32)) else (9999 : Int32))) dX3_comeBack_18 f_X3_22 ha rd_eq ?_
  refine M_putI (pc := 21) dX3_comeBack_21 f_X3_25 ha rfl ⟨rfl, rfl⟩ ?_
  refine M_aload_n (pc := 24) dX3_comeBack_24 rfl ?_
  refine M_aload_n (pc := 25) dX3_comeBack_25 rfl ?_
  refine M_getIs (pc := 26) (x := (I a 4)) dX3_comeBack_26 f_X3_28 ha ((rd_ne (Or.inr (by decide))).trans (rd_ne (Or.inr (by decide)))) ?_
  refine M_iconst (pc := 29) (v := 2) dX3_comeBack_29 (by decide) ?_
  refine M_idiv (pc := 30) dX3_comeBack_30 (by decide) ?_
  refine M_putI (pc := 31) dX3_comeBack_31 f_X3_28 ha rfl ⟨rfl, rfl⟩ ?_
  refine M_aload_n (pc := 34) dX3_comeBack_34 rfl ?_
  refine M_iconst (pc := 35) (v := 0) dX3_comeBack_35 (by decide) ?_
  refine M_putI (pc := 36) dX3_comeBack_36 f_X3_31 ha rfl ⟨rfl, rfl⟩ ?_
  refine M_aload_n (pc := 39) dX3_comeBack_39 rfl ?_
  refine M_sipush (pc := 40) (v := 9999) dX3_comeBack_40 (by decide) ?_
  refine M_aload_n (pc := 43) dX3_comeBack_43 rfl ?_
  refine M_getIs (pc := 44) (x := (I a 6)) dX3_comeBack_44 f_X3_34 ha ((rd_ne (Or.inr (by decide))).trans ((rd_ne (Or.inr (by decide))).trans ((rd_ne (Or.inr (by decide))).trans (rd_ne (Or.inr (by decide)))))) ?_
  refine M_iconst (pc := 47) (v := 1) dX3_comeBack_47 (by decide) ?_
  refine M_iadd (pc := 48) dX3_comeBack_48 ?_
  refine M_mmin (pc := 49) dX3_comeBack_49 mm_X3_80.1 mm_X3_80.2.1 mm_X3_80.2.2.1 mm_X3_80.2.2.2 (Nat.le_of_ble_eq_true rfl) ?_
  refine M_putI (pc := 52) dX3_comeBack_52 f_X3_34 ha rfl ⟨rfl, rfl⟩ ?_
  obtain rfl := Option.some.inj h
  exact M_vret (pc := 55) dX3_comeBack_55 rfl rfl rfl
def F_X3_draw (I : HI) (a : Nat) : Option (Int32 × HI) :=
  some (((((((1103515245 : Int32) * (I a 14)) + (12345 : Int32))).toUInt32 >>> (((16 : Int32)).toUInt32 &&& Int32.toUInt32 31)).toInt32 &&& (32767 : Int32)), (up2 I a 14 (((1103515245 : Int32) * (I a 14)) + (12345 : Int32))))
set_option maxRecDepth 4000 in
set_option maxHeartbeats 4000000 in
theorem C_X3_draw {g : gX} {d : Nat} {P : Nat → Nat → Option Nat} {I : HI} {a : Nat} {J : HJ} (hp : Wp P) (ha : OB NT a 3) {r : Int32 × HI} (h : F_X3_draw I a = some r) : Cm g mX3_draw (d + 0) [.ref a] (NT, I, J, P) (some (.int r.1)) (NT, r.2, J, P) := by
  unfold F_X3_draw at h
  refine Cm.of (by decide) (by simp [Value.category]) (Nat.le_of_ble_eq_true rfl) (Nat.le_refl _) (ls := [some (.ref a)]) rfl ?_
  refine M_aload_n (pc := 0) dX3_draw_0 rfl ?_
  refine M_ldc (pc := 1) (v := 1103515245) dX3_draw_1 w_492 ?_
  refine M_aload_n (pc := 3) dX3_draw_3 rfl ?_
  refine M_getI (pc := 4) dX3_draw_4 f_X3_58 ha ?_
  refine M_imul (pc := 7) dX3_draw_7 ?_
  refine M_sipush (pc := 8) (v := 12345) dX3_draw_8 (by decide) ?_
  refine M_iadd (pc := 11) dX3_draw_11 ?_
  refine M_putI (pc := 12) dX3_draw_12 f_X3_58 ha rfl ⟨rfl, rfl⟩ ?_
  refine M_aload_n (pc := 15) dX3_draw_15 rfl ?_
  refine M_getIs (pc := 16) (x := (((1103515245 : Int32) * (I a 14)) + (12345 : Int32))) dX3_draw_16 f_X3_58 ha rd_eq ?_
  refine M_bipush (pc := 19) (v := 16) dX3_draw_19 (by decide) ?_
  refine M_iushr (pc := 21) dX3_draw_21 ?_
  refine M_sipush (pc := 22) (v := 32767) dX3_draw_22 (by decide) ?_
  refine M_iand (pc := 25) dX3_draw_25 ?_
  obtain rfl := Option.some.inj h
  exact M_iret (pc := 26) dX3_draw_26 rfl rfl rfl rfl
def F_X3_drawSpoons (I : HI) (a : Nat) : Option (Int32 × HI) :=
  (F_X3_draw I a) >>= fun r1 => if (r1.2 (a + 1) 0) ≤ 0 then some ((0 : Int32), r1.2) else some (((r1.1 - r1.1 / (4 : Int32) * (4 : Int32)) + (1 : Int32)), r1.2)
set_option maxRecDepth 4000 in
set_option maxHeartbeats 4000000 in
theorem C_X3_drawSpoons {g : gX} {d : Nat} {P : Nat → Nat → Option Nat} {I : HI} {a : Nat} {J : HJ} (hp : Wp P) (ha : OB NT a 3) {r : Int32 × HI} (h : F_X3_drawSpoons I a = some r) : Cm g mX3_drawSpoons (d + 1) [.ref a] (NT, I, J, P) (some (.int r.1)) (NT, r.2, J, P) := by
  unfold F_X3_drawSpoons at h
  refine Cm.of (by decide) (by simp [Value.category]) (Nat.le_of_ble_eq_true rfl) (Nat.le_refl _) (ls := [some (.ref a), none]) rfl ?_
  refine M_aload_n (pc := 0) dX3_drawSpoons_0 rfl ?_
  obtain ⟨r1, hr2, h⟩ := bnd h
  refine M_callVi (pc := 1) dX3_drawSpoons_1 v_X3_104 rfl rfl ha (Nat.le_of_ble_eq_true rfl) (C_X3_draw (d := d + 0) hp ha hr2) (Nat.le_refl _) ?_
  refine M_iconst (pc := 4) (v := 4) dX3_drawSpoons_4 (by decide) ?_
  refine M_irem (pc := 5) dX3_drawSpoons_5 (by decide) ?_
  refine M_iconst (pc := 6) (v := 1) dX3_drawSpoons_6 (by decide) ?_
  refine M_iadd (pc := 7) dX3_drawSpoons_7 ?_
  refine M_istore_n (pc := 8) (ls' := [some (.ref a), some (.int ((r1.1 - r1.1 / (4 : Int32) * (4 : Int32)) + (1 : Int32)))]) dX3_drawSpoons_8 (by decide) rfl ?_
  refine M_aload_n (pc := 9) dX3_drawSpoons_9 rfl ?_
  refine M_getR (pc := 10) dX3_drawSpoons_10 f_X3_12 ha (gr_3_0 hp ha).1 ?_
  refine M_getI (pc := 13) dX3_drawSpoons_13 f_X3_108 (gr_3_0 hp ha).2 ?_
  refine M_if_le (pc := 16) (tgt := 23) dX3_drawSpoons_16 (by decide) (fun hc3 => ?_) (fun hc3 => ?_)
  · have h := (if_pos hc3).symm.trans h
    refine M_iconst (pc := 23) (v := 0) dX3_drawSpoons_23 (by decide) ?_
    obtain rfl := Option.some.inj h
    exact M_iret (pc := 24) dX3_drawSpoons_24 rfl rfl rfl rfl
  · have h := (if_neg hc3).symm.trans h
    refine M_iload_n (pc := 19) dX3_drawSpoons_19 rfl ?_
    refine M_goto (pc := 20) (tgt := 24) dX3_drawSpoons_20 (by decide) ?_
    obtain rfl := Option.some.inj h
    exact M_iret (pc := 24) dX3_drawSpoons_24 rfl rfl rfl rfl
def F_X3_drawDish (I : HI) (a : Nat) : Option (Int32 × HI) :=
  if (I (a + 1) 0) ≤ 0 then some ((-1 : Int32), I) else (F_X3_draw I a) >>= fun r2 => if ¬ (r2.2 (a + 1) 0) = 0 then some ((r2.1 - r2.1 / (r2.2 (a + 1) 0) * (r2.2 (a + 1) 0)), r2.2) else none
set_option maxRecDepth 4000 in
set_option maxHeartbeats 4000000 in
theorem C_X3_drawDish {g : gX} {d : Nat} {P : Nat → Nat → Option Nat} {I : HI} {a : Nat} {J : HJ} (hp : Wp P) (ha : OB NT a 3) {r : Int32 × HI} (h : F_X3_drawDish I a = some r) : Cm g mX3_drawDish (d + 1) [.ref a] (NT, I, J, P) (some (.int r.1)) (NT, r.2, J, P) := by
  unfold F_X3_drawDish at h
  refine Cm.of (by decide) (by simp [Value.category]) (Nat.le_of_ble_eq_true rfl) (Nat.le_refl _) (ls := [some (.ref a)]) rfl ?_
  refine M_aload_n (pc := 0) dX3_drawDish_0 rfl ?_
  refine M_getR (pc := 1) dX3_drawDish_1 f_X3_12 ha (gr_3_0 hp ha).1 ?_
  refine M_getI (pc := 4) dX3_drawDish_4 f_X3_108 (gr_3_0 hp ha).2 ?_
  refine M_if_le (pc := 7) (tgt := 25) dX3_drawDish_7 (by decide) (fun hc1 => ?_) (fun hc1 => ?_)
  · have h := (if_pos hc1).symm.trans h
    refine M_iconst (pc := 25) (v := -1) dX3_drawDish_25 (by decide) ?_
    obtain rfl := Option.some.inj h
    exact M_iret (pc := 26) dX3_drawDish_26 rfl rfl rfl rfl
  · have h := (if_neg hc1).symm.trans h
    refine M_aload_n (pc := 10) dX3_drawDish_10 rfl ?_
    obtain ⟨r2, hr3, h⟩ := bnd h
    refine M_callVi (pc := 11) dX3_drawDish_11 v_X3_104 rfl rfl ha (Nat.le_of_ble_eq_true rfl) (C_X3_draw (d := d + 0) hp ha hr3) (Nat.le_refl _) ?_
    refine M_aload_n (pc := 14) dX3_drawDish_14 rfl ?_
    refine M_getR (pc := 15) dX3_drawDish_15 f_X3_12 ha (gr_3_0 hp ha).1 ?_
    refine M_getI (pc := 18) dX3_drawDish_18 f_X3_108 (gr_3_0 hp ha).2 ?_
    obtain ⟨hz4, h⟩ := chk h
    refine M_irem (pc := 21) dX3_drawDish_21 hz4 ?_
    refine M_goto (pc := 22) (tgt := 26) dX3_drawDish_22 (by decide) ?_
    obtain rfl := Option.some.inj h
    exact M_iret (pc := 26) dX3_drawDish_26 rfl rfl rfl rfl
def F_X3_copy (I : HI) (a : Nat) (b1 : Nat) : Option (HI) :=
  (F_X1_copy I (a + 1) (b1 + 1)) >>= fun r1 => some (up2 (up2 (up2 (up2 (up2 (up2 (up2 (up2 (up2 (up2 (up2 (up2 (up2 (up2 r1 a 1 (r1 b1 1)) a 2 (r1 b1 2)) a 3 (r1 b1 3)) a 4 (r1 b1 4)) a 5 (r1 b1 5)) a 6 (r1 b1 6)) a 7 (r1 b1 7)) a 8 (r1 b1 8)) a 9 (r1 b1 9)) a 10 (r1 b1 10)) a 11 (r1 b1 11)) a 12 (r1 b1 12)) a 13 (r1 b1 13)) a 14 (r1 b1 14))
set_option maxRecDepth 4000 in
set_option maxHeartbeats 4000000 in
theorem C_X3_copy {g : gX} {d : Nat} {P : Nat → Nat → Option Nat} {I : HI} {a : Nat} {b1 : Nat} {J : HJ} (hp : Wp P) (ha : OB NT a 3) (hb1 : OB NT b1 3) {r : HI} (h : F_X3_copy I a b1 = some r) : Cm g mX3_copy (d + 2) [.ref a, .ref b1] (NT, I, J, P) none (NT, r, J, P) := by
  unfold F_X3_copy at h
  refine Cm.of (by decide) (by simp [Value.category]) (Nat.le_of_ble_eq_true rfl) (Nat.le_refl _) (ls := [some (.ref a), some (.ref b1)]) rfl ?_
  refine M_aload_n (pc := 0) dX3_copy_0 rfl ?_
  refine M_getR (pc := 1) dX3_copy_1 f_X3_12 ha (gr_3_0 hp ha).1 ?_
  refine M_aload_n (pc := 4) dX3_copy_4 rfl ?_
  refine M_getR (pc := 5) dX3_copy_5 f_X3_12 hb1 (gr_3_0 hp hb1).1 ?_
  obtain ⟨r1, hr2, h⟩ := bnd h
  refine M_callVv (pc := 8) dX3_copy_8 v_X3_111 rfl rfl (gr_3_0 hp ha).2 (Nat.le_of_ble_eq_true rfl) (C_X1_copy (d := d + 0) hp (gr_3_0 hp ha).2 (gr_3_0 hp hb1).2 hr2) (Nat.le_refl _) ?_
  refine M_aload_n (pc := 11) dX3_copy_11 rfl ?_
  refine M_aload_n (pc := 12) dX3_copy_12 rfl ?_
  refine M_getI (pc := 13) dX3_copy_13 f_X3_18 hb1 ?_
  refine M_putI (pc := 16) dX3_copy_16 f_X3_18 ha rfl ⟨rfl, rfl⟩ ?_
  refine M_aload_n (pc := 19) dX3_copy_19 rfl ?_
  refine M_aload_n (pc := 20) dX3_copy_20 rfl ?_
  refine M_getIs (pc := 21) (x := (r1 b1 2)) dX3_copy_21 f_X3_22 hb1 (rd_ne (Or.inr (by decide))) ?_
  refine M_putI (pc := 24) dX3_copy_24 f_X3_22 ha rfl ⟨rfl, rfl⟩ ?_
  refine M_aload_n (pc := 27) dX3_copy_27 rfl ?_
  refine M_aload_n (pc := 28) dX3_copy_28 rfl ?_
  refine M_getIs (pc := 29) (x := (r1 b1 3)) dX3_copy_29 f_X3_25 hb1 ((rd_ne (Or.inr (by decide))).trans (rd_ne (Or.inr (by decide)))) ?_
  refine M_putI (pc := 32) dX3_copy_32 f_X3_25 ha rfl ⟨rfl, rfl⟩ ?_
  refine M_aload_n (pc := 35) dX3_copy_35 rfl ?_
  refine M_aload_n (pc := 36) dX3_copy_36 rfl ?_
  refine M_getIs (pc := 37) (x := (r1 b1 4)) dX3_copy_37 f_X3_28 hb1 ((rd_ne (Or.inr (by decide))).trans ((rd_ne (Or.inr (by decide))).trans (rd_ne (Or.inr (by decide))))) ?_
  refine M_putI (pc := 40) dX3_copy_40 f_X3_28 ha rfl ⟨rfl, rfl⟩ ?_
  refine M_aload_n (pc := 43) dX3_copy_43 rfl ?_
  refine M_aload_n (pc := 44) dX3_copy_44 rfl ?_
  refine M_getIs (pc := 45) (x := (r1 b1 5)) dX3_copy_45 f_X3_31 hb1 ((rd_ne (Or.inr (by decide))).trans ((rd_ne (Or.inr (by decide))).trans ((rd_ne (Or.inr (by decide))).trans (rd_ne (Or.inr (by decide)))))) ?_
  refine M_putI (pc := 48) dX3_copy_48 f_X3_31 ha rfl ⟨rfl, rfl⟩ ?_
  refine M_aload_n (pc := 51) dX3_copy_51 rfl ?_
  refine M_aload_n (pc := 52) dX3_copy_52 rfl ?_
  refine M_getIs (pc := 53) (x := (r1 b1 6)) dX3_copy_53 f_X3_34 hb1 ((rd_ne (Or.inr (by decide))).trans ((rd_ne (Or.inr (by decide))).trans ((rd_ne (Or.inr (by decide))).trans ((rd_ne (Or.inr (by decide))).trans (rd_ne (Or.inr (by decide))))))) ?_
  refine M_putI (pc := 56) dX3_copy_56 f_X3_34 ha rfl ⟨rfl, rfl⟩ ?_
  refine M_aload_n (pc := 59) dX3_copy_59 rfl ?_
  refine M_aload_n (pc := 60) dX3_copy_60 rfl ?_
  refine M_getIs (pc := 61) (x := (r1 b1 7)) dX3_copy_61 f_X3_37 hb1 ((rd_ne (Or.inr (by decide))).trans ((rd_ne (Or.inr (by decide))).trans ((rd_ne (Or.inr (by decide))).trans ((rd_ne (Or.inr (by decide))).trans ((rd_ne (Or.inr (by decide))).trans (rd_ne (Or.inr (by decide)))))))) ?_
  refine M_putI (pc := 64) dX3_copy_64 f_X3_37 ha rfl ⟨rfl, rfl⟩ ?_
  refine M_aload_n (pc := 67) dX3_copy_67 rfl ?_
  refine M_aload_n (pc := 68) dX3_copy_68 rfl ?_
  refine M_getIs (pc := 69) (x := (r1 b1 8)) dX3_copy_69 f_X3_40 hb1 ((rd_ne (Or.inr (by decide))).trans ((rd_ne (Or.inr (by decide))).trans ((rd_ne (Or.inr (by decide))).trans ((rd_ne (Or.inr (by decide))).trans ((rd_ne (Or.inr (by decide))).trans ((rd_ne (Or.inr (by decide))).trans (rd_ne (Or.inr (by decide))))))))) ?_
  refine M_putI (pc := 72) dX3_copy_72 f_X3_40 ha rfl ⟨rfl, rfl⟩ ?_
  refine M_aload_n (pc := 75) dX3_copy_75 rfl ?_
  refine M_aload_n (pc := 76) dX3_copy_76 rfl ?_
  refine M_getIs (pc := 77) (x := (r1 b1 9)) dX3_copy_77 f_X3_43 hb1 ((rd_ne (Or.inr (by decide))).trans ((rd_ne (Or.inr (by decide))).trans ((rd_ne (Or.inr (by decide))).trans ((rd_ne (Or.inr (by decide))).trans ((rd_ne (Or.inr (by decide))).trans ((rd_ne (Or.inr (by decide))).trans ((rd_ne (Or.inr (by decide))).trans (rd_ne (Or.inr (by decide)))))))))) ?_
  refine M_putI (pc := 80) dX3_copy_80 f_X3_43 ha rfl ⟨rfl, rfl⟩ ?_
  refine M_aload_n (pc := 83) dX3_copy_83 rfl ?_
  refine M_aload_n (pc := 84) dX3_copy_84 rfl ?_
  refine M_getIs (pc := 85) (x := (r1 b1 10)) dX3_copy_85 f_X3_46 hb1 ((rd_ne (Or.inr (by decide))).trans ((rd_ne (Or.inr (by decide))).trans ((rd_ne (Or.inr (by decide))).trans ((rd_ne (Or.inr (by decide))).trans ((rd_ne (Or.inr (by decide))).trans ((rd_ne (Or.inr (by decide))).trans ((rd_ne (Or.inr (by decide))).trans ((rd_ne (Or.inr (by decide))).trans (rd_ne (Or.inr (by decide))))))))))) ?_
  refine M_putI (pc := 88) dX3_copy_88 f_X3_46 ha rfl ⟨rfl, rfl⟩ ?_
  refine M_aload_n (pc := 91) dX3_copy_91 rfl ?_
  refine M_aload_n (pc := 92) dX3_copy_92 rfl ?_
  refine M_getIs (pc := 93) (x := (r1 b1 11)) dX3_copy_93 f_X3_49 hb1 ((rd_ne (Or.inr (by decide))).trans ((rd_ne (Or.inr (by decide))).trans ((rd_ne (Or.inr (by decide))).trans ((rd_ne (Or.inr (by decide))).trans ((rd_ne (Or.inr (by decide))).trans ((rd_ne (Or.inr (by decide))).trans ((rd_ne (Or.inr (by decide))).trans ((rd_ne (Or.inr (by decide))).trans ((rd_ne (Or.inr (by decide))).trans (rd_ne (Or.inr (by decide)))))))))))) ?_
  refine M_putI (pc := 96) dX3_copy_96 f_X3_49 ha rfl ⟨rfl, rfl⟩ ?_
  refine M_aload_n (pc := 99) dX3_copy_99 rfl ?_
  refine M_aload_n (pc := 100) dX3_copy_100 rfl ?_
  refine M_getIs (pc := 101) (x := (r1 b1 12)) dX3_copy_101 f_X3_52 hb1 ((rd_ne (Or.inr (by decide))).trans ((rd_ne (Or.inr (by decide))).trans ((rd_ne (Or.inr (by decide))).trans ((rd_ne (Or.inr (by decide))).trans ((rd_ne (Or.inr (by decide))).trans ((rd_ne (Or.inr (by decide))).trans ((rd_ne (Or.inr (by decide))).trans ((rd_ne (Or.inr (by decide))).trans ((rd_ne (Or.inr (by decide))).trans ((rd_ne (Or.inr (by decide))).trans (rd_ne (Or.inr (by decide))))))))))))) ?_
  refine M_putI (pc := 104) dX3_copy_104 f_X3_52 ha rfl ⟨rfl, rfl⟩ ?_
  refine M_aload_n (pc := 107) dX3_copy_107 rfl ?_
  refine M_aload_n (pc := 108) dX3_copy_108 rfl ?_
  refine M_getIs (pc := 109) (x := (r1 b1 13)) dX3_copy_109 f_X3_55 hb1 ((rd_ne (Or.inr (by decide))).trans ((rd_ne (Or.inr (by decide))).trans ((rd_ne (Or.inr (by decide))).trans ((rd_ne (Or.inr (by decide))).trans ((rd_ne (Or.inr (by decide))).trans ((rd_ne (Or.inr (by decide))).trans ((rd_ne (Or.inr (by decide))).trans ((rd_ne (Or.inr (by decide))).trans ((rd_ne (Or.inr (by decide))).trans ((rd_ne (Or.inr (by decide))).trans ((rd_ne (Or.inr (by decide))).trans (rd_ne (Or.inr (by decide)))))))))))))) ?_
  refine M_putI (pc := 112) dX3_copy_112 f_X3_55 ha rfl ⟨rfl, rfl⟩ ?_
  refine M_aload_n (pc := 115) dX3_copy_115 rfl ?_
  refine M_aload_n (pc := 116) dX3_copy_116 rfl ?_
  refine M_getIs (pc := 117) (x := (r1 b1 14)) dX3_copy_117 f_X3_58 hb1 ((rd_ne (Or.inr (by decide))).trans ((rd_ne (Or.inr (by decide))).trans ((rd_ne (Or.inr (by decide))).trans ((rd_ne (Or.inr (by decide))).trans ((rd_ne (Or.inr (by decide))).trans ((rd_ne (Or.inr (by decide))).trans ((rd_ne (Or.inr (by decide))).trans ((rd_ne (Or.inr (by decide))).trans ((rd_ne (Or.inr (by decide))).trans ((rd_ne (Or.inr (by decide))).trans ((rd_ne (Or.inr (by decide))).trans ((rd_ne (Or.inr (by decide))).trans (rd_ne (Or.inr (by decide))))))))))))))) ?_
  refine M_putI (pc := 120) dX3_copy_120 f_X3_58 ha rfl ⟨rfl, rfl⟩ ?_
  obtain rfl := Option.some.inj h
  exact M_vret (pc := 123) dX3_copy_123 rfl rfl rfl
def F_X4_clear (I : HI) (a : Nat) : Option (HI) :=
  some (up2 (up2 I a 0 (0 : Int32)) a 5 (0 : Int32))
set_option maxRecDepth 4000 in
set_option maxHeartbeats 4000000 in
theorem C_X4_clear {g : gX} {d : Nat} {P : Nat → Nat → Option Nat} {I : HI} {a : Nat} {J : HJ} (hp : Wp P) (ha : OB NT a 4) {r : HI} (h : F_X4_clear I a = some r) : Cm g mX4_clear (d + 0) [.ref a] (NT, I, J, P) none (NT, r, J, P) := by
  unfold F_X4_clear at h
  refine Cm.of (by decide) (by simp [Value.category]) (Nat.le_of_ble_eq_true rfl) (Nat.le_refl _) (ls := [some (.ref a)]) rfl ?_
  refine M_aload_n (pc := 0) dX4_clear_0 rfl ?_
  refine M_iconst (pc := 1) (v := 0) dX4_clear_1 (by decide) ?_
  refine M_putI (pc := 2) dX4_clear_2 f_X4_9 ha rfl ⟨rfl, rfl⟩ ?_
  refine M_aload_n (pc := 5) dX4_clear_5 rfl ?_
  refine M_iconst (pc := 6) (v := 0) dX4_clear_6 (by decide) ?_
  refine M_putI (pc := 7) dX4_clear_7 f_X4_28 ha rfl ⟨rfl, rfl⟩ ?_
  obtain rfl := Option.some.inj h
  exact M_vret (pc := 10) dX4_clear_10 rfl rfl rfl
def F_X4_add (I : HI) (a : Nat) (x1 : Int32) : Option (HI) :=
  if (400 : Int32) ≤ (I a 5) then some I else if inB (I a 5) 400 = true then some (up2 (up2 I (a + 4) ((I a 5)).toNatClampNeg x1) a 5 (((up2 I (a + 4) ((I a 5)).toNatClampNeg x1) a 5) + (1 : Int32))) else none
set_option maxRecDepth 4000 in
set_option maxHeartbeats 4000000 in
theorem C_X4_add {g : gX} {d : Nat} {P : Nat → Nat → Option Nat} {I : HI} {a : Nat} {x1 : Int32} {J : HJ} (hp : Wp P) (ha : OB NT a 4) {r : HI} (h : F_X4_add I a x1 = some r) : Cm g mX4_add (d + 0) [.ref a, .int x1] (NT, I, J, P) none (NT, r, J, P) := by
  unfold F_X4_add at h
  refine Cm.of (by decide) (by simp [Value.category]) (Nat.le_of_ble_eq_true rfl) (Nat.le_refl _) (ls := [some (.ref a), some (.int x1)]) rfl ?_
  refine M_aload_n (pc := 0) dX4_add_0 rfl ?_
  refine M_getI (pc := 1) dX4_add_1 f_X4_28 ha ?_
  refine M_sipush (pc := 4) (v := 400) dX4_add_4 (by decide) ?_
  refine M_icmp_ge (pc := 7) (tgt := 30) dX4_add_7 (by decide) (fun hc1 => ?_) (fun hc1 => ?_)
  · have h := (if_pos hc1).symm.trans h
    obtain rfl := Option.some.inj h
    exact M_vret (pc := 30) dX4_add_30 rfl rfl rfl
  · have h := (if_neg hc1).symm.trans h
    refine M_aload_n (pc := 10) dX4_add_10 rfl ?_
    refine M_getR (pc := 11) dX4_add_11 f_X4_25 ha (gr_4_4 hp ha).1 ?_
    refine M_aload_n (pc := 14) dX4_add_14 rfl ?_
    refine M_getI (pc := 15) dX4_add_15 f_X4_28 ha ?_
    refine M_iload_n (pc := 18) dX4_add_18 rfl ?_
    obtain ⟨hq2, h⟩ := chk h
    refine M_iast (pc := 19) dX4_add_19 (gr_4_4 hp ha).2 (inB_in hq2) ?_
    refine M_aload_n (pc := 20) dX4_add_20 rfl ?_
    refine M_dup (pc := 21) dX4_add_21 rfl ?_
    refine M_getI (pc := 22) dX4_add_22 f_X4_28 ha ?_
    refine M_iconst (pc := 25) (v := 1) dX4_add_25 (by decide) ?_
    refine M_iadd (pc := 26) dX4_add_26 ?_
    refine M_putI (pc := 27) dX4_add_27 f_X4_28 ha rfl ⟨rfl, rfl⟩ ?_
    obtain rfl := Option.some.inj h
    exact M_vret (pc := 30) dX4_add_30 rfl rfl rfl
def F_X4_endLine (I : HI) (a : Nat) (x1 : Int32) (x2 : Int32) : Option (HI) :=
  if (I a 0) < 0 then some I else if (12 : Int32) ≤ (I a 0) then some I else if inB (I a 0) 12 = true then if inB ((up2 I (a + 1) ((I a 0)).toNatClampNeg x1) a 0) 12 = true then if inB ((up2 (up2 I (a + 1) ((I a 0)).toNatClampNeg x1) (a + 2) (((up2 I (a + 1) ((I a 0)).toNatClampNeg x1) a 0)).toNatClampNeg x2) a 0) 12 = true then some (up2 (up2 (up2 (up2 I (a + 1) ((I a 0)).toNatClampNeg x1) (a + 2) (((up2 I (a + 1) ((I a 0)).toNatClampNeg x1) a 0)).toNatClampNeg x2) (a + 3) (((up2 (up2 I (a + 1) ((I a 0)).toNatClampNeg x1) (a + 2) (((up2 I (a + 1) ((I a 0)).toNatClampNeg x1) a 0)).toNatClampNeg x2) a 0)).toNatClampNeg ((up2 (up2 I (a + 1) ((I a 0)).toNatClampNeg x1) (a + 2) (((up2 I (a + 1) ((I a 0)).toNatClampNeg x1) a 0)).toNatClampNeg x2) a 5)) a 0 (((up2 (up2 (up2 I (a + 1) ((I a 0)).toNatClampNeg x1) (a + 2) (((up2 I (a + 1) ((I a 0)).toNatClampNeg x1) a 0)).toNatClampNeg x2) (a + 3) (((up2 (up2 I (a + 1) ((I a 0)).toNatClampNeg x1) (a + 2) (((up2 I (a + 1) ((I a 0)).toNatClampNeg x1) a 0)).toNatClampNeg x2) a 0)).toNatClampNeg ((up2 (up2 I (a + 1) ((I a 0)).toNatClampNeg x1) (a + 2) (((up2 I (a + 1) ((I a 0)).toNatClampNeg x1) a 0)).toNatClampNeg x2) a 5)) a 0) + (1 : Int32))) else none else none else none
set_option maxRecDepth 4000 in
set_option maxHeartbeats 4000000 in
theorem C_X4_endLine {g : gX} {d : Nat} {P : Nat → Nat → Option Nat} {I : HI} {a : Nat} {x1 : Int32} {x2 : Int32} {J : HJ} (hp : Wp P) (ha : OB NT a 4) {r : HI} (h : F_X4_endLine I a x1 x2 = some r) : Cm g mX4_endLine (d + 0) [.ref a, .int x1, .int x2] (NT, I, J, P) none (NT, r, J, P) := by
  unfold F_X4_endLine at h
  refine Cm.of (by decide) (by simp [Value.category]) (Nat.le_of_ble_eq_true rfl) (Nat.le_refl _) (ls := [some (.ref a), some (.int x1), some (.int x2)]) rfl ?_
  refine M_aload_n (pc := 0) dX4_endLine_0 rfl ?_
  refine M_getI (pc := 1) dX4_endLine_1 f_X4_9 ha ?_
  refine M_if_lt (pc := 4) (tgt := 59) dX4_endLine_4 (by decide) (fun hc1 => ?_) (fun hc1 => ?_)
  · have h := (if_pos hc1).symm.trans h
    obtain rfl := Option.some.inj h
    exact M_vret (pc := 59) dX4_endLine_59 rfl rfl rfl
  · have h := (if_neg hc1).symm.trans h
    refine M_aload_n (pc := 7) dX4_endLine_7 rfl ?_
    refine M_getI (pc := 8) dX4_endLine_8 f_X4_9 ha ?_
    refine M_bipush (pc := 11) (v := 12) dX4_endLine_11 (by decide) ?_
    refine M_icmp_ge (pc := 13) (tgt := 59) dX4_endLine_13 (by decide) (fun hc2 => ?_) (fun hc2 => ?_)
    · have h := (if_pos hc2).symm.trans h
      obtain rfl := Option.some.inj h
      exact M_vret (pc := 59) dX4_endLine_59 rfl rfl rfl
    · have h := (if_neg hc2).symm.trans h
      refine M_aload_n (pc := 16) dX4_endLine_16 rfl ?_
      refine M_getR (pc := 17) dX4_endLine_17 f_X4_15 ha (gr_4_1 hp ha).1 ?_
      refine M_aload_n (pc := 20) dX4_endLine_20 rfl ?_
      refine M_getI (pc := 21) dX4_endLine_21 f_X4_9 ha ?_
      refine M_iload_n (pc := 24) dX4_endLine_24 rfl ?_
      obtain ⟨hq3, h⟩ := chk h
      refine M_iast (pc := 25) dX4_endLine_25 (gr_4_1 hp ha).2 (inB_in hq3) ?_
      refine M_aload_n (pc := 26) dX4_endLine_26 rfl ?_
      refine M_getR (pc := 27) dX4_endLine_27 f_X4_19 ha (gr_4_2 hp ha).1 ?_
      refine M_aload_n (pc := 30) dX4_endLine_30 rfl ?_
      refine M_getI (pc := 31) dX4_endLine_31 f_X4_9 ha ?_
      refine M_iload_n (pc := 34) dX4_endLine_34 rfl ?_
      obtain ⟨hq4, h⟩ := chk h
      refine M_iast (pc := 35) dX4_endLine_35 (gr_4_2 hp ha).2 (inB_in hq4) ?_
      refine M_aload_n (pc := 36) dX4_endLine_36 rfl ?_
      refine M_getR (pc := 37) dX4_endLine_37 f_X4_22 ha (gr_4_3 hp ha).1 ?_
      refine M_aload_n (pc := 40) dX4_endLine_40 rfl ?_
      refine M_getI (pc := 41) dX4_endLine_41 f_X4_9 ha ?_
      refine M_aload_n (pc := 44) dX4_endLine_44 rfl ?_
      refine M_getI (pc := 45) dX4_endLine_45 f_X4_28 ha ?_
      obtain ⟨hq5, h⟩ := chk h
      refine M_iast (pc := 48) dX4_endLine_48 (gr_4_3 hp ha).2 (inB_in hq5) ?_
      refine M_aload_n (pc := 49) dX4_endLine_49 rfl ?_
      refine M_dup (pc := 50) dX4_endLine_50 rfl ?_
      refine M_getI (pc := 51) dX4_endLine_51 f_X4_9 ha ?_
      refine M_iconst (pc := 54) (v := 1) dX4_endLine_54 (by decide) ?_
      refine M_iadd (pc := 55) dX4_endLine_55 ?_
      refine M_putI (pc := 56) dX4_endLine_56 f_X4_9 ha rfl ⟨rfl, rfl⟩ ?_
      obtain rfl := Option.some.inj h
      exact M_vret (pc := 59) dX4_endLine_59 rfl rfl rfl
def F_X4_push (I : HI) (a : Nat) (x1 : Int32) (x2 : Int32) : Option (Int32 × HI) :=
  if (64 : Int32) ≤ x2 then some (x2, I) else if x1 < 0 then some (x2, I) else if x1 < (1009 : Int32) then if (1000 : Int32) ≤ x1 then (ald 9 (I 137) (x1 - (1000 : Int32))) >>= fun v5 => if inB x2 64 = true then some ((x2 + (1 : Int32)), (up2 I (a + 5) (x2).toNatClampNeg v5)) else none else if inB x2 64 = true then some ((x2 + (1 : Int32)), (up2 I (a + 5) (x2).toNatClampNeg x1)) else none else some (x2, I)
set_option maxRecDepth 4000 in
set_option maxHeartbeats 4000000 in
theorem C_X4_push {g : gX} {d : Nat} {P : Nat → Nat → Option Nat} {I : HI} {a : Nat} {x1 : Int32} {x2 : Int32} {J : HJ} (hp : Wp P) (ha : OB NT a 4) {r : Int32 × HI} (h : F_X4_push I a x1 x2 = some r) : Cm g mX4_push (d + 0) [.ref a, .int x1, .int x2, .ref 136] (NT, I, J, P) (some (.int r.1)) (NT, r.2, J, P) := by
  unfold F_X4_push at h
  refine Cm.of (by decide) (by simp [Value.category]) (Nat.le_of_ble_eq_true rfl) (Nat.le_refl _) (ls := [some (.ref a), some (.int x1), some (.int x2), some (.ref 136)]) rfl ?_
  refine M_iload_n (pc := 0) dX4_push_0 rfl ?_
  refine M_bipush (pc := 1) (v := 64) dX4_push_1 (by decide) ?_
  refine M_icmp_ge (pc := 3) (tgt := 17) dX4_push_3 (by decide) (fun hc1 => ?_) (fun hc1 => ?_)
  · have h := (if_pos hc1).symm.trans h
    refine M_iload_n (pc := 17) dX4_push_17 rfl ?_
    obtain rfl := Option.some.inj h
    exact M_iret (pc := 18) dX4_push_18 rfl rfl rfl rfl
  · have h := (if_neg hc1).symm.trans h
    refine M_iload_n (pc := 6) dX4_push_6 rfl ?_
    refine M_if_lt (pc := 7) (tgt := 17) dX4_push_7 (by decide) (fun hc2 => ?_) (fun hc2 => ?_)
    · have h := (if_pos hc2).symm.trans h
      refine M_iload_n (pc := 17) dX4_push_17 rfl ?_
      obtain rfl := Option.some.inj h
      exact M_iret (pc := 18) dX4_push_18 rfl rfl rfl rfl
    · have h := (if_neg hc2).symm.trans h
      refine M_iload_n (pc := 10) dX4_push_10 rfl ?_
      refine M_sipush (pc := 11) (v := 1009) dX4_push_11 (by decide) ?_
      refine M_icmp_lt (pc := 14) (tgt := 19) dX4_push_14 (by decide) (fun hc3 => ?_) (fun hc3 => ?_)
      · have h := (if_pos hc3).symm.trans h
        refine M_aload_n (pc := 19) dX4_push_19 rfl ?_
        refine M_getR (pc := 20) dX4_push_20 f_X4_31 ha (gr_4_6 hp ha).1 ?_
        refine M_iload_n (pc := 23) dX4_push_23 rfl ?_
        refine M_iload_n (pc := 24) dX4_push_24 rfl ?_
        refine M_sipush (pc := 25) (v := 1000) dX4_push_25 (by decide) ?_
        refine M_icmp_ge (pc := 28) (tgt := 35) dX4_push_28 (by decide) (fun hc4 => ?_) (fun hc4 => ?_)
        · have h := (if_pos hc4).symm.trans h
          refine M_aload_n (pc := 35) dX4_push_35 rfl ?_
          refine M_getR (pc := 36) dX4_push_36 f_X4_57 at_9 (gc_136_3 hp).1 ?_
          refine M_iload_n (pc := 39) dX4_push_39 rfl ?_
          refine M_sipush (pc := 40) (v := 1000) dX4_push_40 (by decide) ?_
          refine M_isub (pc := 43) dX4_push_43 ?_
          obtain ⟨v5, hv6, h⟩ := bnd h
          refine M_aldI (pc := 44) dX4_push_44 (gc_136_3 hp).2 hv6 ?_
          obtain ⟨hq7, h⟩ := chk h
          refine M_iast (pc := 45) dX4_push_45 (gr_4_6 hp ha).2 (inB_in hq7) ?_
          refine M_iload_n (pc := 46) dX4_push_46 rfl ?_
          refine M_iconst (pc := 47) (v := 1) dX4_push_47 (by decide) ?_
          refine M_iadd (pc := 48) dX4_push_48 ?_
          obtain rfl := Option.some.inj h
          exact M_iret (pc := 49) dX4_push_49 rfl rfl rfl rfl
        · have h := (if_neg hc4).symm.trans h
          refine M_iload_n (pc := 31) dX4_push_31 rfl ?_
          refine M_goto (pc := 32) (tgt := 45) dX4_push_32 (by decide) ?_
          obtain ⟨hq8, h⟩ := chk h
          refine M_iast (pc := 45) dX4_push_45 (gr_4_6 hp ha).2 (inB_in hq8) ?_
          refine M_iload_n (pc := 46) dX4_push_46 rfl ?_
          refine M_iconst (pc := 47) (v := 1) dX4_push_47 (by decide) ?_
          refine M_iadd (pc := 48) dX4_push_48 ?_
          obtain rfl := Option.some.inj h
          exact M_iret (pc := 49) dX4_push_49 rfl rfl rfl rfl
      · have h := (if_neg hc3).symm.trans h
        refine M_iload_n (pc := 17) dX4_push_17 rfl ?_
        obtain rfl := Option.some.inj h
        exact M_iret (pc := 18) dX4_push_18 rfl rfl rfl rfl
def F_X4_join (I : HI) (x0 : Int32) (x1 : Int32) (x2 : Int32) : Option (Int32) :=
  if x0 = (1010 : Int32) then some (x1 + x2) else if x0 = (1011 : Int32) then if x2 ≤ x1 then some (0 : Int32) else some (1 : Int32) else if x0 = (1012 : Int32) then if x1 ≤ x2 then some (0 : Int32) else some (1 : Int32) else if x0 = (1013 : Int32) then some (x1 ||| x2) else if x0 = (1014 : Int32) then some (x1 &&& x2) else some (x1 ||| x2)
set_option maxRecDepth 4000 in
set_option maxHeartbeats 4000000 in
theorem C_X4_join {g : gX} {d : Nat} {P : Nat → Nat → Option Nat} {I : HI} {x0 : Int32} {x1 : Int32} {x2 : Int32} {J : HJ} (hp : Wp P) {r : Int32} (h : F_X4_join I x0 x1 x2 = some r) : Cm g mX4_join (d + 0) [.int x0, .int x1, .int x2] (NT, I, J, P) (some (.int r)) (NT, I, J, P) := by
  unfold F_X4_join at h
  refine Cm.of (by decide) (by simp [Value.category]) (Nat.le_of_ble_eq_true rfl) (Nat.le_refl _) (ls := [some (.int x0), some (.int x1), some (.int x2)]) rfl ?_
  refine M_iload_n (pc := 0) dX4_join_0 rfl ?_
  by_cases hc1 : x0 = (1010 : Int32)
  · have h := (if_pos hc1).symm.trans h
    refine M_tableIn (pc := 1) (x := x0) (tgt := 36) dX4_join_1 (by rw [hc1]; decide) (by rw [hc1]; decide) (by rw [hc1]; rfl) (by decide) ?_
    refine M_iload_n (pc := 36) dX4_join_36 rfl ?_
    refine M_iload_n (pc := 37) dX4_join_37 rfl ?_
    refine M_iadd (pc := 38) dX4_join_38 ?_
    obtain rfl := Option.some.inj h
    exact M_iret (pc := 39) dX4_join_39 rfl rfl rfl rfl
  have h := (if_neg hc1).symm.trans h
  by_cases hc2 : x0 = (1011 : Int32)
  · have h := (if_pos hc2).symm.trans h
    refine M_tableIn (pc := 1) (x := x0) (tgt := 40) dX4_join_1 (by rw [hc2]; decide) (by rw [hc2]; decide) (by rw [hc2]; rfl) (by decide) ?_
    refine M_iload_n (pc := 40) dX4_join_40 rfl ?_
    refine M_iload_n (pc := 41) dX4_join_41 rfl ?_
    refine M_icmp_ge (pc := 42) (tgt := 49) dX4_join_42 (by decide) (fun hc3 => ?_) (fun hc3 => ?_)
    · have h := (if_pos hc3).symm.trans h
      refine M_iconst (pc := 49) (v := 0) dX4_join_49 (by decide) ?_
      obtain rfl := Option.some.inj h
      exact M_iret (pc := 50) dX4_join_50 rfl rfl rfl rfl
    · have h := (if_neg hc3).symm.trans h
      refine M_iconst (pc := 45) (v := 1) dX4_join_45 (by decide) ?_
      refine M_goto (pc := 46) (tgt := 50) dX4_join_46 (by decide) ?_
      obtain rfl := Option.some.inj h
      exact M_iret (pc := 50) dX4_join_50 rfl rfl rfl rfl
  have h := (if_neg hc2).symm.trans h
  by_cases hc4 : x0 = (1012 : Int32)
  · have h := (if_pos hc4).symm.trans h
    refine M_tableIn (pc := 1) (x := x0) (tgt := 51) dX4_join_1 (by rw [hc4]; decide) (by rw [hc4]; decide) (by rw [hc4]; rfl) (by decide) ?_
    refine M_iload_n (pc := 51) dX4_join_51 rfl ?_
    refine M_iload_n (pc := 52) dX4_join_52 rfl ?_
    refine M_icmp_le (pc := 53) (tgt := 60) dX4_join_53 (by decide) (fun hc5 => ?_) (fun hc5 => ?_)
    · have h := (if_pos hc5).symm.trans h
      refine M_iconst (pc := 60) (v := 0) dX4_join_60 (by decide) ?_
      obtain rfl := Option.some.inj h
      exact M_iret (pc := 61) dX4_join_61 rfl rfl rfl rfl
    · have h := (if_neg hc5).symm.trans h
      refine M_iconst (pc := 56) (v := 1) dX4_join_56 (by decide) ?_
      refine M_goto (pc := 57) (tgt := 61) dX4_join_57 (by decide) ?_
      obtain rfl := Option.some.inj h
      exact M_iret (pc := 61) dX4_join_61 rfl rfl rfl rfl
  have h := (if_neg hc4).symm.trans h
  by_cases hc6 : x0 = (1013 : Int32)
  · have h := (if_pos hc6).symm.trans h
    refine M_tableIn (pc := 1) (x := x0) (tgt := 66) dX4_join_1 (by rw [hc6]; decide) (by rw [hc6]; decide) (by rw [hc6]; rfl) (by decide) ?_
    refine M_iload_n (pc := 66) dX4_join_66 rfl ?_
    refine M_iload_n (pc := 67) dX4_join_67 rfl ?_
    refine M_ior (pc := 68) dX4_join_68 ?_
    obtain rfl := Option.some.inj h
    exact M_iret (pc := 69) dX4_join_69 rfl rfl rfl rfl
  have h := (if_neg hc6).symm.trans h
  by_cases hc7 : x0 = (1014 : Int32)
  · have h := (if_pos hc7).symm.trans h
    refine M_tableIn (pc := 1) (x := x0) (tgt := 62) dX4_join_1 (by rw [hc7]; decide) (by rw [hc7]; decide) (by rw [hc7]; rfl) (by decide) ?_
    refine M_iload_n (pc := 62) dX4_join_62 rfl ?_
    refine M_iload_n (pc := 63) dX4_join_63 rfl ?_
    refine M_iand (pc := 64) dX4_join_64 ?_
    obtain rfl := Option.some.inj h
    exact M_iret (pc := 65) dX4_join_65 rfl rfl rfl rfl
  have h := (if_neg hc7).symm.trans h
  refine M_tableOut (pc := 1) (x := x0) (tgt := 66) dX4_join_1 (sw_out 5 (by decide) (fun j hj => match j, hj with
    | 0, _ => sw_ne hc1 (by decide)
    | 1, _ => sw_ne hc2 (by decide)
    | 2, _ => sw_ne hc4 (by decide)
    | 3, _ => sw_ne hc6 (by decide)
    | 4, _ => sw_ne hc7 (by decide)
    | j + 5, hj => absurd hj (by omega))) (by decide) ?_
  refine M_iload_n (pc := 66) dX4_join_66 rfl ?_
  refine M_iload_n (pc := 67) dX4_join_67 rfl ?_
  refine M_ior (pc := 68) dX4_join_68 ?_
  obtain rfl := Option.some.inj h
  exact M_iret (pc := 69) dX4_join_69 rfl rfl rfl rfl
def F_X4_copy (I : HI) (a : Nat) (b1 : Nat) : Option (HI) :=
  some (up1 (up1 (up1 (up1 (up2 (up2 I a 0 (I b1 0)) a 5 (I b1 5)) (a + 1) (va_cpy ((up2 (up2 I a 0 (I b1 0)) a 5 (I b1 5)) (b1 + 1)) ((up2 (up2 I a 0 (I b1 0)) a 5 (I b1 5)) (a + 1)) 0 0 12)) (a + 2) (va_cpy ((up1 (up2 (up2 I a 0 (I b1 0)) a 5 (I b1 5)) (a + 1) (va_cpy ((up2 (up2 I a 0 (I b1 0)) a 5 (I b1 5)) (b1 + 1)) ((up2 (up2 I a 0 (I b1 0)) a 5 (I b1 5)) (a + 1)) 0 0 12)) (b1 + 2)) ((up1 (up2 (up2 I a 0 (I b1 0)) a 5 (I b1 5)) (a + 1) (va_cpy ((up2 (up2 I a 0 (I b1 0)) a 5 (I b1 5)) (b1 + 1)) ((up2 (up2 I a 0 (I b1 0)) a 5 (I b1 5)) (a + 1)) 0 0 12)) (a + 2)) 0 0 12)) (a + 3) (va_cpy ((up1 (up1 (up2 (up2 I a 0 (I b1 0)) a 5 (I b1 5)) (a + 1) (va_cpy ((up2 (up2 I a 0 (I b1 0)) a 5 (I b1 5)) (b1 + 1)) ((up2 (up2 I a 0 (I b1 0)) a 5 (I b1 5)) (a + 1)) 0 0 12)) (a + 2) (va_cpy ((up1 (up2 (up2 I a 0 (I b1 0)) a 5 (I b1 5)) (a + 1) (va_cpy ((up2 (up2 I a 0 (I b1 0)) a 5 (I b1 5)) (b1 + 1)) ((up2 (up2 I a 0 (I b1 0)) a 5 (I b1 5)) (a + 1)) 0 0 12)) (b1 + 2)) ((up1 (up2 (up2 I a 0 (I b1 0)) a 5 (I b1 5)) (a + 1) (va_cpy ((up2 (up2 I a 0 (I b1 0)) a 5 (I b1 5)) (b1 + 1)) ((up2 (up2 I a 0 (I b1 0)) a 5 (I b1 5)) (a + 1)) 0 0 12)) (a + 2)) 0 0 12)) (b1 + 3)) ((up1 (up1 (up2 (up2 I a 0 (I b1 0)) a 5 (I b1 5)) (a + 1) (va_cpy ((up2 (up2 I a 0 (I b1 0)) a 5 (I b1 5)) (b1 + 1)) ((up2 (up2 I a 0 (I b1 0)) a 5 (I b1 5)) (a + 1)) 0 0 12)) (a + 2) (va_cpy ((up1 (up2 (up2 I a 0 (I b1 0)) a 5 (I b1 5)) (a + 1) (va_cpy ((up2 (up2 I a 0 (I b1 0)) a 5 (I b1 5)) (b1 + 1)) ((up2 (up2 I a 0 (I b1 0)) a 5 (I b1 5)) (a + 1)) 0 0 12)) (b1 + 2)) ((up1 (up2 (up2 I a 0 (I b1 0)) a 5 (I b1 5)) (a + 1) (va_cpy ((up2 (up2 I a 0 (I b1 0)) a 5 (I b1 5)) (b1 + 1)) ((up2 (up2 I a 0 (I b1 0)) a 5 (I b1 5)) (a + 1)) 0 0 12)) (a + 2)) 0 0 12)) (a + 3)) 0 0 12)) (a + 4) (va_cpy ((up1 (up1 (up1 (up2 (up2 I a 0 (I b1 0)) a 5 (I b1 5)) (a + 1) (va_cpy ((up2 (up2 I a 0 (I b1 0)) a 5 (I b1 5)) (b1 + 1)) ((up2 (up2 I a 0 (I b1 0)) a 5 (I b1 5)) (a + 1)) 0 0 12)) (a + 2) (va_cpy ((up1 (up2 (up2 I a 0 (I b1 0)) a 5 (I b1 5)) (a + 1) (va_cpy ((up2 (up2 I a 0 (I b1 0)) a 5 (I b1 5)) (b1 + 1)) ((up2 (up2 I a 0 (I b1 0)) a 5 (I b1 5)) (a + 1)) 0 0 12)) (b1 + 2)) ((up1 (up2 (up2 I a 0 (I b1 0)) a 5 (I b1 5)) (a + 1) (va_cpy ((up2 (up2 I a 0 (I b1 0)) a 5 (I b1 5)) (b1 + 1)) ((up2 (up2 I a 0 (I b1 0)) a 5 (I b1 5)) (a + 1)) 0 0 12)) (a + 2)) 0 0 12)) (a + 3) (va_cpy ((up1 (up1 (up2 (up2 I a 0 (I b1 0)) a 5 (I b1 5)) (a + 1) (va_cpy ((up2 (up2 I a 0 (I b1 0)) a 5 (I b1 5)) (b1 + 1)) ((up2 (up2 I a 0 (I b1 0)) a 5 (I b1 5)) (a + 1)) 0 0 12)) (a + 2) (va_cpy ((up1 (up2 (up2 I a 0 (I b1 0)) a 5 (I b1 5)) (a + 1) (va_cpy ((up2 (up2 I a 0 (I b1 0)) a 5 (I b1 5)) (b1 + 1)) ((up2 (up2 I a 0 (I b1 0)) a 5 (I b1 5)) (a + 1)) 0 0 12)) (b1 + 2)) ((up1 (up2 (up2 I a 0 (I b1 0)) a 5 (I b1 5)) (a + 1) (va_cpy ((up2 (up2 I a 0 (I b1 0)) a 5 (I b1 5)) (b1 + 1)) ((up2 (up2 I a 0 (I b1 0)) a 5 (I b1 5)) (a + 1)) 0 0 12)) (a + 2)) 0 0 12)) (b1 + 3)) ((up1 (up1 (up2 (up2 I a 0 (I b1 0)) a 5 (I b1 5)) (a + 1) (va_cpy ((up2 (up2 I a 0 (I b1 0)) a 5 (I b1 5)) (b1 + 1)) ((up2 (up2 I a 0 (I b1 0)) a 5 (I b1 5)) (a + 1)) 0 0 12)) (a + 2) (va_cpy ((up1 (up2 (up2 I a 0 (I b1 0)) a 5 (I b1 5)) (a + 1) (va_cpy ((up2 (up2 I a 0 (I b1 0)) a 5 (I b1 5)) (b1 + 1)) ((up2 (up2 I a 0 (I b1 0)) a 5 (I b1 5)) (a + 1)) 0 0 12)) (b1 + 2)) ((up1 (up2 (up2 I a 0 (I b1 0)) a 5 (I b1 5)) (a + 1) (va_cpy ((up2 (up2 I a 0 (I b1 0)) a 5 (I b1 5)) (b1 + 1)) ((up2 (up2 I a 0 (I b1 0)) a 5 (I b1 5)) (a + 1)) 0 0 12)) (a + 2)) 0 0 12)) (a + 3)) 0 0 12)) (b1 + 4)) ((up1 (up1 (up1 (up2 (up2 I a 0 (I b1 0)) a 5 (I b1 5)) (a + 1) (va_cpy ((up2 (up2 I a 0 (I b1 0)) a 5 (I b1 5)) (b1 + 1)) ((up2 (up2 I a 0 (I b1 0)) a 5 (I b1 5)) (a + 1)) 0 0 12)) (a + 2) (va_cpy ((up1 (up2 (up2 I a 0 (I b1 0)) a 5 (I b1 5)) (a + 1) (va_cpy ((up2 (up2 I a 0 (I b1 0)) a 5 (I b1 5)) (b1 + 1)) ((up2 (up2 I a 0 (I b1 0)) a 5 (I b1 5)) (a + 1)) 0 0 12)) (b1 + 2)) ((up1 (up2 (up2 I a 0 (I b1 0)) a 5 (I b1 5)) (a + 1) (va_cpy ((up2 (up2 I a 0 (I b1 0)) a 5 (I b1 5)) (b1 + 1)) ((up2 (up2 I a 0 (I b1 0)) a 5 (I b1 5)) (a + 1)) 0 0 12)) (a + 2)) 0 0 12)) (a + 3) (va_cpy ((up1 (up1 (up2 (up2 I a 0 (I b1 0)) a 5 (I b1 5)) (a + 1) (va_cpy ((up2 (up2 I a 0 (I b1 0)) a 5 (I b1 5)) (b1 + 1)) ((up2 (up2 I a 0 (I b1 0)) a 5 (I b1 5)) (a + 1)) 0 0 12)) (a + 2) (va_cpy ((up1 (up2 (up2 I a 0 (I b1 0)) a 5 (I b1 5)) (a + 1) (va_cpy ((up2 (up2 I a 0 (I b1 0)) a 5 (I b1 5)) (b1 + 1)) ((up2 (up2 I a 0 (I b1 0)) a 5 (I b1 5)) (a + 1)) 0 0 12)) (b1 + 2)) ((up1 (up2 (up2 I a 0 (I b1 0)) a 5 (I b1 5)) (a + 1) (va_cpy ((up2 (up2 I a 0 (I b1 0)) a 5 (I b1 5)) (b1 + 1)) ((up2 (up2 I a 0 (I b1 0)) a 5 (I b1 5)) (a + 1)) 0 0 12)) (a + 2)) 0 0 12)) (b1 + 3)) ((up1 (up1 (up2 (up2 I a 0 (I b1 0)) a 5 (I b1 5)) (a + 1) (va_cpy ((up2 (up2 I a 0 (I b1 0)) a 5 (I b1 5)) (b1 + 1)) ((up2 (up2 I a 0 (I b1 0)) a 5 (I b1 5)) (a + 1)) 0 0 12)) (a + 2) (va_cpy ((up1 (up2 (up2 I a 0 (I b1 0)) a 5 (I b1 5)) (a + 1) (va_cpy ((up2 (up2 I a 0 (I b1 0)) a 5 (I b1 5)) (b1 + 1)) ((up2 (up2 I a 0 (I b1 0)) a 5 (I b1 5)) (a + 1)) 0 0 12)) (b1 + 2)) ((up1 (up2 (up2 I a 0 (I b1 0)) a 5 (I b1 5)) (a + 1) (va_cpy ((up2 (up2 I a 0 (I b1 0)) a 5 (I b1 5)) (b1 + 1)) ((up2 (up2 I a 0 (I b1 0)) a 5 (I b1 5)) (a + 1)) 0 0 12)) (a + 2)) 0 0 12)) (a + 3)) 0 0 12)) (a + 4)) 0 0 400))
set_option maxRecDepth 4000 in
set_option maxHeartbeats 4000000 in
theorem C_X4_copy {g : gX} {d : Nat} {P : Nat → Nat → Option Nat} {I : HI} {a : Nat} {b1 : Nat} {J : HJ} (hp : Wp P) (ha : OB NT a 4) (hb1 : OB NT b1 4) {r : HI} (h : F_X4_copy I a b1 = some r) : Cm g mX4_copy (d + 1) [.ref a, .ref b1] (NT, I, J, P) none (NT, r, J, P) := by
  unfold F_X4_copy at h
  refine Cm.of (by decide) (by simp [Value.category]) (Nat.le_of_ble_eq_true rfl) (Nat.le_refl _) (ls := [some (.ref a), some (.ref b1)]) rfl ?_
  refine M_aload_n (pc := 0) dX4_copy_0 rfl ?_
  refine M_aload_n (pc := 1) dX4_copy_1 rfl ?_
  refine M_getI (pc := 2) dX4_copy_2 f_X4_9 hb1 ?_
  refine M_putI (pc := 5) dX4_copy_5 f_X4_9 ha rfl ⟨rfl, rfl⟩ ?_
  refine M_aload_n (pc := 8) dX4_copy_8 rfl ?_
  refine M_aload_n (pc := 9) dX4_copy_9 rfl ?_
  refine M_getIs (pc := 10) (x := (I b1 5)) dX4_copy_10 f_X4_28 hb1 (rd_ne (Or.inr (by decide))) ?_
  refine M_putI (pc := 13) dX4_copy_13 f_X4_28 ha rfl ⟨rfl, rfl⟩ ?_
  refine M_aload_n (pc := 16) dX4_copy_16 rfl ?_
  refine M_getR (pc := 17) dX4_copy_17 f_X4_15 hb1 (gr_4_1 hp hb1).1 ?_
  refine M_iconst (pc := 20) (v := 0) dX4_copy_20 (by decide) ?_
  refine M_aload_n (pc := 21) dX4_copy_21 rfl ?_
  refine M_getR (pc := 22) dX4_copy_22 f_X4_15 ha (gr_4_1 hp ha).1 ?_
  refine M_iconst (pc := 25) (v := 0) dX4_copy_25 (by decide) ?_
  refine M_bipush (pc := 26) (v := 12) dX4_copy_26 (by decide) ?_
  refine M_copy0 (pc := 28) (k := 12) dX4_copy_28 w_615 w_470 w_469 w_14 (by omega) (by decide) (gr_4_1 hp ha).2 (gr_4_1 hp hb1).2 (by decide) (by decide) (by decide) (by decide) ?_
  refine M_aload_n (pc := 31) dX4_copy_31 rfl ?_
  refine M_getR (pc := 32) dX4_copy_32 f_X4_19 hb1 (gr_4_2 hp hb1).1 ?_
  refine M_iconst (pc := 35) (v := 0) dX4_copy_35 (by decide) ?_
  refine M_aload_n (pc := 36) dX4_copy_36 rfl ?_
  refine M_getR (pc := 37) dX4_copy_37 f_X4_19 ha (gr_4_2 hp ha).1 ?_
  refine M_iconst (pc := 40) (v := 0) dX4_copy_40 (by decide) ?_
  refine M_bipush (pc := 41) (v := 12) dX4_copy_41 (by decide) ?_
  refine M_copy0 (pc := 43) (k := 12) dX4_copy_43 w_615 w_470 w_469 w_14 (by omega) (by decide) (gr_4_2 hp ha).2 (gr_4_2 hp hb1).2 (by decide) (by decide) (by decide) (by decide) ?_
  refine M_aload_n (pc := 46) dX4_copy_46 rfl ?_
  refine M_getR (pc := 47) dX4_copy_47 f_X4_22 hb1 (gr_4_3 hp hb1).1 ?_
  refine M_iconst (pc := 50) (v := 0) dX4_copy_50 (by decide) ?_
  refine M_aload_n (pc := 51) dX4_copy_51 rfl ?_
  refine M_getR (pc := 52) dX4_copy_52 f_X4_22 ha (gr_4_3 hp ha).1 ?_
  refine M_iconst (pc := 55) (v := 0) dX4_copy_55 (by decide) ?_
  refine M_bipush (pc := 56) (v := 12) dX4_copy_56 (by decide) ?_
  refine M_copy0 (pc := 58) (k := 12) dX4_copy_58 w_615 w_470 w_469 w_14 (by omega) (by decide) (gr_4_3 hp ha).2 (gr_4_3 hp hb1).2 (by decide) (by decide) (by decide) (by decide) ?_
  refine M_aload_n (pc := 61) dX4_copy_61 rfl ?_
  refine M_getR (pc := 62) dX4_copy_62 f_X4_25 hb1 (gr_4_4 hp hb1).1 ?_
  refine M_iconst (pc := 65) (v := 0) dX4_copy_65 (by decide) ?_
  refine M_aload_n (pc := 66) dX4_copy_66 rfl ?_
  refine M_getR (pc := 67) dX4_copy_67 f_X4_25 ha (gr_4_4 hp ha).1 ?_
  refine M_iconst (pc := 70) (v := 0) dX4_copy_70 (by decide) ?_
  refine M_sipush (pc := 71) (v := 400) dX4_copy_71 (by decide) ?_
  refine M_copy0 (pc := 74) (k := 400) dX4_copy_74 w_615 w_470 w_469 w_14 (by omega) (by decide) (gr_4_4 hp ha).2 (gr_4_4 hp hb1).2 (by decide) (by decide) (by decide) (by decide) ?_
  obtain rfl := Option.some.inj h
  exact M_vret (pc := 77) dX4_copy_77 rfl rfl rfl
def L_X5_settle_7 (x1 : Int32) (x2 : Int32) (I : HI) : Option (HI) :=
  if x2 < 0 then some I else (ald 21 (I 154) x2) >>= fun v2 => if v2 = 0 then some I else (ald 21 (I 154) x2) >>= fun v5 => if x1 < v5 then some I else (ald 21 (I 154) x2) >>= fun v8 => if v8 = (1013 : Int32) then (ald 21 ((up2 I 146 8 ((I 146 8) - (1 : Int32))) 154) x2) >>= fun v15 => (F_X4_add (up2 I 146 8 ((I 146 8) - (1 : Int32))) 148 v15) >>= fun r17 => L_X5_settle_7 x1 (x2 + (-1 : Int32)) (up2 r17 146 7 x2) else (ald 21 (I 154) x2) >>= fun v11 => (F_X4_add I 148 v11) >>= fun r13 => L_X5_settle_7 x1 (x2 + (-1 : Int32)) (up2 r13 146 7 x2)
partial_fixpoint
def F_X5_settle (I : HI) (x1 : Int32) : Option (HI) :=
  L_X5_settle_7 x1 ((I 146 7) - (1 : Int32)) I
set_option maxRecDepth 4000 in
set_option maxHeartbeats 4000000 in
theorem LC_X5_settle_7 {g : gX} {d : Nat} {P : Nat → Nat → Option Nat} {J : HJ} {x1 : Int32} (hp : Wp P) (hx : P 146 0 = some 2) : ∀ (x2 : Int32) (I : HI) (r : HI), L_X5_settle_7 x1 x2 I = some r → M g mX5_settle (d + 1) (NT, NT, 0) ((.inl none), (NT, r, J, P)) 7 [some (.ref 146), some (.int x1), some (.int x2)] [] (NT, I, J, P) := by
  refine L_X5_settle_7.partial_correctness x1 (fun x2 I r => M g mX5_settle (d + 1) (NT, NT, 0) ((.inl none), (NT, r, J, P)) 7 [some (.ref 146), some (.int x1), some (.int x2)] [] (NT, I, J, P)) ?_
  intro f ih x2 I r h
  refine M_iload_n (pc := 7) dX5_settle_7 rfl ?_
  refine M_if_lt (pc := 8) (tgt := 76) dX5_settle_8 (by decide) (fun hc1 => ?_) (fun hc1 => ?_)
  · have h := (if_pos hc1).symm.trans h
    obtain rfl := Option.some.inj h
    exact M_vret (pc := 76) dX5_settle_76 rfl rfl rfl
  · have h := (if_neg hc1).symm.trans h
    refine M_aload_n (pc := 11) dX5_settle_11 rfl ?_
    refine M_getR (pc := 12) dX5_settle_12 f_X5_18 at_5 (gc_146_6 hp).1 ?_
    refine M_iload_n (pc := 15) dX5_settle_15 rfl ?_
    obtain ⟨v2, hv3, h⟩ := bnd h
    refine M_aldI (pc := 16) dX5_settle_16 (gc_146_6 hp).2 hv3 ?_
    refine M_if_eq (pc := 17) (tgt := 76) dX5_settle_17 (by decide) (fun hc4 => ?_) (fun hc4 => ?_)
    · have h := (if_pos hc4).symm.trans h
      obtain rfl := Option.some.inj h
      exact M_vret (pc := 76) dX5_settle_76 rfl rfl rfl
    · have h := (if_neg hc4).symm.trans h
      refine M_aload_n (pc := 20) dX5_settle_20 rfl ?_
      refine M_getR (pc := 21) dX5_settle_21 f_X5_18 at_5 (gc_146_6 hp).1 ?_
      refine M_iload_n (pc := 24) dX5_settle_24 rfl ?_
      obtain ⟨v5, hv6, h⟩ := bnd h
      refine M_aldI (pc := 25) dX5_settle_25 (gc_146_6 hp).2 hv6 ?_
      refine M_iload_n (pc := 26) dX5_settle_26 rfl ?_
      refine M_icmp_gt (pc := 27) (tgt := 76) dX5_settle_27 (by decide) (fun hc7 => ?_) (fun hc7 => ?_)
      · have h := (if_pos hc7).symm.trans h
        obtain rfl := Option.some.inj h
        exact M_vret (pc := 76) dX5_settle_76 rfl rfl rfl
      · have h := (if_neg hc7).symm.trans h
        refine M_aload_n (pc := 30) dX5_settle_30 rfl ?_
        refine M_getR (pc := 31) dX5_settle_31 f_X5_18 at_5 (gc_146_6 hp).1 ?_
        refine M_iload_n (pc := 34) dX5_settle_34 rfl ?_
        obtain ⟨v8, hv9, h⟩ := bnd h
        refine M_aldI (pc := 35) dX5_settle_35 (gc_146_6 hp).2 hv9 ?_
        refine M_sipush (pc := 36) (v := 1013) dX5_settle_36 (by decide) ?_
        refine M_icmp_ne (pc := 39) (tgt := 52) dX5_settle_39 (by decide) (fun hc10 => ?_) (fun hc10 => ?_)
        · have h := (if_neg hc10).symm.trans h
          refine M_aload_n (pc := 52) dX5_settle_52 rfl ?_
          refine M_getR (pc := 53) dX5_settle_53 f_X5_14 at_5 (gc_146_5 hp).1 ?_
          refine M_aload_n (pc := 56) dX5_settle_56 rfl ?_
          refine M_getR (pc := 57) dX5_settle_57 f_X5_18 at_5 (gc_146_6 hp).1 ?_
          refine M_iload_n (pc := 60) dX5_settle_60 rfl ?_
          obtain ⟨v11, hv12, h⟩ := bnd h
          refine M_aldI (pc := 61) dX5_settle_61 (gc_146_6 hp).2 hv12 ?_
          obtain ⟨r13, hr14, h⟩ := bnd h
          refine M_callVv (pc := 62) dX5_settle_62 v_X5_92 rfl rfl (gc_146_5 hp).2 (Nat.le_of_ble_eq_true rfl) (C_X4_add (d := d + 0) hp (gc_146_5 hp).2 hr14) (Nat.le_refl _) ?_
          refine M_aload_n (pc := 65) dX5_settle_65 rfl ?_
          refine M_iload_n (pc := 66) dX5_settle_66 rfl ?_
          refine M_putI (pc := 67) dX5_settle_67 f_X5_22 at_5 rfl ⟨rfl, rfl⟩ ?_
          refine M_iinc (pc := 70) (v := (x2 + (-1 : Int32))) (ls' := [some (.ref 146), some (.int x1), some (.int (x2 + (-1 : Int32)))]) dX5_settle_70 rfl rfl (by decide) rfl ?_
          refine M_goto (pc := 73) (tgt := 7) dX5_settle_73 (by decide) ?_
          exact ih (x2 + (-1 : Int32)) (up2 r13 146 7 x2) _ h
        · have h := (if_pos hc10).symm.trans h
          refine M_aload_n (pc := 42) dX5_settle_42 rfl ?_
          refine M_dup (pc := 43) dX5_settle_43 rfl ?_
          refine M_getI (pc := 44) dX5_settle_44 f_X5_26 at_5 ?_
          refine M_iconst (pc := 47) (v := 1) dX5_settle_47 (by decide) ?_
          refine M_isub (pc := 48) dX5_settle_48 ?_
          refine M_putI (pc := 49) dX5_settle_49 f_X5_26 at_5 rfl ⟨rfl, rfl⟩ ?_
          refine M_aload_n (pc := 52) dX5_settle_52 rfl ?_
          refine M_getR (pc := 53) dX5_settle_53 f_X5_14 at_5 (gc_146_5 hp).1 ?_
          refine M_aload_n (pc := 56) dX5_settle_56 rfl ?_
          refine M_getR (pc := 57) dX5_settle_57 f_X5_18 at_5 (gc_146_6 hp).1 ?_
          refine M_iload_n (pc := 60) dX5_settle_60 rfl ?_
          obtain ⟨v15, hv16, h⟩ := bnd h
          refine M_aldI (pc := 61) dX5_settle_61 (gc_146_6 hp).2 hv16 ?_
          obtain ⟨r17, hr18, h⟩ := bnd h
          refine M_callVv (pc := 62) dX5_settle_62 v_X5_92 rfl rfl (gc_146_5 hp).2 (Nat.le_of_ble_eq_true rfl) (C_X4_add (d := d + 0) hp (gc_146_5 hp).2 hr18) (Nat.le_refl _) ?_
          refine M_aload_n (pc := 65) dX5_settle_65 rfl ?_
          refine M_iload_n (pc := 66) dX5_settle_66 rfl ?_
          refine M_putI (pc := 67) dX5_settle_67 f_X5_22 at_5 rfl ⟨rfl, rfl⟩ ?_
          refine M_iinc (pc := 70) (v := (x2 + (-1 : Int32))) (ls' := [some (.ref 146), some (.int x1), some (.int (x2 + (-1 : Int32)))]) dX5_settle_70 rfl rfl (by decide) rfl ?_
          refine M_goto (pc := 73) (tgt := 7) dX5_settle_73 (by decide) ?_
          exact ih (x2 + (-1 : Int32)) (up2 r17 146 7 x2) _ h
set_option maxRecDepth 4000 in
set_option maxHeartbeats 4000000 in
theorem C_X5_settle {g : gX} {d : Nat} {P : Nat → Nat → Option Nat} {I : HI} {x1 : Int32} {J : HJ} (hp : Wp P) (hx : P 146 0 = some 2) {r : HI} (h : F_X5_settle I x1 = some r) : Cm g mX5_settle (d + 1) [.ref 146, .int x1] (NT, I, J, P) none (NT, r, J, P) := by
  unfold F_X5_settle at h
  refine Cm.of (by decide) (by simp [Value.category]) (Nat.le_of_ble_eq_true rfl) (Nat.le_refl _) (ls := [some (.ref 146), some (.int x1), none]) rfl ?_
  refine M_aload_n (pc := 0) dX5_settle_0 rfl ?_
  refine M_getI (pc := 1) dX5_settle_1 f_X5_22 at_5 ?_
  refine M_iconst (pc := 4) (v := 1) dX5_settle_4 (by decide) ?_
  refine M_isub (pc := 5) dX5_settle_5 ?_
  refine M_istore_n (pc := 6) (ls' := [some (.ref 146), some (.int x1), some (.int ((I 146 7) - (1 : Int32)))]) dX5_settle_6 (by decide) rfl ?_
  exact LC_X5_settle_7 (P := P) hp hx ((I 146 7) - (1 : Int32)) I _ h
def F_X7_write (I : HI) (a : Nat) (x1 : Int32) (x2 : Int32) (x3 : Int32) (x4 : Int32) : Option (HI) :=
  if ((((I a 1) + (1 : Int32)) - ((I a 1) + (1 : Int32)) / (60 : Int32) * (60 : Int32)) * (4 : Int32)) < 0 then some (up2 (up2 I a 1 (((I a 1) + (1 : Int32)) - ((I a 1) + (1 : Int32)) / (60 : Int32) * (60 : Int32))) a 0 (if ((I a 0) + (1 : Int32)) < (60 : Int32) then ((I a 0) + (1 : Int32)) else (60 : Int32))) else if (240 : Int32) < (((((I a 1) + (1 : Int32)) - ((I a 1) + (1 : Int32)) / (60 : Int32) * (60 : Int32)) * (4 : Int32)) + (4 : Int32)) then some (up2 (up2 I a 1 (((I a 1) + (1 : Int32)) - ((I a 1) + (1 : Int32)) / (60 : Int32) * (60 : Int32))) a 0 (if ((I a 0) + (1 : Int32)) < (60 : Int32) then ((I a 0) + (1 : Int32)) else (60 : Int32))) else if inB ((((I a 1) + (1 : Int32)) - ((I a 1) + (1 : Int32)) / (60 : Int32) * (60 : Int32)) * (4 : Int32)) 240 = true then if inB (((((I a 1) + (1 : Int32)) - ((I a 1) + (1 : Int32)) / (60 : Int32) * (60 : Int32)) * (4 : Int32)) + (1 : Int32)) 240 = true then if inB (((((I a 1) + (1 : Int32)) - ((I a 1) + (1 : Int32)) / (60 : Int32) * (60 : Int32)) * (4 : Int32)) + (2 : Int32)) 240 = true then if inB (((((I a 1) + (1 : Int32)) - ((I a 1) + (1 : Int32)) / (60 : Int32) * (60 : Int32)) * (4 : Int32)) + (3 : Int32)) 240 = true then some (up2 (up2 (up2 (up2 (up2 (up2 I a 1 (((I a 1) + (1 : Int32)) - ((I a 1) + (1 : Int32)) / (60 : Int32) * (60 : Int32))) (a + 1) (((((I a 1) + (1 : Int32)) - ((I a 1) + (1 : Int32)) / (60 : Int32) * (60 : Int32)) * (4 : Int32))).toNatClampNeg x1) (a + 1) ((((((I a 1) + (1 : Int32)) - ((I a 1) + (1 : Int32)) / (60 : Int32) * (60 : Int32)) * (4 : Int32)) + (1 : Int32))).toNatClampNeg x2) (a + 1) ((((((I a 1) + (1 : Int32)) - ((I a 1) + (1 : Int32)) / (60 : Int32) * (60 : Int32)) * (4 : Int32)) + (2 : Int32))).toNatClampNeg x3) (a + 1) ((((((I a 1) + (1 : Int32)) - ((I a 1) + (1 : Int32)) / (60 : Int32) * (60 : Int32)) * (4 : Int32)) + (3 : Int32))).toNatClampNeg x4) a 0 (if (((up2 (up2 (up2 (up2 (up2 I a 1 (((I a 1) + (1 : Int32)) - ((I a 1) + (1 : Int32)) / (60 : Int32) * (60 : Int32))) (a + 1) (((((I a 1) + (1 : Int32)) - ((I a 1) + (1 : Int32)) / (60 : Int32) * (60 : Int32)) * (4 : Int32))).toNatClampNeg x1) (a + 1) ((((((I a 1) + (1 : Int32)) - ((I a 1) + (1 : Int32)) / (60 : Int32) * (60 : Int32)) * (4 : Int32)) + (1 : Int32))).toNatClampNeg x2) (a + 1) ((((((I a 1) + (1 : Int32)) - ((I a 1) + (1 : Int32)) / (60 : Int32) * (60 : Int32)) * (4 : Int32)) + (2 : Int32))).toNatClampNeg x3) (a + 1) ((((((I a 1) + (1 : Int32)) - ((I a 1) + (1 : Int32)) / (60 : Int32) * (60 : Int32)) * (4 : Int32)) + (3 : Int32))).toNatClampNeg x4) a 0) + (1 : Int32)) < (60 : Int32) then (((up2 (up2 (up2 (up2 (up2 I a 1 (((I a 1) + (1 : Int32)) - ((I a 1) + (1 : Int32)) / (60 : Int32) * (60 : Int32))) (a + 1) (((((I a 1) + (1 : Int32)) - ((I a 1) + (1 : Int32)) / (60 : Int32) * (60 : Int32)) * (4 : Int32))).toNatClampNeg x1) (a + 1) ((((((I a 1) + (1 : Int32)) - ((I a 1) + (1 : Int32)) / (60 : Int32) * (60 : Int32)) * (4 : Int32)) + (1 : Int32))).toNatClampNeg x2) (a + 1) ((((((I a 1) + (1 : Int32)) - ((I a 1) + (1 : Int32)) / (60 : Int32) * (60 : Int32)) * (4 : Int32)) + (2 : Int32))).toNatClampNeg x3) (a + 1) ((((((I a 1) + (1 : Int32)) - ((I a 1) + (1 : Int32)) / (60 : Int32) * (60 : Int32)) * (4 : Int32)) + (3 : Int32))).toNatClampNeg x4) a 0) + (1 : Int32)) else (60 : Int32))) else none else none else none else none
set_option maxRecDepth 4000 in
set_option maxHeartbeats 4000000 in
theorem C_X7_write {g : gX} {d : Nat} {P : Nat → Nat → Option Nat} {I : HI} {a : Nat} {x1 : Int32} {x2 : Int32} {x3 : Int32} {x4 : Int32} {J : HJ} (hp : Wp P) (ha : OB NT a 7) {r : HI} (h : F_X7_write I a x1 x2 x3 x4 = some r) : Cm g mX7_write (d + 1) [.ref a, .int x1, .int x2, .int x3, .int x4] (NT, I, J, P) none (NT, r, J, P) := by
  unfold F_X7_write at h
  refine Cm.of (by decide) (by simp [Value.category]) (Nat.le_of_ble_eq_true rfl) (Nat.le_refl _) (ls := [some (.ref a), some (.int x1), some (.int x2), some (.int x3), some (.int x4), none]) rfl ?_
  refine M_aload_n (pc := 0) dX7_write_0 rfl ?_
  refine M_aload_n (pc := 1) dX7_write_1 rfl ?_
  refine M_getI (pc := 2) dX7_write_2 f_X7_15 ha ?_
  refine M_iconst (pc := 5) (v := 1) dX7_write_5 (by decide) ?_
  refine M_iadd (pc := 6) dX7_write_6 ?_
  refine M_bipush (pc := 7) (v := 60) dX7_write_7 (by decide) ?_
  refine M_irem (pc := 9) dX7_write_9 (by decide) ?_
  refine M_putI (pc := 10) dX7_write_10 f_X7_15 ha rfl ⟨rfl, rfl⟩ ?_
  refine M_aload_n (pc := 13) dX7_write_13 rfl ?_
  refine M_getIs (pc := 14) (x := (((I a 1) + (1 : Int32)) - ((I a 1) + (1 : Int32)) / (60 : Int32) * (60 : Int32))) dX7_write_14 f_X7_15 ha rd_eq ?_
  refine M_iconst (pc := 17) (v := 4) dX7_write_17 (by decide) ?_
  refine M_imul (pc := 18) dX7_write_18 ?_
  refine M_istore (pc := 19) (ls' := [some (.ref a), some (.int x1), some (.int x2), some (.int x3), some (.int x4), some (.int ((((I a 1) + (1 : Int32)) - ((I a 1) + (1 : Int32)) / (60 : Int32) * (60 : Int32)) * (4 : Int32)))]) dX7_write_19 (by decide) rfl ?_
  refine M_iload (pc := 21) dX7_write_21 rfl ?_
  refine M_if_lt (pc := 23) (tgt := 75) dX7_write_23 (by decide) (fun hc1 => ?_) (fun hc1 => ?_)
  · have h := (if_pos hc1).symm.trans h
    refine M_aload_n (pc := 75) dX7_write_75 rfl ?_
    refine M_bipush (pc := 76) (v := 60) dX7_write_76 (by decide) ?_
    refine M_aload_n (pc := 78) dX7_write_78 rfl ?_
    refine M_getIs (pc := 79) (x := (I a 0)) dX7_write_79 f_X7_9 ha (rd_ne (Or.inr (by decide))) ?_
    refine M_iconst (pc := 82) (v := 1) dX7_write_82 (by decide) ?_
    refine M_iadd (pc := 83) dX7_write_83 ?_
    refine M_mmin (pc := 84) dX7_write_84 mm_X7_22.1 mm_X7_22.2.1 mm_X7_22.2.2.1 mm_X7_22.2.2.2 (Nat.le_of_ble_eq_true rfl) ?_
    refine M_putI (pc := 87) dX7_write_87 f_X7_9 ha rfl ⟨rfl, rfl⟩ ?_
    obtain rfl := Option.some.inj h
    exact M_vret (pc := 90) dX7_write_90 rfl rfl rfl
  · have h := (if_neg hc1).symm.trans h
    refine M_iload (pc := 26) dX7_write_26 rfl ?_
    refine M_iconst (pc := 28) (v := 4) dX7_write_28 (by decide) ?_
    refine M_iadd (pc := 29) dX7_write_29 ?_
    refine M_sipush (pc := 30) (v := 240) dX7_write_30 (by decide) ?_
    refine M_icmp_gt (pc := 33) (tgt := 75) dX7_write_33 (by decide) (fun hc2 => ?_) (fun hc2 => ?_)
    · have h := (if_pos hc2).symm.trans h
      refine M_aload_n (pc := 75) dX7_write_75 rfl ?_
      refine M_bipush (pc := 76) (v := 60) dX7_write_76 (by decide) ?_
      refine M_aload_n (pc := 78) dX7_write_78 rfl ?_
      refine M_getIs (pc := 79) (x := (I a 0)) dX7_write_79 f_X7_9 ha (rd_ne (Or.inr (by decide))) ?_
      refine M_iconst (pc := 82) (v := 1) dX7_write_82 (by decide) ?_
      refine M_iadd (pc := 83) dX7_write_83 ?_
      refine M_mmin (pc := 84) dX7_write_84 mm_X7_22.1 mm_X7_22.2.1 mm_X7_22.2.2.1 mm_X7_22.2.2.2 (Nat.le_of_ble_eq_true rfl) ?_
      refine M_putI (pc := 87) dX7_write_87 f_X7_9 ha rfl ⟨rfl, rfl⟩ ?_
      obtain rfl := Option.some.inj h
      exact M_vret (pc := 90) dX7_write_90 rfl rfl rfl
    · have h := (if_neg hc2).symm.trans h
      refine M_aload_n (pc := 36) dX7_write_36 rfl ?_
      refine M_getR (pc := 37) dX7_write_37 f_X7_18 ha (gr_7_2 hp ha).1 ?_
      refine M_iload (pc := 40) dX7_write_40 rfl ?_
      refine M_iload_n (pc := 42) dX7_write_42 rfl ?_
      obtain ⟨hq3, h⟩ := chk h
      refine M_iast (pc := 43) dX7_write_43 (gr_7_2 hp ha).2 (inB_in hq3) ?_
      refine M_aload_n (pc := 44) dX7_write_44 rfl ?_
      refine M_getR (pc := 45) dX7_write_45 f_X7_18 ha (gr_7_2 hp ha).1 ?_
      refine M_iload (pc := 48) dX7_write_48 rfl ?_
      refine M_iconst (pc := 50) (v := 1) dX7_write_50 (by decide) ?_
      refine M_iadd (pc := 51) dX7_write_51 ?_
      refine M_iload_n (pc := 52) dX7_write_52 rfl ?_
      obtain ⟨hq4, h⟩ := chk h
      refine M_iast (pc := 53) dX7_write_53 (gr_7_2 hp ha).2 (inB_in hq4) ?_
      refine M_aload_n (pc := 54) dX7_write_54 rfl ?_
      refine M_getR (pc := 55) dX7_write_55 f_X7_18 ha (gr_7_2 hp ha).1 ?_
      refine M_iload (pc := 58) dX7_write_58 rfl ?_
      refine M_iconst (pc := 60) (v := 2) dX7_write_60 (by decide) ?_
      refine M_iadd (pc := 61) dX7_write_61 ?_
      refine M_iload_n (pc := 62) dX7_write_62 rfl ?_
      obtain ⟨hq5, h⟩ := chk h
      refine M_iast (pc := 63) dX7_write_63 (gr_7_2 hp ha).2 (inB_in hq5) ?_
      refine M_aload_n (pc := 64) dX7_write_64 rfl ?_
      refine M_getR (pc := 65) dX7_write_65 f_X7_18 ha (gr_7_2 hp ha).1 ?_
      refine M_iload (pc := 68) dX7_write_68 rfl ?_
      refine M_iconst (pc := 70) (v := 3) dX7_write_70 (by decide) ?_
      refine M_iadd (pc := 71) dX7_write_71 ?_
      refine M_iload (pc := 72) dX7_write_72 rfl ?_
      obtain ⟨hq6, h⟩ := chk h
      refine M_iast (pc := 74) dX7_write_74 (gr_7_2 hp ha).2 (inB_in hq6) ?_
      refine M_aload_n (pc := 75) dX7_write_75 rfl ?_
      refine M_bipush (pc := 76) (v := 60) dX7_write_76 (by decide) ?_
      refine M_aload_n (pc := 78) dX7_write_78 rfl ?_
      refine M_getI (pc := 79) dX7_write_79 f_X7_9 ha ?_
      refine M_iconst (pc := 82) (v := 1) dX7_write_82 (by decide) ?_
      refine M_iadd (pc := 83) dX7_write_83 ?_
      refine M_mmin (pc := 84) dX7_write_84 mm_X7_22.1 mm_X7_22.2.1 mm_X7_22.2.2.1 mm_X7_22.2.2.2 (Nat.le_of_ble_eq_true rfl) ?_
      refine M_putI (pc := 87) dX7_write_87 f_X7_9 ha rfl ⟨rfl, rfl⟩ ?_
      obtain rfl := Option.some.inj h
      exact M_vret (pc := 90) dX7_write_90 rfl rfl rfl
def F_X7_read (I : HI) (a : Nat) (x1 : Int32) (x2 : Int32) : Option (Int32) :=
  if x1 < 0 then some (-2 : Int32) else if (I a 0) ≤ x1 then some (-2 : Int32) else if x2 < 0 then some (-2 : Int32) else if x2 < (4 : Int32) then (ald 240 (I (a + 1)) ((((((I a 1) + (60 : Int32)) - x1) - (((I a 1) + (60 : Int32)) - x1) / (60 : Int32) * (60 : Int32)) * (4 : Int32)) + x2)) >>= fun v5 => some v5 else some (-2 : Int32)
set_option maxRecDepth 4000 in
set_option maxHeartbeats 4000000 in
theorem C_X7_read {g : gX} {d : Nat} {P : Nat → Nat → Option Nat} {I : HI} {a : Nat} {x1 : Int32} {x2 : Int32} {J : HJ} (hp : Wp P) (ha : OB NT a 7) {r : Int32} (h : F_X7_read I a x1 x2 = some r) : Cm g mX7_read (d + 0) [.ref a, .int x1, .int x2] (NT, I, J, P) (some (.int r)) (NT, I, J, P) := by
  unfold F_X7_read at h
  refine Cm.of (by decide) (by simp [Value.category]) (Nat.le_of_ble_eq_true rfl) (Nat.le_refl _) (ls := [some (.ref a), some (.int x1), some (.int x2)]) rfl ?_
  refine M_iload_n (pc := 0) dX7_read_0 rfl ?_
  refine M_if_lt (pc := 1) (tgt := 21) dX7_read_1 (by decide) (fun hc1 => ?_) (fun hc1 => ?_)
  · have h := (if_pos hc1).symm.trans h
    refine M_bipush (pc := 21) (v := -2) dX7_read_21 (by decide) ?_
    obtain rfl := Option.some.inj h
    exact M_iret (pc := 23) dX7_read_23 rfl rfl rfl rfl
  · have h := (if_neg hc1).symm.trans h
    refine M_iload_n (pc := 4) dX7_read_4 rfl ?_
    refine M_aload_n (pc := 5) dX7_read_5 rfl ?_
    refine M_getI (pc := 6) dX7_read_6 f_X7_9 ha ?_
    refine M_icmp_ge (pc := 9) (tgt := 21) dX7_read_9 (by decide) (fun hc2 => ?_) (fun hc2 => ?_)
    · have h := (if_pos hc2).symm.trans h
      refine M_bipush (pc := 21) (v := -2) dX7_read_21 (by decide) ?_
      obtain rfl := Option.some.inj h
      exact M_iret (pc := 23) dX7_read_23 rfl rfl rfl rfl
    · have h := (if_neg hc2).symm.trans h
      refine M_iload_n (pc := 12) dX7_read_12 rfl ?_
      refine M_if_lt (pc := 13) (tgt := 21) dX7_read_13 (by decide) (fun hc3 => ?_) (fun hc3 => ?_)
      · have h := (if_pos hc3).symm.trans h
        refine M_bipush (pc := 21) (v := -2) dX7_read_21 (by decide) ?_
        obtain rfl := Option.some.inj h
        exact M_iret (pc := 23) dX7_read_23 rfl rfl rfl rfl
      · have h := (if_neg hc3).symm.trans h
        refine M_iload_n (pc := 16) dX7_read_16 rfl ?_
        refine M_iconst (pc := 17) (v := 4) dX7_read_17 (by decide) ?_
        refine M_icmp_lt (pc := 18) (tgt := 24) dX7_read_18 (by decide) (fun hc4 => ?_) (fun hc4 => ?_)
        · have h := (if_pos hc4).symm.trans h
          refine M_aload_n (pc := 24) dX7_read_24 rfl ?_
          refine M_getR (pc := 25) dX7_read_25 f_X7_18 ha (gr_7_2 hp ha).1 ?_
          refine M_aload_n (pc := 28) dX7_read_28 rfl ?_
          refine M_getI (pc := 29) dX7_read_29 f_X7_15 ha ?_
          refine M_bipush (pc := 32) (v := 60) dX7_read_32 (by decide) ?_
          refine M_iadd (pc := 34) dX7_read_34 ?_
          refine M_iload_n (pc := 35) dX7_read_35 rfl ?_
          refine M_isub (pc := 36) dX7_read_36 ?_
          refine M_bipush (pc := 37) (v := 60) dX7_read_37 (by decide) ?_
          refine M_irem (pc := 39) dX7_read_39 (by decide) ?_
          refine M_iconst (pc := 40) (v := 4) dX7_read_40 (by decide) ?_
          refine M_imul (pc := 41) dX7_read_41 ?_
          refine M_iload_n (pc := 42) dX7_read_42 rfl ?_
          refine M_iadd (pc := 43) dX7_read_43 ?_
          obtain ⟨v5, hv6, h⟩ := bnd h
          refine M_aldI (pc := 44) dX7_read_44 (gr_7_2 hp ha).2 hv6 ?_
          obtain rfl := Option.some.inj h
          exact M_iret (pc := 45) dX7_read_45 rfl rfl rfl rfl
        · have h := (if_neg hc4).symm.trans h
          refine M_bipush (pc := 21) (v := -2) dX7_read_21 (by decide) ?_
          obtain rfl := Option.some.inj h
          exact M_iret (pc := 23) dX7_read_23 rfl rfl rfl rfl
def L_X7_rowsOf_4 (I : HI) (a : Nat) (x1 : Int32) (x2 : Int32) (x3 : Int32) : Option (Int32) :=
  if (I a 0) ≤ x3 then some x2 else (F_X7_read I a x3 (1 : Int32)) >>= fun r2 => if r2 = x1 then L_X7_rowsOf_4 I a x1 (x2 + (1 : Int32)) (x3 + (1 : Int32)) else L_X7_rowsOf_4 I a x1 x2 (x3 + (1 : Int32))
partial_fixpoint
def F_X7_rowsOf (I : HI) (a : Nat) (x1 : Int32) : Option (Int32) :=
  L_X7_rowsOf_4 I a x1 (0 : Int32) (0 : Int32)
set_option maxRecDepth 4000 in
set_option maxHeartbeats 4000000 in
theorem LC_X7_rowsOf_4 {g : gX} {d : Nat} {P : Nat → Nat → Option Nat} {J : HJ} {I : HI} {a : Nat} {x1 : Int32} (hp : Wp P) (ha : OB NT a 7) : ∀ (x2 : Int32) (x3 : Int32) (r : Int32), L_X7_rowsOf_4 I a x1 x2 x3 = some r → M g mX7_rowsOf (d + 1) (NT, NT, 0) ((.inl (some (.int r))), (NT, I, J, P)) 4 [some (.ref a), some (.int x1), some (.int x2), some (.int x3)] [] (NT, I, J, P) := by
  refine L_X7_rowsOf_4.partial_correctness I a x1 (fun x2 x3 r => M g mX7_rowsOf (d + 1) (NT, NT, 0) ((.inl (some (.int r))), (NT, I, J, P)) 4 [some (.ref a), some (.int x1), some (.int x2), some (.int x3)] [] (NT, I, J, P)) ?_
  intro f ih x2 x3 r h
  refine M_iload_n (pc := 4) dX7_rowsOf_4 rfl ?_
  refine M_aload_n (pc := 5) dX7_rowsOf_5 rfl ?_
  refine M_getI (pc := 6) dX7_rowsOf_6 f_X7_9 ha ?_
  refine M_icmp_ge (pc := 9) (tgt := 31) dX7_rowsOf_9 (by decide) (fun hc1 => ?_) (fun hc1 => ?_)
  · have h := (if_pos hc1).symm.trans h
    refine M_iload_n (pc := 31) dX7_rowsOf_31 rfl ?_
    obtain rfl := Option.some.inj h
    exact M_iret (pc := 32) dX7_rowsOf_32 rfl rfl rfl rfl
  · have h := (if_neg hc1).symm.trans h
    refine M_aload_n (pc := 12) dX7_rowsOf_12 rfl ?_
    refine M_iload_n (pc := 13) dX7_rowsOf_13 rfl ?_
    refine M_iconst (pc := 14) (v := 1) dX7_rowsOf_14 (by decide) ?_
    obtain ⟨r2, hr3, h⟩ := bnd h
    refine M_callVi (pc := 15) dX7_rowsOf_15 v_X7_28 rfl rfl ha (Nat.le_of_ble_eq_true rfl) (C_X7_read (d := d + 0) hp ha hr3) (Nat.le_refl _) ?_
    refine M_iload_n (pc := 18) dX7_rowsOf_18 rfl ?_
    refine M_icmp_ne (pc := 19) (tgt := 25) dX7_rowsOf_19 (by decide) (fun hc4 => ?_) (fun hc4 => ?_)
    · have h := (if_neg hc4).symm.trans h
      refine M_iinc (pc := 25) (v := (x3 + (1 : Int32))) (ls' := [some (.ref a), some (.int x1), some (.int x2), some (.int (x3 + (1 : Int32)))]) dX7_rowsOf_25 rfl rfl (by decide) rfl ?_
      refine M_goto (pc := 28) (tgt := 4) dX7_rowsOf_28 (by decide) ?_
      exact ih x2 (x3 + (1 : Int32)) _ h
    · have h := (if_pos hc4).symm.trans h
      refine M_iinc (pc := 22) (v := (x2 + (1 : Int32))) (ls' := [some (.ref a), some (.int x1), some (.int (x2 + (1 : Int32))), some (.int x3)]) dX7_rowsOf_22 rfl rfl (by decide) rfl ?_
      refine M_iinc (pc := 25) (v := (x3 + (1 : Int32))) (ls' := [some (.ref a), some (.int x1), some (.int (x2 + (1 : Int32))), some (.int (x3 + (1 : Int32)))]) dX7_rowsOf_25 rfl rfl (by decide) rfl ?_
      refine M_goto (pc := 28) (tgt := 4) dX7_rowsOf_28 (by decide) ?_
      exact ih (x2 + (1 : Int32)) (x3 + (1 : Int32)) _ h
set_option maxRecDepth 4000 in
set_option maxHeartbeats 4000000 in
theorem C_X7_rowsOf {g : gX} {d : Nat} {P : Nat → Nat → Option Nat} {I : HI} {a : Nat} {x1 : Int32} {J : HJ} (hp : Wp P) (ha : OB NT a 7) {r : Int32} (h : F_X7_rowsOf I a x1 = some r) : Cm g mX7_rowsOf (d + 1) [.ref a, .int x1] (NT, I, J, P) (some (.int r)) (NT, I, J, P) := by
  unfold F_X7_rowsOf at h
  refine Cm.of (by decide) (by simp [Value.category]) (Nat.le_of_ble_eq_true rfl) (Nat.le_refl _) (ls := [some (.ref a), some (.int x1), none, none]) rfl ?_
  refine M_iconst (pc := 0) (v := 0) dX7_rowsOf_0 (by decide) ?_
  refine M_istore_n (pc := 1) (ls' := [some (.ref a), some (.int x1), some (.int (0 : Int32)), none]) dX7_rowsOf_1 (by decide) rfl ?_
  refine M_iconst (pc := 2) (v := 0) dX7_rowsOf_2 (by decide) ?_
  refine M_istore_n (pc := 3) (ls' := [some (.ref a), some (.int x1), some (.int (0 : Int32)), some (.int (0 : Int32))]) dX7_rowsOf_3 (by decide) rfl ?_
  exact LC_X7_rowsOf_4 (P := P) hp ha (0 : Int32) (0 : Int32) _ h
def L_X7_latestEvening_2 (I : HI) (a : Nat) (x1 : Int32) (x2 : Int32) : Option (Int32) :=
  if (I a 0) ≤ x2 then some (-1 : Int32) else (F_X7_read I a x2 (1 : Int32)) >>= fun r2 => if r2 = x1 then (F_X7_read I a x2 (0 : Int32)) >>= fun r5 => some r5 else L_X7_latestEvening_2 I a x1 (x2 + (1 : Int32))
partial_fixpoint
def F_X7_latestEvening (I : HI) (a : Nat) (x1 : Int32) : Option (Int32) :=
  L_X7_latestEvening_2 I a x1 (0 : Int32)
set_option maxRecDepth 4000 in
set_option maxHeartbeats 4000000 in
theorem LC_X7_latestEvening_2 {g : gX} {d : Nat} {P : Nat → Nat → Option Nat} {J : HJ} {I : HI} {a : Nat} {x1 : Int32} (hp : Wp P) (ha : OB NT a 7) : ∀ (x2 : Int32) (r : Int32), L_X7_latestEvening_2 I a x1 x2 = some r → M g mX7_latestEvening (d + 1) (NT, NT, 0) ((.inl (some (.int r))), (NT, I, J, P)) 2 [some (.ref a), some (.int x1), some (.int x2)] [] (NT, I, J, P) := by
  refine L_X7_latestEvening_2.partial_correctness I a x1 (fun x2 r => M g mX7_latestEvening (d + 1) (NT, NT, 0) ((.inl (some (.int r))), (NT, I, J, P)) 2 [some (.ref a), some (.int x1), some (.int x2)] [] (NT, I, J, P)) ?_
  intro f ih x2 r h
  refine M_iload_n (pc := 2) dX7_latestEvening_2 rfl ?_
  refine M_aload_n (pc := 3) dX7_latestEvening_3 rfl ?_
  refine M_getI (pc := 4) dX7_latestEvening_4 f_X7_9 ha ?_
  refine M_icmp_ge (pc := 7) (tgt := 33) dX7_latestEvening_7 (by decide) (fun hc1 => ?_) (fun hc1 => ?_)
  · have h := (if_pos hc1).symm.trans h
    refine M_iconst (pc := 33) (v := -1) dX7_latestEvening_33 (by decide) ?_
    obtain rfl := Option.some.inj h
    exact M_iret (pc := 34) dX7_latestEvening_34 rfl rfl rfl rfl
  · have h := (if_neg hc1).symm.trans h
    refine M_aload_n (pc := 10) dX7_latestEvening_10 rfl ?_
    refine M_iload_n (pc := 11) dX7_latestEvening_11 rfl ?_
    refine M_iconst (pc := 12) (v := 1) dX7_latestEvening_12 (by decide) ?_
    obtain ⟨r2, hr3, h⟩ := bnd h
    refine M_callVi (pc := 13) dX7_latestEvening_13 v_X7_28 rfl rfl ha (Nat.le_of_ble_eq_true rfl) (C_X7_read (d := d + 0) hp ha hr3) (Nat.le_refl _) ?_
    refine M_iload_n (pc := 16) dX7_latestEvening_16 rfl ?_
    refine M_icmp_ne (pc := 17) (tgt := 27) dX7_latestEvening_17 (by decide) (fun hc4 => ?_) (fun hc4 => ?_)
    · have h := (if_neg hc4).symm.trans h
      refine M_iinc (pc := 27) (v := (x2 + (1 : Int32))) (ls' := [some (.ref a), some (.int x1), some (.int (x2 + (1 : Int32)))]) dX7_latestEvening_27 rfl rfl (by decide) rfl ?_
      refine M_goto (pc := 30) (tgt := 2) dX7_latestEvening_30 (by decide) ?_
      exact ih (x2 + (1 : Int32)) _ h
    · have h := (if_pos hc4).symm.trans h
      refine M_aload_n (pc := 20) dX7_latestEvening_20 rfl ?_
      refine M_iload_n (pc := 21) dX7_latestEvening_21 rfl ?_
      refine M_iconst (pc := 22) (v := 0) dX7_latestEvening_22 (by decide) ?_
      obtain ⟨r5, hr6, h⟩ := bnd h
      refine M_callVi (pc := 23) dX7_latestEvening_23 v_X7_28 rfl rfl ha (Nat.le_of_ble_eq_true rfl) (C_X7_read (d := d + 0) hp ha hr6) (Nat.le_refl _) ?_
      obtain rfl := Option.some.inj h
      exact M_iret (pc := 26) dX7_latestEvening_26 rfl rfl rfl rfl
set_option maxRecDepth 4000 in
set_option maxHeartbeats 4000000 in
theorem C_X7_latestEvening {g : gX} {d : Nat} {P : Nat → Nat → Option Nat} {I : HI} {a : Nat} {x1 : Int32} {J : HJ} (hp : Wp P) (ha : OB NT a 7) {r : Int32} (h : F_X7_latestEvening I a x1 = some r) : Cm g mX7_latestEvening (d + 1) [.ref a, .int x1] (NT, I, J, P) (some (.int r)) (NT, I, J, P) := by
  unfold F_X7_latestEvening at h
  refine Cm.of (by decide) (by simp [Value.category]) (Nat.le_of_ble_eq_true rfl) (Nat.le_refl _) (ls := [some (.ref a), some (.int x1), none]) rfl ?_
  refine M_iconst (pc := 0) (v := 0) dX7_latestEvening_0 (by decide) ?_
  refine M_istore_n (pc := 1) (ls' := [some (.ref a), some (.int x1), some (.int (0 : Int32))]) dX7_latestEvening_1 (by decide) rfl ?_
  exact LC_X7_latestEvening_2 (P := P) hp ha (0 : Int32) _ h
def F_X7_copy (I : HI) (a : Nat) (b1 : Nat) : Option (HI) :=
  some (up1 (up2 (up2 I a 0 (I b1 0)) a 1 (I b1 1)) (a + 1) (va_cpy ((up2 (up2 I a 0 (I b1 0)) a 1 (I b1 1)) (b1 + 1)) ((up2 (up2 I a 0 (I b1 0)) a 1 (I b1 1)) (a + 1)) 0 0 240))
set_option maxRecDepth 4000 in
set_option maxHeartbeats 4000000 in
theorem C_X7_copy {g : gX} {d : Nat} {P : Nat → Nat → Option Nat} {I : HI} {a : Nat} {b1 : Nat} {J : HJ} (hp : Wp P) (ha : OB NT a 7) (hb1 : OB NT b1 7) {r : HI} (h : F_X7_copy I a b1 = some r) : Cm g mX7_copy (d + 1) [.ref a, .ref b1] (NT, I, J, P) none (NT, r, J, P) := by
  unfold F_X7_copy at h
  refine Cm.of (by decide) (by simp [Value.category]) (Nat.le_of_ble_eq_true rfl) (Nat.le_refl _) (ls := [some (.ref a), some (.ref b1)]) rfl ?_
  refine M_aload_n (pc := 0) dX7_copy_0 rfl ?_
  refine M_aload_n (pc := 1) dX7_copy_1 rfl ?_
  refine M_getI (pc := 2) dX7_copy_2 f_X7_9 hb1 ?_
  refine M_putI (pc := 5) dX7_copy_5 f_X7_9 ha rfl ⟨rfl, rfl⟩ ?_
  refine M_aload_n (pc := 8) dX7_copy_8 rfl ?_
  refine M_aload_n (pc := 9) dX7_copy_9 rfl ?_
  refine M_getIs (pc := 10) (x := (I b1 1)) dX7_copy_10 f_X7_15 hb1 (rd_ne (Or.inr (by decide))) ?_
  refine M_putI (pc := 13) dX7_copy_13 f_X7_15 ha rfl ⟨rfl, rfl⟩ ?_
  refine M_aload_n (pc := 16) dX7_copy_16 rfl ?_
  refine M_getR (pc := 17) dX7_copy_17 f_X7_18 hb1 (gr_7_2 hp hb1).1 ?_
  refine M_iconst (pc := 20) (v := 0) dX7_copy_20 (by decide) ?_
  refine M_aload_n (pc := 21) dX7_copy_21 rfl ?_
  refine M_getR (pc := 22) dX7_copy_22 f_X7_18 ha (gr_7_2 hp ha).1 ?_
  refine M_iconst (pc := 25) (v := 0) dX7_copy_25 (by decide) ?_
  refine M_sipush (pc := 26) (v := 240) dX7_copy_26 (by decide) ?_
  refine M_copy0 (pc := 29) (k := 240) dX7_copy_29 w_475 w_470 w_469 w_14 (by omega) (by decide) (gr_7_2 hp ha).2 (gr_7_2 hp hb1).2 (by decide) (by decide) (by decide) (by decide) ?_
  obtain rfl := Option.some.inj h
  exact M_vret (pc := 32) dX7_copy_32 rfl rfl rfl
def F_X8_nth (I : HI) (x1 : Int32) : Option (Int32) :=
  if x1 < 0 then some (-1 : Int32) else if (I 155 1) ≤ x1 then some (-1 : Int32) else (ald 6 (I 157) x1) >>= fun v3 => some v3
set_option maxRecDepth 4000 in
set_option maxHeartbeats 4000000 in
theorem C_X8_nth {g : gX} {d : Nat} {P : Nat → Nat → Option Nat} {I : HI} {x1 : Int32} {J : HJ} (hp : Wp P) {r : Int32} (h : F_X8_nth I x1 = some r) : Cm g mX8_nth (d + 0) [.ref 155, .int x1] (NT, I, J, P) (some (.int r)) (NT, I, J, P) := by
  unfold F_X8_nth at h
  refine Cm.of (by decide) (by simp [Value.category]) (Nat.le_of_ble_eq_true rfl) (Nat.le_refl _) (ls := [some (.ref 155), some (.int x1)]) rfl ?_
  refine M_iload_n (pc := 0) dX8_nth_0 rfl ?_
  refine M_if_lt (pc := 1) (tgt := 21) dX8_nth_1 (by decide) (fun hc1 => ?_) (fun hc1 => ?_)
  · have h := (if_pos hc1).symm.trans h
    refine M_iconst (pc := 21) (v := -1) dX8_nth_21 (by decide) ?_
    obtain rfl := Option.some.inj h
    exact M_iret (pc := 22) dX8_nth_22 rfl rfl rfl rfl
  · have h := (if_neg hc1).symm.trans h
    refine M_iload_n (pc := 4) dX8_nth_4 rfl ?_
    refine M_aload_n (pc := 5) dX8_nth_5 rfl ?_
    refine M_getI (pc := 6) dX8_nth_6 f_X8_15 at_8 ?_
    refine M_icmp_ge (pc := 9) (tgt := 21) dX8_nth_9 (by decide) (fun hc2 => ?_) (fun hc2 => ?_)
    · have h := (if_pos hc2).symm.trans h
      refine M_iconst (pc := 21) (v := -1) dX8_nth_21 (by decide) ?_
      obtain rfl := Option.some.inj h
      exact M_iret (pc := 22) dX8_nth_22 rfl rfl rfl rfl
    · have h := (if_neg hc2).symm.trans h
      refine M_aload_n (pc := 12) dX8_nth_12 rfl ?_
      refine M_getR (pc := 13) dX8_nth_13 f_X8_22 at_8 (gc_155_3 hp).1 ?_
      refine M_iload_n (pc := 16) dX8_nth_16 rfl ?_
      obtain ⟨v3, hv4, h⟩ := bnd h
      refine M_aldI (pc := 17) dX8_nth_17 (gc_155_3 hp).2 hv4 ?_
      refine M_goto (pc := 18) (tgt := 22) dX8_nth_18 (by decide) ?_
      obtain rfl := Option.some.inj h
      exact M_iret (pc := 22) dX8_nth_22 rfl rfl rfl rfl
def F_X9_putCalled (I : HI) (b1 : Nat) : Option (HI) :=
  (ald 12 (I (b1 + 3)) (I 136 0)) >>= fun v1 => (ald 12 (I (b1 + 5)) (I 136 0)) >>= fun v3 => (ald 12 ((up2 I 137 1 v1) (b1 + 4)) (I 136 0)) >>= fun v5 => if v3 = (-1 : Int32) then if v1 < (I b1 8) then if v3 = (-1 : Int32) then some (up2 (up2 (up2 (up2 (up2 I 137 1 v1) 137 2 v5) 137 3 (9 : Int32)) 137 7 (0 : Int32)) 137 8 (1 : Int32)) else some (up2 (up2 (up2 (up2 (up2 I 137 1 v1) 137 2 v5) 137 3 (9 : Int32)) 137 7 (0 : Int32)) 137 8 (0 : Int32)) else if (I b1 9) < v1 then if v3 = (-1 : Int32) then some (up2 (up2 (up2 (up2 (up2 I 137 1 v1) 137 2 v5) 137 3 (9 : Int32)) 137 7 (0 : Int32)) 137 8 (1 : Int32)) else some (up2 (up2 (up2 (up2 (up2 I 137 1 v1) 137 2 v5) 137 3 (9 : Int32)) 137 7 (0 : Int32)) 137 8 (0 : Int32)) else if v3 = (-1 : Int32) then some (up2 (up2 (up2 (up2 (up2 I 137 1 v1) 137 2 v5) 137 3 (9 : Int32)) 137 7 (1 : Int32)) 137 8 (1 : Int32)) else some (up2 (up2 (up2 (up2 (up2 I 137 1 v1) 137 2 v5) 137 3 (9 : Int32)) 137 7 (1 : Int32)) 137 8 (0 : Int32)) else if v1 < (I b1 8) then if v3 = (-1 : Int32) then some (up2 (up2 (up2 (up2 (up2 I 137 1 v1) 137 2 v5) 137 3 v3) 137 7 (0 : Int32)) 137 8 (1 : Int32)) else some (up2 (up2 (up2 (up2 (up2 I 137 1 v1) 137 2 v5) 137 3 v3) 137 7 (0 : Int32)) 137 8 (0 : Int32)) else if (I b1 9) < v1 then if v3 = (-1 : Int32) then some (up2 (up2 (up2 (up2 (up2 I 137 1 v1) 137 2 v5) 137 3 v3) 137 7 (0 : Int32)) 137 8 (1 : Int32)) else some (up2 (up2 (up2 (up2 (up2 I 137 1 v1) 137 2 v5) 137 3 v3) 137 7 (0 : Int32)) 137 8 (0 : Int32)) else if v3 = (-1 : Int32) then some (up2 (up2 (up2 (up2 (up2 I 137 1 v1) 137 2 v5) 137 3 v3) 137 7 (1 : Int32)) 137 8 (1 : Int32)) else some (up2 (up2 (up2 (up2 (up2 I 137 1 v1) 137 2 v5) 137 3 v3) 137 7 (1 : Int32)) 137 8 (0 : Int32))
set_option maxRecDepth 4000 in
set_option maxHeartbeats 4000000 in
theorem C_X9_putCalled {g : gX} {d : Nat} {P : Nat → Nat → Option Nat} {I : HI} {b1 : Nat} {J : HJ} (hp : Wp P) (hb1 : OB NT b1 3) {r : HI} (h : F_X9_putCalled I b1 = some r) : Cm g mX9_putCalled (d + 0) [.ref 136, .ref b1] (NT, I, J, P) none (NT, r, J, P) := by
  unfold F_X9_putCalled at h
  refine Cm.of (by decide) (by simp [Value.category]) (Nat.le_of_ble_eq_true rfl) (Nat.le_refl _) (ls := [some (.ref 136), some (.ref b1), none, none]) rfl ?_
  refine M_aload_n (pc := 0) dX9_putCalled_0 rfl ?_
  refine M_getR (pc := 1) dX9_putCalled_1 f_X9_30 hb1 (gr_3_0 hp hb1).1 ?_
  refine M_getR (pc := 4) dX9_putCalled_4 f_X9_66 (gr_3_0 hp hb1).2 (gr_1_2 hp (gr_3_0 hp hb1).2).1 ?_
  refine M_aload_n (pc := 7) dX9_putCalled_7 rfl ?_
  refine M_getI (pc := 8) dX9_putCalled_8 f_X9_9 at_9 ?_
  obtain ⟨v1, hv2, h⟩ := bnd h
  refine M_aldI (pc := 11) dX9_putCalled_11 (gr_1_2 hp (gr_3_0 hp hb1).2).2 hv2 ?_
  refine M_istore_n (pc := 12) (ls' := [some (.ref 136), some (.ref b1), some (.int v1), none]) dX9_putCalled_12 (by decide) rfl ?_
  refine M_aload_n (pc := 13) dX9_putCalled_13 rfl ?_
  refine M_getR (pc := 14) dX9_putCalled_14 f_X9_30 hb1 (gr_3_0 hp hb1).1 ?_
  refine M_getR (pc := 17) dX9_putCalled_17 f_X9_69 (gr_3_0 hp hb1).2 (gr_1_4 hp (gr_3_0 hp hb1).2).1 ?_
  refine M_aload_n (pc := 20) dX9_putCalled_20 rfl ?_
  refine M_getI (pc := 21) dX9_putCalled_21 f_X9_9 at_9 ?_
  obtain ⟨v3, hv4, h⟩ := bnd h
  refine M_aldI (pc := 24) dX9_putCalled_24 (gr_1_4 hp (gr_3_0 hp hb1).2).2 hv4 ?_
  refine M_istore_n (pc := 25) (ls' := [some (.ref 136), some (.ref b1), some (.int v1), some (.int v3)]) dX9_putCalled_25 (by decide) rfl ?_
  refine M_aload_n (pc := 26) dX9_putCalled_26 rfl ?_
  refine M_getR (pc := 27) dX9_putCalled_27 f_X9_21 at_9 (gc_136_3 hp).1 ?_
  refine M_iconst (pc := 30) (v := 1) dX9_putCalled_30 (by decide) ?_
  refine M_iload_n (pc := 31) dX9_putCalled_31 rfl ?_
  refine M_istc (pc := 32) (j := 1) dX9_putCalled_32 (gc_136_3 hp).2 (by decide) (by decide) ?_
  refine M_aload_n (pc := 33) dX9_putCalled_33 rfl ?_
  refine M_getR (pc := 34) dX9_putCalled_34 f_X9_21 at_9 (gc_136_3 hp).1 ?_
  refine M_iconst (pc := 37) (v := 2) dX9_putCalled_37 (by decide) ?_
  refine M_aload_n (pc := 38) dX9_putCalled_38 rfl ?_
  refine M_getR (pc := 39) dX9_putCalled_39 f_X9_30 hb1 (gr_3_0 hp hb1).1 ?_
  refine M_getR (pc := 42) dX9_putCalled_42 f_X9_72 (gr_3_0 hp hb1).2 (gr_1_3 hp (gr_3_0 hp hb1).2).1 ?_
  refine M_aload_n (pc := 45) dX9_putCalled_45 rfl ?_
  refine M_getIs (pc := 46) (x := (I 136 0)) dX9_putCalled_46 f_X9_9 at_9 (rd_ne (Or.inr (by decide))) ?_
  obtain ⟨v5, hv6, h⟩ := bnd h
  refine M_aldI (pc := 49) dX9_putCalled_49 (gr_1_3 hp (gr_3_0 hp hb1).2).2 hv6 ?_
  refine M_istc (pc := 50) (j := 2) dX9_putCalled_50 (gc_136_3 hp).2 (by decide) (by decide) ?_
  refine M_aload_n (pc := 51) dX9_putCalled_51 rfl ?_
  refine M_getR (pc := 52) dX9_putCalled_52 f_X9_21 at_9 (gc_136_3 hp).1 ?_
  refine M_iconst (pc := 55) (v := 3) dX9_putCalled_55 (by decide) ?_
  refine M_iload_n (pc := 56) dX9_putCalled_56 rfl ?_
  refine M_iconst (pc := 57) (v := -1) dX9_putCalled_57 (by decide) ?_
  refine M_icmp_ne (pc := 58) (tgt := 66) dX9_putCalled_58 (by decide) (fun hc7 => ?_) (fun hc7 => ?_)
  · have h := (if_neg hc7).symm.trans h
    refine M_iload_n (pc := 66) dX9_putCalled_66 rfl ?_
    refine M_istc (pc := 67) (j := 3) dX9_putCalled_67 (gc_136_3 hp).2 (by decide) (by decide) ?_
    refine M_aload_n (pc := 68) dX9_putCalled_68 rfl ?_
    refine M_getR (pc := 69) dX9_putCalled_69 f_X9_21 at_9 (gc_136_3 hp).1 ?_
    refine M_bipush (pc := 72) (v := 7) dX9_putCalled_72 (by decide) ?_
    refine M_iload_n (pc := 74) dX9_putCalled_74 rfl ?_
    refine M_aload_n (pc := 75) dX9_putCalled_75 rfl ?_
    refine M_getIs (pc := 76) (x := (I b1 8)) dX9_putCalled_76 f_X9_75 hb1 ((rd_ne (Or.inr (by decide))).trans ((rd_ne (Or.inr (by decide))).trans (rd_ne (Or.inr (by decide))))) ?_
    refine M_icmp_lt (pc := 79) (tgt := 94) dX9_putCalled_79 (by decide) (fun hc8 => ?_) (fun hc8 => ?_)
    · have h := (if_pos hc8).symm.trans h
      refine M_iconst (pc := 94) (v := 0) dX9_putCalled_94 (by decide) ?_
      refine M_istc (pc := 95) (j := 7) dX9_putCalled_95 (gc_136_3 hp).2 (by decide) (by decide) ?_
      refine M_aload_n (pc := 96) dX9_putCalled_96 rfl ?_
      refine M_getR (pc := 97) dX9_putCalled_97 f_X9_21 at_9 (gc_136_3 hp).1 ?_
      refine M_bipush (pc := 100) (v := 8) dX9_putCalled_100 (by decide) ?_
      refine M_iload_n (pc := 102) dX9_putCalled_102 rfl ?_
      refine M_iconst (pc := 103) (v := -1) dX9_putCalled_103 (by decide) ?_
      refine M_icmp_ne (pc := 104) (tgt := 111) dX9_putCalled_104 (by decide) (fun hc9 => ?_) (fun hc9 => ?_)
      · have h := (if_neg hc9).symm.trans h
        refine M_iconst (pc := 111) (v := 0) dX9_putCalled_111 (by decide) ?_
        refine M_istc (pc := 112) (j := 8) dX9_putCalled_112 (gc_136_3 hp).2 (by decide) (by decide) ?_
        obtain rfl := Option.some.inj h
        exact M_vret (pc := 113) dX9_putCalled_113 rfl rfl rfl
      · have h := (if_pos hc9).symm.trans h
        refine M_iconst (pc := 107) (v := 1) dX9_putCalled_107 (by decide) ?_
        refine M_goto (pc := 108) (tgt := 112) dX9_putCalled_108 (by decide) ?_
        refine M_istc (pc := 112) (j := 8) dX9_putCalled_112 (gc_136_3 hp).2 (by decide) (by decide) ?_
        obtain rfl := Option.some.inj h
        exact M_vret (pc := 113) dX9_putCalled_113 rfl rfl rfl
    · have h := (if_neg hc8).symm.trans h
      refine M_iload_n (pc := 82) dX9_putCalled_82 rfl ?_
      refine M_aload_n (pc := 83) dX9_putCalled_83 rfl ?_
      refine M_getIs (pc := 84) (x := (I b1 9)) dX9_putCalled_84 f_X9_78 hb1 ((rd_ne (Or.inr (by decide))).trans ((rd_ne (Or.inr (by decide))).trans (rd_ne (Or.inr (by decide))))) ?_
      refine M_icmp_gt (pc := 87) (tgt := 94) dX9_putCalled_87 (by decide) (fun hc10 => ?_) (fun hc10 => ?_)
      · have h := (if_pos hc10).symm.trans h
        refine M_iconst (pc := 94) (v := 0) dX9_putCalled_94 (by decide) ?_
        refine M_istc (pc := 95) (j := 7) dX9_putCalled_95 (gc_136_3 hp).2 (by decide) (by decide) ?_
        refine M_aload_n (pc := 96) dX9_putCalled_96 rfl ?_
        refine M_getR (pc := 97) dX9_putCalled_97 f_X9_21 at_9 (gc_136_3 hp).1 ?_
        refine M_bipush (pc := 100) (v := 8) dX9_putCalled_100 (by decide) ?_
        refine M_iload_n (pc := 102) dX9_putCalled_102 rfl ?_
        refine M_iconst (pc := 103) (v := -1) dX9_putCalled_103 (by decide) ?_
        refine M_icmp_ne (pc := 104) (tgt := 111) dX9_putCalled_104 (by decide) (fun hc11 => ?_) (fun hc11 => ?_)
        · have h := (if_neg hc11).symm.trans h
          refine M_iconst (pc := 111) (v := 0) dX9_putCalled_111 (by decide) ?_
          refine M_istc (pc := 112) (j := 8) dX9_putCalled_112 (gc_136_3 hp).2 (by decide) (by decide) ?_
          obtain rfl := Option.some.inj h
          exact M_vret (pc := 113) dX9_putCalled_113 rfl rfl rfl
        · have h := (if_pos hc11).symm.trans h
          refine M_iconst (pc := 107) (v := 1) dX9_putCalled_107 (by decide) ?_
          refine M_goto (pc := 108) (tgt := 112) dX9_putCalled_108 (by decide) ?_
          refine M_istc (pc := 112) (j := 8) dX9_putCalled_112 (gc_136_3 hp).2 (by decide) (by decide) ?_
          obtain rfl := Option.some.inj h
          exact M_vret (pc := 113) dX9_putCalled_113 rfl rfl rfl
      · have h := (if_neg hc10).symm.trans h
        refine M_iconst (pc := 90) (v := 1) dX9_putCalled_90 (by decide) ?_
        refine M_goto (pc := 91) (tgt := 95) dX9_putCalled_91 (by decide) ?_
        refine M_istc (pc := 95) (j := 7) dX9_putCalled_95 (gc_136_3 hp).2 (by decide) (by decide) ?_
        refine M_aload_n (pc := 96) dX9_putCalled_96 rfl ?_
        refine M_getR (pc := 97) dX9_putCalled_97 f_X9_21 at_9 (gc_136_3 hp).1 ?_
        refine M_bipush (pc := 100) (v := 8) dX9_putCalled_100 (by decide) ?_
        refine M_iload_n (pc := 102) dX9_putCalled_102 rfl ?_
        refine M_iconst (pc := 103) (v := -1) dX9_putCalled_103 (by decide) ?_
        refine M_icmp_ne (pc := 104) (tgt := 111) dX9_putCalled_104 (by decide) (fun hc12 => ?_) (fun hc12 => ?_)
        · have h := (if_neg hc12).symm.trans h
          refine M_iconst (pc := 111) (v := 0) dX9_putCalled_111 (by decide) ?_
          refine M_istc (pc := 112) (j := 8) dX9_putCalled_112 (gc_136_3 hp).2 (by decide) (by decide) ?_
          obtain rfl := Option.some.inj h
          exact M_vret (pc := 113) dX9_putCalled_113 rfl rfl rfl
        · have h := (if_pos hc12).symm.trans h
          refine M_iconst (pc := 107) (v := 1) dX9_putCalled_107 (by decide) ?_
          refine M_goto (pc := 108) (tgt := 112) dX9_putCalled_108 (by decide) ?_
          refine M_istc (pc := 112) (j := 8) dX9_putCalled_112 (gc_136_3 hp).2 (by decide) (by decide) ?_
          obtain rfl := Option.some.inj h
          exact M_vret (pc := 113) dX9_putCalled_113 rfl rfl rfl
  · have h := (if_pos hc7).symm.trans h
    refine M_bipush (pc := 61) (v := 9) dX9_putCalled_61 (by decide) ?_
    refine M_goto (pc := 63) (tgt := 67) dX9_putCalled_63 (by decide) ?_
    refine M_istc (pc := 67) (j := 3) dX9_putCalled_67 (gc_136_3 hp).2 (by decide) (by decide) ?_
    refine M_aload_n (pc := 68) dX9_putCalled_68 rfl ?_
    refine M_getR (pc := 69) dX9_putCalled_69 f_X9_21 at_9 (gc_136_3 hp).1 ?_
    refine M_bipush (pc := 72) (v := 7) dX9_putCalled_72 (by decide) ?_
    refine M_iload_n (pc := 74) dX9_putCalled_74 rfl ?_
    refine M_aload_n (pc := 75) dX9_putCalled_75 rfl ?_
    refine M_getIs (pc := 76) (x := (I b1 8)) dX9_putCalled_76 f_X9_75 hb1 ((rd_ne (Or.inr (by decide))).trans ((rd_ne (Or.inr (by decide))).trans (rd_ne (Or.inr (by decide))))) ?_
    refine M_icmp_lt (pc := 79) (tgt := 94) dX9_putCalled_79 (by decide) (fun hc13 => ?_) (fun hc13 => ?_)
    · have h := (if_pos hc13).symm.trans h
      refine M_iconst (pc := 94) (v := 0) dX9_putCalled_94 (by decide) ?_
      refine M_istc (pc := 95) (j := 7) dX9_putCalled_95 (gc_136_3 hp).2 (by decide) (by decide) ?_
      refine M_aload_n (pc := 96) dX9_putCalled_96 rfl ?_
      refine M_getR (pc := 97) dX9_putCalled_97 f_X9_21 at_9 (gc_136_3 hp).1 ?_
      refine M_bipush (pc := 100) (v := 8) dX9_putCalled_100 (by decide) ?_
      refine M_iload_n (pc := 102) dX9_putCalled_102 rfl ?_
      refine M_iconst (pc := 103) (v := -1) dX9_putCalled_103 (by decide) ?_
      refine M_icmp_ne (pc := 104) (tgt := 111) dX9_putCalled_104 (by decide) (fun hc14 => ?_) (fun hc14 => ?_)
      · have h := (if_neg hc14).symm.trans h
        refine M_iconst (pc := 111) (v := 0) dX9_putCalled_111 (by decide) ?_
        refine M_istc (pc := 112) (j := 8) dX9_putCalled_112 (gc_136_3 hp).2 (by decide) (by decide) ?_
        obtain rfl := Option.some.inj h
        exact M_vret (pc := 113) dX9_putCalled_113 rfl rfl rfl
      · have h := (if_pos hc14).symm.trans h
        refine M_iconst (pc := 107) (v := 1) dX9_putCalled_107 (by decide) ?_
        refine M_goto (pc := 108) (tgt := 112) dX9_putCalled_108 (by decide) ?_
        refine M_istc (pc := 112) (j := 8) dX9_putCalled_112 (gc_136_3 hp).2 (by decide) (by decide) ?_
        obtain rfl := Option.some.inj h
        exact M_vret (pc := 113) dX9_putCalled_113 rfl rfl rfl
    · have h := (if_neg hc13).symm.trans h
      refine M_iload_n (pc := 82) dX9_putCalled_82 rfl ?_
      refine M_aload_n (pc := 83) dX9_putCalled_83 rfl ?_
      refine M_getIs (pc := 84) (x := (I b1 9)) dX9_putCalled_84 f_X9_78 hb1 ((rd_ne (Or.inr (by decide))).trans ((rd_ne (Or.inr (by decide))).trans (rd_ne (Or.inr (by decide))))) ?_
      refine M_icmp_gt (pc := 87) (tgt := 94) dX9_putCalled_87 (by decide) (fun hc15 => ?_) (fun hc15 => ?_)
      · have h := (if_pos hc15).symm.trans h
        refine M_iconst (pc := 94) (v := 0) dX9_putCalled_94 (by decide) ?_
        refine M_istc (pc := 95) (j := 7) dX9_putCalled_95 (gc_136_3 hp).2 (by decide) (by decide) ?_
        refine M_aload_n (pc := 96) dX9_putCalled_96 rfl ?_
        refine M_getR (pc := 97) dX9_putCalled_97 f_X9_21 at_9 (gc_136_3 hp).1 ?_
        refine M_bipush (pc := 100) (v := 8) dX9_putCalled_100 (by decide) ?_
        refine M_iload_n (pc := 102) dX9_putCalled_102 rfl ?_
        refine M_iconst (pc := 103) (v := -1) dX9_putCalled_103 (by decide) ?_
        refine M_icmp_ne (pc := 104) (tgt := 111) dX9_putCalled_104 (by decide) (fun hc16 => ?_) (fun hc16 => ?_)
        · have h := (if_neg hc16).symm.trans h
          refine M_iconst (pc := 111) (v := 0) dX9_putCalled_111 (by decide) ?_
          refine M_istc (pc := 112) (j := 8) dX9_putCalled_112 (gc_136_3 hp).2 (by decide) (by decide) ?_
          obtain rfl := Option.some.inj h
          exact M_vret (pc := 113) dX9_putCalled_113 rfl rfl rfl
        · have h := (if_pos hc16).symm.trans h
          refine M_iconst (pc := 107) (v := 1) dX9_putCalled_107 (by decide) ?_
          refine M_goto (pc := 108) (tgt := 112) dX9_putCalled_108 (by decide) ?_
          refine M_istc (pc := 112) (j := 8) dX9_putCalled_112 (gc_136_3 hp).2 (by decide) (by decide) ?_
          obtain rfl := Option.some.inj h
          exact M_vret (pc := 113) dX9_putCalled_113 rfl rfl rfl
      · have h := (if_neg hc15).symm.trans h
        refine M_iconst (pc := 90) (v := 1) dX9_putCalled_90 (by decide) ?_
        refine M_goto (pc := 91) (tgt := 95) dX9_putCalled_91 (by decide) ?_
        refine M_istc (pc := 95) (j := 7) dX9_putCalled_95 (gc_136_3 hp).2 (by decide) (by decide) ?_
        refine M_aload_n (pc := 96) dX9_putCalled_96 rfl ?_
        refine M_getR (pc := 97) dX9_putCalled_97 f_X9_21 at_9 (gc_136_3 hp).1 ?_
        refine M_bipush (pc := 100) (v := 8) dX9_putCalled_100 (by decide) ?_
        refine M_iload_n (pc := 102) dX9_putCalled_102 rfl ?_
        refine M_iconst (pc := 103) (v := -1) dX9_putCalled_103 (by decide) ?_
        refine M_icmp_ne (pc := 104) (tgt := 111) dX9_putCalled_104 (by decide) (fun hc17 => ?_) (fun hc17 => ?_)
        · have h := (if_neg hc17).symm.trans h
          refine M_iconst (pc := 111) (v := 0) dX9_putCalled_111 (by decide) ?_
          refine M_istc (pc := 112) (j := 8) dX9_putCalled_112 (gc_136_3 hp).2 (by decide) (by decide) ?_
          obtain rfl := Option.some.inj h
          exact M_vret (pc := 113) dX9_putCalled_113 rfl rfl rfl
        · have h := (if_pos hc17).symm.trans h
          refine M_iconst (pc := 107) (v := 1) dX9_putCalled_107 (by decide) ?_
          refine M_goto (pc := 108) (tgt := 112) dX9_putCalled_108 (by decide) ?_
          refine M_istc (pc := 112) (j := 8) dX9_putCalled_112 (gc_136_3 hp).2 (by decide) (by decide) ?_
          obtain rfl := Option.some.inj h
          exact M_vret (pc := 113) dX9_putCalled_113 rfl rfl rfl
def F_X10_kindAt (I : HI) (a : Nat) (x1 : Int32) : Option (Int32) :=
  if x1 < 0 then some (0 : Int32) else if x1 < (I a 1) then (ald 400 (I 2) x1) >>= fun v3 => if v3 < (97 : Int32) then (ald 400 (I 2) x1) >>= fun v6 => if v6 < (48 : Int32) then some (3 : Int32) else (ald 400 (I 2) x1) >>= fun v9 => if (57 : Int32) < v9 then some (3 : Int32) else some (2 : Int32) else (ald 400 (I 2) x1) >>= fun v12 => if (122 : Int32) < v12 then (ald 400 (I 2) x1) >>= fun v15 => if v15 < (48 : Int32) then some (3 : Int32) else (ald 400 (I 2) x1) >>= fun v18 => if (57 : Int32) < v18 then some (3 : Int32) else some (2 : Int32) else some (1 : Int32) else some (0 : Int32)
set_option maxRecDepth 4000 in
set_option maxHeartbeats 4000000 in
theorem C_X10_kindAt {g : gX} {d : Nat} {P : Nat → Nat → Option Nat} {I : HI} {a : Nat} {x1 : Int32} {J : HJ} (hp : Wp P) {c : Nat} (ha : OB NT a c) (hc : TX c) (hx : P a 0 = some 2) {r : Int32} (h : F_X10_kindAt I a x1 = some r) : Cm g mX10_kindAt (d + 0) [.ref a, .int x1] (NT, I, J, P) (some (.int r)) (NT, I, J, P) := by
  unfold F_X10_kindAt at h
  refine Cm.of (by decide) (by simp [Value.category]) (Nat.le_of_ble_eq_true rfl) (Nat.le_refl _) (ls := [some (.ref a), some (.int x1)]) rfl ?_
  refine M_iload_n (pc := 0) dX10_kindAt_0 rfl ?_
  refine M_if_lt (pc := 1) (tgt := 12) dX10_kindAt_1 (by decide) (fun hc1 => ?_) (fun hc1 => ?_)
  · have h := (if_pos hc1).symm.trans h
    refine M_iconst (pc := 12) (v := 0) dX10_kindAt_12 (by decide) ?_
    obtain rfl := Option.some.inj h
    exact M_iret (pc := 13) dX10_kindAt_13 rfl rfl rfl rfl
  · have h := (if_neg hc1).symm.trans h
    refine M_iload_n (pc := 4) dX10_kindAt_4 rfl ?_
    refine M_aload_n (pc := 5) dX10_kindAt_5 rfl ?_
    refine M_getI (pc := 6) dX10_kindAt_6 (f_X10_15 hc) ha ?_
    refine M_icmp_lt (pc := 9) (tgt := 14) dX10_kindAt_9 (by decide) (fun hc2 => ?_) (fun hc2 => ?_)
    · have h := (if_pos hc2).symm.trans h
      refine M_aload_n (pc := 14) dX10_kindAt_14 rfl ?_
      refine M_getR (pc := 15) dX10_kindAt_15 (f_X10_9 hc) ha hx ?_
      refine M_iload_n (pc := 18) dX10_kindAt_18 rfl ?_
      obtain ⟨v3, hv4, h⟩ := bnd h
      refine M_aldI (pc := 19) dX10_kindAt_19 ar_tape hv4 ?_
      refine M_bipush (pc := 20) (v := 97) dX10_kindAt_20 (by decide) ?_
      refine M_icmp_lt (pc := 22) (tgt := 38) dX10_kindAt_22 (by decide) (fun hc5 => ?_) (fun hc5 => ?_)
      · have h := (if_pos hc5).symm.trans h
        refine M_aload_n (pc := 38) dX10_kindAt_38 rfl ?_
        refine M_getR (pc := 39) dX10_kindAt_39 (f_X10_9 hc) ha hx ?_
        refine M_iload_n (pc := 42) dX10_kindAt_42 rfl ?_
        obtain ⟨v6, hv7, h⟩ := bnd h
        refine M_aldI (pc := 43) dX10_kindAt_43 ar_tape hv7 ?_
        refine M_bipush (pc := 44) (v := 48) dX10_kindAt_44 (by decide) ?_
        refine M_icmp_lt (pc := 46) (tgt := 64) dX10_kindAt_46 (by decide) (fun hc8 => ?_) (fun hc8 => ?_)
        · have h := (if_pos hc8).symm.trans h
          refine M_iconst (pc := 64) (v := 3) dX10_kindAt_64 (by decide) ?_
          obtain rfl := Option.some.inj h
          exact M_iret (pc := 65) dX10_kindAt_65 rfl rfl rfl rfl
        · have h := (if_neg hc8).symm.trans h
          refine M_aload_n (pc := 49) dX10_kindAt_49 rfl ?_
          refine M_getR (pc := 50) dX10_kindAt_50 (f_X10_9 hc) ha hx ?_
          refine M_iload_n (pc := 53) dX10_kindAt_53 rfl ?_
          obtain ⟨v9, hv10, h⟩ := bnd h
          refine M_aldI (pc := 54) dX10_kindAt_54 ar_tape hv10 ?_
          refine M_bipush (pc := 55) (v := 57) dX10_kindAt_55 (by decide) ?_
          refine M_icmp_gt (pc := 57) (tgt := 64) dX10_kindAt_57 (by decide) (fun hc11 => ?_) (fun hc11 => ?_)
          · have h := (if_pos hc11).symm.trans h
            refine M_iconst (pc := 64) (v := 3) dX10_kindAt_64 (by decide) ?_
            obtain rfl := Option.some.inj h
            exact M_iret (pc := 65) dX10_kindAt_65 rfl rfl rfl rfl
          · have h := (if_neg hc11).symm.trans h
            refine M_iconst (pc := 60) (v := 2) dX10_kindAt_60 (by decide) ?_
            refine M_goto (pc := 61) (tgt := 65) dX10_kindAt_61 (by decide) ?_
            obtain rfl := Option.some.inj h
            exact M_iret (pc := 65) dX10_kindAt_65 rfl rfl rfl rfl
      · have h := (if_neg hc5).symm.trans h
        refine M_aload_n (pc := 25) dX10_kindAt_25 rfl ?_
        refine M_getR (pc := 26) dX10_kindAt_26 (f_X10_9 hc) ha hx ?_
        refine M_iload_n (pc := 29) dX10_kindAt_29 rfl ?_
        obtain ⟨v12, hv13, h⟩ := bnd h
        refine M_aldI (pc := 30) dX10_kindAt_30 ar_tape hv13 ?_
        refine M_bipush (pc := 31) (v := 122) dX10_kindAt_31 (by decide) ?_
        refine M_icmp_gt (pc := 33) (tgt := 38) dX10_kindAt_33 (by decide) (fun hc14 => ?_) (fun hc14 => ?_)
        · have h := (if_pos hc14).symm.trans h
          refine M_aload_n (pc := 38) dX10_kindAt_38 rfl ?_
          refine M_getR (pc := 39) dX10_kindAt_39 (f_X10_9 hc) ha hx ?_
          refine M_iload_n (pc := 42) dX10_kindAt_42 rfl ?_
          obtain ⟨v15, hv16, h⟩ := bnd h
          refine M_aldI (pc := 43) dX10_kindAt_43 ar_tape hv16 ?_
          refine M_bipush (pc := 44) (v := 48) dX10_kindAt_44 (by decide) ?_
          refine M_icmp_lt (pc := 46) (tgt := 64) dX10_kindAt_46 (by decide) (fun hc17 => ?_) (fun hc17 => ?_)
          · have h := (if_pos hc17).symm.trans h
            refine M_iconst (pc := 64) (v := 3) dX10_kindAt_64 (by decide) ?_
            obtain rfl := Option.some.inj h
            exact M_iret (pc := 65) dX10_kindAt_65 rfl rfl rfl rfl
          · have h := (if_neg hc17).symm.trans h
            refine M_aload_n (pc := 49) dX10_kindAt_49 rfl ?_
            refine M_getR (pc := 50) dX10_kindAt_50 (f_X10_9 hc) ha hx ?_
            refine M_iload_n (pc := 53) dX10_kindAt_53 rfl ?_
            obtain ⟨v18, hv19, h⟩ := bnd h
            refine M_aldI (pc := 54) dX10_kindAt_54 ar_tape hv19 ?_
            refine M_bipush (pc := 55) (v := 57) dX10_kindAt_55 (by decide) ?_
            refine M_icmp_gt (pc := 57) (tgt := 64) dX10_kindAt_57 (by decide) (fun hc20 => ?_) (fun hc20 => ?_)
            · have h := (if_pos hc20).symm.trans h
              refine M_iconst (pc := 64) (v := 3) dX10_kindAt_64 (by decide) ?_
              obtain rfl := Option.some.inj h
              exact M_iret (pc := 65) dX10_kindAt_65 rfl rfl rfl rfl
            · have h := (if_neg hc20).symm.trans h
              refine M_iconst (pc := 60) (v := 2) dX10_kindAt_60 (by decide) ?_
              refine M_goto (pc := 61) (tgt := 65) dX10_kindAt_61 (by decide) ?_
              obtain rfl := Option.some.inj h
              exact M_iret (pc := 65) dX10_kindAt_65 rfl rfl rfl rfl
        · have h := (if_neg hc14).symm.trans h
          refine M_iconst (pc := 36) (v := 1) dX10_kindAt_36 (by decide) ?_
          obtain rfl := Option.some.inj h
          exact M_iret (pc := 37) dX10_kindAt_37 rfl rfl rfl rfl
    · have h := (if_neg hc2).symm.trans h
      refine M_iconst (pc := 12) (v := 0) dX10_kindAt_12 (by decide) ?_
      obtain rfl := Option.some.inj h
      exact M_iret (pc := 13) dX10_kindAt_13 rfl rfl rfl rfl
def F_X10_isSign (I : HI) (a : Nat) (x1 : Int32) : Option (Int32) :=
  if (I a 2) = (3 : Int32) then if (I a 1) ≤ (I a 3) then some (0 : Int32) else (ald 400 (I 2) (I a 3)) >>= fun v3 => if v3 = x1 then some (1 : Int32) else some (0 : Int32) else some (0 : Int32)
set_option maxRecDepth 4000 in
set_option maxHeartbeats 4000000 in
theorem C_X10_isSign {g : gX} {d : Nat} {P : Nat → Nat → Option Nat} {I : HI} {a : Nat} {x1 : Int32} {J : HJ} (hp : Wp P) {c : Nat} (ha : OB NT a c) (hc : TX c) (hx : P a 0 = some 2) {r : Int32} (h : F_X10_isSign I a x1 = some r) : Cm g mX10_isSign (d + 0) [.ref a, .int x1] (NT, I, J, P) (some (.int r)) (NT, I, J, P) := by
  unfold F_X10_isSign at h
  refine Cm.of (by decide) (by simp [Value.category]) (Nat.le_of_ble_eq_true rfl) (Nat.le_refl _) (ls := [some (.ref a), some (.int x1)]) rfl ?_
  refine M_aload_n (pc := 0) dX10_isSign_0 rfl ?_
  refine M_getI (pc := 1) dX10_isSign_1 (f_X10_19 hc) ha ?_
  refine M_iconst (pc := 4) (v := 3) dX10_isSign_4 (by decide) ?_
  refine M_icmp_ne (pc := 5) (tgt := 36) dX10_isSign_5 (by decide) (fun hc1 => ?_) (fun hc1 => ?_)
  · have h := (if_neg hc1).symm.trans h
    refine M_iconst (pc := 36) (v := 0) dX10_isSign_36 (by decide) ?_
    obtain rfl := Option.some.inj h
    exact M_iret (pc := 37) dX10_isSign_37 rfl rfl rfl rfl
  · have h := (if_pos hc1).symm.trans h
    refine M_aload_n (pc := 8) dX10_isSign_8 rfl ?_
    refine M_getI (pc := 9) dX10_isSign_9 (f_X10_22 hc) ha ?_
    refine M_aload_n (pc := 12) dX10_isSign_12 rfl ?_
    refine M_getI (pc := 13) dX10_isSign_13 (f_X10_15 hc) ha ?_
    refine M_icmp_ge (pc := 16) (tgt := 36) dX10_isSign_16 (by decide) (fun hc2 => ?_) (fun hc2 => ?_)
    · have h := (if_pos hc2).symm.trans h
      refine M_iconst (pc := 36) (v := 0) dX10_isSign_36 (by decide) ?_
      obtain rfl := Option.some.inj h
      exact M_iret (pc := 37) dX10_isSign_37 rfl rfl rfl rfl
    · have h := (if_neg hc2).symm.trans h
      refine M_aload_n (pc := 19) dX10_isSign_19 rfl ?_
      refine M_getR (pc := 20) dX10_isSign_20 (f_X10_9 hc) ha hx ?_
      refine M_aload_n (pc := 23) dX10_isSign_23 rfl ?_
      refine M_getI (pc := 24) dX10_isSign_24 (f_X10_22 hc) ha ?_
      obtain ⟨v3, hv4, h⟩ := bnd h
      refine M_aldI (pc := 27) dX10_isSign_27 ar_tape hv4 ?_
      refine M_iload_n (pc := 28) dX10_isSign_28 rfl ?_
      refine M_icmp_ne (pc := 29) (tgt := 36) dX10_isSign_29 (by decide) (fun hc5 => ?_) (fun hc5 => ?_)
      · have h := (if_neg hc5).symm.trans h
        refine M_iconst (pc := 36) (v := 0) dX10_isSign_36 (by decide) ?_
        obtain rfl := Option.some.inj h
        exact M_iret (pc := 37) dX10_isSign_37 rfl rfl rfl rfl
      · have h := (if_pos hc5).symm.trans h
        refine M_iconst (pc := 32) (v := 1) dX10_isSign_32 (by decide) ?_
        refine M_goto (pc := 33) (tgt := 37) dX10_isSign_33 (by decide) ?_
        obtain rfl := Option.some.inj h
        exact M_iret (pc := 37) dX10_isSign_37 rfl rfl rfl rfl
def L_X10_isWord_28 (I : HI) (a : Nat) (s1 : Nat) (x2 : Int32) : Option (Int32) :=
  if (slen s1) ≤ x2 then some (1 : Int32) else if (I a 1) ≤ ((I a 3) + x2) then some (1 : Int32) else (ald 400 (I 2) ((I a 3) + x2)) >>= fun v5 => (sch s1 x2) >>= fun v7 => if v5 = v7 then L_X10_isWord_28 I a s1 (x2 + (1 : Int32)) else some (0 : Int32)
partial_fixpoint
def F_X10_isWord (I : HI) (a : Nat) (s1 : Nat) : Option (Int32) :=
  if (I a 2) = (1 : Int32) then if ((I a 4) - (I a 3)) = (slen s1) then L_X10_isWord_28 I a s1 (0 : Int32) else some (0 : Int32) else some (0 : Int32)
set_option maxRecDepth 4000 in
set_option maxHeartbeats 4000000 in
theorem LC_X10_isWord_28 {g : gX} {d : Nat} {P : Nat → Nat → Option Nat} {J : HJ} {I : HI} {a : Nat} {s1 : Nat} (hp : Wp P) {c : Nat} (ha : OB NT a c) (hc : TX c) (hx : P a 0 = some 2) (hs1 : s1 < NS) : ∀ (x2 : Int32) (r : Int32), L_X10_isWord_28 I a s1 x2 = some r → M g mX10_isWord (d + 4) (NT, NT, 0) ((.inl (some (.int r))), (NT, I, J, P)) 28 [some (.ref a), some (.ref (100000 + s1)), some (.int x2)] [] (NT, I, J, P) := by
  refine L_X10_isWord_28.partial_correctness I a s1 (fun x2 r => M g mX10_isWord (d + 4) (NT, NT, 0) ((.inl (some (.int r))), (NT, I, J, P)) 28 [some (.ref a), some (.ref (100000 + s1)), some (.int x2)] [] (NT, I, J, P)) ?_
  intro f ih x2 r h
  refine M_iload_n (pc := 28) dX10_isWord_28 rfl ?_
  refine M_aload_n (pc := 29) dX10_isWord_29 rfl ?_
  refine M_callT (pc := 30) dX10_isWord_30 t_X10_52 hs1 rfl rfl (Nat.le_of_ble_eq_true rfl) (C_slen (d := d + 2) hs1) (Nat.le_refl _) ?_
  refine M_icmp_ge (pc := 33) (tgt := 76) dX10_isWord_33 (by decide) (fun hc3 => ?_) (fun hc3 => ?_)
  · have h := (if_pos hc3).symm.trans h
    refine M_iconst (pc := 76) (v := 1) dX10_isWord_76 (by decide) ?_
    obtain rfl := Option.some.inj h
    exact M_iret (pc := 77) dX10_isWord_77 rfl rfl rfl rfl
  · have h := (if_neg hc3).symm.trans h
    refine M_aload_n (pc := 36) dX10_isWord_36 rfl ?_
    refine M_getI (pc := 37) dX10_isWord_37 (f_X10_22 hc) ha ?_
    refine M_iload_n (pc := 40) dX10_isWord_40 rfl ?_
    refine M_iadd (pc := 41) dX10_isWord_41 ?_
    refine M_aload_n (pc := 42) dX10_isWord_42 rfl ?_
    refine M_getI (pc := 43) dX10_isWord_43 (f_X10_15 hc) ha ?_
    refine M_icmp_ge (pc := 46) (tgt := 76) dX10_isWord_46 (by decide) (fun hc4 => ?_) (fun hc4 => ?_)
    · have h := (if_pos hc4).symm.trans h
      refine M_iconst (pc := 76) (v := 1) dX10_isWord_76 (by decide) ?_
      obtain rfl := Option.some.inj h
      exact M_iret (pc := 77) dX10_isWord_77 rfl rfl rfl rfl
    · have h := (if_neg hc4).symm.trans h
      refine M_aload_n (pc := 49) dX10_isWord_49 rfl ?_
      refine M_getR (pc := 50) dX10_isWord_50 (f_X10_9 hc) ha hx ?_
      refine M_aload_n (pc := 53) dX10_isWord_53 rfl ?_
      refine M_getI (pc := 54) dX10_isWord_54 (f_X10_22 hc) ha ?_
      refine M_iload_n (pc := 57) dX10_isWord_57 rfl ?_
      refine M_iadd (pc := 58) dX10_isWord_58 ?_
      obtain ⟨v5, hv6, h⟩ := bnd h
      refine M_aldI (pc := 59) dX10_isWord_59 ar_tape hv6 ?_
      refine M_aload_n (pc := 60) dX10_isWord_60 rfl ?_
      refine M_iload_n (pc := 61) dX10_isWord_61 rfl ?_
      obtain ⟨v7, hv8, h⟩ := bnd h
      refine M_callT (pc := 62) dX10_isWord_62 t_X10_57 hs1 rfl rfl (Nat.le_of_ble_eq_true rfl) (C_sch (d := d + 0) hs1 hv8) (Nat.le_refl _) ?_
      refine M_icmp_eq (pc := 65) (tgt := 70) dX10_isWord_65 (by decide) (fun hc9 => ?_) (fun hc9 => ?_)
      · have h := (if_pos hc9).symm.trans h
        refine M_iinc (pc := 70) (v := (x2 + (1 : Int32))) (ls' := [some (.ref a), some (.ref (100000 + s1)), some (.int (x2 + (1 : Int32)))]) dX10_isWord_70 rfl rfl (by decide) rfl ?_
        refine M_goto (pc := 73) (tgt := 28) dX10_isWord_73 (by decide) ?_
        exact ih (x2 + (1 : Int32)) _ h
      · have h := (if_neg hc9).symm.trans h
        refine M_iconst (pc := 68) (v := 0) dX10_isWord_68 (by decide) ?_
        obtain rfl := Option.some.inj h
        exact M_iret (pc := 69) dX10_isWord_69 rfl rfl rfl rfl
set_option maxRecDepth 4000 in
set_option maxHeartbeats 4000000 in
theorem C_X10_isWord {g : gX} {d : Nat} {P : Nat → Nat → Option Nat} {I : HI} {a : Nat} {s1 : Nat} {J : HJ} (hp : Wp P) {c : Nat} (ha : OB NT a c) (hc : TX c) (hx : P a 0 = some 2) (hs1 : s1 < NS) {r : Int32} (h : F_X10_isWord I a s1 = some r) : Cm g mX10_isWord (d + 4) [.ref a, .ref (100000 + s1)] (NT, I, J, P) (some (.int r)) (NT, I, J, P) := by
  unfold F_X10_isWord at h
  refine Cm.of (by decide) (by simp [Value.category]) (Nat.le_of_ble_eq_true rfl) (Nat.le_refl _) (ls := [some (.ref a), some (.ref (100000 + s1)), none]) rfl ?_
  refine M_aload_n (pc := 0) dX10_isWord_0 rfl ?_
  refine M_getI (pc := 1) dX10_isWord_1 (f_X10_19 hc) ha ?_
  refine M_iconst (pc := 4) (v := 1) dX10_isWord_4 (by decide) ?_
  refine M_icmp_ne (pc := 5) (tgt := 24) dX10_isWord_5 (by decide) (fun hc1 => ?_) (fun hc1 => ?_)
  · have h := (if_neg hc1).symm.trans h
    refine M_iconst (pc := 24) (v := 0) dX10_isWord_24 (by decide) ?_
    obtain rfl := Option.some.inj h
    exact M_iret (pc := 25) dX10_isWord_25 rfl rfl rfl rfl
  · have h := (if_pos hc1).symm.trans h
    refine M_aload_n (pc := 8) dX10_isWord_8 rfl ?_
    refine M_getI (pc := 9) dX10_isWord_9 (f_X10_25 hc) ha ?_
    refine M_aload_n (pc := 12) dX10_isWord_12 rfl ?_
    refine M_getI (pc := 13) dX10_isWord_13 (f_X10_22 hc) ha ?_
    refine M_isub (pc := 16) dX10_isWord_16 ?_
    refine M_aload_n (pc := 17) dX10_isWord_17 rfl ?_
    refine M_callT (pc := 18) dX10_isWord_18 t_X10_52 hs1 rfl rfl (Nat.le_of_ble_eq_true rfl) (C_slen (d := d + 2) hs1) (Nat.le_refl _) ?_
    refine M_icmp_eq (pc := 21) (tgt := 26) dX10_isWord_21 (by decide) (fun hc2 => ?_) (fun hc2 => ?_)
    · have h := (if_pos hc2).symm.trans h
      refine M_iconst (pc := 26) (v := 0) dX10_isWord_26 (by decide) ?_
      refine M_istore_n (pc := 27) (ls' := [some (.ref a), some (.ref (100000 + s1)), some (.int (0 : Int32))]) dX10_isWord_27 (by decide) rfl ?_
      exact LC_X10_isWord_28 (P := P) hp ha hc hx hs1 (0 : Int32) _ h
    · have h := (if_neg hc2).symm.trans h
      refine M_iconst (pc := 24) (v := 0) dX10_isWord_24 (by decide) ?_
      obtain rfl := Option.some.inj h
      exact M_iret (pc := 25) dX10_isWord_25 rfl rfl rfl rfl
def F_X10_isFigures (I : HI) (a : Nat) (x1 : Int32) : Option (Int32) :=
  if (I a 2) = (2 : Int32) then if ((I a 4) - (I a 3)) = x1 then some (1 : Int32) else some (0 : Int32) else some (0 : Int32)
set_option maxRecDepth 4000 in
set_option maxHeartbeats 4000000 in
theorem C_X10_isFigures {g : gX} {d : Nat} {P : Nat → Nat → Option Nat} {I : HI} {a : Nat} {x1 : Int32} {J : HJ} (hp : Wp P) {c : Nat} (ha : OB NT a c) (hc : TX c) {r : Int32} (h : F_X10_isFigures I a x1 = some r) : Cm g mX10_isFigures (d + 0) [.ref a, .int x1] (NT, I, J, P) (some (.int r)) (NT, I, J, P) := by
  unfold F_X10_isFigures at h
  refine Cm.of (by decide) (by simp [Value.category]) (Nat.le_of_ble_eq_true rfl) (Nat.le_refl _) (ls := [some (.ref a), some (.int x1)]) rfl ?_
  refine M_aload_n (pc := 0) dX10_isFigures_0 rfl ?_
  refine M_getI (pc := 1) dX10_isFigures_1 (f_X10_19 hc) ha ?_
  refine M_iconst (pc := 4) (v := 2) dX10_isFigures_4 (by decide) ?_
  refine M_icmp_ne (pc := 5) (tgt := 25) dX10_isFigures_5 (by decide) (fun hc1 => ?_) (fun hc1 => ?_)
  · have h := (if_neg hc1).symm.trans h
    refine M_iconst (pc := 25) (v := 0) dX10_isFigures_25 (by decide) ?_
    obtain rfl := Option.some.inj h
    exact M_iret (pc := 26) dX10_isFigures_26 rfl rfl rfl rfl
  · have h := (if_pos hc1).symm.trans h
    refine M_aload_n (pc := 8) dX10_isFigures_8 rfl ?_
    refine M_getI (pc := 9) dX10_isFigures_9 (f_X10_25 hc) ha ?_
    refine M_aload_n (pc := 12) dX10_isFigures_12 rfl ?_
    refine M_getI (pc := 13) dX10_isFigures_13 (f_X10_22 hc) ha ?_
    refine M_isub (pc := 16) dX10_isFigures_16 ?_
    refine M_iload_n (pc := 17) dX10_isFigures_17 rfl ?_
    refine M_icmp_ne (pc := 18) (tgt := 25) dX10_isFigures_18 (by decide) (fun hc2 => ?_) (fun hc2 => ?_)
    · have h := (if_neg hc2).symm.trans h
      refine M_iconst (pc := 25) (v := 0) dX10_isFigures_25 (by decide) ?_
      obtain rfl := Option.some.inj h
      exact M_iret (pc := 26) dX10_isFigures_26 rfl rfl rfl rfl
    · have h := (if_pos hc2).symm.trans h
      refine M_iconst (pc := 21) (v := 1) dX10_isFigures_21 (by decide) ?_
      refine M_goto (pc := 22) (tgt := 26) dX10_isFigures_22 (by decide) ?_
      obtain rfl := Option.some.inj h
      exact M_iret (pc := 26) dX10_isFigures_26 rfl rfl rfl rfl
def F_X10_figure (I : HI) (a : Nat) (x1 : Int32) : Option (Int32) :=
  if x1 < 0 then some (0 : Int32) else if (I a 1) ≤ ((I a 3) + x1) then some (0 : Int32) else (ald 400 (I 2) ((I a 3) + x1)) >>= fun v3 => some (v3 - (48 : Int32))
set_option maxRecDepth 4000 in
set_option maxHeartbeats 4000000 in
theorem C_X10_figure {g : gX} {d : Nat} {P : Nat → Nat → Option Nat} {I : HI} {a : Nat} {x1 : Int32} {J : HJ} (hp : Wp P) {c : Nat} (ha : OB NT a c) (hc : TX c) (hx : P a 0 = some 2) {r : Int32} (h : F_X10_figure I a x1 = some r) : Cm g mX10_figure (d + 0) [.ref a, .int x1] (NT, I, J, P) (some (.int r)) (NT, I, J, P) := by
  unfold F_X10_figure at h
  refine Cm.of (by decide) (by simp [Value.category]) (Nat.le_of_ble_eq_true rfl) (Nat.le_refl _) (ls := [some (.ref a), some (.int x1)]) rfl ?_
  refine M_iload_n (pc := 0) dX10_figure_0 rfl ?_
  refine M_if_lt (pc := 1) (tgt := 34) dX10_figure_1 (by decide) (fun hc1 => ?_) (fun hc1 => ?_)
  · have h := (if_pos hc1).symm.trans h
    refine M_iconst (pc := 34) (v := 0) dX10_figure_34 (by decide) ?_
    obtain rfl := Option.some.inj h
    exact M_iret (pc := 35) dX10_figure_35 rfl rfl rfl rfl
  · have h := (if_neg hc1).symm.trans h
    refine M_aload_n (pc := 4) dX10_figure_4 rfl ?_
    refine M_getI (pc := 5) dX10_figure_5 (f_X10_22 hc) ha ?_
    refine M_iload_n (pc := 8) dX10_figure_8 rfl ?_
    refine M_iadd (pc := 9) dX10_figure_9 ?_
    refine M_aload_n (pc := 10) dX10_figure_10 rfl ?_
    refine M_getI (pc := 11) dX10_figure_11 (f_X10_15 hc) ha ?_
    refine M_icmp_ge (pc := 14) (tgt := 34) dX10_figure_14 (by decide) (fun hc2 => ?_) (fun hc2 => ?_)
    · have h := (if_pos hc2).symm.trans h
      refine M_iconst (pc := 34) (v := 0) dX10_figure_34 (by decide) ?_
      obtain rfl := Option.some.inj h
      exact M_iret (pc := 35) dX10_figure_35 rfl rfl rfl rfl
    · have h := (if_neg hc2).symm.trans h
      refine M_aload_n (pc := 17) dX10_figure_17 rfl ?_
      refine M_getR (pc := 18) dX10_figure_18 (f_X10_9 hc) ha hx ?_
      refine M_aload_n (pc := 21) dX10_figure_21 rfl ?_
      refine M_getI (pc := 22) dX10_figure_22 (f_X10_22 hc) ha ?_
      refine M_iload_n (pc := 25) dX10_figure_25 rfl ?_
      refine M_iadd (pc := 26) dX10_figure_26 ?_
      obtain ⟨v3, hv4, h⟩ := bnd h
      refine M_aldI (pc := 27) dX10_figure_27 ar_tape hv4 ?_
      refine M_bipush (pc := 28) (v := 48) dX10_figure_28 (by decide) ?_
      refine M_isub (pc := 30) dX10_figure_30 ?_
      refine M_goto (pc := 31) (tgt := 35) dX10_figure_31 (by decide) ?_
      obtain rfl := Option.some.inj h
      exact M_iret (pc := 35) dX10_figure_35 rfl rfl rfl rfl
def L_X10_number_31 (I : HI) (a : Nat) (x1 : Int32) (x2 : Int32) (x3 : Int32) (x4 : Int32) : Option (Int32) :=
  if (I a 4) ≤ x4 then if x3 < x1 then some (-1 : Int32) else if x2 < x3 then some (-1 : Int32) else some x3 else if (I a 1) ≤ x4 then if x3 < x1 then some (-1 : Int32) else if x2 < x3 then some (-1 : Int32) else some x3 else (ald 400 (I 2) x4) >>= fun v9 => L_X10_number_31 I a x1 x2 (((x3 * (10 : Int32)) + v9) - (48 : Int32)) (x4 + (1 : Int32))
partial_fixpoint
def F_X10_number (I : HI) (a : Nat) (x1 : Int32) (x2 : Int32) : Option (Int32) :=
  if (I a 2) = (2 : Int32) then if ((I a 4) - (I a 3)) ≤ (3 : Int32) then L_X10_number_31 I a x1 x2 (0 : Int32) (I a 3) else some (-1 : Int32) else some (-1 : Int32)
set_option maxRecDepth 4000 in
set_option maxHeartbeats 4000000 in
theorem LC_X10_number_31 {g : gX} {d : Nat} {P : Nat → Nat → Option Nat} {J : HJ} {I : HI} {a : Nat} {x1 : Int32} {x2 : Int32} (hp : Wp P) {c : Nat} (ha : OB NT a c) (hc : TX c) (hx : P a 0 = some 2) : ∀ (x3 : Int32) (x4 : Int32) (r : Int32), L_X10_number_31 I a x1 x2 x3 x4 = some r → M g mX10_number (d + 0) (NT, NT, 0) ((.inl (some (.int r))), (NT, I, J, P)) 31 [some (.ref a), some (.int x1), some (.int x2), some (.int x3), some (.int x4)] [] (NT, I, J, P) := by
  refine L_X10_number_31.partial_correctness I a x1 x2 (fun x3 x4 r => M g mX10_number (d + 0) (NT, NT, 0) ((.inl (some (.int r))), (NT, I, J, P)) 31 [some (.ref a), some (.int x1), some (.int x2), some (.int x3), some (.int x4)] [] (NT, I, J, P)) ?_
  intro f ih x3 x4 r h
  refine M_iload (pc := 31) dX10_number_31 rfl ?_
  refine M_aload_n (pc := 33) dX10_number_33 rfl ?_
  refine M_getI (pc := 34) dX10_number_34 (f_X10_25 hc) ha ?_
  refine M_icmp_ge (pc := 37) (tgt := 71) dX10_number_37 (by decide) (fun hc3 => ?_) (fun hc3 => ?_)
  · have h := (if_pos hc3).symm.trans h
    refine M_iload_n (pc := 71) dX10_number_71 rfl ?_
    refine M_iload_n (pc := 72) dX10_number_72 rfl ?_
    refine M_icmp_lt (pc := 73) (tgt := 85) dX10_number_73 (by decide) (fun hc4 => ?_) (fun hc4 => ?_)
    · have h := (if_pos hc4).symm.trans h
      refine M_iconst (pc := 85) (v := -1) dX10_number_85 (by decide) ?_
      obtain rfl := Option.some.inj h
      exact M_iret (pc := 86) dX10_number_86 rfl rfl rfl rfl
    · have h := (if_neg hc4).symm.trans h
      refine M_iload_n (pc := 76) dX10_number_76 rfl ?_
      refine M_iload_n (pc := 77) dX10_number_77 rfl ?_
      refine M_icmp_gt (pc := 78) (tgt := 85) dX10_number_78 (by decide) (fun hc5 => ?_) (fun hc5 => ?_)
      · have h := (if_pos hc5).symm.trans h
        refine M_iconst (pc := 85) (v := -1) dX10_number_85 (by decide) ?_
        obtain rfl := Option.some.inj h
        exact M_iret (pc := 86) dX10_number_86 rfl rfl rfl rfl
      · have h := (if_neg hc5).symm.trans h
        refine M_iload_n (pc := 81) dX10_number_81 rfl ?_
        refine M_goto (pc := 82) (tgt := 86) dX10_number_82 (by decide) ?_
        obtain rfl := Option.some.inj h
        exact M_iret (pc := 86) dX10_number_86 rfl rfl rfl rfl
  · have h := (if_neg hc3).symm.trans h
    refine M_iload (pc := 40) dX10_number_40 rfl ?_
    refine M_aload_n (pc := 42) dX10_number_42 rfl ?_
    refine M_getI (pc := 43) dX10_number_43 (f_X10_15 hc) ha ?_
    refine M_icmp_ge (pc := 46) (tgt := 71) dX10_number_46 (by decide) (fun hc6 => ?_) (fun hc6 => ?_)
    · have h := (if_pos hc6).symm.trans h
      refine M_iload_n (pc := 71) dX10_number_71 rfl ?_
      refine M_iload_n (pc := 72) dX10_number_72 rfl ?_
      refine M_icmp_lt (pc := 73) (tgt := 85) dX10_number_73 (by decide) (fun hc7 => ?_) (fun hc7 => ?_)
      · have h := (if_pos hc7).symm.trans h
        refine M_iconst (pc := 85) (v := -1) dX10_number_85 (by decide) ?_
        obtain rfl := Option.some.inj h
        exact M_iret (pc := 86) dX10_number_86 rfl rfl rfl rfl
      · have h := (if_neg hc7).symm.trans h
        refine M_iload_n (pc := 76) dX10_number_76 rfl ?_
        refine M_iload_n (pc := 77) dX10_number_77 rfl ?_
        refine M_icmp_gt (pc := 78) (tgt := 85) dX10_number_78 (by decide) (fun hc8 => ?_) (fun hc8 => ?_)
        · have h := (if_pos hc8).symm.trans h
          refine M_iconst (pc := 85) (v := -1) dX10_number_85 (by decide) ?_
          obtain rfl := Option.some.inj h
          exact M_iret (pc := 86) dX10_number_86 rfl rfl rfl rfl
        · have h := (if_neg hc8).symm.trans h
          refine M_iload_n (pc := 81) dX10_number_81 rfl ?_
          refine M_goto (pc := 82) (tgt := 86) dX10_number_82 (by decide) ?_
          obtain rfl := Option.some.inj h
          exact M_iret (pc := 86) dX10_number_86 rfl rfl rfl rfl
    · have h := (if_neg hc6).symm.trans h
      refine M_iload_n (pc := 49) dX10_number_49 rfl ?_
      refine M_bipush (pc := 50) (v := 10) dX10_number_50 (by decide) ?_
      refine M_imul (pc := 52) dX10_number_52 ?_
      refine M_aload_n (pc := 53) dX10_number_53 rfl ?_
      refine M_getR (pc := 54) dX10_number_54 (f_X10_9 hc) ha hx ?_
      refine M_iload (pc := 57) dX10_number_57 rfl ?_
      obtain ⟨v9, hv10, h⟩ := bnd h
      refine M_aldI (pc := 59) dX10_number_59 ar_tape hv10 ?_
      refine M_iadd (pc := 60) dX10_number_60 ?_
      refine M_bipush (pc := 61) (v := 48) dX10_number_61 (by decide) ?_
      refine M_isub (pc := 63) dX10_number_63 ?_
      refine M_istore_n (pc := 64) (ls' := [some (.ref a), some (.int x1), some (.int x2), some (.int (((x3 * (10 : Int32)) + v9) - (48 : Int32))), some (.int x4)]) dX10_number_64 (by decide) rfl ?_
      refine M_iinc (pc := 65) (v := (x4 + (1 : Int32))) (ls' := [some (.ref a), some (.int x1), some (.int x2), some (.int (((x3 * (10 : Int32)) + v9) - (48 : Int32))), some (.int (x4 + (1 : Int32)))]) dX10_number_65 rfl rfl (by decide) rfl ?_
      refine M_goto (pc := 68) (tgt := 31) dX10_number_68 (by decide) ?_
      exact ih (((x3 * (10 : Int32)) + v9) - (48 : Int32)) (x4 + (1 : Int32)) _ h
set_option maxRecDepth 4000 in
set_option maxHeartbeats 4000000 in
theorem C_X10_number {g : gX} {d : Nat} {P : Nat → Nat → Option Nat} {I : HI} {a : Nat} {x1 : Int32} {x2 : Int32} {J : HJ} (hp : Wp P) {c : Nat} (ha : OB NT a c) (hc : TX c) (hx : P a 0 = some 2) {r : Int32} (h : F_X10_number I a x1 x2 = some r) : Cm g mX10_number (d + 0) [.ref a, .int x1, .int x2] (NT, I, J, P) (some (.int r)) (NT, I, J, P) := by
  unfold F_X10_number at h
  refine Cm.of (by decide) (by simp [Value.category]) (Nat.le_of_ble_eq_true rfl) (Nat.le_refl _) (ls := [some (.ref a), some (.int x1), some (.int x2), none, none]) rfl ?_
  refine M_aload_n (pc := 0) dX10_number_0 rfl ?_
  refine M_getI (pc := 1) dX10_number_1 (f_X10_19 hc) ha ?_
  refine M_iconst (pc := 4) (v := 2) dX10_number_4 (by decide) ?_
  refine M_icmp_ne (pc := 5) (tgt := 21) dX10_number_5 (by decide) (fun hc1 => ?_) (fun hc1 => ?_)
  · have h := (if_neg hc1).symm.trans h
    refine M_iconst (pc := 21) (v := -1) dX10_number_21 (by decide) ?_
    obtain rfl := Option.some.inj h
    exact M_iret (pc := 22) dX10_number_22 rfl rfl rfl rfl
  · have h := (if_pos hc1).symm.trans h
    refine M_aload_n (pc := 8) dX10_number_8 rfl ?_
    refine M_getI (pc := 9) dX10_number_9 (f_X10_25 hc) ha ?_
    refine M_aload_n (pc := 12) dX10_number_12 rfl ?_
    refine M_getI (pc := 13) dX10_number_13 (f_X10_22 hc) ha ?_
    refine M_isub (pc := 16) dX10_number_16 ?_
    refine M_iconst (pc := 17) (v := 3) dX10_number_17 (by decide) ?_
    refine M_icmp_le (pc := 18) (tgt := 23) dX10_number_18 (by decide) (fun hc2 => ?_) (fun hc2 => ?_)
    · have h := (if_pos hc2).symm.trans h
      refine M_iconst (pc := 23) (v := 0) dX10_number_23 (by decide) ?_
      refine M_istore_n (pc := 24) (ls' := [some (.ref a), some (.int x1), some (.int x2), some (.int (0 : Int32)), none]) dX10_number_24 (by decide) rfl ?_
      refine M_aload_n (pc := 25) dX10_number_25 rfl ?_
      refine M_getI (pc := 26) dX10_number_26 (f_X10_22 hc) ha ?_
      refine M_istore (pc := 29) (ls' := [some (.ref a), some (.int x1), some (.int x2), some (.int (0 : Int32)), some (.int (I a 3))]) dX10_number_29 (by decide) rfl ?_
      exact LC_X10_number_31 (P := P) hp ha hc hx (0 : Int32) (I a 3) _ h
    · have h := (if_neg hc2).symm.trans h
      refine M_iconst (pc := 21) (v := -1) dX10_number_21 (by decide) ?_
      obtain rfl := Option.some.inj h
      exact M_iret (pc := 22) dX10_number_22 rfl rfl rfl rfl
def F_J6_bitCount_0f7a4 (I : HI) (x0 : Int32) : Option (Int32) :=
  some ((((((((x0 - (((x0).toUInt32 >>> (((1 : Int32)).toUInt32 &&& Int32.toUInt32 31)).toInt32 &&& (1431655765 : Int32))) &&& (858993459 : Int32)) + ((((x0 - (((x0).toUInt32 >>> (((1 : Int32)).toUInt32 &&& Int32.toUInt32 31)).toInt32 &&& (1431655765 : Int32)))).toUInt32 >>> (((2 : Int32)).toUInt32 &&& Int32.toUInt32 31)).toInt32 &&& (858993459 : Int32))) + (((((x0 - (((x0).toUInt32 >>> (((1 : Int32)).toUInt32 &&& Int32.toUInt32 31)).toInt32 &&& (1431655765 : Int32))) &&& (858993459 : Int32)) + ((((x0 - (((x0).toUInt32 >>> (((1 : Int32)).toUInt32 &&& Int32.toUInt32 31)).toInt32 &&& (1431655765 : Int32)))).toUInt32 >>> (((2 : Int32)).toUInt32 &&& Int32.toUInt32 31)).toInt32 &&& (858993459 : Int32)))).toUInt32 >>> (((4 : Int32)).toUInt32 &&& Int32.toUInt32 31)).toInt32) &&& (252645135 : Int32)) + (((((((x0 - (((x0).toUInt32 >>> (((1 : Int32)).toUInt32 &&& Int32.toUInt32 31)).toInt32 &&& (1431655765 : Int32))) &&& (858993459 : Int32)) + ((((x0 - (((x0).toUInt32 >>> (((1 : Int32)).toUInt32 &&& Int32.toUInt32 31)).toInt32 &&& (1431655765 : Int32)))).toUInt32 >>> (((2 : Int32)).toUInt32 &&& Int32.toUInt32 31)).toInt32 &&& (858993459 : Int32))) + (((((x0 - (((x0).toUInt32 >>> (((1 : Int32)).toUInt32 &&& Int32.toUInt32 31)).toInt32 &&& (1431655765 : Int32))) &&& (858993459 : Int32)) + ((((x0 - (((x0).toUInt32 >>> (((1 : Int32)).toUInt32 &&& Int32.toUInt32 31)).toInt32 &&& (1431655765 : Int32)))).toUInt32 >>> (((2 : Int32)).toUInt32 &&& Int32.toUInt32 31)).toInt32 &&& (858993459 : Int32)))).toUInt32 >>> (((4 : Int32)).toUInt32 &&& Int32.toUInt32 31)).toInt32) &&& (252645135 : Int32))).toUInt32 >>> (((8 : Int32)).toUInt32 &&& Int32.toUInt32 31)).toInt32) + ((((((((x0 - (((x0).toUInt32 >>> (((1 : Int32)).toUInt32 &&& Int32.toUInt32 31)).toInt32 &&& (1431655765 : Int32))) &&& (858993459 : Int32)) + ((((x0 - (((x0).toUInt32 >>> (((1 : Int32)).toUInt32 &&& Int32.toUInt32 31)).toInt32 &&& (1431655765 : Int32)))).toUInt32 >>> (((2 : Int32)).toUInt32 &&& Int32.toUInt32 31)).toInt32 &&& (858993459 : Int32))) + (((((x0 - (((x0).toUInt32 >>> (((1 : Int32)).toUInt32 &&& Int32.toUInt32 31)).toInt32 &&& (1431655765 : Int32))) &&& (858993459 : Int32)) + ((((x0 - (((x0).toUInt32 >>> (((1 : Int32)).toUInt32 &&& Int32.toUInt32 31)).toInt32 &&& (1431655765 : Int32)))).toUInt32 >>> (((2 : Int32)).toUInt32 &&& Int32.toUInt32 31)).toInt32 &&& (858993459 : Int32)))).toUInt32 >>> (((4 : Int32)).toUInt32 &&& Int32.toUInt32 31)).toInt32) &&& (252645135 : Int32)) + (((((((x0 - (((x0).toUInt32 >>> (((1 : Int32)).toUInt32 &&& Int32.toUInt32 31)).toInt32 &&& (1431655765 : Int32))) &&& (858993459 : Int32)) + ((((x0 - (((x0).toUInt32 >>> (((1 : Int32)).toUInt32 &&& Int32.toUInt32 31)).toInt32 &&& (1431655765 : Int32)))).toUInt32 >>> (((2 : Int32)).toUInt32 &&& Int32.toUInt32 31)).toInt32 &&& (858993459 : Int32))) + (((((x0 - (((x0).toUInt32 >>> (((1 : Int32)).toUInt32 &&& Int32.toUInt32 31)).toInt32 &&& (1431655765 : Int32))) &&& (858993459 : Int32)) + ((((x0 - (((x0).toUInt32 >>> (((1 : Int32)).toUInt32 &&& Int32.toUInt32 31)).toInt32 &&& (1431655765 : Int32)))).toUInt32 >>> (((2 : Int32)).toUInt32 &&& Int32.toUInt32 31)).toInt32 &&& (858993459 : Int32)))).toUInt32 >>> (((4 : Int32)).toUInt32 &&& Int32.toUInt32 31)).toInt32) &&& (252645135 : Int32))).toUInt32 >>> (((8 : Int32)).toUInt32 &&& Int32.toUInt32 31)).toInt32)).toUInt32 >>> (((16 : Int32)).toUInt32 &&& Int32.toUInt32 31)).toInt32) &&& (63 : Int32))
set_option maxRecDepth 4000 in
set_option maxHeartbeats 4000000 in
theorem C_J6_bitCount_0f7a4 {g : gX} {d : Nat} {P : Nat → Nat → Option Nat} {I : HI} {x0 : Int32} {J : HJ} (hp : Wp P) {r : Int32} (h : F_J6_bitCount_0f7a4 I x0 = some r) : Cm g mJ6_bitCount_0f7a4 (d + 0) [.int x0] (NT, I, J, P) (some (.int r)) (NT, I, J, P) := by
  unfold F_J6_bitCount_0f7a4 at h
  refine Cm.of (by decide) (by simp [Value.category]) (Nat.le_of_ble_eq_true rfl) (Nat.le_refl _) (ls := [some (.int x0)]) rfl ?_
  refine M_iload_n (pc := 0) dJ6_bitCount_0f7a4_0 rfl ?_
  refine M_iload_n (pc := 1) dJ6_bitCount_0f7a4_1 rfl ?_
  refine M_iconst (pc := 2) (v := 1) dJ6_bitCount_0f7a4_2 (by decide) ?_
  refine M_iushr (pc := 3) dJ6_bitCount_0f7a4_3 ?_
  refine M_ldcw (pc := 4) (v := 1431655765) dJ6_bitCount_0f7a4_4 w_527 ?_
  refine M_iand (pc := 7) dJ6_bitCount_0f7a4_7 ?_
  refine M_isub (pc := 8) dJ6_bitCount_0f7a4_8 ?_
  refine M_istore_n (pc := 9) (ls' := [some (.int (x0 - (((x0).toUInt32 >>> (((1 : Int32)).toUInt32 &&& Int32.toUInt32 31)).toInt32 &&& (1431655765 : Int32))))]) dJ6_bitCount_0f7a4_9 (by decide) rfl ?_
  refine M_iload_n (pc := 10) dJ6_bitCount_0f7a4_10 rfl ?_
  refine M_ldcw (pc := 11) (v := 858993459) dJ6_bitCount_0f7a4_11 w_528 ?_
  refine M_iand (pc := 14) dJ6_bitCount_0f7a4_14 ?_
  refine M_iload_n (pc := 15) dJ6_bitCount_0f7a4_15 rfl ?_
  refine M_iconst (pc := 16) (v := 2) dJ6_bitCount_0f7a4_16 (by decide) ?_
  refine M_iushr (pc := 17) dJ6_bitCount_0f7a4_17 ?_
  refine M_ldcw (pc := 18) (v := 858993459) dJ6_bitCount_0f7a4_18 w_528 ?_
  refine M_iand (pc := 21) dJ6_bitCount_0f7a4_21 ?_
  refine M_iadd (pc := 22) dJ6_bitCount_0f7a4_22 ?_
  refine M_istore_n (pc := 23) (ls' := [some (.int (((x0 - (((x0).toUInt32 >>> (((1 : Int32)).toUInt32 &&& Int32.toUInt32 31)).toInt32 &&& (1431655765 : Int32))) &&& (858993459 : Int32)) + ((((x0 - (((x0).toUInt32 >>> (((1 : Int32)).toUInt32 &&& Int32.toUInt32 31)).toInt32 &&& (1431655765 : Int32)))).toUInt32 >>> (((2 : Int32)).toUInt32 &&& Int32.toUInt32 31)).toInt32 &&& (858993459 : Int32))))]) dJ6_bitCount_0f7a4_23 (by decide) rfl ?_
  refine M_iload_n (pc := 24) dJ6_bitCount_0f7a4_24 rfl ?_
  refine M_iload_n (pc := 25) dJ6_bitCount_0f7a4_25 rfl ?_
  refine M_iconst (pc := 26) (v := 4) dJ6_bitCount_0f7a4_26 (by decide) ?_
  refine M_iushr (pc := 27) dJ6_bitCount_0f7a4_27 ?_
  refine M_iadd (pc := 28) dJ6_bitCount_0f7a4_28 ?_
  refine M_ldcw (pc := 29) (v := 252645135) dJ6_bitCount_0f7a4_29 w_529 ?_
  refine M_iand (pc := 32) dJ6_bitCount_0f7a4_32 ?_
  refine M_istore_n (pc := 33) (ls' := [some (.int (((((x0 - (((x0).toUInt32 >>> (((1 : Int32)).toUInt32 &&& Int32.toUInt32 31)).toInt32 &&& (1431655765 : Int32))) &&& (858993459 : Int32)) + ((((x0 - (((x0).toUInt32 >>> (((1 : Int32)).toUInt32 &&& Int32.toUInt32 31)).toInt32 &&& (1431655765 : Int32)))).toUInt32 >>> (((2 : Int32)).toUInt32 &&& Int32.toUInt32 31)).toInt32 &&& (858993459 : Int32))) + (((((x0 - (((x0).toUInt32 >>> (((1 : Int32)).toUInt32 &&& Int32.toUInt32 31)).toInt32 &&& (1431655765 : Int32))) &&& (858993459 : Int32)) + ((((x0 - (((x0).toUInt32 >>> (((1 : Int32)).toUInt32 &&& Int32.toUInt32 31)).toInt32 &&& (1431655765 : Int32)))).toUInt32 >>> (((2 : Int32)).toUInt32 &&& Int32.toUInt32 31)).toInt32 &&& (858993459 : Int32)))).toUInt32 >>> (((4 : Int32)).toUInt32 &&& Int32.toUInt32 31)).toInt32) &&& (252645135 : Int32)))]) dJ6_bitCount_0f7a4_33 (by decide) rfl ?_
  refine M_iload_n (pc := 34) dJ6_bitCount_0f7a4_34 rfl ?_
  refine M_iload_n (pc := 35) dJ6_bitCount_0f7a4_35 rfl ?_
  refine M_bipush (pc := 36) (v := 8) dJ6_bitCount_0f7a4_36 (by decide) ?_
  refine M_iushr (pc := 38) dJ6_bitCount_0f7a4_38 ?_
  refine M_iadd (pc := 39) dJ6_bitCount_0f7a4_39 ?_
  refine M_istore_n (pc := 40) (ls' := [some (.int ((((((x0 - (((x0).toUInt32 >>> (((1 : Int32)).toUInt32 &&& Int32.toUInt32 31)).toInt32 &&& (1431655765 : Int32))) &&& (858993459 : Int32)) + ((((x0 - (((x0).toUInt32 >>> (((1 : Int32)).toUInt32 &&& Int32.toUInt32 31)).toInt32 &&& (1431655765 : Int32)))).toUInt32 >>> (((2 : Int32)).toUInt32 &&& Int32.toUInt32 31)).toInt32 &&& (858993459 : Int32))) + (((((x0 - (((x0).toUInt32 >>> (((1 : Int32)).toUInt32 &&& Int32.toUInt32 31)).toInt32 &&& (1431655765 : Int32))) &&& (858993459 : Int32)) + ((((x0 - (((x0).toUInt32 >>> (((1 : Int32)).toUInt32 &&& Int32.toUInt32 31)).toInt32 &&& (1431655765 : Int32)))).toUInt32 >>> (((2 : Int32)).toUInt32 &&& Int32.toUInt32 31)).toInt32 &&& (858993459 : Int32)))).toUInt32 >>> (((4 : Int32)).toUInt32 &&& Int32.toUInt32 31)).toInt32) &&& (252645135 : Int32)) + (((((((x0 - (((x0).toUInt32 >>> (((1 : Int32)).toUInt32 &&& Int32.toUInt32 31)).toInt32 &&& (1431655765 : Int32))) &&& (858993459 : Int32)) + ((((x0 - (((x0).toUInt32 >>> (((1 : Int32)).toUInt32 &&& Int32.toUInt32 31)).toInt32 &&& (1431655765 : Int32)))).toUInt32 >>> (((2 : Int32)).toUInt32 &&& Int32.toUInt32 31)).toInt32 &&& (858993459 : Int32))) + (((((x0 - (((x0).toUInt32 >>> (((1 : Int32)).toUInt32 &&& Int32.toUInt32 31)).toInt32 &&& (1431655765 : Int32))) &&& (858993459 : Int32)) + ((((x0 - (((x0).toUInt32 >>> (((1 : Int32)).toUInt32 &&& Int32.toUInt32 31)).toInt32 &&& (1431655765 : Int32)))).toUInt32 >>> (((2 : Int32)).toUInt32 &&& Int32.toUInt32 31)).toInt32 &&& (858993459 : Int32)))).toUInt32 >>> (((4 : Int32)).toUInt32 &&& Int32.toUInt32 31)).toInt32) &&& (252645135 : Int32))).toUInt32 >>> (((8 : Int32)).toUInt32 &&& Int32.toUInt32 31)).toInt32))]) dJ6_bitCount_0f7a4_40 (by decide) rfl ?_
  refine M_iload_n (pc := 41) dJ6_bitCount_0f7a4_41 rfl ?_
  refine M_iload_n (pc := 42) dJ6_bitCount_0f7a4_42 rfl ?_
  refine M_bipush (pc := 43) (v := 16) dJ6_bitCount_0f7a4_43 (by decide) ?_
  refine M_iushr (pc := 45) dJ6_bitCount_0f7a4_45 ?_
  refine M_iadd (pc := 46) dJ6_bitCount_0f7a4_46 ?_
  refine M_istore_n (pc := 47) (ls' := [some (.int (((((((x0 - (((x0).toUInt32 >>> (((1 : Int32)).toUInt32 &&& Int32.toUInt32 31)).toInt32 &&& (1431655765 : Int32))) &&& (858993459 : Int32)) + ((((x0 - (((x0).toUInt32 >>> (((1 : Int32)).toUInt32 &&& Int32.toUInt32 31)).toInt32 &&& (1431655765 : Int32)))).toUInt32 >>> (((2 : Int32)).toUInt32 &&& Int32.toUInt32 31)).toInt32 &&& (858993459 : Int32))) + (((((x0 - (((x0).toUInt32 >>> (((1 : Int32)).toUInt32 &&& Int32.toUInt32 31)).toInt32 &&& (1431655765 : Int32))) &&& (858993459 : Int32)) + ((((x0 - (((x0).toUInt32 >>> (((1 : Int32)).toUInt32 &&& Int32.toUInt32 31)).toInt32 &&& (1431655765 : Int32)))).toUInt32 >>> (((2 : Int32)).toUInt32 &&& Int32.toUInt32 31)).toInt32 &&& (858993459 : Int32)))).toUInt32 >>> (((4 : Int32)).toUInt32 &&& Int32.toUInt32 31)).toInt32) &&& (252645135 : Int32)) + (((((((x0 - (((x0).toUInt32 >>> (((1 : Int32)).toUInt32 &&& Int32.toUInt32 31)).toInt32 &&& (1431655765 : Int32))) &&& (858993459 : Int32)) + ((((x0 - (((x0).toUInt32 >>> (((1 : Int32)).toUInt32 &&& Int32.toUInt32 31)).toInt32 &&& (1431655765 : Int32)))).toUInt32 >>> (((2 : Int32)).toUInt32 &&& Int32.toUInt32 31)).toInt32 &&& (858993459 : Int32))) + (((((x0 - (((x0).toUInt32 >>> (((1 : Int32)).toUInt32 &&& Int32.toUInt32 31)).toInt32 &&& (1431655765 : Int32))) &&& (858993459 : Int32)) + ((((x0 - (((x0).toUInt32 >>> (((1 : Int32)).toUInt32 &&& Int32.toUInt32 31)).toInt32 &&& (1431655765 : Int32)))).toUInt32 >>> (((2 : Int32)).toUInt32 &&& Int32.toUInt32 31)).toInt32 &&& (858993459 : Int32)))).toUInt32 >>> (((4 : Int32)).toUInt32 &&& Int32.toUInt32 31)).toInt32) &&& (252645135 : Int32))).toUInt32 >>> (((8 : Int32)).toUInt32 &&& Int32.toUInt32 31)).toInt32) + ((((((((x0 - (((x0).toUInt32 >>> (((1 : Int32)).toUInt32 &&& Int32.toUInt32 31)).toInt32 &&& (1431655765 : Int32))) &&& (858993459 : Int32)) + ((((x0 - (((x0).toUInt32 >>> (((1 : Int32)).toUInt32 &&& Int32.toUInt32 31)).toInt32 &&& (1431655765 : Int32)))).toUInt32 >>> (((2 : Int32)).toUInt32 &&& Int32.toUInt32 31)).toInt32 &&& (858993459 : Int32))) + (((((x0 - (((x0).toUInt32 >>> (((1 : Int32)).toUInt32 &&& Int32.toUInt32 31)).toInt32 &&& (1431655765 : Int32))) &&& (858993459 : Int32)) + ((((x0 - (((x0).toUInt32 >>> (((1 : Int32)).toUInt32 &&& Int32.toUInt32 31)).toInt32 &&& (1431655765 : Int32)))).toUInt32 >>> (((2 : Int32)).toUInt32 &&& Int32.toUInt32 31)).toInt32 &&& (858993459 : Int32)))).toUInt32 >>> (((4 : Int32)).toUInt32 &&& Int32.toUInt32 31)).toInt32) &&& (252645135 : Int32)) + (((((((x0 - (((x0).toUInt32 >>> (((1 : Int32)).toUInt32 &&& Int32.toUInt32 31)).toInt32 &&& (1431655765 : Int32))) &&& (858993459 : Int32)) + ((((x0 - (((x0).toUInt32 >>> (((1 : Int32)).toUInt32 &&& Int32.toUInt32 31)).toInt32 &&& (1431655765 : Int32)))).toUInt32 >>> (((2 : Int32)).toUInt32 &&& Int32.toUInt32 31)).toInt32 &&& (858993459 : Int32))) + (((((x0 - (((x0).toUInt32 >>> (((1 : Int32)).toUInt32 &&& Int32.toUInt32 31)).toInt32 &&& (1431655765 : Int32))) &&& (858993459 : Int32)) + ((((x0 - (((x0).toUInt32 >>> (((1 : Int32)).toUInt32 &&& Int32.toUInt32 31)).toInt32 &&& (1431655765 : Int32)))).toUInt32 >>> (((2 : Int32)).toUInt32 &&& Int32.toUInt32 31)).toInt32 &&& (858993459 : Int32)))).toUInt32 >>> (((4 : Int32)).toUInt32 &&& Int32.toUInt32 31)).toInt32) &&& (252645135 : Int32))).toUInt32 >>> (((8 : Int32)).toUInt32 &&& Int32.toUInt32 31)).toInt32)).toUInt32 >>> (((16 : Int32)).toUInt32 &&& Int32.toUInt32 31)).toInt32))]) dJ6_bitCount_0f7a4_47 (by decide) rfl ?_
  refine M_iload_n (pc := 48) dJ6_bitCount_0f7a4_48 rfl ?_
  refine M_bipush (pc := 49) (v := 63) dJ6_bitCount_0f7a4_49 (by decide) ?_
  refine M_iand (pc := 51) dJ6_bitCount_0f7a4_51 ?_
  obtain rfl := Option.some.inj h
  exact M_iret (pc := 52) dJ6_bitCount_0f7a4_52 rfl rfl rfl rfl
def F_X0_remember (I : HI) (b1 : Nat) (b2 : Nat) : Option (HI) :=
  if (I 17 1) < 0 then some (up2 (up2 I 17 1 (((I 17 1) + (1 : Int32)) - ((I 17 1) + (1 : Int32)) / (12 : Int32) * (12 : Int32))) 17 0 (if ((I 17 0) + (1 : Int32)) < (12 : Int32) then ((I 17 0) + (1 : Int32)) else (12 : Int32))) else if (12 : Int32) ≤ (I 17 1) then some (up2 (up2 I 17 1 (((I 17 1) + (1 : Int32)) - ((I 17 1) + (1 : Int32)) / (12 : Int32) * (12 : Int32))) 17 0 (if ((I 17 0) + (1 : Int32)) < (12 : Int32) then ((I 17 0) + (1 : Int32)) else (12 : Int32))) else if inB (I 17 1) 12 = true then (F_X3_copy I (20 + 8 * ((I 17 1)).toNatClampNeg) b1) >>= fun r5 => if inB (r5 17 1) 12 = true then (F_X7_copy r5 (26 + 8 * ((r5 17 1)).toNatClampNeg) b2) >>= fun r9 => some (up2 (up2 r9 17 1 (((r9 17 1) + (1 : Int32)) - ((r9 17 1) + (1 : Int32)) / (12 : Int32) * (12 : Int32))) 17 0 (if ((r9 17 0) + (1 : Int32)) < (12 : Int32) then ((r9 17 0) + (1 : Int32)) else (12 : Int32))) else none else none
set_option maxRecDepth 4000 in
set_option maxHeartbeats 4000000 in
theorem C_X0_remember {g : gX} {d : Nat} {P : Nat → Nat → Option Nat} {I : HI} {b1 : Nat} {b2 : Nat} {J : HJ} (hp : Wp P) (hb1 : OB NT b1 3) (hb2 : OB NT b2 7) {r : HI} (h : F_X0_remember I b1 b2 = some r) : Cm g mX0_remember (d + 3) [.ref 17, .ref b1, .ref b2] (NT, I, J, P) none (NT, r, J, P) := by
  unfold F_X0_remember at h
  refine Cm.of (by decide) (by simp [Value.category]) (Nat.le_of_ble_eq_true rfl) (Nat.le_refl _) (ls := [some (.ref 17), some (.ref b1), some (.ref b2)]) rfl ?_
  refine M_aload_n (pc := 0) dX0_remember_0 rfl ?_
  refine M_getI (pc := 1) dX0_remember_1 f_X0_13 at_0 ?_
  refine M_if_lt (pc := 4) (tgt := 42) dX0_remember_4 (by decide) (fun hc1 => ?_) (fun hc1 => ?_)
  · have h := (if_pos hc1).symm.trans h
    refine M_aload_n (pc := 42) dX0_remember_42 rfl ?_
    refine M_aload_n (pc := 43) dX0_remember_43 rfl ?_
    refine M_getI (pc := 44) dX0_remember_44 f_X0_13 at_0 ?_
    refine M_iconst (pc := 47) (v := 1) dX0_remember_47 (by decide) ?_
    refine M_iadd (pc := 48) dX0_remember_48 ?_
    refine M_bipush (pc := 49) (v := 12) dX0_remember_49 (by decide) ?_
    refine M_irem (pc := 51) dX0_remember_51 (by decide) ?_
    refine M_putI (pc := 52) dX0_remember_52 f_X0_13 at_0 rfl ⟨rfl, rfl⟩ ?_
    refine M_aload_n (pc := 55) dX0_remember_55 rfl ?_
    refine M_bipush (pc := 56) (v := 12) dX0_remember_56 (by decide) ?_
    refine M_aload_n (pc := 58) dX0_remember_58 rfl ?_
    refine M_getIs (pc := 59) (x := (I 17 0)) dX0_remember_59 f_X0_7 at_0 (rd_ne (Or.inr (by decide))) ?_
    refine M_iconst (pc := 62) (v := 1) dX0_remember_62 (by decide) ?_
    refine M_iadd (pc := 63) dX0_remember_63 ?_
    refine M_mmin (pc := 64) dX0_remember_64 mm_X0_37.1 mm_X0_37.2.1 mm_X0_37.2.2.1 mm_X0_37.2.2.2 (Nat.le_of_ble_eq_true rfl) ?_
    refine M_putI (pc := 67) dX0_remember_67 f_X0_7 at_0 rfl ⟨rfl, rfl⟩ ?_
    obtain rfl := Option.some.inj h
    exact M_vret (pc := 70) dX0_remember_70 rfl rfl rfl
  · have h := (if_neg hc1).symm.trans h
    refine M_aload_n (pc := 7) dX0_remember_7 rfl ?_
    refine M_getI (pc := 8) dX0_remember_8 f_X0_13 at_0 ?_
    refine M_bipush (pc := 11) (v := 12) dX0_remember_11 (by decide) ?_
    refine M_icmp_ge (pc := 13) (tgt := 42) dX0_remember_13 (by decide) (fun hc2 => ?_) (fun hc2 => ?_)
    · have h := (if_pos hc2).symm.trans h
      refine M_aload_n (pc := 42) dX0_remember_42 rfl ?_
      refine M_aload_n (pc := 43) dX0_remember_43 rfl ?_
      refine M_getI (pc := 44) dX0_remember_44 f_X0_13 at_0 ?_
      refine M_iconst (pc := 47) (v := 1) dX0_remember_47 (by decide) ?_
      refine M_iadd (pc := 48) dX0_remember_48 ?_
      refine M_bipush (pc := 49) (v := 12) dX0_remember_49 (by decide) ?_
      refine M_irem (pc := 51) dX0_remember_51 (by decide) ?_
      refine M_putI (pc := 52) dX0_remember_52 f_X0_13 at_0 rfl ⟨rfl, rfl⟩ ?_
      refine M_aload_n (pc := 55) dX0_remember_55 rfl ?_
      refine M_bipush (pc := 56) (v := 12) dX0_remember_56 (by decide) ?_
      refine M_aload_n (pc := 58) dX0_remember_58 rfl ?_
      refine M_getIs (pc := 59) (x := (I 17 0)) dX0_remember_59 f_X0_7 at_0 (rd_ne (Or.inr (by decide))) ?_
      refine M_iconst (pc := 62) (v := 1) dX0_remember_62 (by decide) ?_
      refine M_iadd (pc := 63) dX0_remember_63 ?_
      refine M_mmin (pc := 64) dX0_remember_64 mm_X0_37.1 mm_X0_37.2.1 mm_X0_37.2.2.1 mm_X0_37.2.2.2 (Nat.le_of_ble_eq_true rfl) ?_
      refine M_putI (pc := 67) dX0_remember_67 f_X0_7 at_0 rfl ⟨rfl, rfl⟩ ?_
      obtain rfl := Option.some.inj h
      exact M_vret (pc := 70) dX0_remember_70 rfl rfl rfl
    · have h := (if_neg hc2).symm.trans h
      refine M_aload_n (pc := 16) dX0_remember_16 rfl ?_
      refine M_getR (pc := 17) dX0_remember_17 f_X0_18 at_0 (gc_17_2 hp).1 ?_
      refine M_aload_n (pc := 20) dX0_remember_20 rfl ?_
      refine M_getI (pc := 21) dX0_remember_21 f_X0_13 at_0 ?_
      obtain ⟨hq3, h⟩ := chk h
      have fo4 := gr_al hp (inB_lt hq3)
      refine M_aaldL (pc := 24) dX0_remember_24 ar_al (inB_in hq3) fo4.1 ?_
      refine M_aload_n (pc := 25) dX0_remember_25 rfl ?_
      obtain ⟨r5, hr6, h⟩ := bnd h
      refine M_callVv (pc := 26) dX0_remember_26 v_X0_30 rfl rfl fo4.2 (Nat.le_of_ble_eq_true rfl) (C_X3_copy (d := d + 0) hp fo4.2 hb1 hr6) (Nat.le_refl _) ?_
      refine M_aload_n (pc := 29) dX0_remember_29 rfl ?_
      refine M_getR (pc := 30) dX0_remember_30 f_X0_24 at_0 (gc_17_3 hp).1 ?_
      refine M_aload_n (pc := 33) dX0_remember_33 rfl ?_
      refine M_getI (pc := 34) dX0_remember_34 f_X0_13 at_0 ?_
      obtain ⟨hq7, h⟩ := chk h
      have fo8 := gr_ag hp (inB_lt hq7)
      refine M_aaldG (pc := 37) dX0_remember_37 ar_ag (inB_in hq7) fo8.1 ?_
      refine M_aload_n (pc := 38) dX0_remember_38 rfl ?_
      obtain ⟨r9, hr10, h⟩ := bnd h
      refine M_callVv (pc := 39) dX0_remember_39 v_X0_34 rfl rfl fo8.2 (Nat.le_of_ble_eq_true rfl) (C_X7_copy (d := d + 1) hp fo8.2 hb2 hr10) (Nat.le_refl _) ?_
      refine M_aload_n (pc := 42) dX0_remember_42 rfl ?_
      refine M_aload_n (pc := 43) dX0_remember_43 rfl ?_
      refine M_getI (pc := 44) dX0_remember_44 f_X0_13 at_0 ?_
      refine M_iconst (pc := 47) (v := 1) dX0_remember_47 (by decide) ?_
      refine M_iadd (pc := 48) dX0_remember_48 ?_
      refine M_bipush (pc := 49) (v := 12) dX0_remember_49 (by decide) ?_
      refine M_irem (pc := 51) dX0_remember_51 (by decide) ?_
      refine M_putI (pc := 52) dX0_remember_52 f_X0_13 at_0 rfl ⟨rfl, rfl⟩ ?_
      refine M_aload_n (pc := 55) dX0_remember_55 rfl ?_
      refine M_bipush (pc := 56) (v := 12) dX0_remember_56 (by decide) ?_
      refine M_aload_n (pc := 58) dX0_remember_58 rfl ?_
      refine M_getIs (pc := 59) (x := (r9 17 0)) dX0_remember_59 f_X0_7 at_0 (rd_ne (Or.inr (by decide))) ?_
      refine M_iconst (pc := 62) (v := 1) dX0_remember_62 (by decide) ?_
      refine M_iadd (pc := 63) dX0_remember_63 ?_
      refine M_mmin (pc := 64) dX0_remember_64 mm_X0_37.1 mm_X0_37.2.1 mm_X0_37.2.2.1 mm_X0_37.2.2.2 (Nat.le_of_ble_eq_true rfl) ?_
      refine M_putI (pc := 67) dX0_remember_67 f_X0_7 at_0 rfl ⟨rfl, rfl⟩ ?_
      obtain rfl := Option.some.inj h
      exact M_vret (pc := 70) dX0_remember_70 rfl rfl rfl
def F_X0_recall (I : HI) (b1 : Nat) (b2 : Nat) : Option (Int32 × HI) :=
  if 0 < (I 17 0) then if ((((I 17 1) + (12 : Int32)) - (1 : Int32)) - (((I 17 1) + (12 : Int32)) - (1 : Int32)) / (12 : Int32) * (12 : Int32)) < 0 then some ((1 : Int32), (up2 (up2 I 17 1 ((((I 17 1) + (12 : Int32)) - (1 : Int32)) - (((I 17 1) + (12 : Int32)) - (1 : Int32)) / (12 : Int32) * (12 : Int32))) 17 0 ((I 17 0) - (1 : Int32)))) else if (12 : Int32) ≤ ((((I 17 1) + (12 : Int32)) - (1 : Int32)) - (((I 17 1) + (12 : Int32)) - (1 : Int32)) / (12 : Int32) * (12 : Int32)) then some ((1 : Int32), (up2 (up2 I 17 1 ((((I 17 1) + (12 : Int32)) - (1 : Int32)) - (((I 17 1) + (12 : Int32)) - (1 : Int32)) / (12 : Int32) * (12 : Int32))) 17 0 ((I 17 0) - (1 : Int32)))) else if inB ((((I 17 1) + (12 : Int32)) - (1 : Int32)) - (((I 17 1) + (12 : Int32)) - (1 : Int32)) / (12 : Int32) * (12 : Int32)) 12 = true then (F_X3_copy (up2 (up2 I 17 1 ((((I 17 1) + (12 : Int32)) - (1 : Int32)) - (((I 17 1) + (12 : Int32)) - (1 : Int32)) / (12 : Int32) * (12 : Int32))) 17 0 ((I 17 0) - (1 : Int32))) b1 (20 + 8 * (((((I 17 1) + (12 : Int32)) - (1 : Int32)) - (((I 17 1) + (12 : Int32)) - (1 : Int32)) / (12 : Int32) * (12 : Int32))).toNatClampNeg)) >>= fun r6 => if inB (r6 17 1) 12 = true then (F_X7_copy r6 b2 (26 + 8 * ((r6 17 1)).toNatClampNeg)) >>= fun r10 => some ((1 : Int32), r10) else none else none else some ((0 : Int32), I)
set_option maxRecDepth 4000 in
set_option maxHeartbeats 4000000 in
theorem C_X0_recall {g : gX} {d : Nat} {P : Nat → Nat → Option Nat} {I : HI} {b1 : Nat} {b2 : Nat} {J : HJ} (hp : Wp P) (hb1 : OB NT b1 3) (hb2 : OB NT b2 7) {r : Int32 × HI} (h : F_X0_recall I b1 b2 = some r) : Cm g mX0_recall (d + 3) [.ref 17, .ref b1, .ref b2] (NT, I, J, P) (some (.int r.1)) (NT, r.2, J, P) := by
  unfold F_X0_recall at h
  refine Cm.of (by decide) (by simp [Value.category]) (Nat.le_of_ble_eq_true rfl) (Nat.le_refl _) (ls := [some (.ref 17), some (.ref b1), some (.ref b2)]) rfl ?_
  refine M_aload_n (pc := 0) dX0_recall_0 rfl ?_
  refine M_getI (pc := 1) dX0_recall_1 f_X0_7 at_0 ?_
  refine M_if_gt (pc := 4) (tgt := 9) dX0_recall_4 (by decide) (fun hc1 => ?_) (fun hc1 => ?_)
  · have h := (if_pos hc1).symm.trans h
    refine M_aload_n (pc := 9) dX0_recall_9 rfl ?_
    refine M_aload_n (pc := 10) dX0_recall_10 rfl ?_
    refine M_getI (pc := 11) dX0_recall_11 f_X0_13 at_0 ?_
    refine M_bipush (pc := 14) (v := 12) dX0_recall_14 (by decide) ?_
    refine M_iadd (pc := 16) dX0_recall_16 ?_
    refine M_iconst (pc := 17) (v := 1) dX0_recall_17 (by decide) ?_
    refine M_isub (pc := 18) dX0_recall_18 ?_
    refine M_bipush (pc := 19) (v := 12) dX0_recall_19 (by decide) ?_
    refine M_irem (pc := 21) dX0_recall_21 (by decide) ?_
    refine M_putI (pc := 22) dX0_recall_22 f_X0_13 at_0 rfl ⟨rfl, rfl⟩ ?_
    refine M_aload_n (pc := 25) dX0_recall_25 rfl ?_
    refine M_dup (pc := 26) dX0_recall_26 rfl ?_
    refine M_getIs (pc := 27) (x := (I 17 0)) dX0_recall_27 f_X0_7 at_0 (rd_ne (Or.inr (by decide))) ?_
    refine M_iconst (pc := 30) (v := 1) dX0_recall_30 (by decide) ?_
    refine M_isub (pc := 31) dX0_recall_31 ?_
    refine M_putI (pc := 32) dX0_recall_32 f_X0_7 at_0 rfl ⟨rfl, rfl⟩ ?_
    refine M_aload_n (pc := 35) dX0_recall_35 rfl ?_
    refine M_getIs (pc := 36) (x := ((((I 17 1) + (12 : Int32)) - (1 : Int32)) - (((I 17 1) + (12 : Int32)) - (1 : Int32)) / (12 : Int32) * (12 : Int32))) dX0_recall_36 f_X0_13 at_0 ((rd_ne (Or.inr (by decide))).trans rd_eq) ?_
    refine M_if_lt (pc := 39) (tgt := 77) dX0_recall_39 (by decide) (fun hc2 => ?_) (fun hc2 => ?_)
    · have h := (if_pos hc2).symm.trans h
      refine M_iconst (pc := 77) (v := 1) dX0_recall_77 (by decide) ?_
      obtain rfl := Option.some.inj h
      exact M_iret (pc := 78) dX0_recall_78 rfl rfl rfl rfl
    · have h := (if_neg hc2).symm.trans h
      refine M_aload_n (pc := 42) dX0_recall_42 rfl ?_
      refine M_getIs (pc := 43) (x := ((((I 17 1) + (12 : Int32)) - (1 : Int32)) - (((I 17 1) + (12 : Int32)) - (1 : Int32)) / (12 : Int32) * (12 : Int32))) dX0_recall_43 f_X0_13 at_0 ((rd_ne (Or.inr (by decide))).trans rd_eq) ?_
      refine M_bipush (pc := 46) (v := 12) dX0_recall_46 (by decide) ?_
      refine M_icmp_ge (pc := 48) (tgt := 77) dX0_recall_48 (by decide) (fun hc3 => ?_) (fun hc3 => ?_)
      · have h := (if_pos hc3).symm.trans h
        refine M_iconst (pc := 77) (v := 1) dX0_recall_77 (by decide) ?_
        obtain rfl := Option.some.inj h
        exact M_iret (pc := 78) dX0_recall_78 rfl rfl rfl rfl
      · have h := (if_neg hc3).symm.trans h
        refine M_aload_n (pc := 51) dX0_recall_51 rfl ?_
        refine M_aload_n (pc := 52) dX0_recall_52 rfl ?_
        refine M_getR (pc := 53) dX0_recall_53 f_X0_18 at_0 (gc_17_2 hp).1 ?_
        refine M_aload_n (pc := 56) dX0_recall_56 rfl ?_
        refine M_getIs (pc := 57) (x := ((((I 17 1) + (12 : Int32)) - (1 : Int32)) - (((I 17 1) + (12 : Int32)) - (1 : Int32)) / (12 : Int32) * (12 : Int32))) dX0_recall_57 f_X0_13 at_0 ((rd_ne (Or.inr (by decide))).trans rd_eq) ?_
        obtain ⟨hq4, h⟩ := chk h
        have fo5 := gr_al hp (inB_lt hq4)
        refine M_aaldL (pc := 60) dX0_recall_60 ar_al (inB_in hq4) fo5.1 ?_
        obtain ⟨r6, hr7, h⟩ := bnd h
        refine M_callVv (pc := 61) dX0_recall_61 v_X0_30 rfl rfl hb1 (Nat.le_of_ble_eq_true rfl) (C_X3_copy (d := d + 0) hp hb1 fo5.2 hr7) (Nat.le_refl _) ?_
        refine M_aload_n (pc := 64) dX0_recall_64 rfl ?_
        refine M_aload_n (pc := 65) dX0_recall_65 rfl ?_
        refine M_getR (pc := 66) dX0_recall_66 f_X0_24 at_0 (gc_17_3 hp).1 ?_
        refine M_aload_n (pc := 69) dX0_recall_69 rfl ?_
        refine M_getI (pc := 70) dX0_recall_70 f_X0_13 at_0 ?_
        obtain ⟨hq8, h⟩ := chk h
        have fo9 := gr_ag hp (inB_lt hq8)
        refine M_aaldG (pc := 73) dX0_recall_73 ar_ag (inB_in hq8) fo9.1 ?_
        obtain ⟨r10, hr11, h⟩ := bnd h
        refine M_callVv (pc := 74) dX0_recall_74 v_X0_34 rfl rfl hb2 (Nat.le_of_ble_eq_true rfl) (C_X7_copy (d := d + 1) hp hb2 fo9.2 hr11) (Nat.le_refl _) ?_
        refine M_iconst (pc := 77) (v := 1) dX0_recall_77 (by decide) ?_
        obtain rfl := Option.some.inj h
        exact M_iret (pc := 78) dX0_recall_78 rfl rfl rfl rfl
  · have h := (if_neg hc1).symm.trans h
    refine M_iconst (pc := 7) (v := 0) dX0_recall_7 (by decide) ?_
    obtain rfl := Option.some.inj h
    exact M_iret (pc := 8) dX0_recall_8 rfl rfl rfl rfl
def F_X1_allHad (I : HI) (a : Nat) : Option (Int32) :=
  (F_X1_firstIn I a (0 : Int32) (9999 : Int32)) >>= fun r1 => some r1
set_option maxRecDepth 4000 in
set_option maxHeartbeats 4000000 in
theorem C_X1_allHad {g : gX} {d : Nat} {P : Nat → Nat → Option Nat} {I : HI} {a : Nat} {J : HJ} (hp : Wp P) (ha : OB NT a 1) {r : Int32} (h : F_X1_allHad I a = some r) : Cm g mX1_allHad (d + 1) [.ref a] (NT, I, J, P) (some (.int r)) (NT, I, J, P) := by
  unfold F_X1_allHad at h
  refine Cm.of (by decide) (by simp [Value.category]) (Nat.le_of_ble_eq_true rfl) (Nat.le_refl _) (ls := [some (.ref a)]) rfl ?_
  refine M_aload_n (pc := 0) dX1_allHad_0 rfl ?_
  refine M_iconst (pc := 1) (v := 0) dX1_allHad_1 (by decide) ?_
  refine M_sipush (pc := 2) (v := 9999) dX1_allHad_2 (by decide) ?_
  obtain ⟨r1, hr2, h⟩ := bnd h
  refine M_callVi (pc := 5) dX1_allHad_5 v_X1_32 rfl rfl ha (Nat.le_of_ble_eq_true rfl) (C_X1_firstIn (d := d + 0) hp ha hr2) (Nat.le_refl _) ?_
  obtain rfl := Option.some.inj h
  exact M_iret (pc := 8) dX1_allHad_8 rfl rfl rfl rfl
def L_X2_goOn_56 (rc : HI → Int32 → Int32 → Int32 → Option (HI)) (x1 : Int32) (x2 : Int32) (x3 : Int32) (x4 : Int32) (I : HI) : Option (HI) :=
  if (I 201 2) ≤ x4 then some I else if ((x2 >>> (x4 &&& 31)) &&& (1 : Int32)) = 0 then (F_X2_isWorthwhile I x1 x4) >>= fun r7 => if r7 = 0 then L_X2_goOn_56 rc x1 x2 x3 (x4 + (1 : Int32)) I else if inB x1 5 = true then (ald 60 ((up2 I 203 (x1).toNatClampNeg x4) 202) ((x1 * (12 : Int32)) + x4)) >>= fun v11 => (rc (up2 I 203 (x1).toNatClampNeg x4) (x1 + (1 : Int32)) (x2 ||| ((1 : Int32) <<< (x4 &&& 31))) (x3 + v11)) >>= fun r13 => L_X2_goOn_56 rc x1 x2 x3 (x4 + (1 : Int32)) r13 else none else L_X2_goOn_56 rc x1 x2 x3 (x4 + (1 : Int32)) I
partial_fixpoint
def F_X2_goOn : Nat → HI → Int32 → Int32 → Int32 → Option (HI)
  | 0, _, _, _, _ => none
  | q + 1, I, x1, x2, x3 => if (I 201 0) = (-1 : Int32) then if (I 201 1) ≤ x1 then if inB (I 201 1) 6 = true then some (up1 (up2 I 201 0 x3) 204 (va_cpy ((up2 I 201 0 x3) 203) ((up2 I 201 0 x3) 204) 0 0 ((I 201 1)).toNatClampNeg)) else none else if x1 < (5 : Int32) then L_X2_goOn_56 (F_X2_goOn q) x1 x2 x3 (0 : Int32) I else if inB (I 201 1) 6 = true then some (up1 (up2 I 201 0 x3) 204 (va_cpy ((up2 I 201 0 x3) 203) ((up2 I 201 0 x3) 204) 0 0 ((I 201 1)).toNatClampNeg)) else none else if x3 < (I 201 0) then if (I 201 1) ≤ x1 then if inB (I 201 1) 6 = true then some (up1 (up2 I 201 0 x3) 204 (va_cpy ((up2 I 201 0 x3) 203) ((up2 I 201 0 x3) 204) 0 0 ((I 201 1)).toNatClampNeg)) else none else if x1 < (5 : Int32) then L_X2_goOn_56 (F_X2_goOn q) x1 x2 x3 (0 : Int32) I else if inB (I 201 1) 6 = true then some (up1 (up2 I 201 0 x3) 204 (va_cpy ((up2 I 201 0 x3) 203) ((up2 I 201 0 x3) 204) 0 0 ((I 201 1)).toNatClampNeg)) else none else some I
set_option maxRecDepth 4000 in
set_option maxHeartbeats 4000000 in
theorem LC_X2_goOn_56 {g : gX} {d : Nat} {P : Nat → Nat → Option Nat} {J : HJ} {rc : HI → Int32 → Int32 → Int32 → Option (HI)} {x1 : Int32} {x2 : Int32} {x3 : Int32} (hp : Wp P) (hrc : ∀ (e : Nat) {J : HJ} (I : HI) (x1 : Int32) (x2 : Int32) (x3 : Int32)  (r : HI), rc I x1 x2 x3 = some r → Cm g mX2_goOn (d + e + 8) [.ref 201, .int x1, .int x2, .int x3] (NT, I, J, P) none (NT, r, J, P)) : ∀ (x4 : Int32) (I : HI) (r : HI), L_X2_goOn_56 rc x1 x2 x3 x4 I = some r → M g mX2_goOn (d + 9) (NT, NT, 0) ((.inl none), (NT, r, J, P)) 56 [some (.ref 201), some (.int x1), some (.int x2), some (.int x3), some (.int x4)] [] (NT, I, J, P) := by
  refine L_X2_goOn_56.partial_correctness rc x1 x2 x3 (fun x4 I r => M g mX2_goOn (d + 9) (NT, NT, 0) ((.inl none), (NT, r, J, P)) 56 [some (.ref 201), some (.int x1), some (.int x2), some (.int x3), some (.int x4)] [] (NT, I, J, P)) ?_
  intro f ih x4 I r h
  refine M_iload (pc := 56) dX2_goOn_56 rfl ?_
  refine M_aload_n (pc := 58) dX2_goOn_58 rfl ?_
  refine M_getI (pc := 59) dX2_goOn_59 f_X2_18 at_2 ?_
  refine M_icmp_ge (pc := 62) (tgt := 125) dX2_goOn_62 (by decide) (fun hc5 => ?_) (fun hc5 => ?_)
  · have h := (if_pos hc5).symm.trans h
    obtain rfl := Option.some.inj h
    exact M_vret (pc := 125) dX2_goOn_125 rfl rfl rfl
  · have h := (if_neg hc5).symm.trans h
    refine M_iload_n (pc := 65) dX2_goOn_65 rfl ?_
    refine M_iload (pc := 66) dX2_goOn_66 rfl ?_
    refine M_ishr (pc := 68) dX2_goOn_68 ?_
    refine M_iconst (pc := 69) (v := 1) dX2_goOn_69 (by decide) ?_
    refine M_iand (pc := 70) dX2_goOn_70 ?_
    refine M_if_ne (pc := 71) (tgt := 119) dX2_goOn_71 (by decide) (fun hc6 => ?_) (fun hc6 => ?_)
    · have h := (if_neg hc6).symm.trans h
      refine M_iinc (pc := 119) (v := (x4 + (1 : Int32))) (ls' := [some (.ref 201), some (.int x1), some (.int x2), some (.int x3), some (.int (x4 + (1 : Int32)))]) dX2_goOn_119 rfl rfl (by decide) rfl ?_
      refine M_goto (pc := 122) (tgt := 56) dX2_goOn_122 (by decide) ?_
      exact ih (x4 + (1 : Int32)) I _ h
    · have h := (if_pos hc6).symm.trans h
      refine M_aload_n (pc := 74) dX2_goOn_74 rfl ?_
      refine M_iload_n (pc := 75) dX2_goOn_75 rfl ?_
      refine M_iload (pc := 76) dX2_goOn_76 rfl ?_
      obtain ⟨r7, hr8, h⟩ := bnd h
      refine M_callVi (pc := 78) dX2_goOn_78 v_X2_59 rfl rfl at_2 (Nat.le_of_ble_eq_true rfl) (C_X2_isWorthwhile (d := d + 8) hp hr8) (Nat.le_refl _) ?_
      refine M_if_eq (pc := 81) (tgt := 119) dX2_goOn_81 (by decide) (fun hc9 => ?_) (fun hc9 => ?_)
      · have h := (if_pos hc9).symm.trans h
        refine M_iinc (pc := 119) (v := (x4 + (1 : Int32))) (ls' := [some (.ref 201), some (.int x1), some (.int x2), some (.int x3), some (.int (x4 + (1 : Int32)))]) dX2_goOn_119 rfl rfl (by decide) rfl ?_
        refine M_goto (pc := 122) (tgt := 56) dX2_goOn_122 (by decide) ?_
        exact ih (x4 + (1 : Int32)) I _ h
      · have h := (if_neg hc9).symm.trans h
        refine M_aload_n (pc := 84) dX2_goOn_84 rfl ?_
        refine M_getR (pc := 85) dX2_goOn_85 f_X2_25 at_2 (gc_201_4 hp).1 ?_
        refine M_iload_n (pc := 88) dX2_goOn_88 rfl ?_
        refine M_iload (pc := 89) dX2_goOn_89 rfl ?_
        obtain ⟨hq10, h⟩ := chk h
        refine M_iast (pc := 91) dX2_goOn_91 (gc_201_4 hp).2 (inB_in hq10) ?_
        refine M_aload_n (pc := 92) dX2_goOn_92 rfl ?_
        refine M_iload_n (pc := 93) dX2_goOn_93 rfl ?_
        refine M_iconst (pc := 94) (v := 1) dX2_goOn_94 (by decide) ?_
        refine M_iadd (pc := 95) dX2_goOn_95 ?_
        refine M_iload_n (pc := 96) dX2_goOn_96 rfl ?_
        refine M_iconst (pc := 97) (v := 1) dX2_goOn_97 (by decide) ?_
        refine M_iload (pc := 98) dX2_goOn_98 rfl ?_
        refine M_ishl (pc := 100) dX2_goOn_100 ?_
        refine M_ior (pc := 101) dX2_goOn_101 ?_
        refine M_iload_n (pc := 102) dX2_goOn_102 rfl ?_
        refine M_aload_n (pc := 103) dX2_goOn_103 rfl ?_
        refine M_getR (pc := 104) dX2_goOn_104 f_X2_21 at_2 (gc_201_3 hp).1 ?_
        refine M_iload_n (pc := 107) dX2_goOn_107 rfl ?_
        refine M_bipush (pc := 108) (v := 12) dX2_goOn_108 (by decide) ?_
        refine M_imul (pc := 110) dX2_goOn_110 ?_
        refine M_iload (pc := 111) dX2_goOn_111 rfl ?_
        refine M_iadd (pc := 113) dX2_goOn_113 ?_
        obtain ⟨v11, hv12, h⟩ := bnd h
        refine M_aldI (pc := 114) dX2_goOn_114 (gc_201_3 hp).2 hv12 ?_
        refine M_iadd (pc := 115) dX2_goOn_115 ?_
        obtain ⟨r13, hr14, h⟩ := bnd h
        refine M_callVv (pc := 116) dX2_goOn_116 v_X2_46 rfl rfl at_2 (Nat.le_of_ble_eq_true rfl) (hrc 0 _ _ _ _  _ hr14) (Nat.le_refl _) ?_
        refine M_iinc (pc := 119) (v := (x4 + (1 : Int32))) (ls' := [some (.ref 201), some (.int x1), some (.int x2), some (.int x3), some (.int (x4 + (1 : Int32)))]) dX2_goOn_119 rfl rfl (by decide) rfl ?_
        refine M_goto (pc := 122) (tgt := 56) dX2_goOn_122 (by decide) ?_
        exact ih (x4 + (1 : Int32)) r13 _ h
set_option maxRecDepth 4000 in
set_option maxHeartbeats 4000000 in
theorem C_X2_goOn {g : gX} {P : Nat → Nat → Option Nat} (hp : Wp P) : ∀ (q : Nat) {d : Nat} {J : HJ} (I : HI) (x1 : Int32) (x2 : Int32) (x3 : Int32)  (r : HI), F_X2_goOn q I x1 x2 x3 = some r → Cm g mX2_goOn (d + 1 * q + 8) [.ref 201, .int x1, .int x2, .int x3] (NT, I, J, P) none (NT, r, J, P) := by
  intro q
  induction q with
  | zero => intro d J I x1 x2 x3  r h; cases h
  | succ q ih =>
  intro d0 J I x1 x2 x3  r h
  obtain ⟨d, hd⟩ : ∃ d, d = d0 + 1 * q := ⟨_, rfl⟩
  rw [show d0 + 1 * (q + 1) + 8 = d + 9 by omega]
  have hrc : ∀ (e : Nat) {J : HJ} (I : HI) (x1 : Int32) (x2 : Int32) (x3 : Int32)  (r : HI), F_X2_goOn q I x1 x2 x3 = some r → _ := fun e {J} I x1 x2 x3  r h9 => ih (d := d0 + e) (J := J) I x1 x2 x3  r h9
  simp only [show ∀ e, d0 + e + 1 * q + 8 = d + e + 8 from fun e => by omega] at hrc
  unfold F_X2_goOn at h
  refine Cm.of (by decide) (by simp [Value.category]) (Nat.le_of_ble_eq_true rfl) (Nat.le_refl _) (ls := [some (.ref 201), some (.int x1), some (.int x2), some (.int x3), none]) rfl ?_
  refine M_aload_n (pc := 0) dX2_goOn_0 rfl ?_
  refine M_getI (pc := 1) dX2_goOn_1 f_X2_9 at_2 ?_
  refine M_iconst (pc := 4) (v := -1) dX2_goOn_4 (by decide) ?_
  refine M_icmp_eq (pc := 5) (tgt := 17) dX2_goOn_5 (by decide) (fun hc1 => ?_) (fun hc1 => ?_)
  · have h := (if_pos hc1).symm.trans h
    refine M_iload_n (pc := 17) dX2_goOn_17 rfl ?_
    refine M_aload_n (pc := 18) dX2_goOn_18 rfl ?_
    refine M_getI (pc := 19) dX2_goOn_19 f_X2_15 at_2 ?_
    refine M_icmp_ge (pc := 22) (tgt := 30) dX2_goOn_22 (by decide) (fun hc2 => ?_) (fun hc2 => ?_)
    · have h := (if_pos hc2).symm.trans h
      refine M_aload_n (pc := 30) dX2_goOn_30 rfl ?_
      refine M_iload_n (pc := 31) dX2_goOn_31 rfl ?_
      refine M_putI (pc := 32) dX2_goOn_32 f_X2_9 at_2 rfl ⟨rfl, rfl⟩ ?_
      refine M_aload_n (pc := 35) dX2_goOn_35 rfl ?_
      refine M_getR (pc := 36) dX2_goOn_36 f_X2_25 at_2 (gc_201_4 hp).1 ?_
      refine M_iconst (pc := 39) (v := 0) dX2_goOn_39 (by decide) ?_
      refine M_aload_n (pc := 40) dX2_goOn_40 rfl ?_
      refine M_getR (pc := 41) dX2_goOn_41 f_X2_28 at_2 (gc_201_5 hp).1 ?_
      refine M_iconst (pc := 44) (v := 0) dX2_goOn_44 (by decide) ?_
      refine M_aload_n (pc := 45) dX2_goOn_45 rfl ?_
      refine M_getIs (pc := 46) (x := (I 201 1)) dX2_goOn_46 f_X2_15 at_2 (rd_ne (Or.inr (by decide))) ?_
      obtain ⟨hq3, h⟩ := chk h
      refine M_copyB (pc := 49) dX2_goOn_49 w_1260 w_470 w_469 w_14 (by omega) (by decide) (gc_201_5 hp).2 (gc_201_4 hp).2 hq3 (by decide) (by decide) ?_
      obtain rfl := Option.some.inj h
      exact M_vret (pc := 52) dX2_goOn_52 rfl rfl rfl
    · have h := (if_neg hc2).symm.trans h
      refine M_iload_n (pc := 25) dX2_goOn_25 rfl ?_
      refine M_iconst (pc := 26) (v := 5) dX2_goOn_26 (by decide) ?_
      refine M_icmp_lt (pc := 27) (tgt := 53) dX2_goOn_27 (by decide) (fun hc4 => ?_) (fun hc4 => ?_)
      · have h := (if_pos hc4).symm.trans h
        refine M_iconst (pc := 53) (v := 0) dX2_goOn_53 (by decide) ?_
        refine M_istore (pc := 54) (ls' := [some (.ref 201), some (.int x1), some (.int x2), some (.int x3), some (.int (0 : Int32))]) dX2_goOn_54 (by decide) rfl ?_
        exact LC_X2_goOn_56 (P := P) hp hrc (0 : Int32) I _ h
      · have h := (if_neg hc4).symm.trans h
        refine M_aload_n (pc := 30) dX2_goOn_30 rfl ?_
        refine M_iload_n (pc := 31) dX2_goOn_31 rfl ?_
        refine M_putI (pc := 32) dX2_goOn_32 f_X2_9 at_2 rfl ⟨rfl, rfl⟩ ?_
        refine M_aload_n (pc := 35) dX2_goOn_35 rfl ?_
        refine M_getR (pc := 36) dX2_goOn_36 f_X2_25 at_2 (gc_201_4 hp).1 ?_
        refine M_iconst (pc := 39) (v := 0) dX2_goOn_39 (by decide) ?_
        refine M_aload_n (pc := 40) dX2_goOn_40 rfl ?_
        refine M_getR (pc := 41) dX2_goOn_41 f_X2_28 at_2 (gc_201_5 hp).1 ?_
        refine M_iconst (pc := 44) (v := 0) dX2_goOn_44 (by decide) ?_
        refine M_aload_n (pc := 45) dX2_goOn_45 rfl ?_
        refine M_getIs (pc := 46) (x := (I 201 1)) dX2_goOn_46 f_X2_15 at_2 (rd_ne (Or.inr (by decide))) ?_
        obtain ⟨hq15, h⟩ := chk h
        refine M_copyB (pc := 49) dX2_goOn_49 w_1260 w_470 w_469 w_14 (by omega) (by decide) (gc_201_5 hp).2 (gc_201_4 hp).2 hq15 (by decide) (by decide) ?_
        obtain rfl := Option.some.inj h
        exact M_vret (pc := 52) dX2_goOn_52 rfl rfl rfl
  · have h := (if_neg hc1).symm.trans h
    refine M_iload_n (pc := 8) dX2_goOn_8 rfl ?_
    refine M_aload_n (pc := 9) dX2_goOn_9 rfl ?_
    refine M_getI (pc := 10) dX2_goOn_10 f_X2_9 at_2 ?_
    refine M_icmp_lt (pc := 13) (tgt := 17) dX2_goOn_13 (by decide) (fun hc16 => ?_) (fun hc16 => ?_)
    · have h := (if_pos hc16).symm.trans h
      refine M_iload_n (pc := 17) dX2_goOn_17 rfl ?_
      refine M_aload_n (pc := 18) dX2_goOn_18 rfl ?_
      refine M_getI (pc := 19) dX2_goOn_19 f_X2_15 at_2 ?_
      refine M_icmp_ge (pc := 22) (tgt := 30) dX2_goOn_22 (by decide) (fun hc17 => ?_) (fun hc17 => ?_)
      · have h := (if_pos hc17).symm.trans h
        refine M_aload_n (pc := 30) dX2_goOn_30 rfl ?_
        refine M_iload_n (pc := 31) dX2_goOn_31 rfl ?_
        refine M_putI (pc := 32) dX2_goOn_32 f_X2_9 at_2 rfl ⟨rfl, rfl⟩ ?_
        refine M_aload_n (pc := 35) dX2_goOn_35 rfl ?_
        refine M_getR (pc := 36) dX2_goOn_36 f_X2_25 at_2 (gc_201_4 hp).1 ?_
        refine M_iconst (pc := 39) (v := 0) dX2_goOn_39 (by decide) ?_
        refine M_aload_n (pc := 40) dX2_goOn_40 rfl ?_
        refine M_getR (pc := 41) dX2_goOn_41 f_X2_28 at_2 (gc_201_5 hp).1 ?_
        refine M_iconst (pc := 44) (v := 0) dX2_goOn_44 (by decide) ?_
        refine M_aload_n (pc := 45) dX2_goOn_45 rfl ?_
        refine M_getIs (pc := 46) (x := (I 201 1)) dX2_goOn_46 f_X2_15 at_2 (rd_ne (Or.inr (by decide))) ?_
        obtain ⟨hq18, h⟩ := chk h
        refine M_copyB (pc := 49) dX2_goOn_49 w_1260 w_470 w_469 w_14 (by omega) (by decide) (gc_201_5 hp).2 (gc_201_4 hp).2 hq18 (by decide) (by decide) ?_
        obtain rfl := Option.some.inj h
        exact M_vret (pc := 52) dX2_goOn_52 rfl rfl rfl
      · have h := (if_neg hc17).symm.trans h
        refine M_iload_n (pc := 25) dX2_goOn_25 rfl ?_
        refine M_iconst (pc := 26) (v := 5) dX2_goOn_26 (by decide) ?_
        refine M_icmp_lt (pc := 27) (tgt := 53) dX2_goOn_27 (by decide) (fun hc19 => ?_) (fun hc19 => ?_)
        · have h := (if_pos hc19).symm.trans h
          refine M_iconst (pc := 53) (v := 0) dX2_goOn_53 (by decide) ?_
          refine M_istore (pc := 54) (ls' := [some (.ref 201), some (.int x1), some (.int x2), some (.int x3), some (.int (0 : Int32))]) dX2_goOn_54 (by decide) rfl ?_
          exact LC_X2_goOn_56 (P := P) hp hrc (0 : Int32) I _ h
        · have h := (if_neg hc19).symm.trans h
          refine M_aload_n (pc := 30) dX2_goOn_30 rfl ?_
          refine M_iload_n (pc := 31) dX2_goOn_31 rfl ?_
          refine M_putI (pc := 32) dX2_goOn_32 f_X2_9 at_2 rfl ⟨rfl, rfl⟩ ?_
          refine M_aload_n (pc := 35) dX2_goOn_35 rfl ?_
          refine M_getR (pc := 36) dX2_goOn_36 f_X2_25 at_2 (gc_201_4 hp).1 ?_
          refine M_iconst (pc := 39) (v := 0) dX2_goOn_39 (by decide) ?_
          refine M_aload_n (pc := 40) dX2_goOn_40 rfl ?_
          refine M_getR (pc := 41) dX2_goOn_41 f_X2_28 at_2 (gc_201_5 hp).1 ?_
          refine M_iconst (pc := 44) (v := 0) dX2_goOn_44 (by decide) ?_
          refine M_aload_n (pc := 45) dX2_goOn_45 rfl ?_
          refine M_getIs (pc := 46) (x := (I 201 1)) dX2_goOn_46 f_X2_15 at_2 (rd_ne (Or.inr (by decide))) ?_
          obtain ⟨hq20, h⟩ := chk h
          refine M_copyB (pc := 49) dX2_goOn_49 w_1260 w_470 w_469 w_14 (by omega) (by decide) (gc_201_5 hp).2 (gc_201_4 hp).2 hq20 (by decide) (by decide) ?_
          obtain rfl := Option.some.inj h
          exact M_vret (pc := 52) dX2_goOn_52 rfl rfl rfl
    · have h := (if_neg hc16).symm.trans h
      obtain rfl := Option.some.inj h
      exact M_vret (pc := 16) dX2_goOn_16 rfl rfl rfl
def F_X4_step (I : HI) (a : Nat) (x1 : Int32) (x2 : Int32) : Option (Int32 × HI) :=
  if (1010 : Int32) ≤ x1 then if x1 = (1013 : Int32) then if x2 < (1 : Int32) then if (2 : Int32) ≤ x2 then (ald 64 (I (a + 5)) (x2 - (2 : Int32))) >>= fun v13 => (ald 64 (I (a + 5)) (x2 - (1 : Int32))) >>= fun v15 => (F_X4_join I x1 v13 v15) >>= fun r17 => if inB (x2 - (2 : Int32)) 64 = true then some ((x2 - (1 : Int32)), (up2 I (a + 5) ((x2 - (2 : Int32))).toNatClampNeg r17)) else none else some (x2, I) else (ald 64 (I (a + 5)) (x2 - (1 : Int32))) >>= fun v20 => if inB (x2 - (1 : Int32)) 64 = true then some (x2, (up2 I (a + 5) ((x2 - (1 : Int32))).toNatClampNeg ((1 : Int32) - v20))) else none else if (2 : Int32) ≤ x2 then (ald 64 (I (a + 5)) (x2 - (2 : Int32))) >>= fun v4 => (ald 64 (I (a + 5)) (x2 - (1 : Int32))) >>= fun v6 => (F_X4_join I x1 v4 v6) >>= fun r8 => if inB (x2 - (2 : Int32)) 64 = true then some ((x2 - (1 : Int32)), (up2 I (a + 5) ((x2 - (2 : Int32))).toNatClampNeg r8)) else none else some (x2, I) else (F_X4_push I a x1 x2) >>= fun r23 => some (r23.1, r23.2)
set_option maxRecDepth 4000 in
set_option maxHeartbeats 4000000 in
theorem C_X4_step {g : gX} {d : Nat} {P : Nat → Nat → Option Nat} {I : HI} {a : Nat} {x1 : Int32} {x2 : Int32} {J : HJ} (hp : Wp P) (ha : OB NT a 4) {r : Int32 × HI} (h : F_X4_step I a x1 x2 = some r) : Cm g mX4_step (d + 1) [.ref a, .int x1, .int x2, .ref 136] (NT, I, J, P) (some (.int r.1)) (NT, r.2, J, P) := by
  unfold F_X4_step at h
  refine Cm.of (by decide) (by simp [Value.category]) (Nat.le_of_ble_eq_true rfl) (Nat.le_refl _) (ls := [some (.ref a), some (.int x1), some (.int x2), some (.ref 136)]) rfl ?_
  refine M_iload_n (pc := 0) dX4_step_0 rfl ?_
  refine M_sipush (pc := 1) (v := 1010) dX4_step_1 (by decide) ?_
  refine M_icmp_ge (pc := 4) (tgt := 15) dX4_step_4 (by decide) (fun hc1 => ?_) (fun hc1 => ?_)
  · have h := (if_pos hc1).symm.trans h
    refine M_iload_n (pc := 15) dX4_step_15 rfl ?_
    refine M_sipush (pc := 16) (v := 1013) dX4_step_16 (by decide) ?_
    refine M_icmp_ne (pc := 19) (tgt := 47) dX4_step_19 (by decide) (fun hc2 => ?_) (fun hc2 => ?_)
    · have h := (if_neg hc2).symm.trans h
      refine M_iload_n (pc := 47) dX4_step_47 rfl ?_
      refine M_iconst (pc := 48) (v := 2) dX4_step_48 (by decide) ?_
      refine M_icmp_ge (pc := 49) (tgt := 54) dX4_step_49 (by decide) (fun hc3 => ?_) (fun hc3 => ?_)
      · have h := (if_pos hc3).symm.trans h
        refine M_aload_n (pc := 54) dX4_step_54 rfl ?_
        refine M_getR (pc := 55) dX4_step_55 f_X4_31 ha (gr_4_6 hp ha).1 ?_
        refine M_iload_n (pc := 58) dX4_step_58 rfl ?_
        refine M_iconst (pc := 59) (v := 2) dX4_step_59 (by decide) ?_
        refine M_isub (pc := 60) dX4_step_60 ?_
        refine M_iload_n (pc := 61) dX4_step_61 rfl ?_
        refine M_aload_n (pc := 62) dX4_step_62 rfl ?_
        refine M_getR (pc := 63) dX4_step_63 f_X4_31 ha (gr_4_6 hp ha).1 ?_
        refine M_iload_n (pc := 66) dX4_step_66 rfl ?_
        refine M_iconst (pc := 67) (v := 2) dX4_step_67 (by decide) ?_
        refine M_isub (pc := 68) dX4_step_68 ?_
        obtain ⟨v4, hv5, h⟩ := bnd h
        refine M_aldI (pc := 69) dX4_step_69 (gr_4_6 hp ha).2 hv5 ?_
        refine M_aload_n (pc := 70) dX4_step_70 rfl ?_
        refine M_getR (pc := 71) dX4_step_71 f_X4_31 ha (gr_4_6 hp ha).1 ?_
        refine M_iload_n (pc := 74) dX4_step_74 rfl ?_
        refine M_iconst (pc := 75) (v := 1) dX4_step_75 (by decide) ?_
        refine M_isub (pc := 76) dX4_step_76 ?_
        obtain ⟨v6, hv7, h⟩ := bnd h
        refine M_aldI (pc := 77) dX4_step_77 (gr_4_6 hp ha).2 hv7 ?_
        obtain ⟨r8, hr9, h⟩ := bnd h
        refine M_callSi (pc := 78) dX4_step_78 s_X4_53 rfl rfl (Nat.le_of_ble_eq_true rfl) (C_X4_join (d := d + 0) hp hr9) (Nat.le_refl _) ?_
        obtain ⟨hq10, h⟩ := chk h
        refine M_iast (pc := 81) dX4_step_81 (gr_4_6 hp ha).2 (inB_in hq10) ?_
        refine M_iload_n (pc := 82) dX4_step_82 rfl ?_
        refine M_iconst (pc := 83) (v := 1) dX4_step_83 (by decide) ?_
        refine M_isub (pc := 84) dX4_step_84 ?_
        obtain rfl := Option.some.inj h
        exact M_iret (pc := 85) dX4_step_85 rfl rfl rfl rfl
      · have h := (if_neg hc3).symm.trans h
        refine M_iload_n (pc := 52) dX4_step_52 rfl ?_
        obtain rfl := Option.some.inj h
        exact M_iret (pc := 53) dX4_step_53 rfl rfl rfl rfl
    · have h := (if_pos hc2).symm.trans h
      refine M_iload_n (pc := 22) dX4_step_22 rfl ?_
      refine M_iconst (pc := 23) (v := 1) dX4_step_23 (by decide) ?_
      refine M_icmp_lt (pc := 24) (tgt := 47) dX4_step_24 (by decide) (fun hc11 => ?_) (fun hc11 => ?_)
      · have h := (if_pos hc11).symm.trans h
        refine M_iload_n (pc := 47) dX4_step_47 rfl ?_
        refine M_iconst (pc := 48) (v := 2) dX4_step_48 (by decide) ?_
        refine M_icmp_ge (pc := 49) (tgt := 54) dX4_step_49 (by decide) (fun hc12 => ?_) (fun hc12 => ?_)
        · have h := (if_pos hc12).symm.trans h
          refine M_aload_n (pc := 54) dX4_step_54 rfl ?_
          refine M_getR (pc := 55) dX4_step_55 f_X4_31 ha (gr_4_6 hp ha).1 ?_
          refine M_iload_n (pc := 58) dX4_step_58 rfl ?_
          refine M_iconst (pc := 59) (v := 2) dX4_step_59 (by decide) ?_
          refine M_isub (pc := 60) dX4_step_60 ?_
          refine M_iload_n (pc := 61) dX4_step_61 rfl ?_
          refine M_aload_n (pc := 62) dX4_step_62 rfl ?_
          refine M_getR (pc := 63) dX4_step_63 f_X4_31 ha (gr_4_6 hp ha).1 ?_
          refine M_iload_n (pc := 66) dX4_step_66 rfl ?_
          refine M_iconst (pc := 67) (v := 2) dX4_step_67 (by decide) ?_
          refine M_isub (pc := 68) dX4_step_68 ?_
          obtain ⟨v13, hv14, h⟩ := bnd h
          refine M_aldI (pc := 69) dX4_step_69 (gr_4_6 hp ha).2 hv14 ?_
          refine M_aload_n (pc := 70) dX4_step_70 rfl ?_
          refine M_getR (pc := 71) dX4_step_71 f_X4_31 ha (gr_4_6 hp ha).1 ?_
          refine M_iload_n (pc := 74) dX4_step_74 rfl ?_
          refine M_iconst (pc := 75) (v := 1) dX4_step_75 (by decide) ?_
          refine M_isub (pc := 76) dX4_step_76 ?_
          obtain ⟨v15, hv16, h⟩ := bnd h
          refine M_aldI (pc := 77) dX4_step_77 (gr_4_6 hp ha).2 hv16 ?_
          obtain ⟨r17, hr18, h⟩ := bnd h
          refine M_callSi (pc := 78) dX4_step_78 s_X4_53 rfl rfl (Nat.le_of_ble_eq_true rfl) (C_X4_join (d := d + 0) hp hr18) (Nat.le_refl _) ?_
          obtain ⟨hq19, h⟩ := chk h
          refine M_iast (pc := 81) dX4_step_81 (gr_4_6 hp ha).2 (inB_in hq19) ?_
          refine M_iload_n (pc := 82) dX4_step_82 rfl ?_
          refine M_iconst (pc := 83) (v := 1) dX4_step_83 (by decide) ?_
          refine M_isub (pc := 84) dX4_step_84 ?_
          obtain rfl := Option.some.inj h
          exact M_iret (pc := 85) dX4_step_85 rfl rfl rfl rfl
        · have h := (if_neg hc12).symm.trans h
          refine M_iload_n (pc := 52) dX4_step_52 rfl ?_
          obtain rfl := Option.some.inj h
          exact M_iret (pc := 53) dX4_step_53 rfl rfl rfl rfl
      · have h := (if_neg hc11).symm.trans h
        refine M_aload_n (pc := 27) dX4_step_27 rfl ?_
        refine M_getR (pc := 28) dX4_step_28 f_X4_31 ha (gr_4_6 hp ha).1 ?_
        refine M_iload_n (pc := 31) dX4_step_31 rfl ?_
        refine M_iconst (pc := 32) (v := 1) dX4_step_32 (by decide) ?_
        refine M_isub (pc := 33) dX4_step_33 ?_
        refine M_iconst (pc := 34) (v := 1) dX4_step_34 (by decide) ?_
        refine M_aload_n (pc := 35) dX4_step_35 rfl ?_
        refine M_getR (pc := 36) dX4_step_36 f_X4_31 ha (gr_4_6 hp ha).1 ?_
        refine M_iload_n (pc := 39) dX4_step_39 rfl ?_
        refine M_iconst (pc := 40) (v := 1) dX4_step_40 (by decide) ?_
        refine M_isub (pc := 41) dX4_step_41 ?_
        obtain ⟨v20, hv21, h⟩ := bnd h
        refine M_aldI (pc := 42) dX4_step_42 (gr_4_6 hp ha).2 hv21 ?_
        refine M_isub (pc := 43) dX4_step_43 ?_
        obtain ⟨hq22, h⟩ := chk h
        refine M_iast (pc := 44) dX4_step_44 (gr_4_6 hp ha).2 (inB_in hq22) ?_
        refine M_iload_n (pc := 45) dX4_step_45 rfl ?_
        obtain rfl := Option.some.inj h
        exact M_iret (pc := 46) dX4_step_46 rfl rfl rfl rfl
  · have h := (if_neg hc1).symm.trans h
    refine M_aload_n (pc := 7) dX4_step_7 rfl ?_
    refine M_iload_n (pc := 8) dX4_step_8 rfl ?_
    refine M_iload_n (pc := 9) dX4_step_9 rfl ?_
    refine M_aload_n (pc := 10) dX4_step_10 rfl ?_
    obtain ⟨r23, hr24, h⟩ := bnd h
    refine M_callVi (pc := 11) dX4_step_11 v_X4_50 rfl rfl ha (Nat.le_of_ble_eq_true rfl) (C_X4_push (d := d + 0) hp ha hr24) (Nat.le_refl _) ?_
    obtain rfl := Option.some.inj h
    exact M_iret (pc := 14) dX4_step_14 rfl rfl rfl rfl
def F_X5_kindHere (I : HI) : Option (Int32) :=
  (F_X10_isWord I 146 24) >>= fun r1 => if r1 = 0 then (F_X10_isWord I 146 25) >>= fun r4 => if r4 = 0 then (F_X10_isWord I 146 26) >>= fun r7 => if r7 = 0 then some (-1 : Int32) else some (2 : Int32) else some (1 : Int32) else some (0 : Int32)
set_option maxRecDepth 4000 in
set_option maxHeartbeats 4000000 in
theorem C_X5_kindHere {g : gX} {d : Nat} {P : Nat → Nat → Option Nat} {I : HI} {J : HJ} (hp : Wp P) (hx : P 146 0 = some 2) {r : Int32} (h : F_X5_kindHere I = some r) : Cm g mX5_kindHere (d + 5) [.ref 146] (NT, I, J, P) (some (.int r)) (NT, I, J, P) := by
  unfold F_X5_kindHere at h
  refine Cm.of (by decide) (by simp [Value.category]) (Nat.le_of_ble_eq_true rfl) (Nat.le_refl _) (ls := [some (.ref 146)]) rfl ?_
  refine M_aload_n (pc := 0) dX5_kindHere_0 rfl ?_
  refine M_ldcS (pc := 1) (j := 24) dX5_kindHere_1 (by decide) str_X5_54 ?_
  obtain ⟨r1, hr2, h⟩ := bnd h
  refine M_callUi (pc := 3) dX5_kindHere_3 u_X5_39 rfl rfl at_5 (Nat.le_of_ble_eq_true rfl) (C_X10_isWord (d := d + 0) hp at_5 (Or.inl rfl) hx (by decide) hr2) (Nat.le_refl _) ?_
  refine M_if_eq (pc := 6) (tgt := 11) dX5_kindHere_6 (by decide) (fun hc3 => ?_) (fun hc3 => ?_)
  · have h := (if_pos hc3).symm.trans h
    refine M_aload_n (pc := 11) dX5_kindHere_11 rfl ?_
    refine M_ldcS (pc := 12) (j := 25) dX5_kindHere_12 (by decide) str_X5_56 ?_
    obtain ⟨r4, hr5, h⟩ := bnd h
    refine M_callUi (pc := 14) dX5_kindHere_14 u_X5_39 rfl rfl at_5 (Nat.le_of_ble_eq_true rfl) (C_X10_isWord (d := d + 0) hp at_5 (Or.inl rfl) hx (by decide) hr5) (Nat.le_refl _) ?_
    refine M_if_eq (pc := 17) (tgt := 22) dX5_kindHere_17 (by decide) (fun hc6 => ?_) (fun hc6 => ?_)
    · have h := (if_pos hc6).symm.trans h
      refine M_aload_n (pc := 22) dX5_kindHere_22 rfl ?_
      refine M_ldcS (pc := 23) (j := 26) dX5_kindHere_23 (by decide) str_X5_58 ?_
      obtain ⟨r7, hr8, h⟩ := bnd h
      refine M_callUi (pc := 25) dX5_kindHere_25 u_X5_39 rfl rfl at_5 (Nat.le_of_ble_eq_true rfl) (C_X10_isWord (d := d + 0) hp at_5 (Or.inl rfl) hx (by decide) hr8) (Nat.le_refl _) ?_
      refine M_if_eq (pc := 28) (tgt := 35) dX5_kindHere_28 (by decide) (fun hc9 => ?_) (fun hc9 => ?_)
      · have h := (if_pos hc9).symm.trans h
        refine M_iconst (pc := 35) (v := -1) dX5_kindHere_35 (by decide) ?_
        obtain rfl := Option.some.inj h
        exact M_iret (pc := 36) dX5_kindHere_36 rfl rfl rfl rfl
      · have h := (if_neg hc9).symm.trans h
        refine M_iconst (pc := 31) (v := 2) dX5_kindHere_31 (by decide) ?_
        refine M_goto (pc := 32) (tgt := 36) dX5_kindHere_32 (by decide) ?_
        obtain rfl := Option.some.inj h
        exact M_iret (pc := 36) dX5_kindHere_36 rfl rfl rfl rfl
    · have h := (if_neg hc6).symm.trans h
      refine M_iconst (pc := 20) (v := 1) dX5_kindHere_20 (by decide) ?_
      obtain rfl := Option.some.inj h
      exact M_iret (pc := 21) dX5_kindHere_21 rfl rfl rfl rfl
  · have h := (if_neg hc3).symm.trans h
    refine M_iconst (pc := 9) (v := 0) dX5_kindHere_9 (by decide) ?_
    obtain rfl := Option.some.inj h
    exact M_iret (pc := 10) dX5_kindHere_10 rfl rfl rfl rfl
def F_X5_openingHere (I : HI) : Option (Int32) :=
  (F_X10_isWord I 146 27) >>= fun r1 => if r1 = 0 then (F_X10_isSign I 146 (40 : Int32)) >>= fun r4 => if r4 = 0 then some (-1 : Int32) else some (0 : Int32) else some (1013 : Int32)
set_option maxRecDepth 4000 in
set_option maxHeartbeats 4000000 in
theorem C_X5_openingHere {g : gX} {d : Nat} {P : Nat → Nat → Option Nat} {I : HI} {J : HJ} (hp : Wp P) (hx : P 146 0 = some 2) {r : Int32} (h : F_X5_openingHere I = some r) : Cm g mX5_openingHere (d + 5) [.ref 146] (NT, I, J, P) (some (.int r)) (NT, I, J, P) := by
  unfold F_X5_openingHere at h
  refine Cm.of (by decide) (by simp [Value.category]) (Nat.le_of_ble_eq_true rfl) (Nat.le_refl _) (ls := [some (.ref 146)]) rfl ?_
  refine M_aload_n (pc := 0) dX5_openingHere_0 rfl ?_
  refine M_ldcS (pc := 1) (j := 27) dX5_openingHere_1 (by decide) str_X5_82 ?_
  obtain ⟨r1, hr2, h⟩ := bnd h
  refine M_callUi (pc := 3) dX5_openingHere_3 u_X5_39 rfl rfl at_5 (Nat.le_of_ble_eq_true rfl) (C_X10_isWord (d := d + 0) hp at_5 (Or.inl rfl) hx (by decide) hr2) (Nat.le_refl _) ?_
  refine M_if_eq (pc := 6) (tgt := 13) dX5_openingHere_6 (by decide) (fun hc3 => ?_) (fun hc3 => ?_)
  · have h := (if_pos hc3).symm.trans h
    refine M_aload_n (pc := 13) dX5_openingHere_13 rfl ?_
    refine M_bipush (pc := 14) (v := 40) dX5_openingHere_14 (by decide) ?_
    obtain ⟨r4, hr5, h⟩ := bnd h
    refine M_callUi (pc := 16) dX5_openingHere_16 u_X5_84 rfl rfl at_5 (Nat.le_of_ble_eq_true rfl) (C_X10_isSign (d := d + 4) hp at_5 (Or.inl rfl) hx hr5) (Nat.le_refl _) ?_
    refine M_if_eq (pc := 19) (tgt := 26) dX5_openingHere_19 (by decide) (fun hc6 => ?_) (fun hc6 => ?_)
    · have h := (if_pos hc6).symm.trans h
      refine M_iconst (pc := 26) (v := -1) dX5_openingHere_26 (by decide) ?_
      obtain rfl := Option.some.inj h
      exact M_iret (pc := 27) dX5_openingHere_27 rfl rfl rfl rfl
    · have h := (if_neg hc6).symm.trans h
      refine M_iconst (pc := 22) (v := 0) dX5_openingHere_22 (by decide) ?_
      refine M_goto (pc := 23) (tgt := 27) dX5_openingHere_23 (by decide) ?_
      obtain rfl := Option.some.inj h
      exact M_iret (pc := 27) dX5_openingHere_27 rfl rfl rfl rfl
  · have h := (if_neg hc3).symm.trans h
    refine M_sipush (pc := 9) (v := 1013) dX5_openingHere_9 (by decide) ?_
    obtain rfl := Option.some.inj h
    exact M_iret (pc := 12) dX5_openingHere_12 rfl rfl rfl rfl
def F_X5_joiningHere (I : HI) : Option (Int32) :=
  (F_X10_isWord I 146 28) >>= fun r1 => if r1 = 0 then (F_X10_isWord I 146 29) >>= fun r4 => if r4 = 0 then some (-1 : Int32) else some (1015 : Int32) else some (1014 : Int32)
set_option maxRecDepth 4000 in
set_option maxHeartbeats 4000000 in
theorem C_X5_joiningHere {g : gX} {d : Nat} {P : Nat → Nat → Option Nat} {I : HI} {J : HJ} (hp : Wp P) (hx : P 146 0 = some 2) {r : Int32} (h : F_X5_joiningHere I = some r) : Cm g mX5_joiningHere (d + 5) [.ref 146] (NT, I, J, P) (some (.int r)) (NT, I, J, P) := by
  unfold F_X5_joiningHere at h
  refine Cm.of (by decide) (by simp [Value.category]) (Nat.le_of_ble_eq_true rfl) (Nat.le_refl _) (ls := [some (.ref 146)]) rfl ?_
  refine M_aload_n (pc := 0) dX5_joiningHere_0 rfl ?_
  refine M_ldcS (pc := 1) (j := 28) dX5_joiningHere_1 (by decide) str_X5_88 ?_
  obtain ⟨r1, hr2, h⟩ := bnd h
  refine M_callUi (pc := 3) dX5_joiningHere_3 u_X5_39 rfl rfl at_5 (Nat.le_of_ble_eq_true rfl) (C_X10_isWord (d := d + 0) hp at_5 (Or.inl rfl) hx (by decide) hr2) (Nat.le_refl _) ?_
  refine M_if_eq (pc := 6) (tgt := 13) dX5_joiningHere_6 (by decide) (fun hc3 => ?_) (fun hc3 => ?_)
  · have h := (if_pos hc3).symm.trans h
    refine M_aload_n (pc := 13) dX5_joiningHere_13 rfl ?_
    refine M_ldcS (pc := 14) (j := 29) dX5_joiningHere_14 (by decide) str_X5_90 ?_
    obtain ⟨r4, hr5, h⟩ := bnd h
    refine M_callUi (pc := 16) dX5_joiningHere_16 u_X5_39 rfl rfl at_5 (Nat.le_of_ble_eq_true rfl) (C_X10_isWord (d := d + 0) hp at_5 (Or.inl rfl) hx (by decide) hr5) (Nat.le_refl _) ?_
    refine M_if_eq (pc := 19) (tgt := 28) dX5_joiningHere_19 (by decide) (fun hc6 => ?_) (fun hc6 => ?_)
    · have h := (if_pos hc6).symm.trans h
      refine M_iconst (pc := 28) (v := -1) dX5_joiningHere_28 (by decide) ?_
      obtain rfl := Option.some.inj h
      exact M_iret (pc := 29) dX5_joiningHere_29 rfl rfl rfl rfl
    · have h := (if_neg hc6).symm.trans h
      refine M_sipush (pc := 22) (v := 1015) dX5_joiningHere_22 (by decide) ?_
      refine M_goto (pc := 25) (tgt := 29) dX5_joiningHere_25 (by decide) ?_
      obtain rfl := Option.some.inj h
      exact M_iret (pc := 29) dX5_joiningHere_29 rfl rfl rfl rfl
  · have h := (if_neg hc3).symm.trans h
    refine M_sipush (pc := 9) (v := 1014) dX5_joiningHere_9 (by decide) ?_
    obtain rfl := Option.some.inj h
    exact M_iret (pc := 12) dX5_joiningHere_12 rfl rfl rfl rfl
def F_X5_stateHere (I : HI) : Option (Int32) :=
  (F_X10_isWord I 146 30) >>= fun r1 => if r1 = 0 then (F_X10_isWord I 146 31) >>= fun r4 => if r4 = 0 then (F_X10_isWord I 146 32) >>= fun r7 => if r7 = 0 then some (-1 : Int32) else some (8 : Int32) else some (7 : Int32) else some (6 : Int32)
set_option maxRecDepth 4000 in
set_option maxHeartbeats 4000000 in
theorem C_X5_stateHere {g : gX} {d : Nat} {P : Nat → Nat → Option Nat} {I : HI} {J : HJ} (hp : Wp P) (hx : P 146 0 = some 2) {r : Int32} (h : F_X5_stateHere I = some r) : Cm g mX5_stateHere (d + 5) [.ref 146] (NT, I, J, P) (some (.int r)) (NT, I, J, P) := by
  unfold F_X5_stateHere at h
  refine Cm.of (by decide) (by simp [Value.category]) (Nat.le_of_ble_eq_true rfl) (Nat.le_refl _) (ls := [some (.ref 146)]) rfl ?_
  refine M_aload_n (pc := 0) dX5_stateHere_0 rfl ?_
  refine M_ldcS (pc := 1) (j := 30) dX5_stateHere_1 (by decide) str_X5_98 ?_
  obtain ⟨r1, hr2, h⟩ := bnd h
  refine M_callUi (pc := 3) dX5_stateHere_3 u_X5_39 rfl rfl at_5 (Nat.le_of_ble_eq_true rfl) (C_X10_isWord (d := d + 0) hp at_5 (Or.inl rfl) hx (by decide) hr2) (Nat.le_refl _) ?_
  refine M_if_eq (pc := 6) (tgt := 12) dX5_stateHere_6 (by decide) (fun hc3 => ?_) (fun hc3 => ?_)
  · have h := (if_pos hc3).symm.trans h
    refine M_aload_n (pc := 12) dX5_stateHere_12 rfl ?_
    refine M_ldcS (pc := 13) (j := 31) dX5_stateHere_13 (by decide) str_X5_102 ?_
    obtain ⟨r4, hr5, h⟩ := bnd h
    refine M_callUi (pc := 15) dX5_stateHere_15 u_X5_39 rfl rfl at_5 (Nat.le_of_ble_eq_true rfl) (C_X10_isWord (d := d + 0) hp at_5 (Or.inl rfl) hx (by decide) hr5) (Nat.le_refl _) ?_
    refine M_if_eq (pc := 18) (tgt := 24) dX5_stateHere_18 (by decide) (fun hc6 => ?_) (fun hc6 => ?_)
    · have h := (if_pos hc6).symm.trans h
      refine M_aload_n (pc := 24) dX5_stateHere_24 rfl ?_
      refine M_ldcS (pc := 25) (j := 32) dX5_stateHere_25 (by decide) str_X5_104 ?_
      obtain ⟨r7, hr8, h⟩ := bnd h
      refine M_callUi (pc := 27) dX5_stateHere_27 u_X5_39 rfl rfl at_5 (Nat.le_of_ble_eq_true rfl) (C_X10_isWord (d := d + 0) hp at_5 (Or.inl rfl) hx (by decide) hr8) (Nat.le_refl _) ?_
      refine M_if_eq (pc := 30) (tgt := 38) dX5_stateHere_30 (by decide) (fun hc9 => ?_) (fun hc9 => ?_)
      · have h := (if_pos hc9).symm.trans h
        refine M_iconst (pc := 38) (v := -1) dX5_stateHere_38 (by decide) ?_
        obtain rfl := Option.some.inj h
        exact M_iret (pc := 39) dX5_stateHere_39 rfl rfl rfl rfl
      · have h := (if_neg hc9).symm.trans h
        refine M_bipush (pc := 33) (v := 8) dX5_stateHere_33 (by decide) ?_
        refine M_goto (pc := 35) (tgt := 39) dX5_stateHere_35 (by decide) ?_
        obtain rfl := Option.some.inj h
        exact M_iret (pc := 39) dX5_stateHere_39 rfl rfl rfl rfl
    · have h := (if_neg hc6).symm.trans h
      refine M_bipush (pc := 21) (v := 7) dX5_stateHere_21 (by decide) ?_
      obtain rfl := Option.some.inj h
      exact M_iret (pc := 23) dX5_stateHere_23 rfl rfl rfl rfl
  · have h := (if_neg hc3).symm.trans h
    refine M_bipush (pc := 9) (v := 6) dX5_stateHere_9 (by decide) ?_
    obtain rfl := Option.some.inj h
    exact M_iret (pc := 11) dX5_stateHere_11 rfl rfl rfl rfl
def F_X5_valueHere (I : HI) : Option (Int32) :=
  (F_X10_isWord I 146 33) >>= fun r1 => if r1 = 0 then (F_X10_isWord I 146 34) >>= fun r4 => if r4 = 0 then (F_X10_isWord I 146 35) >>= fun r7 => if r7 = 0 then (F_X10_isWord I 146 36) >>= fun r10 => if r10 = 0 then (F_X10_isWord I 146 37) >>= fun r13 => if r13 = 0 then (F_X10_isWord I 146 38) >>= fun r16 => if r16 = 0 then some (-1 : Int32) else some (5 : Int32) else some (4 : Int32) else some (3 : Int32) else some (2 : Int32) else some (1 : Int32) else some (0 : Int32)
set_option maxRecDepth 4000 in
set_option maxHeartbeats 4000000 in
theorem C_X5_valueHere {g : gX} {d : Nat} {P : Nat → Nat → Option Nat} {I : HI} {J : HJ} (hp : Wp P) (hx : P 146 0 = some 2) {r : Int32} (h : F_X5_valueHere I = some r) : Cm g mX5_valueHere (d + 5) [.ref 146] (NT, I, J, P) (some (.int r)) (NT, I, J, P) := by
  unfold F_X5_valueHere at h
  refine Cm.of (by decide) (by simp [Value.category]) (Nat.le_of_ble_eq_true rfl) (Nat.le_refl _) (ls := [some (.ref 146)]) rfl ?_
  refine M_aload_n (pc := 0) dX5_valueHere_0 rfl ?_
  refine M_ldcS (pc := 1) (j := 33) dX5_valueHere_1 (by decide) str_X5_115 ?_
  obtain ⟨r1, hr2, h⟩ := bnd h
  refine M_callUi (pc := 3) dX5_valueHere_3 u_X5_39 rfl rfl at_5 (Nat.le_of_ble_eq_true rfl) (C_X10_isWord (d := d + 0) hp at_5 (Or.inl rfl) hx (by decide) hr2) (Nat.le_refl _) ?_
  refine M_if_eq (pc := 6) (tgt := 11) dX5_valueHere_6 (by decide) (fun hc3 => ?_) (fun hc3 => ?_)
  · have h := (if_pos hc3).symm.trans h
    refine M_aload_n (pc := 11) dX5_valueHere_11 rfl ?_
    refine M_ldcS (pc := 12) (j := 34) dX5_valueHere_12 (by decide) str_X5_117 ?_
    obtain ⟨r4, hr5, h⟩ := bnd h
    refine M_callUi (pc := 14) dX5_valueHere_14 u_X5_39 rfl rfl at_5 (Nat.le_of_ble_eq_true rfl) (C_X10_isWord (d := d + 0) hp at_5 (Or.inl rfl) hx (by decide) hr5) (Nat.le_refl _) ?_
    refine M_if_eq (pc := 17) (tgt := 22) dX5_valueHere_17 (by decide) (fun hc6 => ?_) (fun hc6 => ?_)
    · have h := (if_pos hc6).symm.trans h
      refine M_aload_n (pc := 22) dX5_valueHere_22 rfl ?_
      refine M_ldcS (pc := 23) (j := 35) dX5_valueHere_23 (by decide) str_X5_119 ?_
      obtain ⟨r7, hr8, h⟩ := bnd h
      refine M_callUi (pc := 25) dX5_valueHere_25 u_X5_39 rfl rfl at_5 (Nat.le_of_ble_eq_true rfl) (C_X10_isWord (d := d + 0) hp at_5 (Or.inl rfl) hx (by decide) hr8) (Nat.le_refl _) ?_
      refine M_if_eq (pc := 28) (tgt := 33) dX5_valueHere_28 (by decide) (fun hc9 => ?_) (fun hc9 => ?_)
      · have h := (if_pos hc9).symm.trans h
        refine M_aload_n (pc := 33) dX5_valueHere_33 rfl ?_
        refine M_ldcS (pc := 34) (j := 36) dX5_valueHere_34 (by decide) str_X5_121 ?_
        obtain ⟨r10, hr11, h⟩ := bnd h
        refine M_callUi (pc := 36) dX5_valueHere_36 u_X5_39 rfl rfl at_5 (Nat.le_of_ble_eq_true rfl) (C_X10_isWord (d := d + 0) hp at_5 (Or.inl rfl) hx (by decide) hr11) (Nat.le_refl _) ?_
        refine M_if_eq (pc := 39) (tgt := 44) dX5_valueHere_39 (by decide) (fun hc12 => ?_) (fun hc12 => ?_)
        · have h := (if_pos hc12).symm.trans h
          refine M_aload_n (pc := 44) dX5_valueHere_44 rfl ?_
          refine M_ldcS (pc := 45) (j := 37) dX5_valueHere_45 (by decide) str_X5_123 ?_
          obtain ⟨r13, hr14, h⟩ := bnd h
          refine M_callUi (pc := 47) dX5_valueHere_47 u_X5_39 rfl rfl at_5 (Nat.le_of_ble_eq_true rfl) (C_X10_isWord (d := d + 0) hp at_5 (Or.inl rfl) hx (by decide) hr14) (Nat.le_refl _) ?_
          refine M_if_eq (pc := 50) (tgt := 55) dX5_valueHere_50 (by decide) (fun hc15 => ?_) (fun hc15 => ?_)
          · have h := (if_pos hc15).symm.trans h
            refine M_aload_n (pc := 55) dX5_valueHere_55 rfl ?_
            refine M_ldcS (pc := 56) (j := 38) dX5_valueHere_56 (by decide) str_X5_125 ?_
            obtain ⟨r16, hr17, h⟩ := bnd h
            refine M_callUi (pc := 58) dX5_valueHere_58 u_X5_39 rfl rfl at_5 (Nat.le_of_ble_eq_true rfl) (C_X10_isWord (d := d + 0) hp at_5 (Or.inl rfl) hx (by decide) hr17) (Nat.le_refl _) ?_
            refine M_if_eq (pc := 61) (tgt := 68) dX5_valueHere_61 (by decide) (fun hc18 => ?_) (fun hc18 => ?_)
            · have h := (if_pos hc18).symm.trans h
              refine M_iconst (pc := 68) (v := -1) dX5_valueHere_68 (by decide) ?_
              obtain rfl := Option.some.inj h
              exact M_iret (pc := 69) dX5_valueHere_69 rfl rfl rfl rfl
            · have h := (if_neg hc18).symm.trans h
              refine M_iconst (pc := 64) (v := 5) dX5_valueHere_64 (by decide) ?_
              refine M_goto (pc := 65) (tgt := 69) dX5_valueHere_65 (by decide) ?_
              obtain rfl := Option.some.inj h
              exact M_iret (pc := 69) dX5_valueHere_69 rfl rfl rfl rfl
          · have h := (if_neg hc15).symm.trans h
            refine M_iconst (pc := 53) (v := 4) dX5_valueHere_53 (by decide) ?_
            obtain rfl := Option.some.inj h
            exact M_iret (pc := 54) dX5_valueHere_54 rfl rfl rfl rfl
        · have h := (if_neg hc12).symm.trans h
          refine M_iconst (pc := 42) (v := 3) dX5_valueHere_42 (by decide) ?_
          obtain rfl := Option.some.inj h
          exact M_iret (pc := 43) dX5_valueHere_43 rfl rfl rfl rfl
      · have h := (if_neg hc9).symm.trans h
        refine M_iconst (pc := 31) (v := 2) dX5_valueHere_31 (by decide) ?_
        obtain rfl := Option.some.inj h
        exact M_iret (pc := 32) dX5_valueHere_32 rfl rfl rfl rfl
    · have h := (if_neg hc6).symm.trans h
      refine M_iconst (pc := 20) (v := 1) dX5_valueHere_20 (by decide) ?_
      obtain rfl := Option.some.inj h
      exact M_iret (pc := 21) dX5_valueHere_21 rfl rfl rfl rfl
  · have h := (if_neg hc3).symm.trans h
    refine M_iconst (pc := 9) (v := 0) dX5_valueHere_9 (by decide) ?_
    obtain rfl := Option.some.inj h
    exact M_iret (pc := 10) dX5_valueHere_10 rfl rfl rfl rfl
def F_X9_put (I : HI) (b1 : Nat) (x2 : Int32) : Option (HI) :=
  (F_X1_calledUp (up2 (up2 I 136 1 (0 : Int32)) 136 2 (I b1 12)) (b1 + 1) x2 (I b1 7)) >>= fun r1 => (F_X1_isHad (up2 (up2 (up2 (up2 (up2 (up2 I 136 1 (0 : Int32)) 136 2 (I b1 12)) 136 0 r1) 137 0 x2) 137 4 (I b1 4)) 137 5 (I b1 5)) (b1 + 1) x2) >>= fun r3 => if r3 = 0 then (F_X1_has (up2 (up2 (up2 (up2 (up2 (up2 (up2 (up2 (up2 (up2 (up2 (up2 I 136 1 (0 : Int32)) 136 2 (I b1 12)) 136 0 r1) 137 0 x2) 137 4 (I b1 4)) 137 5 (I b1 5)) 137 6 (1 : Int32)) 137 1 ((up2 (up2 I 136 1 (0 : Int32)) 136 2 (I b1 12)) b1 2)) 137 2 (I b1 11)) 137 3 (9 : Int32)) 137 7 (0 : Int32)) 137 8 (0 : Int32)) (b1 + 1) r1) >>= fun r6 => if r6 = 0 then some (up2 (up2 (up2 (up2 (up2 (up2 (up2 (up2 (up2 (up2 (up2 (up2 I 136 1 (0 : Int32)) 136 2 (I b1 12)) 136 0 r1) 137 0 x2) 137 4 (I b1 4)) 137 5 (I b1 5)) 137 6 (1 : Int32)) 137 1 ((up2 (up2 I 136 1 (0 : Int32)) 136 2 (I b1 12)) b1 2)) 137 2 (I b1 11)) 137 3 (9 : Int32)) 137 7 (0 : Int32)) 137 8 (0 : Int32)) else (F_X9_putCalled (up2 (up2 (up2 (up2 (up2 (up2 (up2 (up2 (up2 (up2 (up2 (up2 I 136 1 (0 : Int32)) 136 2 (I b1 12)) 136 0 r1) 137 0 x2) 137 4 (I b1 4)) 137 5 (I b1 5)) 137 6 (1 : Int32)) 137 1 ((up2 (up2 I 136 1 (0 : Int32)) 136 2 (I b1 12)) b1 2)) 137 2 (I b1 11)) 137 3 (9 : Int32)) 137 7 (0 : Int32)) 137 8 (0 : Int32)) b1) >>= fun r9 => some r9 else (F_X1_has (up2 (up2 (up2 (up2 (up2 (up2 (up2 (up2 (up2 (up2 (up2 (up2 I 136 1 (0 : Int32)) 136 2 (I b1 12)) 136 0 r1) 137 0 x2) 137 4 (I b1 4)) 137 5 (I b1 5)) 137 6 (0 : Int32)) 137 1 ((up2 (up2 I 136 1 (0 : Int32)) 136 2 (I b1 12)) b1 2)) 137 2 (I b1 11)) 137 3 (9 : Int32)) 137 7 (0 : Int32)) 137 8 (0 : Int32)) (b1 + 1) r1) >>= fun r11 => if r11 = 0 then some (up2 (up2 (up2 (up2 (up2 (up2 (up2 (up2 (up2 (up2 (up2 (up2 I 136 1 (0 : Int32)) 136 2 (I b1 12)) 136 0 r1) 137 0 x2) 137 4 (I b1 4)) 137 5 (I b1 5)) 137 6 (0 : Int32)) 137 1 ((up2 (up2 I 136 1 (0 : Int32)) 136 2 (I b1 12)) b1 2)) 137 2 (I b1 11)) 137 3 (9 : Int32)) 137 7 (0 : Int32)) 137 8 (0 : Int32)) else (F_X9_putCalled (up2 (up2 (up2 (up2 (up2 (up2 (up2 (up2 (up2 (up2 (up2 (up2 I 136 1 (0 : Int32)) 136 2 (I b1 12)) 136 0 r1) 137 0 x2) 137 4 (I b1 4)) 137 5 (I b1 5)) 137 6 (0 : Int32)) 137 1 ((up2 (up2 I 136 1 (0 : Int32)) 136 2 (I b1 12)) b1 2)) 137 2 (I b1 11)) 137 3 (9 : Int32)) 137 7 (0 : Int32)) 137 8 (0 : Int32)) b1) >>= fun r14 => some r14
set_option maxRecDepth 4000 in
set_option maxHeartbeats 4000000 in
theorem C_X9_put {g : gX} {d : Nat} {P : Nat → Nat → Option Nat} {I : HI} {b1 : Nat} {x2 : Int32} {J : HJ} (hp : Wp P) (hb1 : OB NT b1 3) {r : HI} (h : F_X9_put I b1 x2 = some r) : Cm g mX9_put (d + 3) [.ref 136, .ref b1, .int x2] (NT, I, J, P) none (NT, r, J, P) := by
  unfold F_X9_put at h
  refine Cm.of (by decide) (by simp [Value.category]) (Nat.le_of_ble_eq_true rfl) (Nat.le_refl _) (ls := [some (.ref 136), some (.ref b1), some (.int x2)]) rfl ?_
  refine M_aload_n (pc := 0) dX9_put_0 rfl ?_
  refine M_iconst (pc := 1) (v := 0) dX9_put_1 (by decide) ?_
  refine M_putI (pc := 2) dX9_put_2 f_X9_15 at_9 rfl ⟨rfl, rfl⟩ ?_
  refine M_aload_n (pc := 5) dX9_put_5 rfl ?_
  refine M_aload_n (pc := 6) dX9_put_6 rfl ?_
  refine M_getIs (pc := 7) (x := (I b1 12)) dX9_put_7 f_X9_25 hb1 (rd_ne (Or.inr (by decide))) ?_
  refine M_putI (pc := 10) dX9_put_10 f_X9_18 at_9 rfl ⟨rfl, rfl⟩ ?_
  refine M_aload_n (pc := 13) dX9_put_13 rfl ?_
  refine M_aload_n (pc := 14) dX9_put_14 rfl ?_
  refine M_getR (pc := 15) dX9_put_15 f_X9_30 hb1 (gr_3_0 hp hb1).1 ?_
  refine M_iload_n (pc := 18) dX9_put_18 rfl ?_
  refine M_aload_n (pc := 19) dX9_put_19 rfl ?_
  refine M_getIs (pc := 20) (x := (I b1 7)) dX9_put_20 f_X9_34 hb1 ((rd_ne (Or.inr (by decide))).trans (rd_ne (Or.inr (by decide)))) ?_
  obtain ⟨r1, hr2, h⟩ := bnd h
  refine M_callVi (pc := 23) dX9_put_23 v_X9_37 rfl rfl (gr_3_0 hp hb1).2 (Nat.le_of_ble_eq_true rfl) (C_X1_calledUp (d := d + 0) hp (gr_3_0 hp hb1).2 hr2) (Nat.le_refl _) ?_
  refine M_putI (pc := 26) dX9_put_26 f_X9_9 at_9 rfl ⟨rfl, rfl⟩ ?_
  refine M_aload_n (pc := 29) dX9_put_29 rfl ?_
  refine M_getR (pc := 30) dX9_put_30 f_X9_21 at_9 (gc_136_3 hp).1 ?_
  refine M_iconst (pc := 33) (v := 0) dX9_put_33 (by decide) ?_
  refine M_iload_n (pc := 34) dX9_put_34 rfl ?_
  refine M_istc (pc := 35) (j := 0) dX9_put_35 (gc_136_3 hp).2 (by decide) (by decide) ?_
  refine M_aload_n (pc := 36) dX9_put_36 rfl ?_
  refine M_getR (pc := 37) dX9_put_37 f_X9_21 at_9 (gc_136_3 hp).1 ?_
  refine M_iconst (pc := 40) (v := 4) dX9_put_40 (by decide) ?_
  refine M_aload_n (pc := 41) dX9_put_41 rfl ?_
  refine M_getIs (pc := 42) (x := (I b1 4)) dX9_put_42 f_X9_43 hb1 ((rd_ne (Or.inr (by decide))).trans ((rd_ne (Or.inr (by decide))).trans ((rd_ne (Or.inr (by decide))).trans (rd_ne (Or.inr (by decide)))))) ?_
  refine M_istc (pc := 45) (j := 4) dX9_put_45 (gc_136_3 hp).2 (by decide) (by decide) ?_
  refine M_aload_n (pc := 46) dX9_put_46 rfl ?_
  refine M_getR (pc := 47) dX9_put_47 f_X9_21 at_9 (gc_136_3 hp).1 ?_
  refine M_iconst (pc := 50) (v := 5) dX9_put_50 (by decide) ?_
  refine M_aload_n (pc := 51) dX9_put_51 rfl ?_
  refine M_getIs (pc := 52) (x := (I b1 5)) dX9_put_52 f_X9_46 hb1 ((rd_ne (Or.inr (by decide))).trans ((rd_ne (Or.inr (by decide))).trans ((rd_ne (Or.inr (by decide))).trans ((rd_ne (Or.inr (by decide))).trans (rd_ne (Or.inr (by decide))))))) ?_
  refine M_istc (pc := 55) (j := 5) dX9_put_55 (gc_136_3 hp).2 (by decide) (by decide) ?_
  refine M_aload_n (pc := 56) dX9_put_56 rfl ?_
  refine M_getR (pc := 57) dX9_put_57 f_X9_21 at_9 (gc_136_3 hp).1 ?_
  refine M_bipush (pc := 60) (v := 6) dX9_put_60 (by decide) ?_
  refine M_aload_n (pc := 62) dX9_put_62 rfl ?_
  refine M_getR (pc := 63) dX9_put_63 f_X9_30 hb1 (gr_3_0 hp hb1).1 ?_
  refine M_iload_n (pc := 66) dX9_put_66 rfl ?_
  obtain ⟨r3, hr4, h⟩ := bnd h
  refine M_callVi (pc := 67) dX9_put_67 v_X9_49 rfl rfl (gr_3_0 hp hb1).2 (Nat.le_of_ble_eq_true rfl) (C_X1_isHad (d := d + 1) hp (gr_3_0 hp hb1).2 hr4) (Nat.le_refl _) ?_
  refine M_if_eq (pc := 70) (tgt := 77) dX9_put_70 (by decide) (fun hc5 => ?_) (fun hc5 => ?_)
  · have h := (if_pos hc5).symm.trans h
    refine M_iconst (pc := 77) (v := 1) dX9_put_77 (by decide) ?_
    refine M_istc (pc := 78) (j := 6) dX9_put_78 (gc_136_3 hp).2 (by decide) (by decide) ?_
    refine M_aload_n (pc := 79) dX9_put_79 rfl ?_
    refine M_getR (pc := 80) dX9_put_80 f_X9_21 at_9 (gc_136_3 hp).1 ?_
    refine M_iconst (pc := 83) (v := 1) dX9_put_83 (by decide) ?_
    refine M_aload_n (pc := 84) dX9_put_84 rfl ?_
    refine M_getIs (pc := 85) (x := ((up2 (up2 I 136 1 (0 : Int32)) 136 2 (I b1 12)) b1 2)) dX9_put_85 f_X9_53 hb1 ((rd_ne (Or.inr (by decide))).trans ((rd_ne (Or.inr (by decide))).trans ((rd_ne (Or.inr (by decide))).trans ((rd_ne (Or.inr (by decide))).trans (rd_ne (Or.inr (by decide))))))) ?_
    refine M_istc (pc := 88) (j := 1) dX9_put_88 (gc_136_3 hp).2 (by decide) (by decide) ?_
    refine M_aload_n (pc := 89) dX9_put_89 rfl ?_
    refine M_getR (pc := 90) dX9_put_90 f_X9_21 at_9 (gc_136_3 hp).1 ?_
    refine M_iconst (pc := 93) (v := 2) dX9_put_93 (by decide) ?_
    refine M_aload_n (pc := 94) dX9_put_94 rfl ?_
    refine M_getIs (pc := 95) (x := (I b1 11)) dX9_put_95 f_X9_56 hb1 ((rd_ne (Or.inr (by decide))).trans ((rd_ne (Or.inr (by decide))).trans ((rd_ne (Or.inr (by decide))).trans ((rd_ne (Or.inr (by decide))).trans ((rd_ne (Or.inr (by decide))).trans ((rd_ne (Or.inr (by decide))).trans ((rd_ne (Or.inr (by decide))).trans (rd_ne (Or.inr (by decide)))))))))) ?_
    refine M_istc (pc := 98) (j := 2) dX9_put_98 (gc_136_3 hp).2 (by decide) (by decide) ?_
    refine M_aload_n (pc := 99) dX9_put_99 rfl ?_
    refine M_getR (pc := 100) dX9_put_100 f_X9_21 at_9 (gc_136_3 hp).1 ?_
    refine M_iconst (pc := 103) (v := 3) dX9_put_103 (by decide) ?_
    refine M_bipush (pc := 104) (v := 9) dX9_put_104 (by decide) ?_
    refine M_istc (pc := 106) (j := 3) dX9_put_106 (gc_136_3 hp).2 (by decide) (by decide) ?_
    refine M_aload_n (pc := 107) dX9_put_107 rfl ?_
    refine M_getR (pc := 108) dX9_put_108 f_X9_21 at_9 (gc_136_3 hp).1 ?_
    refine M_bipush (pc := 111) (v := 7) dX9_put_111 (by decide) ?_
    refine M_iconst (pc := 113) (v := 0) dX9_put_113 (by decide) ?_
    refine M_istc (pc := 114) (j := 7) dX9_put_114 (gc_136_3 hp).2 (by decide) (by decide) ?_
    refine M_aload_n (pc := 115) dX9_put_115 rfl ?_
    refine M_getR (pc := 116) dX9_put_116 f_X9_21 at_9 (gc_136_3 hp).1 ?_
    refine M_bipush (pc := 119) (v := 8) dX9_put_119 (by decide) ?_
    refine M_iconst (pc := 121) (v := 0) dX9_put_121 (by decide) ?_
    refine M_istc (pc := 122) (j := 8) dX9_put_122 (gc_136_3 hp).2 (by decide) (by decide) ?_
    refine M_aload_n (pc := 123) dX9_put_123 rfl ?_
    refine M_getR (pc := 124) dX9_put_124 f_X9_30 hb1 (gr_3_0 hp hb1).1 ?_
    refine M_aload_n (pc := 127) dX9_put_127 rfl ?_
    refine M_getIs (pc := 128) (x := r1) dX9_put_128 f_X9_9 at_9 ((rd_ne (Or.inr (by decide))).trans ((rd_ne (Or.inr (by decide))).trans ((rd_ne (Or.inr (by decide))).trans ((rd_ne (Or.inr (by decide))).trans ((rd_ne (Or.inr (by decide))).trans ((rd_ne (Or.inr (by decide))).trans ((rd_ne (Or.inr (by decide))).trans ((rd_ne (Or.inr (by decide))).trans ((rd_ne (Or.inl (by decide))).trans rd_eq))))))))) ?_
    obtain ⟨r6, hr7, h⟩ := bnd h
    refine M_callVi (pc := 131) dX9_put_131 v_X9_59 rfl rfl (gr_3_0 hp hb1).2 (Nat.le_of_ble_eq_true rfl) (C_X1_has (d := d + 2) hp (gr_3_0 hp hb1).2 hr7) (Nat.le_refl _) ?_
    refine M_if_eq (pc := 134) (tgt := 142) dX9_put_134 (by decide) (fun hc8 => ?_) (fun hc8 => ?_)
    · have h := (if_pos hc8).symm.trans h
      obtain rfl := Option.some.inj h
      exact M_vret (pc := 142) dX9_put_142 rfl rfl rfl
    · have h := (if_neg hc8).symm.trans h
      refine M_aload_n (pc := 137) dX9_put_137 rfl ?_
      refine M_aload_n (pc := 138) dX9_put_138 rfl ?_
      obtain ⟨r9, hr10, h⟩ := bnd h
      refine M_callVv (pc := 139) dX9_put_139 v_X9_62 rfl rfl at_9 (Nat.le_of_ble_eq_true rfl) (C_X9_putCalled (d := d + 2) hp hb1 hr10) (Nat.le_refl _) ?_
      obtain rfl := Option.some.inj h
      exact M_vret (pc := 142) dX9_put_142 rfl rfl rfl
  · have h := (if_neg hc5).symm.trans h
    refine M_iconst (pc := 73) (v := 0) dX9_put_73 (by decide) ?_
    refine M_goto (pc := 74) (tgt := 78) dX9_put_74 (by decide) ?_
    refine M_istc (pc := 78) (j := 6) dX9_put_78 (gc_136_3 hp).2 (by decide) (by decide) ?_
    refine M_aload_n (pc := 79) dX9_put_79 rfl ?_
    refine M_getR (pc := 80) dX9_put_80 f_X9_21 at_9 (gc_136_3 hp).1 ?_
    refine M_iconst (pc := 83) (v := 1) dX9_put_83 (by decide) ?_
    refine M_aload_n (pc := 84) dX9_put_84 rfl ?_
    refine M_getIs (pc := 85) (x := ((up2 (up2 I 136 1 (0 : Int32)) 136 2 (I b1 12)) b1 2)) dX9_put_85 f_X9_53 hb1 ((rd_ne (Or.inr (by decide))).trans ((rd_ne (Or.inr (by decide))).trans ((rd_ne (Or.inr (by decide))).trans ((rd_ne (Or.inr (by decide))).trans (rd_ne (Or.inr (by decide))))))) ?_
    refine M_istc (pc := 88) (j := 1) dX9_put_88 (gc_136_3 hp).2 (by decide) (by decide) ?_
    refine M_aload_n (pc := 89) dX9_put_89 rfl ?_
    refine M_getR (pc := 90) dX9_put_90 f_X9_21 at_9 (gc_136_3 hp).1 ?_
    refine M_iconst (pc := 93) (v := 2) dX9_put_93 (by decide) ?_
    refine M_aload_n (pc := 94) dX9_put_94 rfl ?_
    refine M_getIs (pc := 95) (x := (I b1 11)) dX9_put_95 f_X9_56 hb1 ((rd_ne (Or.inr (by decide))).trans ((rd_ne (Or.inr (by decide))).trans ((rd_ne (Or.inr (by decide))).trans ((rd_ne (Or.inr (by decide))).trans ((rd_ne (Or.inr (by decide))).trans ((rd_ne (Or.inr (by decide))).trans ((rd_ne (Or.inr (by decide))).trans (rd_ne (Or.inr (by decide)))))))))) ?_
    refine M_istc (pc := 98) (j := 2) dX9_put_98 (gc_136_3 hp).2 (by decide) (by decide) ?_
    refine M_aload_n (pc := 99) dX9_put_99 rfl ?_
    refine M_getR (pc := 100) dX9_put_100 f_X9_21 at_9 (gc_136_3 hp).1 ?_
    refine M_iconst (pc := 103) (v := 3) dX9_put_103 (by decide) ?_
    refine M_bipush (pc := 104) (v := 9) dX9_put_104 (by decide) ?_
    refine M_istc (pc := 106) (j := 3) dX9_put_106 (gc_136_3 hp).2 (by decide) (by decide) ?_
    refine M_aload_n (pc := 107) dX9_put_107 rfl ?_
    refine M_getR (pc := 108) dX9_put_108 f_X9_21 at_9 (gc_136_3 hp).1 ?_
    refine M_bipush (pc := 111) (v := 7) dX9_put_111 (by decide) ?_
    refine M_iconst (pc := 113) (v := 0) dX9_put_113 (by decide) ?_
    refine M_istc (pc := 114) (j := 7) dX9_put_114 (gc_136_3 hp).2 (by decide) (by decide) ?_
    refine M_aload_n (pc := 115) dX9_put_115 rfl ?_
    refine M_getR (pc := 116) dX9_put_116 f_X9_21 at_9 (gc_136_3 hp).1 ?_
    refine M_bipush (pc := 119) (v := 8) dX9_put_119 (by decide) ?_
    refine M_iconst (pc := 121) (v := 0) dX9_put_121 (by decide) ?_
    refine M_istc (pc := 122) (j := 8) dX9_put_122 (gc_136_3 hp).2 (by decide) (by decide) ?_
    refine M_aload_n (pc := 123) dX9_put_123 rfl ?_
    refine M_getR (pc := 124) dX9_put_124 f_X9_30 hb1 (gr_3_0 hp hb1).1 ?_
    refine M_aload_n (pc := 127) dX9_put_127 rfl ?_
    refine M_getIs (pc := 128) (x := r1) dX9_put_128 f_X9_9 at_9 ((rd_ne (Or.inr (by decide))).trans ((rd_ne (Or.inr (by decide))).trans ((rd_ne (Or.inr (by decide))).trans ((rd_ne (Or.inr (by decide))).trans ((rd_ne (Or.inr (by decide))).trans ((rd_ne (Or.inr (by decide))).trans ((rd_ne (Or.inr (by decide))).trans ((rd_ne (Or.inr (by decide))).trans ((rd_ne (Or.inl (by decide))).trans rd_eq))))))))) ?_
    obtain ⟨r11, hr12, h⟩ := bnd h
    refine M_callVi (pc := 131) dX9_put_131 v_X9_59 rfl rfl (gr_3_0 hp hb1).2 (Nat.le_of_ble_eq_true rfl) (C_X1_has (d := d + 2) hp (gr_3_0 hp hb1).2 hr12) (Nat.le_refl _) ?_
    refine M_if_eq (pc := 134) (tgt := 142) dX9_put_134 (by decide) (fun hc13 => ?_) (fun hc13 => ?_)
    · have h := (if_pos hc13).symm.trans h
      obtain rfl := Option.some.inj h
      exact M_vret (pc := 142) dX9_put_142 rfl rfl rfl
    · have h := (if_neg hc13).symm.trans h
      refine M_aload_n (pc := 137) dX9_put_137 rfl ?_
      refine M_aload_n (pc := 138) dX9_put_138 rfl ?_
      obtain ⟨r14, hr15, h⟩ := bnd h
      refine M_callVv (pc := 139) dX9_put_139 v_X9_62 rfl rfl at_9 (Nat.le_of_ble_eq_true rfl) (C_X9_putCalled (d := d + 2) hp hb1 hr15) (Nat.le_refl _) ?_
      obtain rfl := Option.some.inj h
      exact M_vret (pc := 142) dX9_put_142 rfl rfl rfl
def L_X10_advance_54 (I : HI) (a : Nat) (x1 : Int32) : Option (HI) :=
  if (I a 1) ≤ x1 then some (up2 I a 4 x1) else if (I a 2) = (3 : Int32) then some (up2 I a 4 x1) else (F_X10_kindAt I a x1) >>= fun r7 => if r7 = (I a 2) then L_X10_advance_54 I a (x1 + (1 : Int32)) else some (up2 I a 4 x1)
partial_fixpoint
def L_X10_advance_5 (I : HI) (a : Nat) (x1 : Int32) : Option (HI) :=
  if (I a 1) ≤ x1 then (F_X10_kindAt (up2 I a 3 x1) a x1) >>= fun r2 => if r2 = 0 then L_X10_advance_54 (up2 (up2 I a 3 x1) a 2 r2) a x1 else L_X10_advance_54 (up2 (up2 I a 3 x1) a 2 r2) a (x1 + (1 : Int32)) else (ald 400 (I 2) x1) >>= fun v10 => if v10 = (32 : Int32) then L_X10_advance_5 I a (x1 + (1 : Int32)) else (F_X10_kindAt (up2 I a 3 x1) a x1) >>= fun r13 => if r13 = 0 then L_X10_advance_54 (up2 (up2 I a 3 x1) a 2 r13) a x1 else L_X10_advance_54 (up2 (up2 I a 3 x1) a 2 r13) a (x1 + (1 : Int32))
partial_fixpoint
def F_X10_advance (I : HI) (a : Nat) : Option (HI) :=
  L_X10_advance_5 I a (I a 4)
set_option maxRecDepth 4000 in
set_option maxHeartbeats 4000000 in
theorem LC_X10_advance_54 {g : gX} {d : Nat} {P : Nat → Nat → Option Nat} {J : HJ} {I : HI} {a : Nat} (hp : Wp P) {c : Nat} (ha : OB NT a c) (hc : TX c) (hx : P a 0 = some 2) : ∀ (x1 : Int32) (r : HI), L_X10_advance_54 I a x1 = some r → M g mX10_advance (d + 1) (NT, NT, 0) ((.inl none), (NT, r, J, P)) 54 [some (.ref a), some (.int x1)] [] (NT, I, J, P) := by
  refine L_X10_advance_54.partial_correctness I a (fun x1 r => M g mX10_advance (d + 1) (NT, NT, 0) ((.inl none), (NT, r, J, P)) 54 [some (.ref a), some (.int x1)] [] (NT, I, J, P)) ?_
  intro f ih x1 r h
  refine M_iload_n (pc := 54) dX10_advance_54 rfl ?_
  refine M_aload_n (pc := 55) dX10_advance_55 rfl ?_
  refine M_getI (pc := 56) dX10_advance_56 (f_X10_15 hc) ha ?_
  refine M_icmp_ge (pc := 59) (tgt := 88) dX10_advance_59 (by decide) (fun hc5 => ?_) (fun hc5 => ?_)
  · have h := (if_pos hc5).symm.trans h
    refine M_aload_n (pc := 88) dX10_advance_88 rfl ?_
    refine M_iload_n (pc := 89) dX10_advance_89 rfl ?_
    refine M_putI (pc := 90) dX10_advance_90 (f_X10_25 hc) ha (by rcases hc with rfl | rfl <;> rfl) (by rcases hc with rfl | rfl <;> exact ⟨rfl, rfl⟩) ?_
    obtain rfl := Option.some.inj h
    exact M_vret (pc := 93) dX10_advance_93 rfl rfl rfl
  · have h := (if_neg hc5).symm.trans h
    refine M_aload_n (pc := 62) dX10_advance_62 rfl ?_
    refine M_getI (pc := 63) dX10_advance_63 (f_X10_19 hc) ha ?_
    refine M_iconst (pc := 66) (v := 3) dX10_advance_66 (by decide) ?_
    refine M_icmp_eq (pc := 67) (tgt := 88) dX10_advance_67 (by decide) (fun hc6 => ?_) (fun hc6 => ?_)
    · have h := (if_pos hc6).symm.trans h
      refine M_aload_n (pc := 88) dX10_advance_88 rfl ?_
      refine M_iload_n (pc := 89) dX10_advance_89 rfl ?_
      refine M_putI (pc := 90) dX10_advance_90 (f_X10_25 hc) ha (by rcases hc with rfl | rfl <;> rfl) (by rcases hc with rfl | rfl <;> exact ⟨rfl, rfl⟩) ?_
      obtain rfl := Option.some.inj h
      exact M_vret (pc := 93) dX10_advance_93 rfl rfl rfl
    · have h := (if_neg hc6).symm.trans h
      refine M_aload_n (pc := 70) dX10_advance_70 rfl ?_
      refine M_iload_n (pc := 71) dX10_advance_71 rfl ?_
      obtain ⟨r7, hr8, h⟩ := bnd h
      refine M_callUi (pc := 72) dX10_advance_72 (u_X10_48 hc) rfl rfl ha (Nat.le_of_ble_eq_true rfl) (C_X10_kindAt (d := d + 0) hp ha hc hx hr8) (Nat.le_refl _) ?_
      refine M_aload_n (pc := 75) dX10_advance_75 rfl ?_
      refine M_getI (pc := 76) dX10_advance_76 (f_X10_19 hc) ha ?_
      refine M_icmp_ne (pc := 79) (tgt := 88) dX10_advance_79 (by decide) (fun hc9 => ?_) (fun hc9 => ?_)
      · have h := (if_neg hc9).symm.trans h
        refine M_aload_n (pc := 88) dX10_advance_88 rfl ?_
        refine M_iload_n (pc := 89) dX10_advance_89 rfl ?_
        refine M_putI (pc := 90) dX10_advance_90 (f_X10_25 hc) ha (by rcases hc with rfl | rfl <;> rfl) (by rcases hc with rfl | rfl <;> exact ⟨rfl, rfl⟩) ?_
        obtain rfl := Option.some.inj h
        exact M_vret (pc := 93) dX10_advance_93 rfl rfl rfl
      · have h := (if_pos hc9).symm.trans h
        refine M_iinc (pc := 82) (v := (x1 + (1 : Int32))) (ls' := [some (.ref a), some (.int (x1 + (1 : Int32)))]) dX10_advance_82 rfl rfl (by decide) rfl ?_
        refine M_goto (pc := 85) (tgt := 54) dX10_advance_85 (by decide) ?_
        exact ih (x1 + (1 : Int32)) _ h
set_option maxRecDepth 4000 in
set_option maxHeartbeats 4000000 in
theorem LC_X10_advance_5 {g : gX} {d : Nat} {P : Nat → Nat → Option Nat} {J : HJ} {I : HI} {a : Nat} (hp : Wp P) {c : Nat} (ha : OB NT a c) (hc : TX c) (hx : P a 0 = some 2) : ∀ (x1 : Int32) (r : HI), L_X10_advance_5 I a x1 = some r → M g mX10_advance (d + 1) (NT, NT, 0) ((.inl none), (NT, r, J, P)) 5 [some (.ref a), some (.int x1)] [] (NT, I, J, P) := by
  refine L_X10_advance_5.partial_correctness I a (fun x1 r => M g mX10_advance (d + 1) (NT, NT, 0) ((.inl none), (NT, r, J, P)) 5 [some (.ref a), some (.int x1)] [] (NT, I, J, P)) ?_
  intro f ih x1 r h
  refine M_iload_n (pc := 5) dX10_advance_5 rfl ?_
  refine M_aload_n (pc := 6) dX10_advance_6 rfl ?_
  refine M_getI (pc := 7) dX10_advance_7 (f_X10_15 hc) ha ?_
  refine M_icmp_ge (pc := 10) (tgt := 30) dX10_advance_10 (by decide) (fun hc1 => ?_) (fun hc1 => ?_)
  · have h := (if_pos hc1).symm.trans h
    refine M_aload_n (pc := 30) dX10_advance_30 rfl ?_
    refine M_iload_n (pc := 31) dX10_advance_31 rfl ?_
    refine M_putI (pc := 32) dX10_advance_32 (f_X10_22 hc) ha (by rcases hc with rfl | rfl <;> rfl) (by rcases hc with rfl | rfl <;> exact ⟨rfl, rfl⟩) ?_
    refine M_aload_n (pc := 35) dX10_advance_35 rfl ?_
    refine M_aload_n (pc := 36) dX10_advance_36 rfl ?_
    refine M_iload_n (pc := 37) dX10_advance_37 rfl ?_
    obtain ⟨r2, hr3, h⟩ := bnd h
    refine M_callUi (pc := 38) dX10_advance_38 (u_X10_48 hc) rfl rfl ha (Nat.le_of_ble_eq_true rfl) (C_X10_kindAt (d := d + 0) hp ha hc hx hr3) (Nat.le_refl _) ?_
    refine M_putI (pc := 41) dX10_advance_41 (f_X10_19 hc) ha (by rcases hc with rfl | rfl <;> rfl) (by rcases hc with rfl | rfl <;> exact ⟨rfl, rfl⟩) ?_
    refine M_aload_n (pc := 44) dX10_advance_44 rfl ?_
    refine M_getIs (pc := 45) (x := r2) dX10_advance_45 (f_X10_19 hc) ha rd_eq ?_
    refine M_if_eq (pc := 48) (tgt := 54) dX10_advance_48 (by decide) (fun hc4 => ?_) (fun hc4 => ?_)
    · have h := (if_pos hc4).symm.trans h
      exact LC_X10_advance_54 (P := P) hp ha hc hx x1 _ h
    · have h := (if_neg hc4).symm.trans h
      refine M_iinc (pc := 51) (v := (x1 + (1 : Int32))) (ls' := [some (.ref a), some (.int (x1 + (1 : Int32)))]) dX10_advance_51 rfl rfl (by decide) rfl ?_
      exact LC_X10_advance_54 (P := P) hp ha hc hx (x1 + (1 : Int32)) _ h
  · have h := (if_neg hc1).symm.trans h
    refine M_aload_n (pc := 13) dX10_advance_13 rfl ?_
    refine M_getR (pc := 14) dX10_advance_14 (f_X10_9 hc) ha hx ?_
    refine M_iload_n (pc := 17) dX10_advance_17 rfl ?_
    obtain ⟨v10, hv11, h⟩ := bnd h
    refine M_aldI (pc := 18) dX10_advance_18 ar_tape hv11 ?_
    refine M_bipush (pc := 19) (v := 32) dX10_advance_19 (by decide) ?_
    refine M_icmp_ne (pc := 21) (tgt := 30) dX10_advance_21 (by decide) (fun hc12 => ?_) (fun hc12 => ?_)
    · have h := (if_neg hc12).symm.trans h
      refine M_aload_n (pc := 30) dX10_advance_30 rfl ?_
      refine M_iload_n (pc := 31) dX10_advance_31 rfl ?_
      refine M_putI (pc := 32) dX10_advance_32 (f_X10_22 hc) ha (by rcases hc with rfl | rfl <;> rfl) (by rcases hc with rfl | rfl <;> exact ⟨rfl, rfl⟩) ?_
      refine M_aload_n (pc := 35) dX10_advance_35 rfl ?_
      refine M_aload_n (pc := 36) dX10_advance_36 rfl ?_
      refine M_iload_n (pc := 37) dX10_advance_37 rfl ?_
      obtain ⟨r13, hr14, h⟩ := bnd h
      refine M_callUi (pc := 38) dX10_advance_38 (u_X10_48 hc) rfl rfl ha (Nat.le_of_ble_eq_true rfl) (C_X10_kindAt (d := d + 0) hp ha hc hx hr14) (Nat.le_refl _) ?_
      refine M_putI (pc := 41) dX10_advance_41 (f_X10_19 hc) ha (by rcases hc with rfl | rfl <;> rfl) (by rcases hc with rfl | rfl <;> exact ⟨rfl, rfl⟩) ?_
      refine M_aload_n (pc := 44) dX10_advance_44 rfl ?_
      refine M_getIs (pc := 45) (x := r13) dX10_advance_45 (f_X10_19 hc) ha rd_eq ?_
      refine M_if_eq (pc := 48) (tgt := 54) dX10_advance_48 (by decide) (fun hc15 => ?_) (fun hc15 => ?_)
      · have h := (if_pos hc15).symm.trans h
        exact LC_X10_advance_54 (P := P) hp ha hc hx x1 _ h
      · have h := (if_neg hc15).symm.trans h
        refine M_iinc (pc := 51) (v := (x1 + (1 : Int32))) (ls' := [some (.ref a), some (.int (x1 + (1 : Int32)))]) dX10_advance_51 rfl rfl (by decide) rfl ?_
        exact LC_X10_advance_54 (P := P) hp ha hc hx (x1 + (1 : Int32)) _ h
    · have h := (if_pos hc12).symm.trans h
      refine M_iinc (pc := 24) (v := (x1 + (1 : Int32))) (ls' := [some (.ref a), some (.int (x1 + (1 : Int32)))]) dX10_advance_24 rfl rfl (by decide) rfl ?_
      refine M_goto (pc := 27) (tgt := 5) dX10_advance_27 (by decide) ?_
      exact ih (x1 + (1 : Int32)) _ h
set_option maxRecDepth 4000 in
set_option maxHeartbeats 4000000 in
theorem C_X10_advance {g : gX} {d : Nat} {P : Nat → Nat → Option Nat} {I : HI} {a : Nat} {J : HJ} (hp : Wp P) {c : Nat} (ha : OB NT a c) (hc : TX c) (hx : P a 0 = some 2) {r : HI} (h : F_X10_advance I a = some r) : Cm g mX10_advance (d + 1) [.ref a] (NT, I, J, P) none (NT, r, J, P) := by
  unfold F_X10_advance at h
  refine Cm.of (by decide) (by simp [Value.category]) (Nat.le_of_ble_eq_true rfl) (Nat.le_refl _) (ls := [some (.ref a), none]) rfl ?_
  refine M_aload_n (pc := 0) dX10_advance_0 rfl ?_
  refine M_getI (pc := 1) dX10_advance_1 (f_X10_25 hc) ha ?_
  refine M_istore_n (pc := 4) (ls' := [some (.ref a), some (.int (I a 4))]) dX10_advance_4 (by decide) rfl ?_
  exact LC_X10_advance_5 (P := P) hp ha hc hx (I a 4) _ h
def F_X10_numberBehind (I : HI) (a : Nat) (x1 : Int32) (x2 : Int32) : Option (Int32 × HI) :=
  (F_X10_advance I a) >>= fun r1 => (F_X10_number r1 a x1 x2) >>= fun r3 => if r3 = (-1 : Int32) then some (r3, r1) else (F_X10_advance r1 a) >>= fun r6 => some (r3, r6)
set_option maxRecDepth 4000 in
set_option maxHeartbeats 4000000 in
theorem C_X10_numberBehind {g : gX} {d : Nat} {P : Nat → Nat → Option Nat} {I : HI} {a : Nat} {x1 : Int32} {x2 : Int32} {J : HJ} (hp : Wp P) {c : Nat} (ha : OB NT a c) (hc : TX c) (hx : P a 0 = some 2) {r : Int32 × HI} (h : F_X10_numberBehind I a x1 x2 = some r) : Cm g mX10_numberBehind (d + 2) [.ref a, .int x1, .int x2] (NT, I, J, P) (some (.int r.1)) (NT, r.2, J, P) := by
  unfold F_X10_numberBehind at h
  refine Cm.of (by decide) (by simp [Value.category]) (Nat.le_of_ble_eq_true rfl) (Nat.le_refl _) (ls := [some (.ref a), some (.int x1), some (.int x2), none]) rfl ?_
  refine M_aload_n (pc := 0) dX10_numberBehind_0 rfl ?_
  obtain ⟨r1, hr2, h⟩ := bnd h
  refine M_callUv (pc := 1) dX10_numberBehind_1 (u_X10_37 hc) rfl rfl ha (Nat.le_of_ble_eq_true rfl) (C_X10_advance (d := d + 0) hp ha hc hx hr2) (Nat.le_refl _) ?_
  refine M_aload_n (pc := 4) dX10_numberBehind_4 rfl ?_
  refine M_iload_n (pc := 5) dX10_numberBehind_5 rfl ?_
  refine M_iload_n (pc := 6) dX10_numberBehind_6 rfl ?_
  obtain ⟨r3, hr4, h⟩ := bnd h
  refine M_callUi (pc := 7) dX10_numberBehind_7 (u_X10_61 hc) rfl rfl ha (Nat.le_of_ble_eq_true rfl) (C_X10_number (d := d + 1) hp ha hc hx hr4) (Nat.le_refl _) ?_
  refine M_istore_n (pc := 10) (ls' := [some (.ref a), some (.int x1), some (.int x2), some (.int r3)]) dX10_numberBehind_10 (by decide) rfl ?_
  refine M_iload_n (pc := 11) dX10_numberBehind_11 rfl ?_
  refine M_iconst (pc := 12) (v := -1) dX10_numberBehind_12 (by decide) ?_
  refine M_icmp_eq (pc := 13) (tgt := 20) dX10_numberBehind_13 (by decide) (fun hc5 => ?_) (fun hc5 => ?_)
  · have h := (if_pos hc5).symm.trans h
    refine M_iload_n (pc := 20) dX10_numberBehind_20 rfl ?_
    obtain rfl := Option.some.inj h
    exact M_iret (pc := 21) dX10_numberBehind_21 rfl rfl rfl rfl
  · have h := (if_neg hc5).symm.trans h
    refine M_aload_n (pc := 16) dX10_numberBehind_16 rfl ?_
    obtain ⟨r6, hr7, h⟩ := bnd h
    refine M_callUv (pc := 17) dX10_numberBehind_17 (u_X10_37 hc) rfl rfl ha (Nat.le_of_ble_eq_true rfl) (C_X10_advance (d := d + 0) hp ha hc hx hr7) (Nat.le_refl _) ?_
    refine M_iload_n (pc := 20) dX10_numberBehind_20 rfl ?_
    obtain rfl := Option.some.inj h
    exact M_iret (pc := 21) dX10_numberBehind_21 rfl rfl rfl rfl
def L_X2_search_54 (b3 : Nat) (x4 : Int32) (x5 : Int32) (I : HI) : Option (Int32 × HI) :=
  if (I 201 2) ≤ x5 then some (x5, I) else (F_X2_farFrom I x4 b3 x5) >>= fun r6 => if inB ((x4 * (12 : Int32)) + x5) 60 = true then L_X2_search_54 b3 x4 (x5 + (1 : Int32)) (up2 I 202 (((x4 * (12 : Int32)) + x5)).toNatClampNeg r6) else none
partial_fixpoint
def L_X2_search_42 (b3 : Nat) (x4 : Int32) (I : HI) : Option (HI) :=
  if (I 201 1) ≤ x4 then (F_X2_goOn 8 I (0 : Int32) (0 : Int32) (0 : Int32)) >>= fun r3 => some r3 else (L_X2_search_54 b3 x4 (0 : Int32) I) >>= fun r9 => L_X2_search_42 b3 (x4 + (1 : Int32)) r9.2
partial_fixpoint
def F_X2_search (I : HI) (x2 : Int32) (b3 : Nat) : Option (HI) :=
  if (if x2 < (5 : Int32) then x2 else (5 : Int32)) ≤ (I b3 0) then L_X2_search_42 b3 (0 : Int32) (up2 (up2 (up2 I 201 1 (if x2 < (5 : Int32) then x2 else (5 : Int32))) 201 2 (I b3 0)) 201 0 (-1 : Int32)) else some (up2 (up2 (up2 (up2 I 201 1 (if x2 < (5 : Int32) then x2 else (5 : Int32))) 201 2 (I b3 0)) 201 0 (-1 : Int32)) 201 1 (0 : Int32))
set_option maxRecDepth 4000 in
set_option maxHeartbeats 4000000 in
theorem LC_X2_search_54 {g : gX} {d : Nat} {R : rX} {P : Nat → Nat → Option Nat} {J : HJ} {b3 : Nat} {x4 : Int32} (hp : Wp P) (hb3 : OB NT b3 1) : ∀ (x5 : Int32) (I : HI) (r : Int32 × HI), L_X2_search_54 b3 x4 x5 I = some r → M g mX2_search (d + 17) (NT, NT, 0) R 91 [some (.ref 201), some (.ref 2), none, some (.ref b3), some (.int x4), some (.int r.1)] [] (NT, r.2, J, P) → M g mX2_search (d + 17) (NT, NT, 0) R 54 [some (.ref 201), some (.ref 2), none, some (.ref b3), some (.int x4), some (.int x5)] [] (NT, I, J, P) := by
  refine L_X2_search_54.partial_correctness b3 x4 (fun x5 I r => M g mX2_search (d + 17) (NT, NT, 0) R 91 [some (.ref 201), some (.ref 2), none, some (.ref b3), some (.int x4), some (.int r.1)] [] (NT, r.2, J, P) → M g mX2_search (d + 17) (NT, NT, 0) R 54 [some (.ref 201), some (.ref 2), none, some (.ref b3), some (.int x4), some (.int x5)] [] (NT, I, J, P)) ?_
  intro f ih x5 I r h hk
  refine M_iload (pc := 54) dX2_search_54 rfl ?_
  refine M_aload_n (pc := 56) dX2_search_56 rfl ?_
  refine M_getI (pc := 57) dX2_search_57 f_X2_18 at_2 ?_
  refine M_icmp_ge (pc := 60) (tgt := 91) dX2_search_60 (by decide) (fun hc5 => ?_) (fun hc5 => ?_)
  · have h := (if_pos hc5).symm.trans h
    obtain rfl := Option.some.inj h
    exact hk
  · have h := (if_neg hc5).symm.trans h
    refine M_aload_n (pc := 63) dX2_search_63 rfl ?_
    refine M_getR (pc := 64) dX2_search_64 f_X2_21 at_2 (gc_201_3 hp).1 ?_
    refine M_iload (pc := 67) dX2_search_67 rfl ?_
    refine M_bipush (pc := 69) (v := 12) dX2_search_69 (by decide) ?_
    refine M_imul (pc := 71) dX2_search_71 ?_
    refine M_iload (pc := 72) dX2_search_72 rfl ?_
    refine M_iadd (pc := 74) dX2_search_74 ?_
    refine M_aload_n (pc := 75) dX2_search_75 rfl ?_
    refine M_iload (pc := 76) dX2_search_76 rfl ?_
    refine M_aload_n (pc := 78) dX2_search_78 rfl ?_
    refine M_iload (pc := 79) dX2_search_79 rfl ?_
    obtain ⟨r6, hr7, h⟩ := bnd h
    refine M_callSi (pc := 81) dX2_search_81 s_X2_42 rfl rfl (Nat.le_of_ble_eq_true rfl) (C_X2_farFrom (d := d + 16) hp hb3 hr7) (Nat.le_refl _) ?_
    obtain ⟨hq8, h⟩ := chk h
    refine M_iast (pc := 84) dX2_search_84 (gc_201_3 hp).2 (inB_in hq8) ?_
    refine M_iinc (pc := 85) (v := (x5 + (1 : Int32))) (ls' := [some (.ref 201), some (.ref 2), none, some (.ref b3), some (.int x4), some (.int (x5 + (1 : Int32)))]) dX2_search_85 rfl rfl (by decide) rfl ?_
    refine M_goto (pc := 88) (tgt := 54) dX2_search_88 (by decide) ?_
    exact ih (x5 + (1 : Int32)) (up2 I 202 (((x4 * (12 : Int32)) + x5)).toNatClampNeg r6) _ h hk
set_option maxRecDepth 4000 in
set_option maxHeartbeats 4000000 in
theorem LC_X2_search_42 {g : gX} {d : Nat} {P : Nat → Nat → Option Nat} {J : HJ} {b3 : Nat} (hp : Wp P) (hb3 : OB NT b3 1) : ∀ (x4 : Int32) (I : HI) (r : HI), L_X2_search_42 b3 x4 I = some r → M g mX2_search (d + 17) (NT, NT, 0) ((.inl none), (NT, r, J, P)) 42 [some (.ref 201), some (.ref 2), none, some (.ref b3), some (.int x4), none] [] (NT, I, J, P) := by
  refine L_X2_search_42.partial_correctness b3 (fun x4 I r => M g mX2_search (d + 17) (NT, NT, 0) ((.inl none), (NT, r, J, P)) 42 [some (.ref 201), some (.ref 2), none, some (.ref b3), some (.int x4), none] [] (NT, I, J, P)) ?_
  intro f ih x4 I r h
  refine M_iload (pc := 42) dX2_search_42 rfl ?_
  refine M_aload_n (pc := 44) dX2_search_44 rfl ?_
  refine M_getI (pc := 45) dX2_search_45 f_X2_15 at_2 ?_
  refine M_icmp_ge (pc := 48) (tgt := 97) dX2_search_48 (by decide) (fun hc2 => ?_) (fun hc2 => ?_)
  · have h := (if_pos hc2).symm.trans h
    refine M_aload_n (pc := 97) dX2_search_97 rfl ?_
    refine M_iconst (pc := 98) (v := 0) dX2_search_98 (by decide) ?_
    refine M_iconst (pc := 99) (v := 0) dX2_search_99 (by decide) ?_
    refine M_iconst (pc := 100) (v := 0) dX2_search_100 (by decide) ?_
    obtain ⟨r3, hr4, h⟩ := bnd h
    refine M_callVv (pc := 101) dX2_search_101 v_X2_46 rfl rfl at_2 (Nat.le_of_ble_eq_true rfl) (C_X2_goOn hp 8 (d := d + 0) _ _ _ _  _ hr4) (Nat.le_refl _) ?_
    obtain rfl := Option.some.inj h
    exact M_vret (pc := 104) dX2_search_104 rfl rfl rfl
  · have h := (if_neg hc2).symm.trans h
    refine M_iconst (pc := 51) (v := 0) dX2_search_51 (by decide) ?_
    refine M_istore (pc := 52) (ls' := [some (.ref 201), some (.ref 2), none, some (.ref b3), some (.int x4), some (.int (0 : Int32))]) dX2_search_52 (by decide) rfl ?_
    obtain ⟨r9, hr10, h⟩ := bnd h
    refine LC_X2_search_54 (P := P) hp hb3 (0 : Int32) I _ hr10 ?_
    refine M_iinc (pc := 91) (v := (x4 + (1 : Int32))) (ls' := [some (.ref 201), some (.ref 2), none, some (.ref b3), some (.int (x4 + (1 : Int32))), some (.int r9.1)]) dX2_search_91 rfl rfl (by decide) rfl ?_
    refine M_goto (pc := 94) (tgt := 42) dX2_search_94 (by decide) ?_
    refine M_mask (pc := 42) [true, true, false, true, true, false] rfl ?_
    exact ih (x4 + (1 : Int32)) r9.2 _ h
set_option maxRecDepth 4000 in
set_option maxHeartbeats 4000000 in
theorem C_X2_search {g : gX} {d : Nat} {P : Nat → Nat → Option Nat} {I : HI} {x2 : Int32} {b3 : Nat} {J : HJ} (hp : Wp P) (hb3 : OB NT b3 1) {r : HI} (h : F_X2_search I x2 b3 = some r) : Cm g mX2_search (d + 17) [.ref 201, .ref 2, .int x2, .ref b3] (NT, I, J, P) none (NT, r, J, P) := by
  unfold F_X2_search at h
  refine Cm.of (by decide) (by simp [Value.category]) (Nat.le_of_ble_eq_true rfl) (Nat.le_refl _) (ls := [some (.ref 201), some (.ref 2), some (.int x2), some (.ref b3), none, none]) rfl ?_
  refine M_aload_n (pc := 0) dX2_search_0 rfl ?_
  refine M_iconst (pc := 1) (v := 5) dX2_search_1 (by decide) ?_
  refine M_iload_n (pc := 2) dX2_search_2 rfl ?_
  refine M_mmin (pc := 3) dX2_search_3 mm_X2_31.1 mm_X2_31.2.1 mm_X2_31.2.2.1 mm_X2_31.2.2.2 (Nat.le_of_ble_eq_true rfl) ?_
  refine M_putI (pc := 6) dX2_search_6 f_X2_15 at_2 rfl ⟨rfl, rfl⟩ ?_
  refine M_aload_n (pc := 9) dX2_search_9 rfl ?_
  refine M_aload_n (pc := 10) dX2_search_10 rfl ?_
  refine M_getIs (pc := 11) (x := (I b3 0)) dX2_search_11 f_X2_37 hb3 (rd_ne (Or.inr (by decide))) ?_
  refine M_putI (pc := 14) dX2_search_14 f_X2_18 at_2 rfl ⟨rfl, rfl⟩ ?_
  refine M_aload_n (pc := 17) dX2_search_17 rfl ?_
  refine M_iconst (pc := 18) (v := -1) dX2_search_18 (by decide) ?_
  refine M_putI (pc := 19) dX2_search_19 f_X2_9 at_2 rfl ⟨rfl, rfl⟩ ?_
  refine M_aload_n (pc := 22) dX2_search_22 rfl ?_
  refine M_getIs (pc := 23) (x := (if x2 < (5 : Int32) then x2 else (5 : Int32))) dX2_search_23 f_X2_15 at_2 ((rd_ne (Or.inr (by decide))).trans ((rd_ne (Or.inr (by decide))).trans rd_eq)) ?_
  refine M_aload_n (pc := 26) dX2_search_26 rfl ?_
  refine M_getIs (pc := 27) (x := (I b3 0)) dX2_search_27 f_X2_18 at_2 ((rd_ne (Or.inr (by decide))).trans rd_eq) ?_
  refine M_icmp_le (pc := 30) (tgt := 39) dX2_search_30 (by decide) (fun hc1 => ?_) (fun hc1 => ?_)
  · have h := (if_pos hc1).symm.trans h
    refine M_iconst (pc := 39) (v := 0) dX2_search_39 (by decide) ?_
    refine M_istore (pc := 40) (ls' := [some (.ref 201), some (.ref 2), some (.int x2), some (.ref b3), some (.int (0 : Int32)), none]) dX2_search_40 (by decide) rfl ?_
    refine M_mask (pc := 42) [true, true, false, true, true, false] rfl ?_
    exact LC_X2_search_42 (P := P) hp hb3 (0 : Int32) (up2 (up2 (up2 I 201 1 (if x2 < (5 : Int32) then x2 else (5 : Int32))) 201 2 (I b3 0)) 201 0 (-1 : Int32)) _ h
  · have h := (if_neg hc1).symm.trans h
    refine M_aload_n (pc := 33) dX2_search_33 rfl ?_
    refine M_iconst (pc := 34) (v := 0) dX2_search_34 (by decide) ?_
    refine M_putI (pc := 35) dX2_search_35 f_X2_15 at_2 rfl ⟨rfl, rfl⟩ ?_
    obtain rfl := Option.some.inj h
    exact M_vret (pc := 38) dX2_search_38 rfl rfl rfl
def L_X4_holds_20 (a : Nat) (x1 : Int32) (x3 : Int32) (x4 : Int32) (I : HI) : Option (Int32 × HI) :=
  (ald 12 (I (a + 3)) x1) >>= fun v2 => if v2 ≤ x4 then if x3 = 0 then some ((1 : Int32), I) else if (I (a + 5) 0) = 0 then some ((0 : Int32), I) else some ((1 : Int32), I) else (ald 400 (I (a + 4)) x4) >>= fun v7 => (F_X4_step I a v7 x3) >>= fun r9 => L_X4_holds_20 a x1 r9.1 (x4 + (1 : Int32)) r9.2
partial_fixpoint
def F_X4_holds (I : HI) (a : Nat) (x1 : Int32) : Option (Int32 × HI) :=
  if x1 ≤ 0 then L_X4_holds_20 a x1 (0 : Int32) (0 : Int32) I else (ald 12 (I (a + 3)) (x1 - (1 : Int32))) >>= fun v11 => L_X4_holds_20 a x1 (0 : Int32) v11 I
set_option maxRecDepth 4000 in
set_option maxHeartbeats 4000000 in
theorem LC_X4_holds_20 {g : gX} {d : Nat} {P : Nat → Nat → Option Nat} {J : HJ} {a : Nat} {x1 : Int32} (hp : Wp P) (ha : OB NT a 4) : ∀ (x3 : Int32) (x4 : Int32) (I : HI) (r : Int32 × HI), L_X4_holds_20 a x1 x3 x4 I = some r → M g mX4_holds (d + 2) (NT, NT, 0) ((.inl (some (.int r.1))), (NT, r.2, J, P)) 20 [some (.ref a), some (.int x1), some (.ref 136), some (.int x3), some (.int x4)] [] (NT, I, J, P) := by
  refine L_X4_holds_20.partial_correctness a x1 (fun x3 x4 I r => M g mX4_holds (d + 2) (NT, NT, 0) ((.inl (some (.int r.1))), (NT, r.2, J, P)) 20 [some (.ref a), some (.int x1), some (.ref 136), some (.int x3), some (.int x4)] [] (NT, I, J, P)) ?_
  intro f ih x3 x4 I r h
  refine M_iload (pc := 20) dX4_holds_20 rfl ?_
  refine M_aload_n (pc := 22) dX4_holds_22 rfl ?_
  refine M_getR (pc := 23) dX4_holds_23 f_X4_22 ha (gr_4_3 hp ha).1 ?_
  refine M_iload_n (pc := 26) dX4_holds_26 rfl ?_
  obtain ⟨v2, hv3, h⟩ := bnd h
  refine M_aldI (pc := 27) dX4_holds_27 (gr_4_3 hp ha).2 hv3 ?_
  refine M_icmp_ge (pc := 28) (tgt := 51) dX4_holds_28 (by decide) (fun hc4 => ?_) (fun hc4 => ?_)
  · have h := (if_pos hc4).symm.trans h
    refine M_iload_n (pc := 51) dX4_holds_51 rfl ?_
    refine M_if_eq (pc := 52) (tgt := 64) dX4_holds_52 (by decide) (fun hc5 => ?_) (fun hc5 => ?_)
    · have h := (if_pos hc5).symm.trans h
      refine M_iconst (pc := 64) (v := 1) dX4_holds_64 (by decide) ?_
      refine M_goto (pc := 65) (tgt := 69) dX4_holds_65 (by decide) ?_
      obtain rfl := Option.some.inj h
      exact M_iret (pc := 69) dX4_holds_69 rfl rfl rfl rfl
    · have h := (if_neg hc5).symm.trans h
      refine M_aload_n (pc := 55) dX4_holds_55 rfl ?_
      refine M_getR (pc := 56) dX4_holds_56 f_X4_31 ha (gr_4_6 hp ha).1 ?_
      refine M_iconst (pc := 59) (v := 0) dX4_holds_59 (by decide) ?_
      refine M_ildc (pc := 60) (j := 0) dX4_holds_60 (gr_4_6 hp ha).2 (by decide) (by decide) ?_
      refine M_if_eq (pc := 61) (tgt := 68) dX4_holds_61 (by decide) (fun hc6 => ?_) (fun hc6 => ?_)
      · have h := (if_pos hc6).symm.trans h
        refine M_iconst (pc := 68) (v := 0) dX4_holds_68 (by decide) ?_
        obtain rfl := Option.some.inj h
        exact M_iret (pc := 69) dX4_holds_69 rfl rfl rfl rfl
      · have h := (if_neg hc6).symm.trans h
        refine M_iconst (pc := 64) (v := 1) dX4_holds_64 (by decide) ?_
        refine M_goto (pc := 65) (tgt := 69) dX4_holds_65 (by decide) ?_
        obtain rfl := Option.some.inj h
        exact M_iret (pc := 69) dX4_holds_69 rfl rfl rfl rfl
  · have h := (if_neg hc4).symm.trans h
    refine M_aload_n (pc := 31) dX4_holds_31 rfl ?_
    refine M_aload_n (pc := 32) dX4_holds_32 rfl ?_
    refine M_getR (pc := 33) dX4_holds_33 f_X4_25 ha (gr_4_4 hp ha).1 ?_
    refine M_iload (pc := 36) dX4_holds_36 rfl ?_
    obtain ⟨v7, hv8, h⟩ := bnd h
    refine M_aldI (pc := 38) dX4_holds_38 (gr_4_4 hp ha).2 hv8 ?_
    refine M_iload_n (pc := 39) dX4_holds_39 rfl ?_
    refine M_aload_n (pc := 40) dX4_holds_40 rfl ?_
    obtain ⟨r9, hr10, h⟩ := bnd h
    refine M_callVi (pc := 41) dX4_holds_41 v_X4_46 rfl rfl ha (Nat.le_of_ble_eq_true rfl) (C_X4_step (d := d + 0) hp ha hr10) (Nat.le_refl _) ?_
    refine M_istore_n (pc := 44) (ls' := [some (.ref a), some (.int x1), some (.ref 136), some (.int r9.1), some (.int x4)]) dX4_holds_44 (by decide) rfl ?_
    refine M_iinc (pc := 45) (v := (x4 + (1 : Int32))) (ls' := [some (.ref a), some (.int x1), some (.ref 136), some (.int r9.1), some (.int (x4 + (1 : Int32)))]) dX4_holds_45 rfl rfl (by decide) rfl ?_
    refine M_goto (pc := 48) (tgt := 20) dX4_holds_48 (by decide) ?_
    exact ih r9.1 (x4 + (1 : Int32)) r9.2 _ h
set_option maxRecDepth 4000 in
set_option maxHeartbeats 4000000 in
theorem C_X4_holds {g : gX} {d : Nat} {P : Nat → Nat → Option Nat} {I : HI} {a : Nat} {x1 : Int32} {J : HJ} (hp : Wp P) (ha : OB NT a 4) {r : Int32 × HI} (h : F_X4_holds I a x1 = some r) : Cm g mX4_holds (d + 2) [.ref a, .int x1, .ref 136] (NT, I, J, P) (some (.int r.1)) (NT, r.2, J, P) := by
  unfold F_X4_holds at h
  refine Cm.of (by decide) (by simp [Value.category]) (Nat.le_of_ble_eq_true rfl) (Nat.le_refl _) (ls := [some (.ref a), some (.int x1), some (.ref 136), none, none]) rfl ?_
  refine M_iconst (pc := 0) (v := 0) dX4_holds_0 (by decide) ?_
  refine M_istore_n (pc := 1) (ls' := [some (.ref a), some (.int x1), some (.ref 136), some (.int (0 : Int32)), none]) dX4_holds_1 (by decide) rfl ?_
  refine M_iload_n (pc := 2) dX4_holds_2 rfl ?_
  refine M_if_le (pc := 3) (tgt := 17) dX4_holds_3 (by decide) (fun hc1 => ?_) (fun hc1 => ?_)
  · have h := (if_pos hc1).symm.trans h
    refine M_iconst (pc := 17) (v := 0) dX4_holds_17 (by decide) ?_
    refine M_istore (pc := 18) (ls' := [some (.ref a), some (.int x1), some (.ref 136), some (.int (0 : Int32)), some (.int (0 : Int32))]) dX4_holds_18 (by decide) rfl ?_
    exact LC_X4_holds_20 (P := P) hp ha (0 : Int32) (0 : Int32) I _ h
  · have h := (if_neg hc1).symm.trans h
    refine M_aload_n (pc := 6) dX4_holds_6 rfl ?_
    refine M_getR (pc := 7) dX4_holds_7 f_X4_22 ha (gr_4_3 hp ha).1 ?_
    refine M_iload_n (pc := 10) dX4_holds_10 rfl ?_
    refine M_iconst (pc := 11) (v := 1) dX4_holds_11 (by decide) ?_
    refine M_isub (pc := 12) dX4_holds_12 ?_
    obtain ⟨v11, hv12, h⟩ := bnd h
    refine M_aldI (pc := 13) dX4_holds_13 (gr_4_3 hp ha).2 hv12 ?_
    refine M_goto (pc := 14) (tgt := 18) dX4_holds_14 (by decide) ?_
    refine M_istore (pc := 18) (ls' := [some (.ref a), some (.int x1), some (.ref 136), some (.int (0 : Int32)), some (.int v11)]) dX4_holds_18 (by decide) rfl ?_
    exact LC_X4_holds_20 (P := P) hp ha (0 : Int32) v11 I _ h
def F_X5_putOff (I : HI) (x1 : Int32) : Option (HI) :=
  if (21 : Int32) ≤ (I 146 7) then (F_X10_advance I 146) >>= fun r2 => some r2 else if inB (I 146 7) 21 = true then (F_X10_advance (up2 (up2 I 154 ((I 146 7)).toNatClampNeg x1) 146 7 (((up2 I 154 ((I 146 7)).toNatClampNeg x1) 146 7) + (1 : Int32))) 146) >>= fun r5 => some r5 else none
set_option maxRecDepth 4000 in
set_option maxHeartbeats 4000000 in
theorem C_X5_putOff {g : gX} {d : Nat} {P : Nat → Nat → Option Nat} {I : HI} {x1 : Int32} {J : HJ} (hp : Wp P) (hx : P 146 0 = some 2) {r : HI} (h : F_X5_putOff I x1 = some r) : Cm g mX5_putOff (d + 2) [.ref 146, .int x1] (NT, I, J, P) none (NT, r, J, P) := by
  unfold F_X5_putOff at h
  refine Cm.of (by decide) (by simp [Value.category]) (Nat.le_of_ble_eq_true rfl) (Nat.le_refl _) (ls := [some (.ref 146), some (.int x1)]) rfl ?_
  refine M_aload_n (pc := 0) dX5_putOff_0 rfl ?_
  refine M_getI (pc := 1) dX5_putOff_1 f_X5_22 at_5 ?_
  refine M_bipush (pc := 4) (v := 21) dX5_putOff_4 (by decide) ?_
  refine M_icmp_ge (pc := 6) (tgt := 29) dX5_putOff_6 (by decide) (fun hc1 => ?_) (fun hc1 => ?_)
  · have h := (if_pos hc1).symm.trans h
    refine M_aload_n (pc := 29) dX5_putOff_29 rfl ?_
    obtain ⟨r2, hr3, h⟩ := bnd h
    refine M_callUv (pc := 30) dX5_putOff_30 u_X5_43 rfl rfl at_5 (Nat.le_of_ble_eq_true rfl) (C_X10_advance (d := d + 0) hp at_5 (Or.inl rfl) hx hr3) (Nat.le_refl _) ?_
    obtain rfl := Option.some.inj h
    exact M_vret (pc := 33) dX5_putOff_33 rfl rfl rfl
  · have h := (if_neg hc1).symm.trans h
    refine M_aload_n (pc := 9) dX5_putOff_9 rfl ?_
    refine M_getR (pc := 10) dX5_putOff_10 f_X5_18 at_5 (gc_146_6 hp).1 ?_
    refine M_aload_n (pc := 13) dX5_putOff_13 rfl ?_
    refine M_getI (pc := 14) dX5_putOff_14 f_X5_22 at_5 ?_
    refine M_iload_n (pc := 17) dX5_putOff_17 rfl ?_
    obtain ⟨hq4, h⟩ := chk h
    refine M_iast (pc := 18) dX5_putOff_18 (gc_146_6 hp).2 (inB_in hq4) ?_
    refine M_aload_n (pc := 19) dX5_putOff_19 rfl ?_
    refine M_dup (pc := 20) dX5_putOff_20 rfl ?_
    refine M_getI (pc := 21) dX5_putOff_21 f_X5_22 at_5 ?_
    refine M_iconst (pc := 24) (v := 1) dX5_putOff_24 (by decide) ?_
    refine M_iadd (pc := 25) dX5_putOff_25 ?_
    refine M_putI (pc := 26) dX5_putOff_26 f_X5_22 at_5 rfl ⟨rfl, rfl⟩ ?_
    refine M_aload_n (pc := 29) dX5_putOff_29 rfl ?_
    obtain ⟨r5, hr6, h⟩ := bnd h
    refine M_callUv (pc := 30) dX5_putOff_30 u_X5_43 rfl rfl at_5 (Nat.le_of_ble_eq_true rfl) (C_X10_advance (d := d + 0) hp at_5 (Or.inl rfl) hx hr6) (Nat.le_refl _) ?_
    obtain rfl := Option.some.inj h
    exact M_vret (pc := 33) dX5_putOff_33 rfl rfl rfl
def L_X5_closeBrackets_2 (x1 : Int32) (I : HI) : Option (HI) :=
  if (6 : Int32) ≤ x1 then some I else (F_X10_isSign I 146 (41 : Int32)) >>= fun r2 => if r2 = 0 then some I else (F_X5_settle I (1015 : Int32)) >>= fun r5 => if (r5 146 7) = 0 then some r5 else (F_X10_advance (up2 (up2 r5 146 7 ((r5 146 7) - (1 : Int32))) 146 8 ((r5 146 8) - (1 : Int32))) 146) >>= fun r8 => L_X5_closeBrackets_2 (x1 + (1 : Int32)) r8
partial_fixpoint
def F_X5_closeBrackets (I : HI) : Option (HI) :=
  L_X5_closeBrackets_2 (0 : Int32) I
set_option maxRecDepth 4000 in
set_option maxHeartbeats 4000000 in
theorem LC_X5_closeBrackets_2 {g : gX} {d : Nat} {P : Nat → Nat → Option Nat} {J : HJ}  (hp : Wp P) (hx : P 146 0 = some 2) : ∀ (x1 : Int32) (I : HI) (r : HI), L_X5_closeBrackets_2  x1 I = some r → M g mX5_closeBrackets (d + 2) (NT, NT, 0) ((.inl none), (NT, r, J, P)) 2 [some (.ref 146), some (.int x1)] [] (NT, I, J, P) := by
  refine L_X5_closeBrackets_2.partial_correctness  (fun x1 I r => M g mX5_closeBrackets (d + 2) (NT, NT, 0) ((.inl none), (NT, r, J, P)) 2 [some (.ref 146), some (.int x1)] [] (NT, I, J, P)) ?_
  intro f ih x1 I r h
  refine M_iload_n (pc := 2) dX5_closeBrackets_2 rfl ?_
  refine M_bipush (pc := 3) (v := 6) dX5_closeBrackets_3 (by decide) ?_
  refine M_icmp_ge (pc := 5) (tgt := 62) dX5_closeBrackets_5 (by decide) (fun hc1 => ?_) (fun hc1 => ?_)
  · have h := (if_pos hc1).symm.trans h
    obtain rfl := Option.some.inj h
    exact M_vret (pc := 62) dX5_closeBrackets_62 rfl rfl rfl
  · have h := (if_neg hc1).symm.trans h
    refine M_aload_n (pc := 8) dX5_closeBrackets_8 rfl ?_
    refine M_bipush (pc := 9) (v := 41) dX5_closeBrackets_9 (by decide) ?_
    obtain ⟨r2, hr3, h⟩ := bnd h
    refine M_callUi (pc := 11) dX5_closeBrackets_11 u_X5_84 rfl rfl at_5 (Nat.le_of_ble_eq_true rfl) (C_X10_isSign (d := d + 1) hp at_5 (Or.inl rfl) hx hr3) (Nat.le_refl _) ?_
    refine M_if_eq (pc := 14) (tgt := 62) dX5_closeBrackets_14 (by decide) (fun hc4 => ?_) (fun hc4 => ?_)
    · have h := (if_pos hc4).symm.trans h
      obtain rfl := Option.some.inj h
      exact M_vret (pc := 62) dX5_closeBrackets_62 rfl rfl rfl
    · have h := (if_neg hc4).symm.trans h
      refine M_aload_n (pc := 17) dX5_closeBrackets_17 rfl ?_
      refine M_sipush (pc := 18) (v := 1015) dX5_closeBrackets_18 (by decide) ?_
      obtain ⟨r5, hr6, h⟩ := bnd h
      refine M_callVv (pc := 21) dX5_closeBrackets_21 v_X5_79 rfl rfl at_5 (Nat.le_of_ble_eq_true rfl) (C_X5_settle (d := d + 0) hp hx hr6) (Nat.le_refl _) ?_
      refine M_aload_n (pc := 24) dX5_closeBrackets_24 rfl ?_
      refine M_getI (pc := 25) dX5_closeBrackets_25 f_X5_22 at_5 ?_
      refine M_if_ne (pc := 28) (tgt := 32) dX5_closeBrackets_28 (by decide) (fun hc7 => ?_) (fun hc7 => ?_)
      · have h := (if_neg hc7).symm.trans h
        refine M_aload_n (pc := 32) dX5_closeBrackets_32 rfl ?_
        refine M_dup (pc := 33) dX5_closeBrackets_33 rfl ?_
        refine M_getI (pc := 34) dX5_closeBrackets_34 f_X5_22 at_5 ?_
        refine M_iconst (pc := 37) (v := 1) dX5_closeBrackets_37 (by decide) ?_
        refine M_isub (pc := 38) dX5_closeBrackets_38 ?_
        refine M_putI (pc := 39) dX5_closeBrackets_39 f_X5_22 at_5 rfl ⟨rfl, rfl⟩ ?_
        refine M_aload_n (pc := 42) dX5_closeBrackets_42 rfl ?_
        refine M_dup (pc := 43) dX5_closeBrackets_43 rfl ?_
        refine M_getIs (pc := 44) (x := (r5 146 8)) dX5_closeBrackets_44 f_X5_26 at_5 (rd_ne (Or.inr (by decide))) ?_
        refine M_iconst (pc := 47) (v := 1) dX5_closeBrackets_47 (by decide) ?_
        refine M_isub (pc := 48) dX5_closeBrackets_48 ?_
        refine M_putI (pc := 49) dX5_closeBrackets_49 f_X5_26 at_5 rfl ⟨rfl, rfl⟩ ?_
        refine M_aload_n (pc := 52) dX5_closeBrackets_52 rfl ?_
        obtain ⟨r8, hr9, h⟩ := bnd h
        refine M_callUv (pc := 53) dX5_closeBrackets_53 u_X5_43 rfl rfl at_5 (Nat.le_of_ble_eq_true rfl) (C_X10_advance (d := d + 0) hp at_5 (Or.inl rfl) hx hr9) (Nat.le_refl _) ?_
        refine M_iinc (pc := 56) (v := (x1 + (1 : Int32))) (ls' := [some (.ref 146), some (.int (x1 + (1 : Int32)))]) dX5_closeBrackets_56 rfl rfl (by decide) rfl ?_
        refine M_goto (pc := 59) (tgt := 2) dX5_closeBrackets_59 (by decide) ?_
        exact ih (x1 + (1 : Int32)) r8 _ h
      · have h := (if_pos hc7).symm.trans h
        obtain rfl := Option.some.inj h
        exact M_vret (pc := 31) dX5_closeBrackets_31 rfl rfl rfl
set_option maxRecDepth 4000 in
set_option maxHeartbeats 4000000 in
theorem C_X5_closeBrackets {g : gX} {d : Nat} {P : Nat → Nat → Option Nat} {I : HI} {J : HJ} (hp : Wp P) (hx : P 146 0 = some 2) {r : HI} (h : F_X5_closeBrackets I = some r) : Cm g mX5_closeBrackets (d + 2) [.ref 146] (NT, I, J, P) none (NT, r, J, P) := by
  unfold F_X5_closeBrackets at h
  refine Cm.of (by decide) (by simp [Value.category]) (Nat.le_of_ble_eq_true rfl) (Nat.le_refl _) (ls := [some (.ref 146), none]) rfl ?_
  refine M_iconst (pc := 0) (v := 0) dX5_closeBrackets_0 (by decide) ?_
  refine M_istore_n (pc := 1) (ls' := [some (.ref 146), some (.int (0 : Int32))]) dX5_closeBrackets_1 (by decide) rfl ?_
  exact LC_X5_closeBrackets_2 (P := P) hp hx (0 : Int32) I _ h
def F_X5_readState (I : HI) : Option (Int32 × HI) :=
  (F_X5_stateHere I) >>= fun r1 => if r1 = (-1 : Int32) then some ((0 : Int32), I) else (F_X4_add I 148 ((1000 : Int32) + r1)) >>= fun r4 => (F_X10_advance r4 146) >>= fun r6 => some ((1 : Int32), r6)
set_option maxRecDepth 4000 in
set_option maxHeartbeats 4000000 in
theorem C_X5_readState {g : gX} {d : Nat} {P : Nat → Nat → Option Nat} {I : HI} {J : HJ} (hp : Wp P) (hx : P 146 0 = some 2) {r : Int32 × HI} (h : F_X5_readState I = some r) : Cm g mX5_readState (d + 6) [.ref 146] (NT, I, J, P) (some (.int r.1)) (NT, r.2, J, P) := by
  unfold F_X5_readState at h
  refine Cm.of (by decide) (by simp [Value.category]) (Nat.le_of_ble_eq_true rfl) (Nat.le_refl _) (ls := [some (.ref 146), none]) rfl ?_
  refine M_aload_n (pc := 0) dX5_readState_0 rfl ?_
  obtain ⟨r1, hr2, h⟩ := bnd h
  refine M_callVi (pc := 1) dX5_readState_1 v_X5_95 rfl rfl at_5 (Nat.le_of_ble_eq_true rfl) (C_X5_stateHere (d := d + 0) hp hx hr2) (Nat.le_refl _) ?_
  refine M_istore_n (pc := 4) (ls' := [some (.ref 146), some (.int r1)]) dX5_readState_4 (by decide) rfl ?_
  refine M_iload_n (pc := 5) dX5_readState_5 rfl ?_
  refine M_iconst (pc := 6) (v := -1) dX5_readState_6 (by decide) ?_
  refine M_icmp_ne (pc := 7) (tgt := 12) dX5_readState_7 (by decide) (fun hc3 => ?_) (fun hc3 => ?_)
  · have h := (if_neg hc3).symm.trans h
    refine M_aload_n (pc := 12) dX5_readState_12 rfl ?_
    refine M_getR (pc := 13) dX5_readState_13 f_X5_14 at_5 (gc_146_5 hp).1 ?_
    refine M_sipush (pc := 16) (v := 1000) dX5_readState_16 (by decide) ?_
    refine M_iload_n (pc := 19) dX5_readState_19 rfl ?_
    refine M_iadd (pc := 20) dX5_readState_20 ?_
    obtain ⟨r4, hr5, h⟩ := bnd h
    refine M_callVv (pc := 21) dX5_readState_21 v_X5_92 rfl rfl (gc_146_5 hp).2 (Nat.le_of_ble_eq_true rfl) (C_X4_add (d := d + 5) hp (gc_146_5 hp).2 hr5) (Nat.le_refl _) ?_
    refine M_aload_n (pc := 24) dX5_readState_24 rfl ?_
    obtain ⟨r6, hr7, h⟩ := bnd h
    refine M_callUv (pc := 25) dX5_readState_25 u_X5_43 rfl rfl at_5 (Nat.le_of_ble_eq_true rfl) (C_X10_advance (d := d + 4) hp at_5 (Or.inl rfl) hx hr7) (Nat.le_refl _) ?_
    refine M_iconst (pc := 28) (v := 1) dX5_readState_28 (by decide) ?_
    obtain rfl := Option.some.inj h
    exact M_iret (pc := 29) dX5_readState_29 rfl rfl rfl rfl
  · have h := (if_pos hc3).symm.trans h
    refine M_iconst (pc := 10) (v := 0) dX5_readState_10 (by decide) ?_
    obtain rfl := Option.some.inj h
    exact M_iret (pc := 11) dX5_readState_11 rfl rfl rfl rfl
def L_X5_readSum_2 (x1 : Int32) (I : HI) : Option (Int32 × HI) :=
  if (400 : Int32) ≤ x1 then some ((0 : Int32), I) else (F_X10_number I 146 (0 : Int32) (999 : Int32)) >>= fun r2 => (F_X5_valueHere I) >>= fun r4 => if r2 = (-1 : Int32) then if r4 = (-1 : Int32) then some ((0 : Int32), I) else if r2 = (-1 : Int32) then (F_X4_add I 148 ((1000 : Int32) + r4)) >>= fun r48 => if x1 ≤ 0 then (F_X10_advance r48 146) >>= fun r51 => (F_X10_isSign r51 146 (43 : Int32)) >>= fun r53 => if r53 = 0 then some ((1 : Int32), r51) else (F_X10_advance r51 146) >>= fun r56 => L_X5_readSum_2 (x1 + (1 : Int32)) r56 else (F_X4_add r48 148 (1010 : Int32)) >>= fun r58 => (F_X10_advance r58 146) >>= fun r60 => (F_X10_isSign r60 146 (43 : Int32)) >>= fun r62 => if r62 = 0 then some ((1 : Int32), r60) else (F_X10_advance r60 146) >>= fun r65 => L_X5_readSum_2 (x1 + (1 : Int32)) r65 else (F_X4_add I 148 r2) >>= fun r67 => if x1 ≤ 0 then (F_X10_advance r67 146) >>= fun r70 => (F_X10_isSign r70 146 (43 : Int32)) >>= fun r72 => if r72 = 0 then some ((1 : Int32), r70) else (F_X10_advance r70 146) >>= fun r75 => L_X5_readSum_2 (x1 + (1 : Int32)) r75 else (F_X4_add r67 148 (1010 : Int32)) >>= fun r77 => (F_X10_advance r77 146) >>= fun r79 => (F_X10_isSign r79 146 (43 : Int32)) >>= fun r81 => if r81 = 0 then some ((1 : Int32), r79) else (F_X10_advance r79 146) >>= fun r84 => L_X5_readSum_2 (x1 + (1 : Int32)) r84 else if r2 = (-1 : Int32) then (F_X4_add I 148 ((1000 : Int32) + r4)) >>= fun r8 => if x1 ≤ 0 then (F_X10_advance r8 146) >>= fun r11 => (F_X10_isSign r11 146 (43 : Int32)) >>= fun r13 => if r13 = 0 then some ((1 : Int32), r11) else (F_X10_advance r11 146) >>= fun r16 => L_X5_readSum_2 (x1 + (1 : Int32)) r16 else (F_X4_add r8 148 (1010 : Int32)) >>= fun r18 => (F_X10_advance r18 146) >>= fun r20 => (F_X10_isSign r20 146 (43 : Int32)) >>= fun r22 => if r22 = 0 then some ((1 : Int32), r20) else (F_X10_advance r20 146) >>= fun r25 => L_X5_readSum_2 (x1 + (1 : Int32)) r25 else (F_X4_add I 148 r2) >>= fun r27 => if x1 ≤ 0 then (F_X10_advance r27 146) >>= fun r30 => (F_X10_isSign r30 146 (43 : Int32)) >>= fun r32 => if r32 = 0 then some ((1 : Int32), r30) else (F_X10_advance r30 146) >>= fun r35 => L_X5_readSum_2 (x1 + (1 : Int32)) r35 else (F_X4_add r27 148 (1010 : Int32)) >>= fun r37 => (F_X10_advance r37 146) >>= fun r39 => (F_X10_isSign r39 146 (43 : Int32)) >>= fun r41 => if r41 = 0 then some ((1 : Int32), r39) else (F_X10_advance r39 146) >>= fun r44 => L_X5_readSum_2 (x1 + (1 : Int32)) r44
partial_fixpoint
def F_X5_readSum (I : HI) : Option (Int32 × HI) :=
  L_X5_readSum_2 (0 : Int32) I
set_option maxRecDepth 4000 in
set_option maxHeartbeats 4000000 in
theorem LC_X5_readSum_2 {g : gX} {d : Nat} {P : Nat → Nat → Option Nat} {J : HJ}  (hp : Wp P) (hx : P 146 0 = some 2) : ∀ (x1 : Int32) (I : HI) (r : Int32 × HI), L_X5_readSum_2  x1 I = some r → M g mX5_readSum (d + 6) (NT, NT, 0) ((.inl (some (.int r.1))), (NT, r.2, J, P)) 2 [some (.ref 146), some (.int x1), none, none] [] (NT, I, J, P) := by
  refine L_X5_readSum_2.partial_correctness  (fun x1 I r => M g mX5_readSum (d + 6) (NT, NT, 0) ((.inl (some (.int r.1))), (NT, r.2, J, P)) 2 [some (.ref 146), some (.int x1), none, none] [] (NT, I, J, P)) ?_
  intro f ih x1 I r h
  refine M_iload_n (pc := 2) dX5_readSum_2 rfl ?_
  refine M_sipush (pc := 3) (v := 400) dX5_readSum_3 (by decide) ?_
  refine M_icmp_ge (pc := 6) (tgt := 95) dX5_readSum_6 (by decide) (fun hc1 => ?_) (fun hc1 => ?_)
  · have h := (if_pos hc1).symm.trans h
    refine M_iconst (pc := 95) (v := 0) dX5_readSum_95 (by decide) ?_
    obtain rfl := Option.some.inj h
    exact M_iret (pc := 96) dX5_readSum_96 rfl rfl rfl rfl
  · have h := (if_neg hc1).symm.trans h
    refine M_aload_n (pc := 9) dX5_readSum_9 rfl ?_
    refine M_iconst (pc := 10) (v := 0) dX5_readSum_10 (by decide) ?_
    refine M_sipush (pc := 11) (v := 999) dX5_readSum_11 (by decide) ?_
    obtain ⟨r2, hr3, h⟩ := bnd h
    refine M_callUi (pc := 14) dX5_readSum_14 u_X5_109 rfl rfl at_5 (Nat.le_of_ble_eq_true rfl) (C_X10_number (d := d + 5) hp at_5 (Or.inl rfl) hx hr3) (Nat.le_refl _) ?_
    refine M_istore_n (pc := 17) (ls' := [some (.ref 146), some (.int x1), some (.int r2), none]) dX5_readSum_17 (by decide) rfl ?_
    refine M_aload_n (pc := 18) dX5_readSum_18 rfl ?_
    obtain ⟨r4, hr5, h⟩ := bnd h
    refine M_callVi (pc := 19) dX5_readSum_19 v_X5_112 rfl rfl at_5 (Nat.le_of_ble_eq_true rfl) (C_X5_valueHere (d := d + 0) hp hx hr5) (Nat.le_refl _) ?_
    refine M_istore_n (pc := 22) (ls' := [some (.ref 146), some (.int x1), some (.int r2), some (.int r4)]) dX5_readSum_22 (by decide) rfl ?_
    refine M_iload_n (pc := 23) dX5_readSum_23 rfl ?_
    refine M_iconst (pc := 24) (v := -1) dX5_readSum_24 (by decide) ?_
    refine M_icmp_ne (pc := 25) (tgt := 35) dX5_readSum_25 (by decide) (fun hc6 => ?_) (fun hc6 => ?_)
    · have h := (if_neg hc6).symm.trans h
      refine M_aload_n (pc := 35) dX5_readSum_35 rfl ?_
      refine M_getR (pc := 36) dX5_readSum_36 f_X5_14 at_5 (gc_146_5 hp).1 ?_
      refine M_iload_n (pc := 39) dX5_readSum_39 rfl ?_
      refine M_iconst (pc := 40) (v := -1) dX5_readSum_40 (by decide) ?_
      refine M_icmp_eq (pc := 41) (tgt := 48) dX5_readSum_41 (by decide) (fun hc7 => ?_) (fun hc7 => ?_)
      · have h := (if_pos hc7).symm.trans h
        refine M_sipush (pc := 48) (v := 1000) dX5_readSum_48 (by decide) ?_
        refine M_iload_n (pc := 51) dX5_readSum_51 rfl ?_
        refine M_iadd (pc := 52) dX5_readSum_52 ?_
        obtain ⟨r8, hr9, h⟩ := bnd h
        refine M_callVv (pc := 53) dX5_readSum_53 v_X5_92 rfl rfl (gc_146_5 hp).2 (Nat.le_of_ble_eq_true rfl) (C_X4_add (d := d + 5) hp (gc_146_5 hp).2 hr9) (Nat.le_refl _) ?_
        refine M_iload_n (pc := 56) dX5_readSum_56 rfl ?_
        refine M_if_le (pc := 57) (tgt := 70) dX5_readSum_57 (by decide) (fun hc10 => ?_) (fun hc10 => ?_)
        · have h := (if_pos hc10).symm.trans h
          refine M_aload_n (pc := 70) dX5_readSum_70 rfl ?_
          obtain ⟨r11, hr12, h⟩ := bnd h
          refine M_callUv (pc := 71) dX5_readSum_71 u_X5_43 rfl rfl at_5 (Nat.le_of_ble_eq_true rfl) (C_X10_advance (d := d + 4) hp at_5 (Or.inl rfl) hx hr12) (Nat.le_refl _) ?_
          refine M_aload_n (pc := 74) dX5_readSum_74 rfl ?_
          refine M_bipush (pc := 75) (v := 43) dX5_readSum_75 (by decide) ?_
          obtain ⟨r13, hr14, h⟩ := bnd h
          refine M_callUi (pc := 77) dX5_readSum_77 u_X5_84 rfl rfl at_5 (Nat.le_of_ble_eq_true rfl) (C_X10_isSign (d := d + 5) hp at_5 (Or.inl rfl) hx hr14) (Nat.le_refl _) ?_
          refine M_if_ne (pc := 80) (tgt := 85) dX5_readSum_80 (by decide) (fun hc15 => ?_) (fun hc15 => ?_)
          · have h := (if_neg hc15).symm.trans h
            refine M_aload_n (pc := 85) dX5_readSum_85 rfl ?_
            obtain ⟨r16, hr17, h⟩ := bnd h
            refine M_callUv (pc := 86) dX5_readSum_86 u_X5_43 rfl rfl at_5 (Nat.le_of_ble_eq_true rfl) (C_X10_advance (d := d + 4) hp at_5 (Or.inl rfl) hx hr17) (Nat.le_refl _) ?_
            refine M_iinc (pc := 89) (v := (x1 + (1 : Int32))) (ls' := [some (.ref 146), some (.int (x1 + (1 : Int32))), some (.int r2), some (.int r4)]) dX5_readSum_89 rfl rfl (by decide) rfl ?_
            refine M_goto (pc := 92) (tgt := 2) dX5_readSum_92 (by decide) ?_
            refine M_mask (pc := 2) [true, true, false, false] rfl ?_
            exact ih (x1 + (1 : Int32)) r16 _ h
          · have h := (if_pos hc15).symm.trans h
            refine M_iconst (pc := 83) (v := 1) dX5_readSum_83 (by decide) ?_
            obtain rfl := Option.some.inj h
            exact M_iret (pc := 84) dX5_readSum_84 rfl rfl rfl rfl
        · have h := (if_neg hc10).symm.trans h
          refine M_aload_n (pc := 60) dX5_readSum_60 rfl ?_
          refine M_getR (pc := 61) dX5_readSum_61 f_X5_14 at_5 (gc_146_5 hp).1 ?_
          refine M_sipush (pc := 64) (v := 1010) dX5_readSum_64 (by decide) ?_
          obtain ⟨r18, hr19, h⟩ := bnd h
          refine M_callVv (pc := 67) dX5_readSum_67 v_X5_92 rfl rfl (gc_146_5 hp).2 (Nat.le_of_ble_eq_true rfl) (C_X4_add (d := d + 5) hp (gc_146_5 hp).2 hr19) (Nat.le_refl _) ?_
          refine M_aload_n (pc := 70) dX5_readSum_70 rfl ?_
          obtain ⟨r20, hr21, h⟩ := bnd h
          refine M_callUv (pc := 71) dX5_readSum_71 u_X5_43 rfl rfl at_5 (Nat.le_of_ble_eq_true rfl) (C_X10_advance (d := d + 4) hp at_5 (Or.inl rfl) hx hr21) (Nat.le_refl _) ?_
          refine M_aload_n (pc := 74) dX5_readSum_74 rfl ?_
          refine M_bipush (pc := 75) (v := 43) dX5_readSum_75 (by decide) ?_
          obtain ⟨r22, hr23, h⟩ := bnd h
          refine M_callUi (pc := 77) dX5_readSum_77 u_X5_84 rfl rfl at_5 (Nat.le_of_ble_eq_true rfl) (C_X10_isSign (d := d + 5) hp at_5 (Or.inl rfl) hx hr23) (Nat.le_refl _) ?_
          refine M_if_ne (pc := 80) (tgt := 85) dX5_readSum_80 (by decide) (fun hc24 => ?_) (fun hc24 => ?_)
          · have h := (if_neg hc24).symm.trans h
            refine M_aload_n (pc := 85) dX5_readSum_85 rfl ?_
            obtain ⟨r25, hr26, h⟩ := bnd h
            refine M_callUv (pc := 86) dX5_readSum_86 u_X5_43 rfl rfl at_5 (Nat.le_of_ble_eq_true rfl) (C_X10_advance (d := d + 4) hp at_5 (Or.inl rfl) hx hr26) (Nat.le_refl _) ?_
            refine M_iinc (pc := 89) (v := (x1 + (1 : Int32))) (ls' := [some (.ref 146), some (.int (x1 + (1 : Int32))), some (.int r2), some (.int r4)]) dX5_readSum_89 rfl rfl (by decide) rfl ?_
            refine M_goto (pc := 92) (tgt := 2) dX5_readSum_92 (by decide) ?_
            refine M_mask (pc := 2) [true, true, false, false] rfl ?_
            exact ih (x1 + (1 : Int32)) r25 _ h
          · have h := (if_pos hc24).symm.trans h
            refine M_iconst (pc := 83) (v := 1) dX5_readSum_83 (by decide) ?_
            obtain rfl := Option.some.inj h
            exact M_iret (pc := 84) dX5_readSum_84 rfl rfl rfl rfl
      · have h := (if_neg hc7).symm.trans h
        refine M_iload_n (pc := 44) dX5_readSum_44 rfl ?_
        refine M_goto (pc := 45) (tgt := 53) dX5_readSum_45 (by decide) ?_
        obtain ⟨r27, hr28, h⟩ := bnd h
        refine M_callVv (pc := 53) dX5_readSum_53 v_X5_92 rfl rfl (gc_146_5 hp).2 (Nat.le_of_ble_eq_true rfl) (C_X4_add (d := d + 5) hp (gc_146_5 hp).2 hr28) (Nat.le_refl _) ?_
        refine M_iload_n (pc := 56) dX5_readSum_56 rfl ?_
        refine M_if_le (pc := 57) (tgt := 70) dX5_readSum_57 (by decide) (fun hc29 => ?_) (fun hc29 => ?_)
        · have h := (if_pos hc29).symm.trans h
          refine M_aload_n (pc := 70) dX5_readSum_70 rfl ?_
          obtain ⟨r30, hr31, h⟩ := bnd h
          refine M_callUv (pc := 71) dX5_readSum_71 u_X5_43 rfl rfl at_5 (Nat.le_of_ble_eq_true rfl) (C_X10_advance (d := d + 4) hp at_5 (Or.inl rfl) hx hr31) (Nat.le_refl _) ?_
          refine M_aload_n (pc := 74) dX5_readSum_74 rfl ?_
          refine M_bipush (pc := 75) (v := 43) dX5_readSum_75 (by decide) ?_
          obtain ⟨r32, hr33, h⟩ := bnd h
          refine M_callUi (pc := 77) dX5_readSum_77 u_X5_84 rfl rfl at_5 (Nat.le_of_ble_eq_true rfl) (C_X10_isSign (d := d + 5) hp at_5 (Or.inl rfl) hx hr33) (Nat.le_refl _) ?_
          refine M_if_ne (pc := 80) (tgt := 85) dX5_readSum_80 (by decide) (fun hc34 => ?_) (fun hc34 => ?_)
          · have h := (if_neg hc34).symm.trans h
            refine M_aload_n (pc := 85) dX5_readSum_85 rfl ?_
            obtain ⟨r35, hr36, h⟩ := bnd h
            refine M_callUv (pc := 86) dX5_readSum_86 u_X5_43 rfl rfl at_5 (Nat.le_of_ble_eq_true rfl) (C_X10_advance (d := d + 4) hp at_5 (Or.inl rfl) hx hr36) (Nat.le_refl _) ?_
            refine M_iinc (pc := 89) (v := (x1 + (1 : Int32))) (ls' := [some (.ref 146), some (.int (x1 + (1 : Int32))), some (.int r2), some (.int r4)]) dX5_readSum_89 rfl rfl (by decide) rfl ?_
            refine M_goto (pc := 92) (tgt := 2) dX5_readSum_92 (by decide) ?_
            refine M_mask (pc := 2) [true, true, false, false] rfl ?_
            exact ih (x1 + (1 : Int32)) r35 _ h
          · have h := (if_pos hc34).symm.trans h
            refine M_iconst (pc := 83) (v := 1) dX5_readSum_83 (by decide) ?_
            obtain rfl := Option.some.inj h
            exact M_iret (pc := 84) dX5_readSum_84 rfl rfl rfl rfl
        · have h := (if_neg hc29).symm.trans h
          refine M_aload_n (pc := 60) dX5_readSum_60 rfl ?_
          refine M_getR (pc := 61) dX5_readSum_61 f_X5_14 at_5 (gc_146_5 hp).1 ?_
          refine M_sipush (pc := 64) (v := 1010) dX5_readSum_64 (by decide) ?_
          obtain ⟨r37, hr38, h⟩ := bnd h
          refine M_callVv (pc := 67) dX5_readSum_67 v_X5_92 rfl rfl (gc_146_5 hp).2 (Nat.le_of_ble_eq_true rfl) (C_X4_add (d := d + 5) hp (gc_146_5 hp).2 hr38) (Nat.le_refl _) ?_
          refine M_aload_n (pc := 70) dX5_readSum_70 rfl ?_
          obtain ⟨r39, hr40, h⟩ := bnd h
          refine M_callUv (pc := 71) dX5_readSum_71 u_X5_43 rfl rfl at_5 (Nat.le_of_ble_eq_true rfl) (C_X10_advance (d := d + 4) hp at_5 (Or.inl rfl) hx hr40) (Nat.le_refl _) ?_
          refine M_aload_n (pc := 74) dX5_readSum_74 rfl ?_
          refine M_bipush (pc := 75) (v := 43) dX5_readSum_75 (by decide) ?_
          obtain ⟨r41, hr42, h⟩ := bnd h
          refine M_callUi (pc := 77) dX5_readSum_77 u_X5_84 rfl rfl at_5 (Nat.le_of_ble_eq_true rfl) (C_X10_isSign (d := d + 5) hp at_5 (Or.inl rfl) hx hr42) (Nat.le_refl _) ?_
          refine M_if_ne (pc := 80) (tgt := 85) dX5_readSum_80 (by decide) (fun hc43 => ?_) (fun hc43 => ?_)
          · have h := (if_neg hc43).symm.trans h
            refine M_aload_n (pc := 85) dX5_readSum_85 rfl ?_
            obtain ⟨r44, hr45, h⟩ := bnd h
            refine M_callUv (pc := 86) dX5_readSum_86 u_X5_43 rfl rfl at_5 (Nat.le_of_ble_eq_true rfl) (C_X10_advance (d := d + 4) hp at_5 (Or.inl rfl) hx hr45) (Nat.le_refl _) ?_
            refine M_iinc (pc := 89) (v := (x1 + (1 : Int32))) (ls' := [some (.ref 146), some (.int (x1 + (1 : Int32))), some (.int r2), some (.int r4)]) dX5_readSum_89 rfl rfl (by decide) rfl ?_
            refine M_goto (pc := 92) (tgt := 2) dX5_readSum_92 (by decide) ?_
            refine M_mask (pc := 2) [true, true, false, false] rfl ?_
            exact ih (x1 + (1 : Int32)) r44 _ h
          · have h := (if_pos hc43).symm.trans h
            refine M_iconst (pc := 83) (v := 1) dX5_readSum_83 (by decide) ?_
            obtain rfl := Option.some.inj h
            exact M_iret (pc := 84) dX5_readSum_84 rfl rfl rfl rfl
    · have h := (if_pos hc6).symm.trans h
      refine M_iload_n (pc := 28) dX5_readSum_28 rfl ?_
      refine M_iconst (pc := 29) (v := -1) dX5_readSum_29 (by decide) ?_
      refine M_icmp_ne (pc := 30) (tgt := 35) dX5_readSum_30 (by decide) (fun hc46 => ?_) (fun hc46 => ?_)
      · have h := (if_neg hc46).symm.trans h
        refine M_aload_n (pc := 35) dX5_readSum_35 rfl ?_
        refine M_getR (pc := 36) dX5_readSum_36 f_X5_14 at_5 (gc_146_5 hp).1 ?_
        refine M_iload_n (pc := 39) dX5_readSum_39 rfl ?_
        refine M_iconst (pc := 40) (v := -1) dX5_readSum_40 (by decide) ?_
        refine M_icmp_eq (pc := 41) (tgt := 48) dX5_readSum_41 (by decide) (fun hc47 => ?_) (fun hc47 => ?_)
        · have h := (if_pos hc47).symm.trans h
          refine M_sipush (pc := 48) (v := 1000) dX5_readSum_48 (by decide) ?_
          refine M_iload_n (pc := 51) dX5_readSum_51 rfl ?_
          refine M_iadd (pc := 52) dX5_readSum_52 ?_
          obtain ⟨r48, hr49, h⟩ := bnd h
          refine M_callVv (pc := 53) dX5_readSum_53 v_X5_92 rfl rfl (gc_146_5 hp).2 (Nat.le_of_ble_eq_true rfl) (C_X4_add (d := d + 5) hp (gc_146_5 hp).2 hr49) (Nat.le_refl _) ?_
          refine M_iload_n (pc := 56) dX5_readSum_56 rfl ?_
          refine M_if_le (pc := 57) (tgt := 70) dX5_readSum_57 (by decide) (fun hc50 => ?_) (fun hc50 => ?_)
          · have h := (if_pos hc50).symm.trans h
            refine M_aload_n (pc := 70) dX5_readSum_70 rfl ?_
            obtain ⟨r51, hr52, h⟩ := bnd h
            refine M_callUv (pc := 71) dX5_readSum_71 u_X5_43 rfl rfl at_5 (Nat.le_of_ble_eq_true rfl) (C_X10_advance (d := d + 4) hp at_5 (Or.inl rfl) hx hr52) (Nat.le_refl _) ?_
            refine M_aload_n (pc := 74) dX5_readSum_74 rfl ?_
            refine M_bipush (pc := 75) (v := 43) dX5_readSum_75 (by decide) ?_
            obtain ⟨r53, hr54, h⟩ := bnd h
            refine M_callUi (pc := 77) dX5_readSum_77 u_X5_84 rfl rfl at_5 (Nat.le_of_ble_eq_true rfl) (C_X10_isSign (d := d + 5) hp at_5 (Or.inl rfl) hx hr54) (Nat.le_refl _) ?_
            refine M_if_ne (pc := 80) (tgt := 85) dX5_readSum_80 (by decide) (fun hc55 => ?_) (fun hc55 => ?_)
            · have h := (if_neg hc55).symm.trans h
              refine M_aload_n (pc := 85) dX5_readSum_85 rfl ?_
              obtain ⟨r56, hr57, h⟩ := bnd h
              refine M_callUv (pc := 86) dX5_readSum_86 u_X5_43 rfl rfl at_5 (Nat.le_of_ble_eq_true rfl) (C_X10_advance (d := d + 4) hp at_5 (Or.inl rfl) hx hr57) (Nat.le_refl _) ?_
              refine M_iinc (pc := 89) (v := (x1 + (1 : Int32))) (ls' := [some (.ref 146), some (.int (x1 + (1 : Int32))), some (.int r2), some (.int r4)]) dX5_readSum_89 rfl rfl (by decide) rfl ?_
              refine M_goto (pc := 92) (tgt := 2) dX5_readSum_92 (by decide) ?_
              refine M_mask (pc := 2) [true, true, false, false] rfl ?_
              exact ih (x1 + (1 : Int32)) r56 _ h
            · have h := (if_pos hc55).symm.trans h
              refine M_iconst (pc := 83) (v := 1) dX5_readSum_83 (by decide) ?_
              obtain rfl := Option.some.inj h
              exact M_iret (pc := 84) dX5_readSum_84 rfl rfl rfl rfl
          · have h := (if_neg hc50).symm.trans h
            refine M_aload_n (pc := 60) dX5_readSum_60 rfl ?_
            refine M_getR (pc := 61) dX5_readSum_61 f_X5_14 at_5 (gc_146_5 hp).1 ?_
            refine M_sipush (pc := 64) (v := 1010) dX5_readSum_64 (by decide) ?_
            obtain ⟨r58, hr59, h⟩ := bnd h
            refine M_callVv (pc := 67) dX5_readSum_67 v_X5_92 rfl rfl (gc_146_5 hp).2 (Nat.le_of_ble_eq_true rfl) (C_X4_add (d := d + 5) hp (gc_146_5 hp).2 hr59) (Nat.le_refl _) ?_
            refine M_aload_n (pc := 70) dX5_readSum_70 rfl ?_
            obtain ⟨r60, hr61, h⟩ := bnd h
            refine M_callUv (pc := 71) dX5_readSum_71 u_X5_43 rfl rfl at_5 (Nat.le_of_ble_eq_true rfl) (C_X10_advance (d := d + 4) hp at_5 (Or.inl rfl) hx hr61) (Nat.le_refl _) ?_
            refine M_aload_n (pc := 74) dX5_readSum_74 rfl ?_
            refine M_bipush (pc := 75) (v := 43) dX5_readSum_75 (by decide) ?_
            obtain ⟨r62, hr63, h⟩ := bnd h
            refine M_callUi (pc := 77) dX5_readSum_77 u_X5_84 rfl rfl at_5 (Nat.le_of_ble_eq_true rfl) (C_X10_isSign (d := d + 5) hp at_5 (Or.inl rfl) hx hr63) (Nat.le_refl _) ?_
            refine M_if_ne (pc := 80) (tgt := 85) dX5_readSum_80 (by decide) (fun hc64 => ?_) (fun hc64 => ?_)
            · have h := (if_neg hc64).symm.trans h
              refine M_aload_n (pc := 85) dX5_readSum_85 rfl ?_
              obtain ⟨r65, hr66, h⟩ := bnd h
              refine M_callUv (pc := 86) dX5_readSum_86 u_X5_43 rfl rfl at_5 (Nat.le_of_ble_eq_true rfl) (C_X10_advance (d := d + 4) hp at_5 (Or.inl rfl) hx hr66) (Nat.le_refl _) ?_
              refine M_iinc (pc := 89) (v := (x1 + (1 : Int32))) (ls' := [some (.ref 146), some (.int (x1 + (1 : Int32))), some (.int r2), some (.int r4)]) dX5_readSum_89 rfl rfl (by decide) rfl ?_
              refine M_goto (pc := 92) (tgt := 2) dX5_readSum_92 (by decide) ?_
              refine M_mask (pc := 2) [true, true, false, false] rfl ?_
              exact ih (x1 + (1 : Int32)) r65 _ h
            · have h := (if_pos hc64).symm.trans h
              refine M_iconst (pc := 83) (v := 1) dX5_readSum_83 (by decide) ?_
              obtain rfl := Option.some.inj h
              exact M_iret (pc := 84) dX5_readSum_84 rfl rfl rfl rfl
        · have h := (if_neg hc47).symm.trans h
          refine M_iload_n (pc := 44) dX5_readSum_44 rfl ?_
          refine M_goto (pc := 45) (tgt := 53) dX5_readSum_45 (by decide) ?_
          obtain ⟨r67, hr68, h⟩ := bnd h
          refine M_callVv (pc := 53) dX5_readSum_53 v_X5_92 rfl rfl (gc_146_5 hp).2 (Nat.le_of_ble_eq_true rfl) (C_X4_add (d := d + 5) hp (gc_146_5 hp).2 hr68) (Nat.le_refl _) ?_
          refine M_iload_n (pc := 56) dX5_readSum_56 rfl ?_
          refine M_if_le (pc := 57) (tgt := 70) dX5_readSum_57 (by decide) (fun hc69 => ?_) (fun hc69 => ?_)
          · have h := (if_pos hc69).symm.trans h
            refine M_aload_n (pc := 70) dX5_readSum_70 rfl ?_
            obtain ⟨r70, hr71, h⟩ := bnd h
            refine M_callUv (pc := 71) dX5_readSum_71 u_X5_43 rfl rfl at_5 (Nat.le_of_ble_eq_true rfl) (C_X10_advance (d := d + 4) hp at_5 (Or.inl rfl) hx hr71) (Nat.le_refl _) ?_
            refine M_aload_n (pc := 74) dX5_readSum_74 rfl ?_
            refine M_bipush (pc := 75) (v := 43) dX5_readSum_75 (by decide) ?_
            obtain ⟨r72, hr73, h⟩ := bnd h
            refine M_callUi (pc := 77) dX5_readSum_77 u_X5_84 rfl rfl at_5 (Nat.le_of_ble_eq_true rfl) (C_X10_isSign (d := d + 5) hp at_5 (Or.inl rfl) hx hr73) (Nat.le_refl _) ?_
            refine M_if_ne (pc := 80) (tgt := 85) dX5_readSum_80 (by decide) (fun hc74 => ?_) (fun hc74 => ?_)
            · have h := (if_neg hc74).symm.trans h
              refine M_aload_n (pc := 85) dX5_readSum_85 rfl ?_
              obtain ⟨r75, hr76, h⟩ := bnd h
              refine M_callUv (pc := 86) dX5_readSum_86 u_X5_43 rfl rfl at_5 (Nat.le_of_ble_eq_true rfl) (C_X10_advance (d := d + 4) hp at_5 (Or.inl rfl) hx hr76) (Nat.le_refl _) ?_
              refine M_iinc (pc := 89) (v := (x1 + (1 : Int32))) (ls' := [some (.ref 146), some (.int (x1 + (1 : Int32))), some (.int r2), some (.int r4)]) dX5_readSum_89 rfl rfl (by decide) rfl ?_
              refine M_goto (pc := 92) (tgt := 2) dX5_readSum_92 (by decide) ?_
              refine M_mask (pc := 2) [true, true, false, false] rfl ?_
              exact ih (x1 + (1 : Int32)) r75 _ h
            · have h := (if_pos hc74).symm.trans h
              refine M_iconst (pc := 83) (v := 1) dX5_readSum_83 (by decide) ?_
              obtain rfl := Option.some.inj h
              exact M_iret (pc := 84) dX5_readSum_84 rfl rfl rfl rfl
          · have h := (if_neg hc69).symm.trans h
            refine M_aload_n (pc := 60) dX5_readSum_60 rfl ?_
            refine M_getR (pc := 61) dX5_readSum_61 f_X5_14 at_5 (gc_146_5 hp).1 ?_
            refine M_sipush (pc := 64) (v := 1010) dX5_readSum_64 (by decide) ?_
            obtain ⟨r77, hr78, h⟩ := bnd h
            refine M_callVv (pc := 67) dX5_readSum_67 v_X5_92 rfl rfl (gc_146_5 hp).2 (Nat.le_of_ble_eq_true rfl) (C_X4_add (d := d + 5) hp (gc_146_5 hp).2 hr78) (Nat.le_refl _) ?_
            refine M_aload_n (pc := 70) dX5_readSum_70 rfl ?_
            obtain ⟨r79, hr80, h⟩ := bnd h
            refine M_callUv (pc := 71) dX5_readSum_71 u_X5_43 rfl rfl at_5 (Nat.le_of_ble_eq_true rfl) (C_X10_advance (d := d + 4) hp at_5 (Or.inl rfl) hx hr80) (Nat.le_refl _) ?_
            refine M_aload_n (pc := 74) dX5_readSum_74 rfl ?_
            refine M_bipush (pc := 75) (v := 43) dX5_readSum_75 (by decide) ?_
            obtain ⟨r81, hr82, h⟩ := bnd h
            refine M_callUi (pc := 77) dX5_readSum_77 u_X5_84 rfl rfl at_5 (Nat.le_of_ble_eq_true rfl) (C_X10_isSign (d := d + 5) hp at_5 (Or.inl rfl) hx hr82) (Nat.le_refl _) ?_
            refine M_if_ne (pc := 80) (tgt := 85) dX5_readSum_80 (by decide) (fun hc83 => ?_) (fun hc83 => ?_)
            · have h := (if_neg hc83).symm.trans h
              refine M_aload_n (pc := 85) dX5_readSum_85 rfl ?_
              obtain ⟨r84, hr85, h⟩ := bnd h
              refine M_callUv (pc := 86) dX5_readSum_86 u_X5_43 rfl rfl at_5 (Nat.le_of_ble_eq_true rfl) (C_X10_advance (d := d + 4) hp at_5 (Or.inl rfl) hx hr85) (Nat.le_refl _) ?_
              refine M_iinc (pc := 89) (v := (x1 + (1 : Int32))) (ls' := [some (.ref 146), some (.int (x1 + (1 : Int32))), some (.int r2), some (.int r4)]) dX5_readSum_89 rfl rfl (by decide) rfl ?_
              refine M_goto (pc := 92) (tgt := 2) dX5_readSum_92 (by decide) ?_
              refine M_mask (pc := 2) [true, true, false, false] rfl ?_
              exact ih (x1 + (1 : Int32)) r84 _ h
            · have h := (if_pos hc83).symm.trans h
              refine M_iconst (pc := 83) (v := 1) dX5_readSum_83 (by decide) ?_
              obtain rfl := Option.some.inj h
              exact M_iret (pc := 84) dX5_readSum_84 rfl rfl rfl rfl
      · have h := (if_pos hc46).symm.trans h
        refine M_iconst (pc := 33) (v := 0) dX5_readSum_33 (by decide) ?_
        obtain rfl := Option.some.inj h
        exact M_iret (pc := 34) dX5_readSum_34 rfl rfl rfl rfl
set_option maxRecDepth 4000 in
set_option maxHeartbeats 4000000 in
theorem C_X5_readSum {g : gX} {d : Nat} {P : Nat → Nat → Option Nat} {I : HI} {J : HJ} (hp : Wp P) (hx : P 146 0 = some 2) {r : Int32 × HI} (h : F_X5_readSum I = some r) : Cm g mX5_readSum (d + 6) [.ref 146] (NT, I, J, P) (some (.int r.1)) (NT, r.2, J, P) := by
  unfold F_X5_readSum at h
  refine Cm.of (by decide) (by simp [Value.category]) (Nat.le_of_ble_eq_true rfl) (Nat.le_refl _) (ls := [some (.ref 146), none, none, none]) rfl ?_
  refine M_iconst (pc := 0) (v := 0) dX5_readSum_0 (by decide) ?_
  refine M_istore_n (pc := 1) (ls' := [some (.ref 146), some (.int (0 : Int32)), none, none]) dX5_readSum_1 (by decide) rfl ?_
  exact LC_X5_readSum_2 (P := P) hp hx (0 : Int32) I _ h
def F_X6_readWar (I : HI) : Option (Int32 × HI) :=
  (F_X10_numberBehind I 138 (0 : Int32) (999 : Int32)) >>= fun r1 => if r1.1 = (-1 : Int32) then some ((0 : Int32), r1.2) else (F_X10_isWord r1.2 138 46) >>= fun r4 => if r4 = 0 then some ((0 : Int32), r1.2) else (F_X10_numberBehind (up2 r1.2 140 8 r1.1) 138 r1.1 (999 : Int32)) >>= fun r7 => if r7.1 = (-1 : Int32) then some ((0 : Int32), (up2 r7.2 140 9 r7.1)) else some ((1 : Int32), (up2 r7.2 140 9 r7.1))
set_option maxRecDepth 4000 in
set_option maxHeartbeats 4000000 in
theorem C_X6_readWar {g : gX} {d : Nat} {P : Nat → Nat → Option Nat} {I : HI} {J : HJ} (hp : Wp P) (hx : P 138 0 = some 2) {r : Int32 × HI} (h : F_X6_readWar I = some r) : Cm g mX6_readWar (d + 5) [.ref 138] (NT, I, J, P) (some (.int r.1)) (NT, r.2, J, P) := by
  unfold F_X6_readWar at h
  refine Cm.of (by decide) (by simp [Value.category]) (Nat.le_of_ble_eq_true rfl) (Nat.le_refl _) (ls := [some (.ref 138), none]) rfl ?_
  refine M_aload_n (pc := 0) dX6_readWar_0 rfl ?_
  refine M_iconst (pc := 1) (v := 0) dX6_readWar_1 (by decide) ?_
  refine M_sipush (pc := 2) (v := 999) dX6_readWar_2 (by decide) ?_
  obtain ⟨r1, hr2, h⟩ := bnd h
  refine M_callUi (pc := 5) dX6_readWar_5 u_X6_45 rfl rfl at_6 (Nat.le_of_ble_eq_true rfl) (C_X10_numberBehind (d := d + 2) hp at_6 (Or.inr rfl) hx hr2) (Nat.le_refl _) ?_
  refine M_istore_n (pc := 8) (ls' := [some (.ref 138), some (.int r1.1)]) dX6_readWar_8 (by decide) rfl ?_
  refine M_iload_n (pc := 9) dX6_readWar_9 rfl ?_
  refine M_iconst (pc := 10) (v := -1) dX6_readWar_10 (by decide) ?_
  refine M_icmp_eq (pc := 11) (tgt := 23) dX6_readWar_11 (by decide) (fun hc3 => ?_) (fun hc3 => ?_)
  · have h := (if_pos hc3).symm.trans h
    refine M_iconst (pc := 23) (v := 0) dX6_readWar_23 (by decide) ?_
    obtain rfl := Option.some.inj h
    exact M_iret (pc := 24) dX6_readWar_24 rfl rfl rfl rfl
  · have h := (if_neg hc3).symm.trans h
    refine M_aload_n (pc := 14) dX6_readWar_14 rfl ?_
    refine M_ldcS (pc := 15) (j := 46) dX6_readWar_15 (by decide) str_X6_70 ?_
    obtain ⟨r4, hr5, h⟩ := bnd h
    refine M_callUi (pc := 17) dX6_readWar_17 u_X6_20 rfl rfl at_6 (Nat.le_of_ble_eq_true rfl) (C_X10_isWord (d := d + 0) hp at_6 (Or.inr rfl) hx (by decide) hr5) (Nat.le_refl _) ?_
    refine M_if_ne (pc := 20) (tgt := 25) dX6_readWar_20 (by decide) (fun hc6 => ?_) (fun hc6 => ?_)
    · have h := (if_neg hc6).symm.trans h
      refine M_aload_n (pc := 25) dX6_readWar_25 rfl ?_
      refine M_getR (pc := 26) dX6_readWar_26 f_X6_12 at_6 (gc_138_5 hp).1 ?_
      refine M_iload_n (pc := 29) dX6_readWar_29 rfl ?_
      refine M_putI (pc := 30) dX6_readWar_30 f_X6_72 (gc_138_5 hp).2 rfl ⟨rfl, rfl⟩ ?_
      refine M_aload_n (pc := 33) dX6_readWar_33 rfl ?_
      refine M_getR (pc := 34) dX6_readWar_34 f_X6_12 at_6 (gc_138_5 hp).1 ?_
      refine M_aload_n (pc := 37) dX6_readWar_37 rfl ?_
      refine M_iload_n (pc := 38) dX6_readWar_38 rfl ?_
      refine M_sipush (pc := 39) (v := 999) dX6_readWar_39 (by decide) ?_
      obtain ⟨r7, hr8, h⟩ := bnd h
      refine M_callUi (pc := 42) dX6_readWar_42 u_X6_45 rfl rfl at_6 (Nat.le_of_ble_eq_true rfl) (C_X10_numberBehind (d := d + 2) hp at_6 (Or.inr rfl) hx hr8) (Nat.le_refl _) ?_
      refine M_putI (pc := 45) dX6_readWar_45 f_X6_75 (gc_138_5 hp).2 rfl ⟨rfl, rfl⟩ ?_
      refine M_aload_n (pc := 48) dX6_readWar_48 rfl ?_
      refine M_getR (pc := 49) dX6_readWar_49 f_X6_12 at_6 (gc_138_5 hp).1 ?_
      refine M_getIs (pc := 52) (x := r7.1) dX6_readWar_52 f_X6_75 (gc_138_5 hp).2 rd_eq ?_
      refine M_iconst (pc := 55) (v := -1) dX6_readWar_55 (by decide) ?_
      refine M_icmp_eq (pc := 56) (tgt := 63) dX6_readWar_56 (by decide) (fun hc9 => ?_) (fun hc9 => ?_)
      · have h := (if_pos hc9).symm.trans h
        refine M_iconst (pc := 63) (v := 0) dX6_readWar_63 (by decide) ?_
        obtain rfl := Option.some.inj h
        exact M_iret (pc := 64) dX6_readWar_64 rfl rfl rfl rfl
      · have h := (if_neg hc9).symm.trans h
        refine M_iconst (pc := 59) (v := 1) dX6_readWar_59 (by decide) ?_
        refine M_goto (pc := 60) (tgt := 64) dX6_readWar_60 (by decide) ?_
        obtain rfl := Option.some.inj h
        exact M_iret (pc := 64) dX6_readWar_64 rfl rfl rfl rfl
    · have h := (if_pos hc6).symm.trans h
      refine M_iconst (pc := 23) (v := 0) dX6_readWar_23 (by decide) ?_
      obtain rfl := Option.some.inj h
      exact M_iret (pc := 24) dX6_readWar_24 rfl rfl rfl rfl
def F_X6_readFirst (I : HI) : Option (Int32 × HI) :=
  (F_X10_numberBehind I 138 (0 : Int32) (999 : Int32)) >>= fun r1 => if r1.1 = (-1 : Int32) then some ((0 : Int32), r1.2) else (F_X10_isWord r1.2 138 48) >>= fun r4 => if r4 = 0 then some ((0 : Int32), r1.2) else (F_X10_numberBehind r1.2 138 (0 : Int32) (7 : Int32)) >>= fun r7 => if r7.1 = (-1 : Int32) then some ((0 : Int32), r7.2) else (F_X10_isWord r7.2 138 49) >>= fun r10 => if r10 = 0 then (F_X1_add r7.2 141 r1.1 r7.1 (-1 : Int32)) >>= fun r13 => some ((1 : Int32), r13) else (F_X10_numberBehind r7.2 138 (0 : Int32) (7 : Int32)) >>= fun r15 => if r15.1 = (-1 : Int32) then some ((0 : Int32), r15.2) else (F_X1_add r15.2 141 r1.1 r7.1 r15.1) >>= fun r18 => some ((1 : Int32), r18)
set_option maxRecDepth 4000 in
set_option maxHeartbeats 4000000 in
theorem C_X6_readFirst {g : gX} {d : Nat} {P : Nat → Nat → Option Nat} {I : HI} {J : HJ} (hp : Wp P) (hx : P 138 0 = some 2) {r : Int32 × HI} (h : F_X6_readFirst I = some r) : Cm g mX6_readFirst (d + 5) [.ref 138] (NT, I, J, P) (some (.int r.1)) (NT, r.2, J, P) := by
  unfold F_X6_readFirst at h
  refine Cm.of (by decide) (by simp [Value.category]) (Nat.le_of_ble_eq_true rfl) (Nat.le_refl _) (ls := [some (.ref 138), none, none, none]) rfl ?_
  refine M_aload_n (pc := 0) dX6_readFirst_0 rfl ?_
  refine M_iconst (pc := 1) (v := 0) dX6_readFirst_1 (by decide) ?_
  refine M_sipush (pc := 2) (v := 999) dX6_readFirst_2 (by decide) ?_
  obtain ⟨r1, hr2, h⟩ := bnd h
  refine M_callUi (pc := 5) dX6_readFirst_5 u_X6_45 rfl rfl at_6 (Nat.le_of_ble_eq_true rfl) (C_X10_numberBehind (d := d + 2) hp at_6 (Or.inr rfl) hx hr2) (Nat.le_refl _) ?_
  refine M_istore_n (pc := 8) (ls' := [some (.ref 138), some (.int r1.1), none, none]) dX6_readFirst_8 (by decide) rfl ?_
  refine M_iload_n (pc := 9) dX6_readFirst_9 rfl ?_
  refine M_iconst (pc := 10) (v := -1) dX6_readFirst_10 (by decide) ?_
  refine M_icmp_eq (pc := 11) (tgt := 23) dX6_readFirst_11 (by decide) (fun hc3 => ?_) (fun hc3 => ?_)
  · have h := (if_pos hc3).symm.trans h
    refine M_iconst (pc := 23) (v := 0) dX6_readFirst_23 (by decide) ?_
    obtain rfl := Option.some.inj h
    exact M_iret (pc := 24) dX6_readFirst_24 rfl rfl rfl rfl
  · have h := (if_neg hc3).symm.trans h
    refine M_aload_n (pc := 14) dX6_readFirst_14 rfl ?_
    refine M_ldcS (pc := 15) (j := 48) dX6_readFirst_15 (by decide) str_X6_102 ?_
    obtain ⟨r4, hr5, h⟩ := bnd h
    refine M_callUi (pc := 17) dX6_readFirst_17 u_X6_20 rfl rfl at_6 (Nat.le_of_ble_eq_true rfl) (C_X10_isWord (d := d + 0) hp at_6 (Or.inr rfl) hx (by decide) hr5) (Nat.le_refl _) ?_
    refine M_if_ne (pc := 20) (tgt := 25) dX6_readFirst_20 (by decide) (fun hc6 => ?_) (fun hc6 => ?_)
    · have h := (if_neg hc6).symm.trans h
      refine M_aload_n (pc := 25) dX6_readFirst_25 rfl ?_
      refine M_iconst (pc := 26) (v := 0) dX6_readFirst_26 (by decide) ?_
      refine M_bipush (pc := 27) (v := 7) dX6_readFirst_27 (by decide) ?_
      obtain ⟨r7, hr8, h⟩ := bnd h
      refine M_callUi (pc := 29) dX6_readFirst_29 u_X6_45 rfl rfl at_6 (Nat.le_of_ble_eq_true rfl) (C_X10_numberBehind (d := d + 2) hp at_6 (Or.inr rfl) hx hr8) (Nat.le_refl _) ?_
      refine M_istore_n (pc := 32) (ls' := [some (.ref 138), some (.int r1.1), some (.int r7.1), none]) dX6_readFirst_32 (by decide) rfl ?_
      refine M_iload_n (pc := 33) dX6_readFirst_33 rfl ?_
      refine M_iconst (pc := 34) (v := -1) dX6_readFirst_34 (by decide) ?_
      refine M_icmp_ne (pc := 35) (tgt := 40) dX6_readFirst_35 (by decide) (fun hc9 => ?_) (fun hc9 => ?_)
      · have h := (if_neg hc9).symm.trans h
        refine M_iconst (pc := 40) (v := -1) dX6_readFirst_40 (by decide) ?_
        refine M_istore_n (pc := 41) (ls' := [some (.ref 138), some (.int r1.1), some (.int r7.1), some (.int (-1 : Int32))]) dX6_readFirst_41 (by decide) rfl ?_
        refine M_aload_n (pc := 42) dX6_readFirst_42 rfl ?_
        refine M_ldcS (pc := 43) (j := 49) dX6_readFirst_43 (by decide) str_X6_103 ?_
        obtain ⟨r10, hr11, h⟩ := bnd h
        refine M_callUi (pc := 45) dX6_readFirst_45 u_X6_20 rfl rfl at_6 (Nat.le_of_ble_eq_true rfl) (C_X10_isWord (d := d + 0) hp at_6 (Or.inr rfl) hx (by decide) hr11) (Nat.le_refl _) ?_
        refine M_if_eq (pc := 48) (tgt := 66) dX6_readFirst_48 (by decide) (fun hc12 => ?_) (fun hc12 => ?_)
        · have h := (if_pos hc12).symm.trans h
          refine M_aload_n (pc := 66) dX6_readFirst_66 rfl ?_
          refine M_getR (pc := 67) dX6_readFirst_67 f_X6_12 at_6 (gc_138_5 hp).1 ?_
          refine M_getR (pc := 70) dX6_readFirst_70 f_X6_24 (gc_138_5 hp).2 (gc_140_0 hp).1 ?_
          refine M_iload_n (pc := 73) dX6_readFirst_73 rfl ?_
          refine M_iload_n (pc := 74) dX6_readFirst_74 rfl ?_
          refine M_iload_n (pc := 75) dX6_readFirst_75 rfl ?_
          obtain ⟨r13, hr14, h⟩ := bnd h
          refine M_callVv (pc := 76) dX6_readFirst_76 v_X6_98 rfl rfl (gc_140_0 hp).2 (Nat.le_of_ble_eq_true rfl) (C_X1_add (d := d + 2) hp (gc_140_0 hp).2 hr14) (Nat.le_refl _) ?_
          refine M_iconst (pc := 79) (v := 1) dX6_readFirst_79 (by decide) ?_
          obtain rfl := Option.some.inj h
          exact M_iret (pc := 80) dX6_readFirst_80 rfl rfl rfl rfl
        · have h := (if_neg hc12).symm.trans h
          refine M_aload_n (pc := 51) dX6_readFirst_51 rfl ?_
          refine M_iconst (pc := 52) (v := 0) dX6_readFirst_52 (by decide) ?_
          refine M_bipush (pc := 53) (v := 7) dX6_readFirst_53 (by decide) ?_
          obtain ⟨r15, hr16, h⟩ := bnd h
          refine M_callUi (pc := 55) dX6_readFirst_55 u_X6_45 rfl rfl at_6 (Nat.le_of_ble_eq_true rfl) (C_X10_numberBehind (d := d + 2) hp at_6 (Or.inr rfl) hx hr16) (Nat.le_refl _) ?_
          refine M_istore_n (pc := 58) (ls' := [some (.ref 138), some (.int r1.1), some (.int r7.1), some (.int r15.1)]) dX6_readFirst_58 (by decide) rfl ?_
          refine M_iload_n (pc := 59) dX6_readFirst_59 rfl ?_
          refine M_iconst (pc := 60) (v := -1) dX6_readFirst_60 (by decide) ?_
          refine M_icmp_ne (pc := 61) (tgt := 66) dX6_readFirst_61 (by decide) (fun hc17 => ?_) (fun hc17 => ?_)
          · have h := (if_neg hc17).symm.trans h
            refine M_aload_n (pc := 66) dX6_readFirst_66 rfl ?_
            refine M_getR (pc := 67) dX6_readFirst_67 f_X6_12 at_6 (gc_138_5 hp).1 ?_
            refine M_getR (pc := 70) dX6_readFirst_70 f_X6_24 (gc_138_5 hp).2 (gc_140_0 hp).1 ?_
            refine M_iload_n (pc := 73) dX6_readFirst_73 rfl ?_
            refine M_iload_n (pc := 74) dX6_readFirst_74 rfl ?_
            refine M_iload_n (pc := 75) dX6_readFirst_75 rfl ?_
            obtain ⟨r18, hr19, h⟩ := bnd h
            refine M_callVv (pc := 76) dX6_readFirst_76 v_X6_98 rfl rfl (gc_140_0 hp).2 (Nat.le_of_ble_eq_true rfl) (C_X1_add (d := d + 2) hp (gc_140_0 hp).2 hr19) (Nat.le_refl _) ?_
            refine M_iconst (pc := 79) (v := 1) dX6_readFirst_79 (by decide) ?_
            obtain rfl := Option.some.inj h
            exact M_iret (pc := 80) dX6_readFirst_80 rfl rfl rfl rfl
          · have h := (if_pos hc17).symm.trans h
            refine M_iconst (pc := 64) (v := 0) dX6_readFirst_64 (by decide) ?_
            obtain rfl := Option.some.inj h
            exact M_iret (pc := 65) dX6_readFirst_65 rfl rfl rfl rfl
      · have h := (if_pos hc9).symm.trans h
        refine M_iconst (pc := 38) (v := 0) dX6_readFirst_38 (by decide) ?_
        obtain rfl := Option.some.inj h
        exact M_iret (pc := 39) dX6_readFirst_39 rfl rfl rfl rfl
    · have h := (if_pos hc6).symm.trans h
      refine M_iconst (pc := 23) (v := 0) dX6_readFirst_23 (by decide) ?_
      obtain rfl := Option.some.inj h
      exact M_iret (pc := 24) dX6_readFirst_24 rfl rfl rfl rfl
def L_X4_weigh_2 (a : Nat) (x2 : Int32) (I : HI) : Option (HI) :=
  if (I a 0) ≤ x2 then some I else if (12 : Int32) ≤ x2 then some I else (F_X4_holds I a x2) >>= fun r3 => if r3.1 = 0 then L_X4_weigh_2 a (x2 + (1 : Int32)) r3.2 else (ald 12 (r3.2 (a + 1)) x2) >>= fun v6 => if v6 = (2 : Int32) then (ald 12 (r3.2 (a + 2)) x2) >>= fun v16 => L_X4_weigh_2 a (x2 + (1 : Int32)) (up2 r3.2 136 2 ((r3.2 136 2) + v16)) else (ald 12 (r3.2 (a + 1)) x2) >>= fun v9 => if v9 = 0 then (ald 12 (r3.2 (a + 2)) x2) >>= fun v14 => L_X4_weigh_2 a (x2 + (1 : Int32)) (up2 r3.2 136 1 ((r3.2 136 1) + v14)) else (ald 12 (r3.2 (a + 2)) x2) >>= fun v12 => L_X4_weigh_2 a (x2 + (1 : Int32)) (up2 r3.2 136 1 ((r3.2 136 1) + (-v12)))
partial_fixpoint
def F_X4_weigh (I : HI) (a : Nat) : Option (HI) :=
  L_X4_weigh_2 a (0 : Int32) I
set_option maxRecDepth 4000 in
set_option maxHeartbeats 4000000 in
theorem LC_X4_weigh_2 {g : gX} {d : Nat} {P : Nat → Nat → Option Nat} {J : HJ} {a : Nat} (hp : Wp P) (ha : OB NT a 4) : ∀ (x2 : Int32) (I : HI) (r : HI), L_X4_weigh_2 a x2 I = some r → M g mX4_weigh (d + 3) (NT, NT, 0) ((.inl none), (NT, r, J, P)) 2 [some (.ref a), some (.ref 136), some (.int x2)] [] (NT, I, J, P) := by
  refine L_X4_weigh_2.partial_correctness a (fun x2 I r => M g mX4_weigh (d + 3) (NT, NT, 0) ((.inl none), (NT, r, J, P)) 2 [some (.ref a), some (.ref 136), some (.int x2)] [] (NT, I, J, P)) ?_
  intro f ih x2 I r h
  refine M_iload_n (pc := 2) dX4_weigh_2 rfl ?_
  refine M_aload_n (pc := 3) dX4_weigh_3 rfl ?_
  refine M_getI (pc := 4) dX4_weigh_4 f_X4_9 ha ?_
  refine M_icmp_ge (pc := 7) (tgt := 93) dX4_weigh_7 (by decide) (fun hc1 => ?_) (fun hc1 => ?_)
  · have h := (if_pos hc1).symm.trans h
    obtain rfl := Option.some.inj h
    exact M_vret (pc := 93) dX4_weigh_93 rfl rfl rfl
  · have h := (if_neg hc1).symm.trans h
    refine M_iload_n (pc := 10) dX4_weigh_10 rfl ?_
    refine M_bipush (pc := 11) (v := 12) dX4_weigh_11 (by decide) ?_
    refine M_icmp_ge (pc := 13) (tgt := 93) dX4_weigh_13 (by decide) (fun hc2 => ?_) (fun hc2 => ?_)
    · have h := (if_pos hc2).symm.trans h
      obtain rfl := Option.some.inj h
      exact M_vret (pc := 93) dX4_weigh_93 rfl rfl rfl
    · have h := (if_neg hc2).symm.trans h
      refine M_aload_n (pc := 16) dX4_weigh_16 rfl ?_
      refine M_iload_n (pc := 17) dX4_weigh_17 rfl ?_
      refine M_aload_n (pc := 18) dX4_weigh_18 rfl ?_
      obtain ⟨r3, hr4, h⟩ := bnd h
      refine M_callVi (pc := 19) dX4_weigh_19 v_X4_34 rfl rfl ha (Nat.le_of_ble_eq_true rfl) (C_X4_holds (d := d + 0) hp ha hr4) (Nat.le_refl _) ?_
      refine M_if_eq (pc := 22) (tgt := 87) dX4_weigh_22 (by decide) (fun hc5 => ?_) (fun hc5 => ?_)
      · have h := (if_pos hc5).symm.trans h
        refine M_iinc (pc := 87) (v := (x2 + (1 : Int32))) (ls' := [some (.ref a), some (.ref 136), some (.int (x2 + (1 : Int32)))]) dX4_weigh_87 rfl rfl (by decide) rfl ?_
        refine M_goto (pc := 90) (tgt := 2) dX4_weigh_90 (by decide) ?_
        exact ih (x2 + (1 : Int32)) r3.2 _ h
      · have h := (if_neg hc5).symm.trans h
        refine M_aload_n (pc := 25) dX4_weigh_25 rfl ?_
        refine M_getR (pc := 26) dX4_weigh_26 f_X4_15 ha (gr_4_1 hp ha).1 ?_
        refine M_iload_n (pc := 29) dX4_weigh_29 rfl ?_
        obtain ⟨v6, hv7, h⟩ := bnd h
        refine M_aldI (pc := 30) dX4_weigh_30 (gr_4_1 hp ha).2 hv7 ?_
        refine M_iconst (pc := 31) (v := 2) dX4_weigh_31 (by decide) ?_
        refine M_icmp_ne (pc := 32) (tgt := 53) dX4_weigh_32 (by decide) (fun hc8 => ?_) (fun hc8 => ?_)
        · have h := (if_neg hc8).symm.trans h
          refine M_aload_n (pc := 53) dX4_weigh_53 rfl ?_
          refine M_dup (pc := 54) dX4_weigh_54 rfl ?_
          refine M_getI (pc := 55) dX4_weigh_55 f_X4_43 at_9 ?_
          refine M_aload_n (pc := 58) dX4_weigh_58 rfl ?_
          refine M_getR (pc := 59) dX4_weigh_59 f_X4_15 ha (gr_4_1 hp ha).1 ?_
          refine M_iload_n (pc := 62) dX4_weigh_62 rfl ?_
          obtain ⟨v9, hv10, h⟩ := bnd h
          refine M_aldI (pc := 63) dX4_weigh_63 (gr_4_1 hp ha).2 hv10 ?_
          refine M_if_ne (pc := 64) (tgt := 76) dX4_weigh_64 (by decide) (fun hc11 => ?_) (fun hc11 => ?_)
          · have h := (if_neg hc11).symm.trans h
            refine M_aload_n (pc := 76) dX4_weigh_76 rfl ?_
            refine M_getR (pc := 77) dX4_weigh_77 f_X4_19 ha (gr_4_2 hp ha).1 ?_
            refine M_iload_n (pc := 80) dX4_weigh_80 rfl ?_
            obtain ⟨v12, hv13, h⟩ := bnd h
            refine M_aldI (pc := 81) dX4_weigh_81 (gr_4_2 hp ha).2 hv13 ?_
            refine M_ineg (pc := 82) dX4_weigh_82 ?_
            refine M_iadd (pc := 83) dX4_weigh_83 ?_
            refine M_putI (pc := 84) dX4_weigh_84 f_X4_43 at_9 rfl ⟨rfl, rfl⟩ ?_
            refine M_iinc (pc := 87) (v := (x2 + (1 : Int32))) (ls' := [some (.ref a), some (.ref 136), some (.int (x2 + (1 : Int32)))]) dX4_weigh_87 rfl rfl (by decide) rfl ?_
            refine M_goto (pc := 90) (tgt := 2) dX4_weigh_90 (by decide) ?_
            exact ih (x2 + (1 : Int32)) (up2 r3.2 136 1 ((r3.2 136 1) + (-v12))) _ h
          · have h := (if_pos hc11).symm.trans h
            refine M_aload_n (pc := 67) dX4_weigh_67 rfl ?_
            refine M_getR (pc := 68) dX4_weigh_68 f_X4_19 ha (gr_4_2 hp ha).1 ?_
            refine M_iload_n (pc := 71) dX4_weigh_71 rfl ?_
            obtain ⟨v14, hv15, h⟩ := bnd h
            refine M_aldI (pc := 72) dX4_weigh_72 (gr_4_2 hp ha).2 hv15 ?_
            refine M_goto (pc := 73) (tgt := 83) dX4_weigh_73 (by decide) ?_
            refine M_iadd (pc := 83) dX4_weigh_83 ?_
            refine M_putI (pc := 84) dX4_weigh_84 f_X4_43 at_9 rfl ⟨rfl, rfl⟩ ?_
            refine M_iinc (pc := 87) (v := (x2 + (1 : Int32))) (ls' := [some (.ref a), some (.ref 136), some (.int (x2 + (1 : Int32)))]) dX4_weigh_87 rfl rfl (by decide) rfl ?_
            refine M_goto (pc := 90) (tgt := 2) dX4_weigh_90 (by decide) ?_
            exact ih (x2 + (1 : Int32)) (up2 r3.2 136 1 ((r3.2 136 1) + v14)) _ h
        · have h := (if_pos hc8).symm.trans h
          refine M_aload_n (pc := 35) dX4_weigh_35 rfl ?_
          refine M_dup (pc := 36) dX4_weigh_36 rfl ?_
          refine M_getI (pc := 37) dX4_weigh_37 f_X4_38 at_9 ?_
          refine M_aload_n (pc := 40) dX4_weigh_40 rfl ?_
          refine M_getR (pc := 41) dX4_weigh_41 f_X4_19 ha (gr_4_2 hp ha).1 ?_
          refine M_iload_n (pc := 44) dX4_weigh_44 rfl ?_
          obtain ⟨v16, hv17, h⟩ := bnd h
          refine M_aldI (pc := 45) dX4_weigh_45 (gr_4_2 hp ha).2 hv17 ?_
          refine M_iadd (pc := 46) dX4_weigh_46 ?_
          refine M_putI (pc := 47) dX4_weigh_47 f_X4_38 at_9 rfl ⟨rfl, rfl⟩ ?_
          refine M_goto (pc := 50) (tgt := 87) dX4_weigh_50 (by decide) ?_
          refine M_iinc (pc := 87) (v := (x2 + (1 : Int32))) (ls' := [some (.ref a), some (.ref 136), some (.int (x2 + (1 : Int32)))]) dX4_weigh_87 rfl rfl (by decide) rfl ?_
          refine M_goto (pc := 90) (tgt := 2) dX4_weigh_90 (by decide) ?_
          exact ih (x2 + (1 : Int32)) (up2 r3.2 136 2 ((r3.2 136 2) + v16)) _ h
set_option maxRecDepth 4000 in
set_option maxHeartbeats 4000000 in
theorem C_X4_weigh {g : gX} {d : Nat} {P : Nat → Nat → Option Nat} {I : HI} {a : Nat} {J : HJ} (hp : Wp P) (ha : OB NT a 4) {r : HI} (h : F_X4_weigh I a = some r) : Cm g mX4_weigh (d + 3) [.ref a, .ref 136] (NT, I, J, P) none (NT, r, J, P) := by
  unfold F_X4_weigh at h
  refine Cm.of (by decide) (by simp [Value.category]) (Nat.le_of_ble_eq_true rfl) (Nat.le_refl _) (ls := [some (.ref a), some (.ref 136), none]) rfl ?_
  refine M_iconst (pc := 0) (v := 0) dX4_weigh_0 (by decide) ?_
  refine M_istore_n (pc := 1) (ls' := [some (.ref a), some (.ref 136), some (.int (0 : Int32))]) dX4_weigh_1 (by decide) rfl ?_
  exact LC_X4_weigh_2 (P := P) hp ha (0 : Int32) I _ h
def F_X5_readComparison (I : HI) : Option (Int32 × HI) :=
  (F_X5_readSum I) >>= fun r1 => if r1.1 = 0 then some ((0 : Int32), r1.2) else (F_X10_isSign r1.2 146 (60 : Int32)) >>= fun r4 => if r4 = 0 then (F_X10_isSign r1.2 146 (62 : Int32)) >>= fun r17 => if r17 = 0 then some ((0 : Int32), r1.2) else (F_X10_advance r1.2 146) >>= fun r20 => (F_X5_readSum r20) >>= fun r22 => if r22.1 = 0 then some ((0 : Int32), r22.2) else if r4 = 0 then (F_X4_add r22.2 148 (1012 : Int32)) >>= fun r26 => some ((1 : Int32), r26) else (F_X4_add r22.2 148 (1011 : Int32)) >>= fun r28 => some ((1 : Int32), r28) else (F_X10_advance r1.2 146) >>= fun r7 => (F_X5_readSum r7) >>= fun r9 => if r9.1 = 0 then some ((0 : Int32), r9.2) else if r4 = 0 then (F_X4_add r9.2 148 (1012 : Int32)) >>= fun r13 => some ((1 : Int32), r13) else (F_X4_add r9.2 148 (1011 : Int32)) >>= fun r15 => some ((1 : Int32), r15)
set_option maxRecDepth 4000 in
set_option maxHeartbeats 4000000 in
theorem C_X5_readComparison {g : gX} {d : Nat} {P : Nat → Nat → Option Nat} {I : HI} {J : HJ} (hp : Wp P) (hx : P 146 0 = some 2) {r : Int32 × HI} (h : F_X5_readComparison I = some r) : Cm g mX5_readComparison (d + 7) [.ref 146] (NT, I, J, P) (some (.int r.1)) (NT, r.2, J, P) := by
  unfold F_X5_readComparison at h
  refine Cm.of (by decide) (by simp [Value.category]) (Nat.le_of_ble_eq_true rfl) (Nat.le_refl _) (ls := [some (.ref 146), none]) rfl ?_
  refine M_aload_n (pc := 0) dX5_readComparison_0 rfl ?_
  obtain ⟨r1, hr2, h⟩ := bnd h
  refine M_callVi (pc := 1) dX5_readComparison_1 v_X5_106 rfl rfl at_5 (Nat.le_of_ble_eq_true rfl) (C_X5_readSum (d := d + 0) hp hx hr2) (Nat.le_refl _) ?_
  refine M_if_ne (pc := 4) (tgt := 9) dX5_readComparison_4 (by decide) (fun hc3 => ?_) (fun hc3 => ?_)
  · have h := (if_neg hc3).symm.trans h
    refine M_aload_n (pc := 9) dX5_readComparison_9 rfl ?_
    refine M_bipush (pc := 10) (v := 60) dX5_readComparison_10 (by decide) ?_
    obtain ⟨r4, hr5, h⟩ := bnd h
    refine M_callUi (pc := 12) dX5_readComparison_12 u_X5_84 rfl rfl at_5 (Nat.le_of_ble_eq_true rfl) (C_X10_isSign (d := d + 6) hp at_5 (Or.inl rfl) hx hr5) (Nat.le_refl _) ?_
    refine M_istore_n (pc := 15) (ls' := [some (.ref 146), some (.int r4)]) dX5_readComparison_15 (by decide) rfl ?_
    refine M_iload_n (pc := 16) dX5_readComparison_16 rfl ?_
    refine M_if_ne (pc := 17) (tgt := 31) dX5_readComparison_17 (by decide) (fun hc6 => ?_) (fun hc6 => ?_)
    · have h := (if_neg hc6).symm.trans h
      refine M_aload_n (pc := 31) dX5_readComparison_31 rfl ?_
      obtain ⟨r7, hr8, h⟩ := bnd h
      refine M_callUv (pc := 32) dX5_readComparison_32 u_X5_43 rfl rfl at_5 (Nat.le_of_ble_eq_true rfl) (C_X10_advance (d := d + 5) hp at_5 (Or.inl rfl) hx hr8) (Nat.le_refl _) ?_
      refine M_aload_n (pc := 35) dX5_readComparison_35 rfl ?_
      obtain ⟨r9, hr10, h⟩ := bnd h
      refine M_callVi (pc := 36) dX5_readComparison_36 v_X5_106 rfl rfl at_5 (Nat.le_of_ble_eq_true rfl) (C_X5_readSum (d := d + 0) hp hx hr10) (Nat.le_refl _) ?_
      refine M_if_ne (pc := 39) (tgt := 44) dX5_readComparison_39 (by decide) (fun hc11 => ?_) (fun hc11 => ?_)
      · have h := (if_neg hc11).symm.trans h
        refine M_aload_n (pc := 44) dX5_readComparison_44 rfl ?_
        refine M_getR (pc := 45) dX5_readComparison_45 f_X5_14 at_5 (gc_146_5 hp).1 ?_
        refine M_iload_n (pc := 48) dX5_readComparison_48 rfl ?_
        refine M_if_eq (pc := 49) (tgt := 58) dX5_readComparison_49 (by decide) (fun hc12 => ?_) (fun hc12 => ?_)
        · have h := (if_pos hc12).symm.trans h
          refine M_sipush (pc := 58) (v := 1012) dX5_readComparison_58 (by decide) ?_
          obtain ⟨r13, hr14, h⟩ := bnd h
          refine M_callVv (pc := 61) dX5_readComparison_61 v_X5_92 rfl rfl (gc_146_5 hp).2 (Nat.le_of_ble_eq_true rfl) (C_X4_add (d := d + 6) hp (gc_146_5 hp).2 hr14) (Nat.le_refl _) ?_
          refine M_iconst (pc := 64) (v := 1) dX5_readComparison_64 (by decide) ?_
          obtain rfl := Option.some.inj h
          exact M_iret (pc := 65) dX5_readComparison_65 rfl rfl rfl rfl
        · have h := (if_neg hc12).symm.trans h
          refine M_sipush (pc := 52) (v := 1011) dX5_readComparison_52 (by decide) ?_
          refine M_goto (pc := 55) (tgt := 61) dX5_readComparison_55 (by decide) ?_
          obtain ⟨r15, hr16, h⟩ := bnd h
          refine M_callVv (pc := 61) dX5_readComparison_61 v_X5_92 rfl rfl (gc_146_5 hp).2 (Nat.le_of_ble_eq_true rfl) (C_X4_add (d := d + 6) hp (gc_146_5 hp).2 hr16) (Nat.le_refl _) ?_
          refine M_iconst (pc := 64) (v := 1) dX5_readComparison_64 (by decide) ?_
          obtain rfl := Option.some.inj h
          exact M_iret (pc := 65) dX5_readComparison_65 rfl rfl rfl rfl
      · have h := (if_pos hc11).symm.trans h
        refine M_iconst (pc := 42) (v := 0) dX5_readComparison_42 (by decide) ?_
        obtain rfl := Option.some.inj h
        exact M_iret (pc := 43) dX5_readComparison_43 rfl rfl rfl rfl
    · have h := (if_pos hc6).symm.trans h
      refine M_aload_n (pc := 20) dX5_readComparison_20 rfl ?_
      refine M_bipush (pc := 21) (v := 62) dX5_readComparison_21 (by decide) ?_
      obtain ⟨r17, hr18, h⟩ := bnd h
      refine M_callUi (pc := 23) dX5_readComparison_23 u_X5_84 rfl rfl at_5 (Nat.le_of_ble_eq_true rfl) (C_X10_isSign (d := d + 6) hp at_5 (Or.inl rfl) hx hr18) (Nat.le_refl _) ?_
      refine M_if_ne (pc := 26) (tgt := 31) dX5_readComparison_26 (by decide) (fun hc19 => ?_) (fun hc19 => ?_)
      · have h := (if_neg hc19).symm.trans h
        refine M_aload_n (pc := 31) dX5_readComparison_31 rfl ?_
        obtain ⟨r20, hr21, h⟩ := bnd h
        refine M_callUv (pc := 32) dX5_readComparison_32 u_X5_43 rfl rfl at_5 (Nat.le_of_ble_eq_true rfl) (C_X10_advance (d := d + 5) hp at_5 (Or.inl rfl) hx hr21) (Nat.le_refl _) ?_
        refine M_aload_n (pc := 35) dX5_readComparison_35 rfl ?_
        obtain ⟨r22, hr23, h⟩ := bnd h
        refine M_callVi (pc := 36) dX5_readComparison_36 v_X5_106 rfl rfl at_5 (Nat.le_of_ble_eq_true rfl) (C_X5_readSum (d := d + 0) hp hx hr23) (Nat.le_refl _) ?_
        refine M_if_ne (pc := 39) (tgt := 44) dX5_readComparison_39 (by decide) (fun hc24 => ?_) (fun hc24 => ?_)
        · have h := (if_neg hc24).symm.trans h
          refine M_aload_n (pc := 44) dX5_readComparison_44 rfl ?_
          refine M_getR (pc := 45) dX5_readComparison_45 f_X5_14 at_5 (gc_146_5 hp).1 ?_
          refine M_iload_n (pc := 48) dX5_readComparison_48 rfl ?_
          refine M_if_eq (pc := 49) (tgt := 58) dX5_readComparison_49 (by decide) (fun hc25 => ?_) (fun hc25 => ?_)
          · have h := (if_pos hc25).symm.trans h
            refine M_sipush (pc := 58) (v := 1012) dX5_readComparison_58 (by decide) ?_
            obtain ⟨r26, hr27, h⟩ := bnd h
            refine M_callVv (pc := 61) dX5_readComparison_61 v_X5_92 rfl rfl (gc_146_5 hp).2 (Nat.le_of_ble_eq_true rfl) (C_X4_add (d := d + 6) hp (gc_146_5 hp).2 hr27) (Nat.le_refl _) ?_
            refine M_iconst (pc := 64) (v := 1) dX5_readComparison_64 (by decide) ?_
            obtain rfl := Option.some.inj h
            exact M_iret (pc := 65) dX5_readComparison_65 rfl rfl rfl rfl
          · have h := (if_neg hc25).symm.trans h
            refine M_sipush (pc := 52) (v := 1011) dX5_readComparison_52 (by decide) ?_
            refine M_goto (pc := 55) (tgt := 61) dX5_readComparison_55 (by decide) ?_
            obtain ⟨r28, hr29, h⟩ := bnd h
            refine M_callVv (pc := 61) dX5_readComparison_61 v_X5_92 rfl rfl (gc_146_5 hp).2 (Nat.le_of_ble_eq_true rfl) (C_X4_add (d := d + 6) hp (gc_146_5 hp).2 hr29) (Nat.le_refl _) ?_
            refine M_iconst (pc := 64) (v := 1) dX5_readComparison_64 (by decide) ?_
            obtain rfl := Option.some.inj h
            exact M_iret (pc := 65) dX5_readComparison_65 rfl rfl rfl rfl
        · have h := (if_pos hc24).symm.trans h
          refine M_iconst (pc := 42) (v := 0) dX5_readComparison_42 (by decide) ?_
          obtain rfl := Option.some.inj h
          exact M_iret (pc := 43) dX5_readComparison_43 rfl rfl rfl rfl
      · have h := (if_pos hc19).symm.trans h
        refine M_iconst (pc := 29) (v := 0) dX5_readComparison_29 (by decide) ?_
        obtain rfl := Option.some.inj h
        exact M_iret (pc := 30) dX5_readComparison_30 rfl rfl rfl rfl
  · have h := (if_pos hc3).symm.trans h
    refine M_iconst (pc := 7) (v := 0) dX5_readComparison_7 (by decide) ?_
    obtain rfl := Option.some.inj h
    exact M_iret (pc := 8) dX5_readComparison_8 rfl rfl rfl rfl
def L_X6_readDish_29 (x1 : Int32) (x2 : Int32) (I : HI) : Option (Int32 × HI) :=
  if (5 : Int32) ≤ x2 then (F_X10_advance I 138) >>= fun r7 => (F_X10_isWord r7 138 47) >>= fun r9 => if r9 = 0 then (F_X1_add r7 141 (-1 : Int32) (-1 : Int32) (-1 : Int32)) >>= fun r12 => some ((1 : Int32), r12) else (F_X6_readFirst r7) >>= fun r14 => if r14.1 = 0 ∨ r14.1 = 1 then some (r14.1, r14.2) else none else if (60 : Int32) ≤ (x1 + x2) then (F_X10_advance I 138) >>= fun r18 => (F_X10_isWord r18 138 47) >>= fun r20 => if r20 = 0 then (F_X1_add r18 141 (-1 : Int32) (-1 : Int32) (-1 : Int32)) >>= fun r23 => some ((1 : Int32), r23) else (F_X6_readFirst r18) >>= fun r25 => if r25.1 = 0 ∨ r25.1 = 1 then some (r25.1, r25.2) else none else (F_X10_figure I 138 x2) >>= fun r28 => if inB (x1 + x2) 60 = true then L_X6_readDish_29 x1 (x2 + (1 : Int32)) (up2 I 142 ((x1 + x2)).toNatClampNeg r28) else none
partial_fixpoint
def F_X6_readDish (I : HI) : Option (Int32 × HI) :=
  (F_X10_advance I 138) >>= fun r1 => (F_X10_isFigures r1 138 (5 : Int32)) >>= fun r3 => if r3 = 0 then some ((0 : Int32), r1) else L_X6_readDish_29 ((r1 141 0) * (5 : Int32)) (0 : Int32) r1
set_option maxRecDepth 4000 in
set_option maxHeartbeats 4000000 in
theorem LC_X6_readDish_29 {g : gX} {d : Nat} {P : Nat → Nat → Option Nat} {J : HJ} {x1 : Int32} (hp : Wp P) (hx : P 138 0 = some 2) : ∀ (x2 : Int32) (I : HI) (r : Int32 × HI), L_X6_readDish_29 x1 x2 I = some r → M g mX6_readDish (d + 6) (NT, NT, 0) ((.inl (some (.int r.1))), (NT, r.2, J, P)) 29 [some (.ref 138), some (.int x1), some (.int x2)] [] (NT, I, J, P) := by
  refine L_X6_readDish_29.partial_correctness x1 (fun x2 I r => M g mX6_readDish (d + 6) (NT, NT, 0) ((.inl (some (.int r.1))), (NT, r.2, J, P)) 29 [some (.ref 138), some (.int x1), some (.int x2)] [] (NT, I, J, P)) ?_
  intro f ih x2 I r h
  refine M_iload_n (pc := 29) dX6_readDish_29 rfl ?_
  refine M_iconst (pc := 30) (v := 5) dX6_readDish_30 (by decide) ?_
  refine M_icmp_ge (pc := 31) (tgt := 67) dX6_readDish_31 (by decide) (fun hc6 => ?_) (fun hc6 => ?_)
  · have h := (if_pos hc6).symm.trans h
    refine M_aload_n (pc := 67) dX6_readDish_67 rfl ?_
    obtain ⟨r7, hr8, h⟩ := bnd h
    refine M_callUv (pc := 68) dX6_readDish_68 u_X6_78 rfl rfl at_6 (Nat.le_of_ble_eq_true rfl) (C_X10_advance (d := d + 4) hp at_6 (Or.inr rfl) hx hr8) (Nat.le_refl _) ?_
    refine M_aload_n (pc := 71) dX6_readDish_71 rfl ?_
    refine M_ldcS (pc := 72) (j := 47) dX6_readDish_72 (by decide) str_X6_93 ?_
    obtain ⟨r9, hr10, h⟩ := bnd h
    refine M_callUi (pc := 74) dX6_readDish_74 u_X6_20 rfl rfl at_6 (Nat.le_of_ble_eq_true rfl) (C_X10_isWord (d := d + 1) hp at_6 (Or.inr rfl) hx (by decide) hr10) (Nat.le_refl _) ?_
    refine M_if_eq (pc := 77) (tgt := 85) dX6_readDish_77 (by decide) (fun hc11 => ?_) (fun hc11 => ?_)
    · have h := (if_pos hc11).symm.trans h
      refine M_aload_n (pc := 85) dX6_readDish_85 rfl ?_
      refine M_getR (pc := 86) dX6_readDish_86 f_X6_12 at_6 (gc_138_5 hp).1 ?_
      refine M_getR (pc := 89) dX6_readDish_89 f_X6_24 (gc_138_5 hp).2 (gc_140_0 hp).1 ?_
      refine M_iconst (pc := 92) (v := -1) dX6_readDish_92 (by decide) ?_
      refine M_iconst (pc := 93) (v := -1) dX6_readDish_93 (by decide) ?_
      refine M_iconst (pc := 94) (v := -1) dX6_readDish_94 (by decide) ?_
      obtain ⟨r12, hr13, h⟩ := bnd h
      refine M_callVv (pc := 95) dX6_readDish_95 v_X6_98 rfl rfl (gc_140_0 hp).2 (Nat.le_of_ble_eq_true rfl) (C_X1_add (d := d + 3) hp (gc_140_0 hp).2 hr13) (Nat.le_refl _) ?_
      refine M_iconst (pc := 98) (v := 1) dX6_readDish_98 (by decide) ?_
      obtain rfl := Option.some.inj h
      exact M_iret (pc := 99) dX6_readDish_99 rfl rfl rfl rfl
    · have h := (if_neg hc11).symm.trans h
      refine M_aload_n (pc := 80) dX6_readDish_80 rfl ?_
      obtain ⟨r14, hr15, h⟩ := bnd h
      refine M_callVi (pc := 81) dX6_readDish_81 v_X6_95 rfl rfl at_6 (Nat.le_of_ble_eq_true rfl) (C_X6_readFirst (d := d + 0) hp hx hr15) (Nat.le_refl _) ?_
      obtain ⟨hq16, h⟩ := chk h
      obtain rfl := Option.some.inj h
      exact M_iret (pc := 84) dX6_readDish_84 rfl (by rcases hq16 with q | q <;> rw [q] <;> rfl) rfl rfl
  · have h := (if_neg hc6).symm.trans h
    refine M_iload_n (pc := 34) dX6_readDish_34 rfl ?_
    refine M_iload_n (pc := 35) dX6_readDish_35 rfl ?_
    refine M_iadd (pc := 36) dX6_readDish_36 ?_
    refine M_bipush (pc := 37) (v := 60) dX6_readDish_37 (by decide) ?_
    refine M_icmp_ge (pc := 39) (tgt := 67) dX6_readDish_39 (by decide) (fun hc17 => ?_) (fun hc17 => ?_)
    · have h := (if_pos hc17).symm.trans h
      refine M_aload_n (pc := 67) dX6_readDish_67 rfl ?_
      obtain ⟨r18, hr19, h⟩ := bnd h
      refine M_callUv (pc := 68) dX6_readDish_68 u_X6_78 rfl rfl at_6 (Nat.le_of_ble_eq_true rfl) (C_X10_advance (d := d + 4) hp at_6 (Or.inr rfl) hx hr19) (Nat.le_refl _) ?_
      refine M_aload_n (pc := 71) dX6_readDish_71 rfl ?_
      refine M_ldcS (pc := 72) (j := 47) dX6_readDish_72 (by decide) str_X6_93 ?_
      obtain ⟨r20, hr21, h⟩ := bnd h
      refine M_callUi (pc := 74) dX6_readDish_74 u_X6_20 rfl rfl at_6 (Nat.le_of_ble_eq_true rfl) (C_X10_isWord (d := d + 1) hp at_6 (Or.inr rfl) hx (by decide) hr21) (Nat.le_refl _) ?_
      refine M_if_eq (pc := 77) (tgt := 85) dX6_readDish_77 (by decide) (fun hc22 => ?_) (fun hc22 => ?_)
      · have h := (if_pos hc22).symm.trans h
        refine M_aload_n (pc := 85) dX6_readDish_85 rfl ?_
        refine M_getR (pc := 86) dX6_readDish_86 f_X6_12 at_6 (gc_138_5 hp).1 ?_
        refine M_getR (pc := 89) dX6_readDish_89 f_X6_24 (gc_138_5 hp).2 (gc_140_0 hp).1 ?_
        refine M_iconst (pc := 92) (v := -1) dX6_readDish_92 (by decide) ?_
        refine M_iconst (pc := 93) (v := -1) dX6_readDish_93 (by decide) ?_
        refine M_iconst (pc := 94) (v := -1) dX6_readDish_94 (by decide) ?_
        obtain ⟨r23, hr24, h⟩ := bnd h
        refine M_callVv (pc := 95) dX6_readDish_95 v_X6_98 rfl rfl (gc_140_0 hp).2 (Nat.le_of_ble_eq_true rfl) (C_X1_add (d := d + 3) hp (gc_140_0 hp).2 hr24) (Nat.le_refl _) ?_
        refine M_iconst (pc := 98) (v := 1) dX6_readDish_98 (by decide) ?_
        obtain rfl := Option.some.inj h
        exact M_iret (pc := 99) dX6_readDish_99 rfl rfl rfl rfl
      · have h := (if_neg hc22).symm.trans h
        refine M_aload_n (pc := 80) dX6_readDish_80 rfl ?_
        obtain ⟨r25, hr26, h⟩ := bnd h
        refine M_callVi (pc := 81) dX6_readDish_81 v_X6_95 rfl rfl at_6 (Nat.le_of_ble_eq_true rfl) (C_X6_readFirst (d := d + 0) hp hx hr26) (Nat.le_refl _) ?_
        obtain ⟨hq27, h⟩ := chk h
        obtain rfl := Option.some.inj h
        exact M_iret (pc := 84) dX6_readDish_84 rfl (by rcases hq27 with q | q <;> rw [q] <;> rfl) rfl rfl
    · have h := (if_neg hc17).symm.trans h
      refine M_aload_n (pc := 42) dX6_readDish_42 rfl ?_
      refine M_getR (pc := 43) dX6_readDish_43 f_X6_12 at_6 (gc_138_5 hp).1 ?_
      refine M_getR (pc := 46) dX6_readDish_46 f_X6_24 (gc_138_5 hp).2 (gc_140_0 hp).1 ?_
      refine M_getR (pc := 49) dX6_readDish_49 f_X6_85 (gc_140_0 hp).2 (gc_141_1 hp).1 ?_
      refine M_iload_n (pc := 52) dX6_readDish_52 rfl ?_
      refine M_iload_n (pc := 53) dX6_readDish_53 rfl ?_
      refine M_iadd (pc := 54) dX6_readDish_54 ?_
      refine M_aload_n (pc := 55) dX6_readDish_55 rfl ?_
      refine M_iload_n (pc := 56) dX6_readDish_56 rfl ?_
      obtain ⟨r28, hr29, h⟩ := bnd h
      refine M_callUi (pc := 57) dX6_readDish_57 u_X6_89 rfl rfl at_6 (Nat.le_of_ble_eq_true rfl) (C_X10_figure (d := d + 5) hp at_6 (Or.inr rfl) hx hr29) (Nat.le_refl _) ?_
      obtain ⟨hq30, h⟩ := chk h
      refine M_iast (pc := 60) dX6_readDish_60 (gc_141_1 hp).2 (inB_in hq30) ?_
      refine M_iinc (pc := 61) (v := (x2 + (1 : Int32))) (ls' := [some (.ref 138), some (.int x1), some (.int (x2 + (1 : Int32)))]) dX6_readDish_61 rfl rfl (by decide) rfl ?_
      refine M_goto (pc := 64) (tgt := 29) dX6_readDish_64 (by decide) ?_
      exact ih (x2 + (1 : Int32)) (up2 I 142 ((x1 + x2)).toNatClampNeg r28) _ h
set_option maxRecDepth 4000 in
set_option maxHeartbeats 4000000 in
theorem C_X6_readDish {g : gX} {d : Nat} {P : Nat → Nat → Option Nat} {I : HI} {J : HJ} (hp : Wp P) (hx : P 138 0 = some 2) {r : Int32 × HI} (h : F_X6_readDish I = some r) : Cm g mX6_readDish (d + 6) [.ref 138] (NT, I, J, P) (some (.int r.1)) (NT, r.2, J, P) := by
  unfold F_X6_readDish at h
  refine Cm.of (by decide) (by simp [Value.category]) (Nat.le_of_ble_eq_true rfl) (Nat.le_refl _) (ls := [some (.ref 138), none, none]) rfl ?_
  refine M_aload_n (pc := 0) dX6_readDish_0 rfl ?_
  obtain ⟨r1, hr2, h⟩ := bnd h
  refine M_callUv (pc := 1) dX6_readDish_1 u_X6_78 rfl rfl at_6 (Nat.le_of_ble_eq_true rfl) (C_X10_advance (d := d + 4) hp at_6 (Or.inr rfl) hx hr2) (Nat.le_refl _) ?_
  refine M_aload_n (pc := 4) dX6_readDish_4 rfl ?_
  refine M_iconst (pc := 5) (v := 5) dX6_readDish_5 (by decide) ?_
  obtain ⟨r3, hr4, h⟩ := bnd h
  refine M_callUi (pc := 6) dX6_readDish_6 u_X6_81 rfl rfl at_6 (Nat.le_of_ble_eq_true rfl) (C_X10_isFigures (d := d + 5) hp at_6 (Or.inr rfl) hr4) (Nat.le_refl _) ?_
  refine M_if_ne (pc := 9) (tgt := 14) dX6_readDish_9 (by decide) (fun hc5 => ?_) (fun hc5 => ?_)
  · have h := (if_neg hc5).symm.trans h
    refine M_aload_n (pc := 14) dX6_readDish_14 rfl ?_
    refine M_getR (pc := 15) dX6_readDish_15 f_X6_12 at_6 (gc_138_5 hp).1 ?_
    refine M_getR (pc := 18) dX6_readDish_18 f_X6_24 (gc_138_5 hp).2 (gc_140_0 hp).1 ?_
    refine M_getI (pc := 21) dX6_readDish_21 f_X6_28 (gc_140_0 hp).2 ?_
    refine M_iconst (pc := 24) (v := 5) dX6_readDish_24 (by decide) ?_
    refine M_imul (pc := 25) dX6_readDish_25 ?_
    refine M_istore_n (pc := 26) (ls' := [some (.ref 138), some (.int ((r1 141 0) * (5 : Int32))), none]) dX6_readDish_26 (by decide) rfl ?_
    refine M_iconst (pc := 27) (v := 0) dX6_readDish_27 (by decide) ?_
    refine M_istore_n (pc := 28) (ls' := [some (.ref 138), some (.int ((r1 141 0) * (5 : Int32))), some (.int (0 : Int32))]) dX6_readDish_28 (by decide) rfl ?_
    exact LC_X6_readDish_29 (P := P) hp hx (0 : Int32) r1 _ h
  · have h := (if_pos hc5).symm.trans h
    refine M_iconst (pc := 12) (v := 0) dX6_readDish_12 (by decide) ?_
    obtain rfl := Option.some.inj h
    exact M_iret (pc := 13) dX6_readDish_13 rfl rfl rfl rfl
def F_X3_bite (I : HI) (a : Nat) (x1 : Int32) (b2 : Nat) : Option (HI) :=
  (F_X9_put I a x1) >>= fun r1 => (F_X4_weigh r1 b2) >>= fun r3 => (F_X1_isHad (up2 (up2 (up2 r3 a 13 (if ((r3 a 13) + (r3 136 2)) < (9999 : Int32) then ((r3 a 13) + (r3 136 2)) else (9999 : Int32))) a 4 (if (0 : Int32) < (if ((r3 a 4) + (r3 136 1)) < (99 : Int32) then ((r3 a 4) + (r3 136 1)) else (99 : Int32)) then (if ((r3 a 4) + (r3 136 1)) < (99 : Int32) then ((r3 a 4) + (r3 136 1)) else (99 : Int32)) else (0 : Int32))) a 3 (r3 137 1)) (a + 1) x1) >>= fun r5 => if r5 = 0 then (F_X1_tell (up2 (up2 (up2 r3 a 13 (if ((r3 a 13) + (r3 136 2)) < (9999 : Int32) then ((r3 a 13) + (r3 136 2)) else (9999 : Int32))) a 4 (if (0 : Int32) < (if ((r3 a 4) + (r3 136 1)) < (99 : Int32) then ((r3 a 4) + (r3 136 1)) else (99 : Int32)) then (if ((r3 a 4) + (r3 136 1)) < (99 : Int32) then ((r3 a 4) + (r3 136 1)) else (99 : Int32)) else (0 : Int32))) a 3 (r3 137 1)) (a + 1) x1 (r3 a 2) (r3 a 11) (-1 : Int32)) >>= fun r8 => some (up2 r8 a 5 ((r8 a 5) + (1 : Int32))) else some (up2 (up2 (up2 (up2 r3 a 13 (if ((r3 a 13) + (r3 136 2)) < (9999 : Int32) then ((r3 a 13) + (r3 136 2)) else (9999 : Int32))) a 4 (if (0 : Int32) < (if ((r3 a 4) + (r3 136 1)) < (99 : Int32) then ((r3 a 4) + (r3 136 1)) else (99 : Int32)) then (if ((r3 a 4) + (r3 136 1)) < (99 : Int32) then ((r3 a 4) + (r3 136 1)) else (99 : Int32)) else (0 : Int32))) a 3 (r3 137 1)) a 5 ((r3 a 5) + (1 : Int32)))
set_option maxRecDepth 4000 in
set_option maxHeartbeats 4000000 in
theorem C_X3_bite {g : gX} {d : Nat} {P : Nat → Nat → Option Nat} {I : HI} {a : Nat} {x1 : Int32} {b2 : Nat} {J : HJ} (hp : Wp P) (ha : OB NT a 3) (hb2 : OB NT b2 4) {r : HI} (h : F_X3_bite I a x1 b2 = some r) : Cm g mX3_bite (d + 4) [.ref a, .int x1, .ref b2, .ref 136] (NT, I, J, P) none (NT, r, J, P) := by
  unfold F_X3_bite at h
  refine Cm.of (by decide) (by simp [Value.category]) (Nat.le_of_ble_eq_true rfl) (Nat.le_refl _) (ls := [some (.ref a), some (.int x1), some (.ref b2), some (.ref 136)]) rfl ?_
  refine M_aload_n (pc := 0) dX3_bite_0 rfl ?_
  refine M_aload_n (pc := 1) dX3_bite_1 rfl ?_
  refine M_iload_n (pc := 2) dX3_bite_2 rfl ?_
  obtain ⟨r1, hr2, h⟩ := bnd h
  refine M_callVv (pc := 3) dX3_bite_3 v_X3_65 rfl rfl at_9 (Nat.le_of_ble_eq_true rfl) (C_X9_put (d := d + 0) hp ha hr2) (Nat.le_refl _) ?_
  refine M_aload_n (pc := 6) dX3_bite_6 rfl ?_
  refine M_aload_n (pc := 7) dX3_bite_7 rfl ?_
  obtain ⟨r3, hr4, h⟩ := bnd h
  refine M_callVv (pc := 8) dX3_bite_8 v_X3_71 rfl rfl hb2 (Nat.le_of_ble_eq_true rfl) (C_X4_weigh (d := d + 0) hp hb2 hr4) (Nat.le_refl _) ?_
  refine M_aload_n (pc := 11) dX3_bite_11 rfl ?_
  refine M_sipush (pc := 12) (v := 9999) dX3_bite_12 (by decide) ?_
  refine M_aload_n (pc := 15) dX3_bite_15 rfl ?_
  refine M_getI (pc := 16) dX3_bite_16 f_X3_55 ha ?_
  refine M_aload_n (pc := 19) dX3_bite_19 rfl ?_
  refine M_getI (pc := 20) dX3_bite_20 f_X3_77 at_9 ?_
  refine M_iadd (pc := 23) dX3_bite_23 ?_
  refine M_mmin (pc := 24) dX3_bite_24 mm_X3_80.1 mm_X3_80.2.1 mm_X3_80.2.2.1 mm_X3_80.2.2.2 (Nat.le_of_ble_eq_true rfl) ?_
  refine M_putI (pc := 27) dX3_bite_27 f_X3_55 ha rfl ⟨rfl, rfl⟩ ?_
  refine M_aload_n (pc := 30) dX3_bite_30 rfl ?_
  refine M_iconst (pc := 31) (v := 0) dX3_bite_31 (by decide) ?_
  refine M_bipush (pc := 32) (v := 99) dX3_bite_32 (by decide) ?_
  refine M_aload_n (pc := 34) dX3_bite_34 rfl ?_
  refine M_getIs (pc := 35) (x := (r3 a 4)) dX3_bite_35 f_X3_28 ha (rd_ne (Or.inr (by decide))) ?_
  refine M_aload_n (pc := 38) dX3_bite_38 rfl ?_
  refine M_getIs (pc := 39) (x := (r3 136 1)) dX3_bite_39 f_X3_86 at_9 (rd_ne (Or.inr (by decide))) ?_
  refine M_iadd (pc := 42) dX3_bite_42 ?_
  refine M_mmin (pc := 43) dX3_bite_43 mm_X3_80.1 mm_X3_80.2.1 mm_X3_80.2.2.1 mm_X3_80.2.2.2 (Nat.le_of_ble_eq_true rfl) ?_
  refine M_mmax (pc := 46) dX3_bite_46 mm_X3_89.1 mm_X3_89.2.1 mm_X3_89.2.2.1 mm_X3_89.2.2.2 (Nat.le_of_ble_eq_true rfl) ?_
  refine M_putI (pc := 49) dX3_bite_49 f_X3_28 ha rfl ⟨rfl, rfl⟩ ?_
  refine M_aload_n (pc := 52) dX3_bite_52 rfl ?_
  refine M_aload_n (pc := 53) dX3_bite_53 rfl ?_
  refine M_getR (pc := 54) dX3_bite_54 f_X3_92 at_9 (gc_136_3 hp).1 ?_
  refine M_iconst (pc := 57) (v := 1) dX3_bite_57 (by decide) ?_
  refine M_ildcs (pc := 58) (j := 1) (x := (r3 137 1)) dX3_bite_58 (gc_136_3 hp).2 (by decide) (by decide) ((rd_ne (Or.inr (by decide))).trans (rd_ne (Or.inr (by decide)))) ?_
  refine M_putI (pc := 59) dX3_bite_59 f_X3_25 ha rfl ⟨rfl, rfl⟩ ?_
  refine M_aload_n (pc := 62) dX3_bite_62 rfl ?_
  refine M_getR (pc := 63) dX3_bite_63 f_X3_12 ha (gr_3_0 hp ha).1 ?_
  refine M_iload_n (pc := 66) dX3_bite_66 rfl ?_
  obtain ⟨r5, hr6, h⟩ := bnd h
  refine M_callVi (pc := 67) dX3_bite_67 v_X3_96 rfl rfl (gr_3_0 hp ha).2 (Nat.le_of_ble_eq_true rfl) (C_X1_isHad (d := d + 2) hp (gr_3_0 hp ha).2 hr6) (Nat.le_refl _) ?_
  refine M_if_ne (pc := 70) (tgt := 90) dX3_bite_70 (by decide) (fun hc7 => ?_) (fun hc7 => ?_)
  · have h := (if_neg hc7).symm.trans h
    refine M_aload_n (pc := 90) dX3_bite_90 rfl ?_
    refine M_dup (pc := 91) dX3_bite_91 rfl ?_
    refine M_getIs (pc := 92) (x := (r3 a 5)) dX3_bite_92 f_X3_31 ha ((rd_ne (Or.inr (by decide))).trans ((rd_ne (Or.inr (by decide))).trans (rd_ne (Or.inr (by decide))))) ?_
    refine M_iconst (pc := 95) (v := 1) dX3_bite_95 (by decide) ?_
    refine M_iadd (pc := 96) dX3_bite_96 ?_
    refine M_putI (pc := 97) dX3_bite_97 f_X3_31 ha rfl ⟨rfl, rfl⟩ ?_
    obtain rfl := Option.some.inj h
    exact M_vret (pc := 100) dX3_bite_100 rfl rfl rfl
  · have h := (if_pos hc7).symm.trans h
    refine M_aload_n (pc := 73) dX3_bite_73 rfl ?_
    refine M_getR (pc := 74) dX3_bite_74 f_X3_12 ha (gr_3_0 hp ha).1 ?_
    refine M_iload_n (pc := 77) dX3_bite_77 rfl ?_
    refine M_aload_n (pc := 78) dX3_bite_78 rfl ?_
    refine M_getIs (pc := 79) (x := (r3 a 2)) dX3_bite_79 f_X3_22 ha ((rd_ne (Or.inr (by decide))).trans ((rd_ne (Or.inr (by decide))).trans (rd_ne (Or.inr (by decide))))) ?_
    refine M_aload_n (pc := 82) dX3_bite_82 rfl ?_
    refine M_getIs (pc := 83) (x := (r3 a 11)) dX3_bite_83 f_X3_49 ha ((rd_ne (Or.inr (by decide))).trans ((rd_ne (Or.inr (by decide))).trans (rd_ne (Or.inr (by decide))))) ?_
    refine M_iconst (pc := 86) (v := -1) dX3_bite_86 (by decide) ?_
    obtain ⟨r8, hr9, h⟩ := bnd h
    refine M_callVv (pc := 87) dX3_bite_87 v_X3_99 rfl rfl (gr_3_0 hp ha).2 (Nat.le_of_ble_eq_true rfl) (C_X1_tell (d := d + 2) hp (gr_3_0 hp ha).2 hr9) (Nat.le_refl _) ?_
    refine M_aload_n (pc := 90) dX3_bite_90 rfl ?_
    refine M_dup (pc := 91) dX3_bite_91 rfl ?_
    refine M_getI (pc := 92) dX3_bite_92 f_X3_31 ha ?_
    refine M_iconst (pc := 95) (v := 1) dX3_bite_95 (by decide) ?_
    refine M_iadd (pc := 96) dX3_bite_96 ?_
    refine M_putI (pc := 97) dX3_bite_97 f_X3_31 ha rfl ⟨rfl, rfl⟩ ?_
    obtain rfl := Option.some.inj h
    exact M_vret (pc := 100) dX3_bite_100 rfl rfl rfl
def L_X5_readCondition_12 (x1 : Int32) (I : HI) : Option (Int32 × HI) :=
  if (400 : Int32) ≤ x1 then some ((0 : Int32), I) else (F_X5_openingHere I) >>= fun r2 => if r2 = (-1 : Int32) then (F_X5_readState I) >>= fun r5 => if r5.1 = 0 then (F_X5_readComparison r5.2) >>= fun r20 => if r20.1 = 0 then some ((0 : Int32), r20.2) else (F_X5_closeBrackets r20.2) >>= fun r23 => (F_X5_joiningHere r23) >>= fun r25 => if r25 = (-1 : Int32) then (F_X5_settle r23 (1015 : Int32)) >>= fun r32 => if (r32 146 7) = 0 then some ((1 : Int32), r32) else some ((0 : Int32), r32) else (F_X5_settle r23 r25) >>= fun r28 => (F_X5_putOff r28 r25) >>= fun r30 => L_X5_readCondition_12 (x1 + (1 : Int32)) r30 else (F_X5_closeBrackets r5.2) >>= fun r8 => (F_X5_joiningHere r8) >>= fun r10 => if r10 = (-1 : Int32) then (F_X5_settle r8 (1015 : Int32)) >>= fun r17 => if (r17 146 7) = 0 then some ((1 : Int32), r17) else some ((0 : Int32), r17) else (F_X5_settle r8 r10) >>= fun r13 => (F_X5_putOff r13 r10) >>= fun r15 => L_X5_readCondition_12 (x1 + (1 : Int32)) r15 else if (I 146 8) < (6 : Int32) then (F_X5_putOff (up2 I 146 8 ((I 146 8) + (1 : Int32))) r2) >>= fun r36 => L_X5_readCondition_12 (x1 + (1 : Int32)) r36 else some ((0 : Int32), I)
partial_fixpoint
def F_X5_readCondition (I : HI) : Option (Int32 × HI) :=
  L_X5_readCondition_12 (0 : Int32) (up2 (up2 I 146 7 (0 : Int32)) 146 8 (0 : Int32))
set_option maxRecDepth 4000 in
set_option maxHeartbeats 4000000 in
theorem LC_X5_readCondition_12 {g : gX} {d : Nat} {P : Nat → Nat → Option Nat} {J : HJ}  (hp : Wp P) (hx : P 146 0 = some 2) : ∀ (x1 : Int32) (I : HI) (r : Int32 × HI), L_X5_readCondition_12  x1 I = some r → M g mX5_readCondition (d + 8) (NT, NT, 0) ((.inl (some (.int r.1))), (NT, r.2, J, P)) 12 [some (.ref 146), some (.int x1), none, none] [] (NT, I, J, P) := by
  refine L_X5_readCondition_12.partial_correctness  (fun x1 I r => M g mX5_readCondition (d + 8) (NT, NT, 0) ((.inl (some (.int r.1))), (NT, r.2, J, P)) 12 [some (.ref 146), some (.int x1), none, none] [] (NT, I, J, P)) ?_
  intro f ih x1 I r h
  refine M_iload_n (pc := 12) dX5_readCondition_12 rfl ?_
  refine M_sipush (pc := 13) (v := 400) dX5_readCondition_13 (by decide) ?_
  refine M_icmp_ge (pc := 16) (tgt := 124) dX5_readCondition_16 (by decide) (fun hc1 => ?_) (fun hc1 => ?_)
  · have h := (if_pos hc1).symm.trans h
    refine M_iconst (pc := 124) (v := 0) dX5_readCondition_124 (by decide) ?_
    obtain rfl := Option.some.inj h
    exact M_iret (pc := 125) dX5_readCondition_125 rfl rfl rfl rfl
  · have h := (if_neg hc1).symm.trans h
    refine M_aload_n (pc := 19) dX5_readCondition_19 rfl ?_
    obtain ⟨r2, hr3, h⟩ := bnd h
    refine M_callVi (pc := 20) dX5_readCondition_20 v_X5_60 rfl rfl at_5 (Nat.le_of_ble_eq_true rfl) (C_X5_openingHere (d := d + 2) hp hx hr3) (Nat.le_refl _) ?_
    refine M_istore_n (pc := 23) (ls' := [some (.ref 146), some (.int x1), some (.int r2), none]) dX5_readCondition_23 (by decide) rfl ?_
    refine M_iload_n (pc := 24) dX5_readCondition_24 rfl ?_
    refine M_iconst (pc := 25) (v := -1) dX5_readCondition_25 (by decide) ?_
    refine M_icmp_eq (pc := 26) (tgt := 58) dX5_readCondition_26 (by decide) (fun hc4 => ?_) (fun hc4 => ?_)
    · have h := (if_pos hc4).symm.trans h
      refine M_aload_n (pc := 58) dX5_readCondition_58 rfl ?_
      obtain ⟨r5, hr6, h⟩ := bnd h
      refine M_callVi (pc := 59) dX5_readCondition_59 v_X5_67 rfl rfl at_5 (Nat.le_of_ble_eq_true rfl) (C_X5_readState (d := d + 1) hp hx hr6) (Nat.le_refl _) ?_
      refine M_if_ne (pc := 62) (tgt := 74) dX5_readCondition_62 (by decide) (fun hc7 => ?_) (fun hc7 => ?_)
      · have h := (if_neg hc7).symm.trans h
        refine M_aload_n (pc := 74) dX5_readCondition_74 rfl ?_
        obtain ⟨r8, hr9, h⟩ := bnd h
        refine M_callVv (pc := 75) dX5_readCondition_75 v_X5_73 rfl rfl at_5 (Nat.le_of_ble_eq_true rfl) (C_X5_closeBrackets (d := d + 5) hp hx hr9) (Nat.le_refl _) ?_
        refine M_aload_n (pc := 78) dX5_readCondition_78 rfl ?_
        obtain ⟨r10, hr11, h⟩ := bnd h
        refine M_callVi (pc := 79) dX5_readCondition_79 v_X5_76 rfl rfl at_5 (Nat.le_of_ble_eq_true rfl) (C_X5_joiningHere (d := d + 2) hp hx hr11) (Nat.le_refl _) ?_
        refine M_istore_n (pc := 82) (ls' := [some (.ref 146), some (.int x1), some (.int r2), some (.int r10)]) dX5_readCondition_82 (by decide) rfl ?_
        refine M_iload_n (pc := 83) dX5_readCondition_83 rfl ?_
        refine M_iconst (pc := 84) (v := -1) dX5_readCondition_84 (by decide) ?_
        refine M_icmp_ne (pc := 85) (tgt := 108) dX5_readCondition_85 (by decide) (fun hc12 => ?_) (fun hc12 => ?_)
        · have h := (if_neg hc12).symm.trans h
          refine M_aload_n (pc := 108) dX5_readCondition_108 rfl ?_
          refine M_iload_n (pc := 109) dX5_readCondition_109 rfl ?_
          obtain ⟨r13, hr14, h⟩ := bnd h
          refine M_callVv (pc := 110) dX5_readCondition_110 v_X5_79 rfl rfl at_5 (Nat.le_of_ble_eq_true rfl) (C_X5_settle (d := d + 6) hp hx hr14) (Nat.le_refl _) ?_
          refine M_aload_n (pc := 113) dX5_readCondition_113 rfl ?_
          refine M_iload_n (pc := 114) dX5_readCondition_114 rfl ?_
          obtain ⟨r15, hr16, h⟩ := bnd h
          refine M_callVv (pc := 115) dX5_readCondition_115 v_X5_63 rfl rfl at_5 (Nat.le_of_ble_eq_true rfl) (C_X5_putOff (d := d + 5) hp hx hr16) (Nat.le_refl _) ?_
          refine M_iinc (pc := 118) (v := (x1 + (1 : Int32))) (ls' := [some (.ref 146), some (.int (x1 + (1 : Int32))), some (.int r2), some (.int r10)]) dX5_readCondition_118 rfl rfl (by decide) rfl ?_
          refine M_goto (pc := 121) (tgt := 12) dX5_readCondition_121 (by decide) ?_
          refine M_mask (pc := 12) [true, true, false, false] rfl ?_
          exact ih (x1 + (1 : Int32)) r15 _ h
        · have h := (if_pos hc12).symm.trans h
          refine M_aload_n (pc := 88) dX5_readCondition_88 rfl ?_
          refine M_sipush (pc := 89) (v := 1015) dX5_readCondition_89 (by decide) ?_
          obtain ⟨r17, hr18, h⟩ := bnd h
          refine M_callVv (pc := 92) dX5_readCondition_92 v_X5_79 rfl rfl at_5 (Nat.le_of_ble_eq_true rfl) (C_X5_settle (d := d + 6) hp hx hr18) (Nat.le_refl _) ?_
          refine M_aload_n (pc := 95) dX5_readCondition_95 rfl ?_
          refine M_getI (pc := 96) dX5_readCondition_96 f_X5_22 at_5 ?_
          refine M_if_ne (pc := 99) (tgt := 106) dX5_readCondition_99 (by decide) (fun hc19 => ?_) (fun hc19 => ?_)
          · have h := (if_neg hc19).symm.trans h
            refine M_iconst (pc := 106) (v := 0) dX5_readCondition_106 (by decide) ?_
            obtain rfl := Option.some.inj h
            exact M_iret (pc := 107) dX5_readCondition_107 rfl rfl rfl rfl
          · have h := (if_pos hc19).symm.trans h
            refine M_iconst (pc := 102) (v := 1) dX5_readCondition_102 (by decide) ?_
            refine M_goto (pc := 103) (tgt := 107) dX5_readCondition_103 (by decide) ?_
            obtain rfl := Option.some.inj h
            exact M_iret (pc := 107) dX5_readCondition_107 rfl rfl rfl rfl
      · have h := (if_pos hc7).symm.trans h
        refine M_aload_n (pc := 65) dX5_readCondition_65 rfl ?_
        obtain ⟨r20, hr21, h⟩ := bnd h
        refine M_callVi (pc := 66) dX5_readCondition_66 v_X5_70 rfl rfl at_5 (Nat.le_of_ble_eq_true rfl) (C_X5_readComparison (d := d + 0) hp hx hr21) (Nat.le_refl _) ?_
        refine M_if_ne (pc := 69) (tgt := 74) dX5_readCondition_69 (by decide) (fun hc22 => ?_) (fun hc22 => ?_)
        · have h := (if_neg hc22).symm.trans h
          refine M_aload_n (pc := 74) dX5_readCondition_74 rfl ?_
          obtain ⟨r23, hr24, h⟩ := bnd h
          refine M_callVv (pc := 75) dX5_readCondition_75 v_X5_73 rfl rfl at_5 (Nat.le_of_ble_eq_true rfl) (C_X5_closeBrackets (d := d + 5) hp hx hr24) (Nat.le_refl _) ?_
          refine M_aload_n (pc := 78) dX5_readCondition_78 rfl ?_
          obtain ⟨r25, hr26, h⟩ := bnd h
          refine M_callVi (pc := 79) dX5_readCondition_79 v_X5_76 rfl rfl at_5 (Nat.le_of_ble_eq_true rfl) (C_X5_joiningHere (d := d + 2) hp hx hr26) (Nat.le_refl _) ?_
          refine M_istore_n (pc := 82) (ls' := [some (.ref 146), some (.int x1), some (.int r2), some (.int r25)]) dX5_readCondition_82 (by decide) rfl ?_
          refine M_iload_n (pc := 83) dX5_readCondition_83 rfl ?_
          refine M_iconst (pc := 84) (v := -1) dX5_readCondition_84 (by decide) ?_
          refine M_icmp_ne (pc := 85) (tgt := 108) dX5_readCondition_85 (by decide) (fun hc27 => ?_) (fun hc27 => ?_)
          · have h := (if_neg hc27).symm.trans h
            refine M_aload_n (pc := 108) dX5_readCondition_108 rfl ?_
            refine M_iload_n (pc := 109) dX5_readCondition_109 rfl ?_
            obtain ⟨r28, hr29, h⟩ := bnd h
            refine M_callVv (pc := 110) dX5_readCondition_110 v_X5_79 rfl rfl at_5 (Nat.le_of_ble_eq_true rfl) (C_X5_settle (d := d + 6) hp hx hr29) (Nat.le_refl _) ?_
            refine M_aload_n (pc := 113) dX5_readCondition_113 rfl ?_
            refine M_iload_n (pc := 114) dX5_readCondition_114 rfl ?_
            obtain ⟨r30, hr31, h⟩ := bnd h
            refine M_callVv (pc := 115) dX5_readCondition_115 v_X5_63 rfl rfl at_5 (Nat.le_of_ble_eq_true rfl) (C_X5_putOff (d := d + 5) hp hx hr31) (Nat.le_refl _) ?_
            refine M_iinc (pc := 118) (v := (x1 + (1 : Int32))) (ls' := [some (.ref 146), some (.int (x1 + (1 : Int32))), some (.int r2), some (.int r25)]) dX5_readCondition_118 rfl rfl (by decide) rfl ?_
            refine M_goto (pc := 121) (tgt := 12) dX5_readCondition_121 (by decide) ?_
            refine M_mask (pc := 12) [true, true, false, false] rfl ?_
            exact ih (x1 + (1 : Int32)) r30 _ h
          · have h := (if_pos hc27).symm.trans h
            refine M_aload_n (pc := 88) dX5_readCondition_88 rfl ?_
            refine M_sipush (pc := 89) (v := 1015) dX5_readCondition_89 (by decide) ?_
            obtain ⟨r32, hr33, h⟩ := bnd h
            refine M_callVv (pc := 92) dX5_readCondition_92 v_X5_79 rfl rfl at_5 (Nat.le_of_ble_eq_true rfl) (C_X5_settle (d := d + 6) hp hx hr33) (Nat.le_refl _) ?_
            refine M_aload_n (pc := 95) dX5_readCondition_95 rfl ?_
            refine M_getI (pc := 96) dX5_readCondition_96 f_X5_22 at_5 ?_
            refine M_if_ne (pc := 99) (tgt := 106) dX5_readCondition_99 (by decide) (fun hc34 => ?_) (fun hc34 => ?_)
            · have h := (if_neg hc34).symm.trans h
              refine M_iconst (pc := 106) (v := 0) dX5_readCondition_106 (by decide) ?_
              obtain rfl := Option.some.inj h
              exact M_iret (pc := 107) dX5_readCondition_107 rfl rfl rfl rfl
            · have h := (if_pos hc34).symm.trans h
              refine M_iconst (pc := 102) (v := 1) dX5_readCondition_102 (by decide) ?_
              refine M_goto (pc := 103) (tgt := 107) dX5_readCondition_103 (by decide) ?_
              obtain rfl := Option.some.inj h
              exact M_iret (pc := 107) dX5_readCondition_107 rfl rfl rfl rfl
        · have h := (if_pos hc22).symm.trans h
          refine M_iconst (pc := 72) (v := 0) dX5_readCondition_72 (by decide) ?_
          obtain rfl := Option.some.inj h
          exact M_iret (pc := 73) dX5_readCondition_73 rfl rfl rfl rfl
    · have h := (if_neg hc4).symm.trans h
      refine M_aload_n (pc := 29) dX5_readCondition_29 rfl ?_
      refine M_getI (pc := 30) dX5_readCondition_30 f_X5_26 at_5 ?_
      refine M_bipush (pc := 33) (v := 6) dX5_readCondition_33 (by decide) ?_
      refine M_icmp_lt (pc := 35) (tgt := 40) dX5_readCondition_35 (by decide) (fun hc35 => ?_) (fun hc35 => ?_)
      · have h := (if_pos hc35).symm.trans h
        refine M_aload_n (pc := 40) dX5_readCondition_40 rfl ?_
        refine M_dup (pc := 41) dX5_readCondition_41 rfl ?_
        refine M_getI (pc := 42) dX5_readCondition_42 f_X5_26 at_5 ?_
        refine M_iconst (pc := 45) (v := 1) dX5_readCondition_45 (by decide) ?_
        refine M_iadd (pc := 46) dX5_readCondition_46 ?_
        refine M_putI (pc := 47) dX5_readCondition_47 f_X5_26 at_5 rfl ⟨rfl, rfl⟩ ?_
        refine M_aload_n (pc := 50) dX5_readCondition_50 rfl ?_
        refine M_iload_n (pc := 51) dX5_readCondition_51 rfl ?_
        obtain ⟨r36, hr37, h⟩ := bnd h
        refine M_callVv (pc := 52) dX5_readCondition_52 v_X5_63 rfl rfl at_5 (Nat.le_of_ble_eq_true rfl) (C_X5_putOff (d := d + 5) hp hx hr37) (Nat.le_refl _) ?_
        refine M_goto (pc := 55) (tgt := 118) dX5_readCondition_55 (by decide) ?_
        refine M_iinc (pc := 118) (v := (x1 + (1 : Int32))) (ls' := [some (.ref 146), some (.int (x1 + (1 : Int32))), some (.int r2), none]) dX5_readCondition_118 rfl rfl (by decide) rfl ?_
        refine M_goto (pc := 121) (tgt := 12) dX5_readCondition_121 (by decide) ?_
        refine M_mask (pc := 12) [true, true, false, false] rfl ?_
        exact ih (x1 + (1 : Int32)) r36 _ h
      · have h := (if_neg hc35).symm.trans h
        refine M_iconst (pc := 38) (v := 0) dX5_readCondition_38 (by decide) ?_
        obtain rfl := Option.some.inj h
        exact M_iret (pc := 39) dX5_readCondition_39 rfl rfl rfl rfl
set_option maxRecDepth 4000 in
set_option maxHeartbeats 4000000 in
theorem C_X5_readCondition {g : gX} {d : Nat} {P : Nat → Nat → Option Nat} {I : HI} {J : HJ} (hp : Wp P) (hx : P 146 0 = some 2) {r : Int32 × HI} (h : F_X5_readCondition I = some r) : Cm g mX5_readCondition (d + 8) [.ref 146] (NT, I, J, P) (some (.int r.1)) (NT, r.2, J, P) := by
  unfold F_X5_readCondition at h
  refine Cm.of (by decide) (by simp [Value.category]) (Nat.le_of_ble_eq_true rfl) (Nat.le_refl _) (ls := [some (.ref 146), none, none, none]) rfl ?_
  refine M_aload_n (pc := 0) dX5_readCondition_0 rfl ?_
  refine M_iconst (pc := 1) (v := 0) dX5_readCondition_1 (by decide) ?_
  refine M_putI (pc := 2) dX5_readCondition_2 f_X5_22 at_5 rfl ⟨rfl, rfl⟩ ?_
  refine M_aload_n (pc := 5) dX5_readCondition_5 rfl ?_
  refine M_iconst (pc := 6) (v := 0) dX5_readCondition_6 (by decide) ?_
  refine M_putI (pc := 7) dX5_readCondition_7 f_X5_26 at_5 rfl ⟨rfl, rfl⟩ ?_
  refine M_iconst (pc := 10) (v := 0) dX5_readCondition_10 (by decide) ?_
  refine M_istore_n (pc := 11) (ls' := [some (.ref 146), some (.int (0 : Int32)), none, none]) dX5_readCondition_11 (by decide) rfl ?_
  exact LC_X5_readCondition_12 (P := P) hp hx (0 : Int32) (up2 (up2 I 146 7 (0 : Int32)) 146 8 (0 : Int32)) _ h
def F_X6_readLine (I : HI) : Option (Int32 × HI) :=
  (F_X10_isWord I 138 39) >>= fun r1 => if r1 = 0 then (F_X10_isWord I 138 40) >>= fun r4 => if r4 = 0 then (F_X10_isWord I 138 41) >>= fun r7 => if r7 = 0 then (F_X10_isWord I 138 42) >>= fun r10 => if r10 = 0 then (F_X10_isWord I 138 43) >>= fun r13 => if r13 = 0 then (F_X10_isWord I 138 44) >>= fun r16 => if r16 = 0 then (F_X10_isWord I 138 45) >>= fun r19 => if r19 = 0 then some ((0 : Int32), I) else (F_X10_numberBehind I 138 (0 : Int32) (50 : Int32)) >>= fun r22 => if r22.1 = (-1 : Int32) then some ((0 : Int32), (up2 r22.2 140 12 r22.1)) else some ((1 : Int32), (up2 r22.2 140 12 r22.1)) else (F_X10_numberBehind I 138 (0 : Int32) (7 : Int32)) >>= fun r25 => if r25.1 = (-1 : Int32) then some ((0 : Int32), (up2 r25.2 140 11 r25.1)) else some ((1 : Int32), (up2 r25.2 140 11 r25.1)) else (F_X10_numberBehind I 138 (0 : Int32) (100 : Int32)) >>= fun r28 => if r28.1 = (-1 : Int32) then some ((0 : Int32), (up2 r28.2 140 10 r28.1)) else some ((1 : Int32), (up2 r28.2 140 10 r28.1)) else (F_X10_numberBehind I 138 (0 : Int32) (45 : Int32)) >>= fun r31 => if r31.1 = (-1 : Int32) then some ((0 : Int32), (up2 r31.2 140 7 r31.1)) else some ((1 : Int32), (up2 r31.2 140 7 r31.1)) else (F_X10_numberBehind I 138 (0 : Int32) (999 : Int32)) >>= fun r34 => if r34.1 = (-1 : Int32) then some ((0 : Int32), (up2 (up2 r34.2 140 2 r34.1) 140 3 r34.1)) else some ((1 : Int32), (up2 (up2 r34.2 140 2 r34.1) 140 3 r34.1)) else (F_X6_readWar I) >>= fun r37 => if r37.1 = 0 ∨ r37.1 = 1 then some (r37.1, r37.2) else none else if (12 : Int32) ≤ (I 141 0) then some ((0 : Int32), I) else (F_X6_readDish I) >>= fun r41 => if r41.1 = 0 then some ((0 : Int32), r41.2) else some ((1 : Int32), r41.2)
set_option maxRecDepth 4000 in
set_option maxHeartbeats 4000000 in
theorem C_X6_readLine {g : gX} {d : Nat} {P : Nat → Nat → Option Nat} {I : HI} {J : HJ} (hp : Wp P) (hx : P 138 0 = some 2) {r : Int32 × HI} (h : F_X6_readLine I = some r) : Cm g mX6_readLine (d + 7) [.ref 138] (NT, I, J, P) (some (.int r.1)) (NT, r.2, J, P) := by
  unfold F_X6_readLine at h
  refine Cm.of (by decide) (by simp [Value.category]) (Nat.le_of_ble_eq_true rfl) (Nat.le_refl _) (ls := [some (.ref 138)]) rfl ?_
  refine M_aload_n (pc := 0) dX6_readLine_0 rfl ?_
  refine M_ldcS (pc := 1) (j := 39) dX6_readLine_1 (by decide) str_X6_18 ?_
  obtain ⟨r1, hr2, h⟩ := bnd h
  refine M_callUi (pc := 3) dX6_readLine_3 u_X6_20 rfl rfl at_6 (Nat.le_of_ble_eq_true rfl) (C_X10_isWord (d := d + 2) hp at_6 (Or.inr rfl) hx (by decide) hr2) (Nat.le_refl _) ?_
  refine M_if_eq (pc := 6) (tgt := 37) dX6_readLine_6 (by decide) (fun hc3 => ?_) (fun hc3 => ?_)
  · have h := (if_pos hc3).symm.trans h
    refine M_aload_n (pc := 37) dX6_readLine_37 rfl ?_
    refine M_ldcS (pc := 38) (j := 40) dX6_readLine_38 (by decide) str_X6_38 ?_
    obtain ⟨r4, hr5, h⟩ := bnd h
    refine M_callUi (pc := 40) dX6_readLine_40 u_X6_20 rfl rfl at_6 (Nat.le_of_ble_eq_true rfl) (C_X10_isWord (d := d + 2) hp at_6 (Or.inr rfl) hx (by decide) hr5) (Nat.le_refl _) ?_
    refine M_if_eq (pc := 43) (tgt := 51) dX6_readLine_43 (by decide) (fun hc6 => ?_) (fun hc6 => ?_)
    · have h := (if_pos hc6).symm.trans h
      refine M_aload_n (pc := 51) dX6_readLine_51 rfl ?_
      refine M_ldcS (pc := 52) (j := 41) dX6_readLine_52 (by decide) str_X6_43 ?_
      obtain ⟨r7, hr8, h⟩ := bnd h
      refine M_callUi (pc := 54) dX6_readLine_54 u_X6_20 rfl rfl at_6 (Nat.le_of_ble_eq_true rfl) (C_X10_isWord (d := d + 2) hp at_6 (Or.inr rfl) hx (by decide) hr8) (Nat.le_refl _) ?_
      refine M_if_eq (pc := 57) (tgt := 106) dX6_readLine_57 (by decide) (fun hc9 => ?_) (fun hc9 => ?_)
      · have h := (if_pos hc9).symm.trans h
        refine M_aload_n (pc := 106) dX6_readLine_106 rfl ?_
        refine M_ldcS (pc := 107) (j := 42) dX6_readLine_107 (by decide) str_X6_54 ?_
        obtain ⟨r10, hr11, h⟩ := bnd h
        refine M_callUi (pc := 109) dX6_readLine_109 u_X6_20 rfl rfl at_6 (Nat.le_of_ble_eq_true rfl) (C_X10_isWord (d := d + 2) hp at_6 (Or.inr rfl) hx (by decide) hr11) (Nat.le_refl _) ?_
        refine M_if_eq (pc := 112) (tgt := 146) dX6_readLine_112 (by decide) (fun hc12 => ?_) (fun hc12 => ?_)
        · have h := (if_pos hc12).symm.trans h
          refine M_aload_n (pc := 146) dX6_readLine_146 rfl ?_
          refine M_ldcS (pc := 147) (j := 43) dX6_readLine_147 (by decide) str_X6_58 ?_
          obtain ⟨r13, hr14, h⟩ := bnd h
          refine M_callUi (pc := 149) dX6_readLine_149 u_X6_20 rfl rfl at_6 (Nat.le_of_ble_eq_true rfl) (C_X10_isWord (d := d + 2) hp at_6 (Or.inr rfl) hx (by decide) hr14) (Nat.le_refl _) ?_
          refine M_if_eq (pc := 152) (tgt := 186) dX6_readLine_152 (by decide) (fun hc15 => ?_) (fun hc15 => ?_)
          · have h := (if_pos hc15).symm.trans h
            refine M_aload_n (pc := 186) dX6_readLine_186 rfl ?_
            refine M_ldcS (pc := 187) (j := 44) dX6_readLine_187 (by decide) str_X6_62 ?_
            obtain ⟨r16, hr17, h⟩ := bnd h
            refine M_callUi (pc := 189) dX6_readLine_189 u_X6_20 rfl rfl at_6 (Nat.le_of_ble_eq_true rfl) (C_X10_isWord (d := d + 2) hp at_6 (Or.inr rfl) hx (by decide) hr17) (Nat.le_refl _) ?_
            refine M_if_eq (pc := 192) (tgt := 226) dX6_readLine_192 (by decide) (fun hc18 => ?_) (fun hc18 => ?_)
            · have h := (if_pos hc18).symm.trans h
              refine M_aload_n (pc := 226) dX6_readLine_226 rfl ?_
              refine M_ldcS (pc := 227) (j := 45) dX6_readLine_227 (by decide) str_X6_66 ?_
              obtain ⟨r19, hr20, h⟩ := bnd h
              refine M_callUi (pc := 229) dX6_readLine_229 u_X6_20 rfl rfl at_6 (Nat.le_of_ble_eq_true rfl) (C_X10_isWord (d := d + 2) hp at_6 (Or.inr rfl) hx (by decide) hr20) (Nat.le_refl _) ?_
              refine M_if_eq (pc := 232) (tgt := 266) dX6_readLine_232 (by decide) (fun hc21 => ?_) (fun hc21 => ?_)
              · have h := (if_pos hc21).symm.trans h
                refine M_iconst (pc := 266) (v := 0) dX6_readLine_266 (by decide) ?_
                obtain rfl := Option.some.inj h
                exact M_iret (pc := 267) dX6_readLine_267 rfl rfl rfl rfl
              · have h := (if_neg hc21).symm.trans h
                refine M_aload_n (pc := 235) dX6_readLine_235 rfl ?_
                refine M_getR (pc := 236) dX6_readLine_236 f_X6_12 at_6 (gc_138_5 hp).1 ?_
                refine M_aload_n (pc := 239) dX6_readLine_239 rfl ?_
                refine M_iconst (pc := 240) (v := 0) dX6_readLine_240 (by decide) ?_
                refine M_bipush (pc := 241) (v := 50) dX6_readLine_241 (by decide) ?_
                obtain ⟨r22, hr23, h⟩ := bnd h
                refine M_callUi (pc := 243) dX6_readLine_243 u_X6_45 rfl rfl at_6 (Nat.le_of_ble_eq_true rfl) (C_X10_numberBehind (d := d + 4) hp at_6 (Or.inr rfl) hx hr23) (Nat.le_refl _) ?_
                refine M_putI (pc := 246) dX6_readLine_246 f_X6_68 (gc_138_5 hp).2 rfl ⟨rfl, rfl⟩ ?_
                refine M_aload_n (pc := 249) dX6_readLine_249 rfl ?_
                refine M_getR (pc := 250) dX6_readLine_250 f_X6_12 at_6 (gc_138_5 hp).1 ?_
                refine M_getIs (pc := 253) (x := r22.1) dX6_readLine_253 f_X6_68 (gc_138_5 hp).2 rd_eq ?_
                refine M_iconst (pc := 256) (v := -1) dX6_readLine_256 (by decide) ?_
                refine M_icmp_eq (pc := 257) (tgt := 264) dX6_readLine_257 (by decide) (fun hc24 => ?_) (fun hc24 => ?_)
                · have h := (if_pos hc24).symm.trans h
                  refine M_iconst (pc := 264) (v := 0) dX6_readLine_264 (by decide) ?_
                  obtain rfl := Option.some.inj h
                  exact M_iret (pc := 265) dX6_readLine_265 rfl rfl rfl rfl
                · have h := (if_neg hc24).symm.trans h
                  refine M_iconst (pc := 260) (v := 1) dX6_readLine_260 (by decide) ?_
                  refine M_goto (pc := 261) (tgt := 265) dX6_readLine_261 (by decide) ?_
                  obtain rfl := Option.some.inj h
                  exact M_iret (pc := 265) dX6_readLine_265 rfl rfl rfl rfl
            · have h := (if_neg hc18).symm.trans h
              refine M_aload_n (pc := 195) dX6_readLine_195 rfl ?_
              refine M_getR (pc := 196) dX6_readLine_196 f_X6_12 at_6 (gc_138_5 hp).1 ?_
              refine M_aload_n (pc := 199) dX6_readLine_199 rfl ?_
              refine M_iconst (pc := 200) (v := 0) dX6_readLine_200 (by decide) ?_
              refine M_bipush (pc := 201) (v := 7) dX6_readLine_201 (by decide) ?_
              obtain ⟨r25, hr26, h⟩ := bnd h
              refine M_callUi (pc := 203) dX6_readLine_203 u_X6_45 rfl rfl at_6 (Nat.le_of_ble_eq_true rfl) (C_X10_numberBehind (d := d + 4) hp at_6 (Or.inr rfl) hx hr26) (Nat.le_refl _) ?_
              refine M_putI (pc := 206) dX6_readLine_206 f_X6_64 (gc_138_5 hp).2 rfl ⟨rfl, rfl⟩ ?_
              refine M_aload_n (pc := 209) dX6_readLine_209 rfl ?_
              refine M_getR (pc := 210) dX6_readLine_210 f_X6_12 at_6 (gc_138_5 hp).1 ?_
              refine M_getIs (pc := 213) (x := r25.1) dX6_readLine_213 f_X6_64 (gc_138_5 hp).2 rd_eq ?_
              refine M_iconst (pc := 216) (v := -1) dX6_readLine_216 (by decide) ?_
              refine M_icmp_eq (pc := 217) (tgt := 224) dX6_readLine_217 (by decide) (fun hc27 => ?_) (fun hc27 => ?_)
              · have h := (if_pos hc27).symm.trans h
                refine M_iconst (pc := 224) (v := 0) dX6_readLine_224 (by decide) ?_
                obtain rfl := Option.some.inj h
                exact M_iret (pc := 225) dX6_readLine_225 rfl rfl rfl rfl
              · have h := (if_neg hc27).symm.trans h
                refine M_iconst (pc := 220) (v := 1) dX6_readLine_220 (by decide) ?_
                refine M_goto (pc := 221) (tgt := 225) dX6_readLine_221 (by decide) ?_
                obtain rfl := Option.some.inj h
                exact M_iret (pc := 225) dX6_readLine_225 rfl rfl rfl rfl
          · have h := (if_neg hc15).symm.trans h
            refine M_aload_n (pc := 155) dX6_readLine_155 rfl ?_
            refine M_getR (pc := 156) dX6_readLine_156 f_X6_12 at_6 (gc_138_5 hp).1 ?_
            refine M_aload_n (pc := 159) dX6_readLine_159 rfl ?_
            refine M_iconst (pc := 160) (v := 0) dX6_readLine_160 (by decide) ?_
            refine M_bipush (pc := 161) (v := 100) dX6_readLine_161 (by decide) ?_
            obtain ⟨r28, hr29, h⟩ := bnd h
            refine M_callUi (pc := 163) dX6_readLine_163 u_X6_45 rfl rfl at_6 (Nat.le_of_ble_eq_true rfl) (C_X10_numberBehind (d := d + 4) hp at_6 (Or.inr rfl) hx hr29) (Nat.le_refl _) ?_
            refine M_putI (pc := 166) dX6_readLine_166 f_X6_60 (gc_138_5 hp).2 rfl ⟨rfl, rfl⟩ ?_
            refine M_aload_n (pc := 169) dX6_readLine_169 rfl ?_
            refine M_getR (pc := 170) dX6_readLine_170 f_X6_12 at_6 (gc_138_5 hp).1 ?_
            refine M_getIs (pc := 173) (x := r28.1) dX6_readLine_173 f_X6_60 (gc_138_5 hp).2 rd_eq ?_
            refine M_iconst (pc := 176) (v := -1) dX6_readLine_176 (by decide) ?_
            refine M_icmp_eq (pc := 177) (tgt := 184) dX6_readLine_177 (by decide) (fun hc30 => ?_) (fun hc30 => ?_)
            · have h := (if_pos hc30).symm.trans h
              refine M_iconst (pc := 184) (v := 0) dX6_readLine_184 (by decide) ?_
              obtain rfl := Option.some.inj h
              exact M_iret (pc := 185) dX6_readLine_185 rfl rfl rfl rfl
            · have h := (if_neg hc30).symm.trans h
              refine M_iconst (pc := 180) (v := 1) dX6_readLine_180 (by decide) ?_
              refine M_goto (pc := 181) (tgt := 185) dX6_readLine_181 (by decide) ?_
              obtain rfl := Option.some.inj h
              exact M_iret (pc := 185) dX6_readLine_185 rfl rfl rfl rfl
        · have h := (if_neg hc12).symm.trans h
          refine M_aload_n (pc := 115) dX6_readLine_115 rfl ?_
          refine M_getR (pc := 116) dX6_readLine_116 f_X6_12 at_6 (gc_138_5 hp).1 ?_
          refine M_aload_n (pc := 119) dX6_readLine_119 rfl ?_
          refine M_iconst (pc := 120) (v := 0) dX6_readLine_120 (by decide) ?_
          refine M_bipush (pc := 121) (v := 45) dX6_readLine_121 (by decide) ?_
          obtain ⟨r31, hr32, h⟩ := bnd h
          refine M_callUi (pc := 123) dX6_readLine_123 u_X6_45 rfl rfl at_6 (Nat.le_of_ble_eq_true rfl) (C_X10_numberBehind (d := d + 4) hp at_6 (Or.inr rfl) hx hr32) (Nat.le_refl _) ?_
          refine M_putI (pc := 126) dX6_readLine_126 f_X6_56 (gc_138_5 hp).2 rfl ⟨rfl, rfl⟩ ?_
          refine M_aload_n (pc := 129) dX6_readLine_129 rfl ?_
          refine M_getR (pc := 130) dX6_readLine_130 f_X6_12 at_6 (gc_138_5 hp).1 ?_
          refine M_getIs (pc := 133) (x := r31.1) dX6_readLine_133 f_X6_56 (gc_138_5 hp).2 rd_eq ?_
          refine M_iconst (pc := 136) (v := -1) dX6_readLine_136 (by decide) ?_
          refine M_icmp_eq (pc := 137) (tgt := 144) dX6_readLine_137 (by decide) (fun hc33 => ?_) (fun hc33 => ?_)
          · have h := (if_pos hc33).symm.trans h
            refine M_iconst (pc := 144) (v := 0) dX6_readLine_144 (by decide) ?_
            obtain rfl := Option.some.inj h
            exact M_iret (pc := 145) dX6_readLine_145 rfl rfl rfl rfl
          · have h := (if_neg hc33).symm.trans h
            refine M_iconst (pc := 140) (v := 1) dX6_readLine_140 (by decide) ?_
            refine M_goto (pc := 141) (tgt := 145) dX6_readLine_141 (by decide) ?_
            obtain rfl := Option.some.inj h
            exact M_iret (pc := 145) dX6_readLine_145 rfl rfl rfl rfl
      · have h := (if_neg hc9).symm.trans h
        refine M_aload_n (pc := 60) dX6_readLine_60 rfl ?_
        refine M_getR (pc := 61) dX6_readLine_61 f_X6_12 at_6 (gc_138_5 hp).1 ?_
        refine M_aload_n (pc := 64) dX6_readLine_64 rfl ?_
        refine M_iconst (pc := 65) (v := 0) dX6_readLine_65 (by decide) ?_
        refine M_sipush (pc := 66) (v := 999) dX6_readLine_66 (by decide) ?_
        obtain ⟨r34, hr35, h⟩ := bnd h
        refine M_callUi (pc := 69) dX6_readLine_69 u_X6_45 rfl rfl at_6 (Nat.le_of_ble_eq_true rfl) (C_X10_numberBehind (d := d + 4) hp at_6 (Or.inr rfl) hx hr35) (Nat.le_refl _) ?_
        refine M_putI (pc := 72) dX6_readLine_72 f_X6_49 (gc_138_5 hp).2 rfl ⟨rfl, rfl⟩ ?_
        refine M_aload_n (pc := 75) dX6_readLine_75 rfl ?_
        refine M_getR (pc := 76) dX6_readLine_76 f_X6_12 at_6 (gc_138_5 hp).1 ?_
        refine M_aload_n (pc := 79) dX6_readLine_79 rfl ?_
        refine M_getR (pc := 80) dX6_readLine_80 f_X6_12 at_6 (gc_138_5 hp).1 ?_
        refine M_getIs (pc := 83) (x := r34.1) dX6_readLine_83 f_X6_49 (gc_138_5 hp).2 rd_eq ?_
        refine M_putI (pc := 86) dX6_readLine_86 f_X6_51 (gc_138_5 hp).2 rfl ⟨rfl, rfl⟩ ?_
        refine M_aload_n (pc := 89) dX6_readLine_89 rfl ?_
        refine M_getR (pc := 90) dX6_readLine_90 f_X6_12 at_6 (gc_138_5 hp).1 ?_
        refine M_getIs (pc := 93) (x := r34.1) dX6_readLine_93 f_X6_49 (gc_138_5 hp).2 ((rd_ne (Or.inr (by decide))).trans rd_eq) ?_
        refine M_iconst (pc := 96) (v := -1) dX6_readLine_96 (by decide) ?_
        refine M_icmp_eq (pc := 97) (tgt := 104) dX6_readLine_97 (by decide) (fun hc36 => ?_) (fun hc36 => ?_)
        · have h := (if_pos hc36).symm.trans h
          refine M_iconst (pc := 104) (v := 0) dX6_readLine_104 (by decide) ?_
          obtain rfl := Option.some.inj h
          exact M_iret (pc := 105) dX6_readLine_105 rfl rfl rfl rfl
        · have h := (if_neg hc36).symm.trans h
          refine M_iconst (pc := 100) (v := 1) dX6_readLine_100 (by decide) ?_
          refine M_goto (pc := 101) (tgt := 105) dX6_readLine_101 (by decide) ?_
          obtain rfl := Option.some.inj h
          exact M_iret (pc := 105) dX6_readLine_105 rfl rfl rfl rfl
    · have h := (if_neg hc6).symm.trans h
      refine M_aload_n (pc := 46) dX6_readLine_46 rfl ?_
      obtain ⟨r37, hr38, h⟩ := bnd h
      refine M_callVi (pc := 47) dX6_readLine_47 v_X6_40 rfl rfl at_6 (Nat.le_of_ble_eq_true rfl) (C_X6_readWar (d := d + 1) hp hx hr38) (Nat.le_refl _) ?_
      obtain ⟨hq39, h⟩ := chk h
      obtain rfl := Option.some.inj h
      exact M_iret (pc := 50) dX6_readLine_50 rfl (by rcases hq39 with q | q <;> rw [q] <;> rfl) rfl rfl
  · have h := (if_neg hc3).symm.trans h
    refine M_aload_n (pc := 9) dX6_readLine_9 rfl ?_
    refine M_getR (pc := 10) dX6_readLine_10 f_X6_12 at_6 (gc_138_5 hp).1 ?_
    refine M_getR (pc := 13) dX6_readLine_13 f_X6_24 (gc_138_5 hp).2 (gc_140_0 hp).1 ?_
    refine M_getI (pc := 16) dX6_readLine_16 f_X6_28 (gc_140_0 hp).2 ?_
    refine M_bipush (pc := 19) (v := 12) dX6_readLine_19 (by decide) ?_
    refine M_icmp_ge (pc := 21) (tgt := 35) dX6_readLine_21 (by decide) (fun hc40 => ?_) (fun hc40 => ?_)
    · have h := (if_pos hc40).symm.trans h
      refine M_iconst (pc := 35) (v := 0) dX6_readLine_35 (by decide) ?_
      obtain rfl := Option.some.inj h
      exact M_iret (pc := 36) dX6_readLine_36 rfl rfl rfl rfl
    · have h := (if_neg hc40).symm.trans h
      refine M_aload_n (pc := 24) dX6_readLine_24 rfl ?_
      obtain ⟨r41, hr42, h⟩ := bnd h
      refine M_callVi (pc := 25) dX6_readLine_25 v_X6_34 rfl rfl at_6 (Nat.le_of_ble_eq_true rfl) (C_X6_readDish (d := d + 0) hp hx hr42) (Nat.le_refl _) ?_
      refine M_if_eq (pc := 28) (tgt := 35) dX6_readLine_28 (by decide) (fun hc43 => ?_) (fun hc43 => ?_)
      · have h := (if_pos hc43).symm.trans h
        refine M_iconst (pc := 35) (v := 0) dX6_readLine_35 (by decide) ?_
        obtain rfl := Option.some.inj h
        exact M_iret (pc := 36) dX6_readLine_36 rfl rfl rfl rfl
      · have h := (if_neg hc43).symm.trans h
        refine M_iconst (pc := 31) (v := 1) dX6_readLine_31 (by decide) ?_
        refine M_goto (pc := 32) (tgt := 36) dX6_readLine_32 (by decide) ?_
        obtain rfl := Option.some.inj h
        exact M_iret (pc := 36) dX6_readLine_36 rfl rfl rfl rfl
def L_X8_goOn_49 (rc : HI → Int32 → Int32 → Int32 → Nat → Option (HI)) (b4 : Nat) (x1 : Int32) (x2 : Int32) (x3 : Int32) (x6 : Int32) (I : HI) : Option (HI) :=
  if (12 : Int32) ≤ x6 then some I else if ((x2 >>> (x6 &&& 31)) &&& (1 : Int32)) = 0 then L_X8_goOn_49 rc b4 x1 x2 x3 (x6 + (1 : Int32)) I else if inB (x1 + (1 : Int32)) 7 = true then if inB x1 7 = true then (F_X3_copy I (159 + 6 * ((x1 + (1 : Int32))).toNatClampNeg) (159 + 6 * (x1).toNatClampNeg)) >>= fun r11 => (F_X3_takes r11 (159 + 6 * ((x1 + (1 : Int32))).toNatClampNeg) x6) >>= fun r13 => if r13 = 0 then if inB x1 6 = true then (rc (up2 r11 156 (x1).toNatClampNeg x6) (x1 + (1 : Int32)) (x2 &&& (((1 : Int32) <<< (x6 &&& 31)) ^^^ (-1 : Int32))) (if x3 < ((up2 r11 156 (x1).toNatClampNeg x6) (159 + 6 * ((x1 + (1 : Int32))).toNatClampNeg) 4) then ((up2 r11 156 (x1).toNatClampNeg x6) (159 + 6 * ((x1 + (1 : Int32))).toNatClampNeg) 4) else x3) b4) >>= fun r17 => L_X8_goOn_49 rc b4 x1 x2 x3 (x6 + (1 : Int32)) r17 else none else (F_X3_bite r11 (159 + 6 * ((x1 + (1 : Int32))).toNatClampNeg) x6 b4) >>= fun r19 => if inB x1 6 = true then (rc (up2 r19 156 (x1).toNatClampNeg x6) (x1 + (1 : Int32)) (x2 &&& (((1 : Int32) <<< (x6 &&& 31)) ^^^ (-1 : Int32))) (if x3 < ((up2 r19 156 (x1).toNatClampNeg x6) (159 + 6 * ((x1 + (1 : Int32))).toNatClampNeg) 4) then ((up2 r19 156 (x1).toNatClampNeg x6) (159 + 6 * ((x1 + (1 : Int32))).toNatClampNeg) 4) else x3) b4) >>= fun r22 => L_X8_goOn_49 rc b4 x1 x2 x3 (x6 + (1 : Int32)) r22 else none else none else none
partial_fixpoint
def F_X8_goOn : Nat → HI → Int32 → Int32 → Int32 → Nat → Option (HI)
  | 0, _, _, _, _, _ => none
  | q + 1, I, x1, x2, x3, b4 => if x3 < (I 155 0) then if (I 155 1) ≤ x1 then if inB (I 155 1) 7 = true then some (up1 (up2 I 155 0 x3) 157 (va_cpy ((up2 I 155 0 x3) 156) ((up2 I 155 0 x3) 157) 0 0 ((I 155 1)).toNatClampNeg)) else none else if x1 < (6 : Int32) then L_X8_goOn_49 (F_X8_goOn q) b4 x1 x2 x3 (0 : Int32) I else if inB (I 155 1) 7 = true then some (up1 (up2 I 155 0 x3) 157 (va_cpy ((up2 I 155 0 x3) 156) ((up2 I 155 0 x3) 157) 0 0 ((I 155 1)).toNatClampNeg)) else none else some I
set_option maxRecDepth 4000 in
set_option maxHeartbeats 4000000 in
theorem LC_X8_goOn_49 {g : gX} {d : Nat} {P : Nat → Nat → Option Nat} {J : HJ} {rc : HI → Int32 → Int32 → Int32 → Nat → Option (HI)} {b4 : Nat} {x1 : Int32} {x2 : Int32} {x3 : Int32} (hp : Wp P) (hrc : ∀ (e : Nat) {J : HJ} (I : HI) (x1 : Int32) (x2 : Int32) (x3 : Int32) (b4 : Nat) (hb4 : OB NT b4 4) (r : HI), rc I x1 x2 x3 b4 = some r → Cm g mX8_goOn (d + e + 8) [.ref 155, .int x1, .int x2, .int x3, .ref b4, .ref 136] (NT, I, J, P) none (NT, r, J, P)) (hb4 : OB NT b4 4) : ∀ (x6 : Int32) (I : HI) (r : HI), L_X8_goOn_49 rc b4 x1 x2 x3 x6 I = some r → M g mX8_goOn (d + 9) (NT, NT, 0) ((.inl none), (NT, r, J, P)) 49 [some (.ref 155), some (.int x1), some (.int x2), some (.int x3), some (.ref b4), some (.ref 136), some (.int x6), none] [] (NT, I, J, P) := by
  refine L_X8_goOn_49.partial_correctness rc b4 x1 x2 x3 (fun x6 I r => M g mX8_goOn (d + 9) (NT, NT, 0) ((.inl none), (NT, r, J, P)) 49 [some (.ref 155), some (.int x1), some (.int x2), some (.int x3), some (.ref b4), some (.ref 136), some (.int x6), none] [] (NT, I, J, P)) ?_
  intro f ih x6 I r h
  refine M_iload (pc := 49) dX8_goOn_49 rfl ?_
  refine M_bipush (pc := 51) (v := 12) dX8_goOn_51 (by decide) ?_
  refine M_icmp_ge (pc := 53) (tgt := 149) dX8_goOn_53 (by decide) (fun hc5 => ?_) (fun hc5 => ?_)
  · have h := (if_pos hc5).symm.trans h
    obtain rfl := Option.some.inj h
    exact M_vret (pc := 149) dX8_goOn_149 rfl rfl rfl
  · have h := (if_neg hc5).symm.trans h
    refine M_iload_n (pc := 56) dX8_goOn_56 rfl ?_
    refine M_iload (pc := 57) dX8_goOn_57 rfl ?_
    refine M_ishr (pc := 59) dX8_goOn_59 ?_
    refine M_iconst (pc := 60) (v := 1) dX8_goOn_60 (by decide) ?_
    refine M_iand (pc := 61) dX8_goOn_61 ?_
    refine M_if_eq (pc := 62) (tgt := 143) dX8_goOn_62 (by decide) (fun hc6 => ?_) (fun hc6 => ?_)
    · have h := (if_pos hc6).symm.trans h
      refine M_iinc (pc := 143) (v := (x6 + (1 : Int32))) (ls' := [some (.ref 155), some (.int x1), some (.int x2), some (.int x3), some (.ref b4), some (.ref 136), some (.int (x6 + (1 : Int32))), none]) dX8_goOn_143 rfl rfl (by decide) rfl ?_
      refine M_goto (pc := 146) (tgt := 49) dX8_goOn_146 (by decide) ?_
      exact ih (x6 + (1 : Int32)) I _ h
    · have h := (if_neg hc6).symm.trans h
      refine M_aload_n (pc := 65) dX8_goOn_65 rfl ?_
      refine M_getR (pc := 66) dX8_goOn_66 f_X8_27 at_8 (gc_155_4 hp).1 ?_
      refine M_iload_n (pc := 69) dX8_goOn_69 rfl ?_
      refine M_iconst (pc := 70) (v := 1) dX8_goOn_70 (by decide) ?_
      refine M_iadd (pc := 71) dX8_goOn_71 ?_
      obtain ⟨hq7, h⟩ := chk h
      have fo8 := gr_ob hp (inB_lt hq7)
      refine M_aaldL (pc := 72) dX8_goOn_72 ar_ob (inB_in hq7) fo8.1 ?_
      refine M_astore (pc := 73) (ls' := [some (.ref 155), some (.int x1), some (.int x2), some (.int x3), some (.ref b4), some (.ref 136), some (.int x6), some (.ref (159 + 6 * ((x1 + (1 : Int32))).toNatClampNeg))]) dX8_goOn_73 (by decide) rfl ?_
      refine M_aload (pc := 75) dX8_goOn_75 rfl ?_
      refine M_aload_n (pc := 77) dX8_goOn_77 rfl ?_
      refine M_getR (pc := 78) dX8_goOn_78 f_X8_27 at_8 (gc_155_4 hp).1 ?_
      refine M_iload_n (pc := 81) dX8_goOn_81 rfl ?_
      obtain ⟨hq9, h⟩ := chk h
      have fo10 := gr_ob hp (inB_lt hq9)
      refine M_aaldL (pc := 82) dX8_goOn_82 ar_ob (inB_in hq9) fo10.1 ?_
      obtain ⟨r11, hr12, h⟩ := bnd h
      refine M_callVv (pc := 83) dX8_goOn_83 v_X8_44 rfl rfl fo8.2 (Nat.le_of_ble_eq_true rfl) (C_X3_copy (d := d + 6) hp fo8.2 fo10.2 hr12) (Nat.le_refl _) ?_
      refine M_aload (pc := 86) dX8_goOn_86 rfl ?_
      refine M_iload (pc := 88) dX8_goOn_88 rfl ?_
      obtain ⟨r13, hr14, h⟩ := bnd h
      refine M_callVi (pc := 90) dX8_goOn_90 v_X8_61 rfl rfl fo8.2 (Nat.le_of_ble_eq_true rfl) (C_X3_takes (d := d + 7) hp fo8.2 hr14) (Nat.le_refl _) ?_
      refine M_if_eq (pc := 93) (tgt := 107) dX8_goOn_93 (by decide) (fun hc15 => ?_) (fun hc15 => ?_)
      · have h := (if_pos hc15).symm.trans h
        refine M_aload_n (pc := 107) dX8_goOn_107 rfl ?_
        refine M_getR (pc := 108) dX8_goOn_108 f_X8_18 at_8 (gc_155_2 hp).1 ?_
        refine M_iload_n (pc := 111) dX8_goOn_111 rfl ?_
        refine M_iload (pc := 112) dX8_goOn_112 rfl ?_
        obtain ⟨hq16, h⟩ := chk h
        refine M_iast (pc := 114) dX8_goOn_114 (gc_155_2 hp).2 (inB_in hq16) ?_
        refine M_aload_n (pc := 115) dX8_goOn_115 rfl ?_
        refine M_iload_n (pc := 116) dX8_goOn_116 rfl ?_
        refine M_iconst (pc := 117) (v := 1) dX8_goOn_117 (by decide) ?_
        refine M_iadd (pc := 118) dX8_goOn_118 ?_
        refine M_iload_n (pc := 119) dX8_goOn_119 rfl ?_
        refine M_iconst (pc := 120) (v := 1) dX8_goOn_120 (by decide) ?_
        refine M_iload (pc := 121) dX8_goOn_121 rfl ?_
        refine M_ishl (pc := 123) dX8_goOn_123 ?_
        refine M_iconst (pc := 124) (v := -1) dX8_goOn_124 (by decide) ?_
        refine M_ixor (pc := 125) dX8_goOn_125 ?_
        refine M_iand (pc := 126) dX8_goOn_126 ?_
        refine M_iload_n (pc := 127) dX8_goOn_127 rfl ?_
        refine M_aload (pc := 128) dX8_goOn_128 rfl ?_
        refine M_getI (pc := 130) dX8_goOn_130 f_X8_48 fo8.2 ?_
        refine M_mmax (pc := 133) dX8_goOn_133 mm_X8_69.1 mm_X8_69.2.1 mm_X8_69.2.2.1 mm_X8_69.2.2.2 (Nat.le_of_ble_eq_true rfl) ?_
        refine M_aload (pc := 136) dX8_goOn_136 rfl ?_
        refine M_aload (pc := 138) dX8_goOn_138 rfl ?_
        obtain ⟨r17, hr18, h⟩ := bnd h
        refine M_callVv (pc := 140) dX8_goOn_140 v_X8_51 rfl rfl at_8 (Nat.le_of_ble_eq_true rfl) (hrc 0 _ _ _ _ _ hb4 _ hr18) (Nat.le_refl _) ?_
        refine M_iinc (pc := 143) (v := (x6 + (1 : Int32))) (ls' := [some (.ref 155), some (.int x1), some (.int x2), some (.int x3), some (.ref b4), some (.ref 136), some (.int (x6 + (1 : Int32))), some (.ref (159 + 6 * ((x1 + (1 : Int32))).toNatClampNeg))]) dX8_goOn_143 rfl rfl (by decide) rfl ?_
        refine M_goto (pc := 146) (tgt := 49) dX8_goOn_146 (by decide) ?_
        refine M_mask (pc := 49) [true, true, true, true, true, true, true, false] rfl ?_
        exact ih (x6 + (1 : Int32)) r17 _ h
      · have h := (if_neg hc15).symm.trans h
        refine M_aload (pc := 96) dX8_goOn_96 rfl ?_
        refine M_iload (pc := 98) dX8_goOn_98 rfl ?_
        refine M_aload (pc := 100) dX8_goOn_100 rfl ?_
        refine M_aload (pc := 102) dX8_goOn_102 rfl ?_
        obtain ⟨r19, hr20, h⟩ := bnd h
        refine M_callVv (pc := 104) dX8_goOn_104 v_X8_65 rfl rfl fo8.2 (Nat.le_of_ble_eq_true rfl) (C_X3_bite (d := d + 4) hp fo8.2 hb4 hr20) (Nat.le_refl _) ?_
        refine M_aload_n (pc := 107) dX8_goOn_107 rfl ?_
        refine M_getR (pc := 108) dX8_goOn_108 f_X8_18 at_8 (gc_155_2 hp).1 ?_
        refine M_iload_n (pc := 111) dX8_goOn_111 rfl ?_
        refine M_iload (pc := 112) dX8_goOn_112 rfl ?_
        obtain ⟨hq21, h⟩ := chk h
        refine M_iast (pc := 114) dX8_goOn_114 (gc_155_2 hp).2 (inB_in hq21) ?_
        refine M_aload_n (pc := 115) dX8_goOn_115 rfl ?_
        refine M_iload_n (pc := 116) dX8_goOn_116 rfl ?_
        refine M_iconst (pc := 117) (v := 1) dX8_goOn_117 (by decide) ?_
        refine M_iadd (pc := 118) dX8_goOn_118 ?_
        refine M_iload_n (pc := 119) dX8_goOn_119 rfl ?_
        refine M_iconst (pc := 120) (v := 1) dX8_goOn_120 (by decide) ?_
        refine M_iload (pc := 121) dX8_goOn_121 rfl ?_
        refine M_ishl (pc := 123) dX8_goOn_123 ?_
        refine M_iconst (pc := 124) (v := -1) dX8_goOn_124 (by decide) ?_
        refine M_ixor (pc := 125) dX8_goOn_125 ?_
        refine M_iand (pc := 126) dX8_goOn_126 ?_
        refine M_iload_n (pc := 127) dX8_goOn_127 rfl ?_
        refine M_aload (pc := 128) dX8_goOn_128 rfl ?_
        refine M_getI (pc := 130) dX8_goOn_130 f_X8_48 fo8.2 ?_
        refine M_mmax (pc := 133) dX8_goOn_133 mm_X8_69.1 mm_X8_69.2.1 mm_X8_69.2.2.1 mm_X8_69.2.2.2 (Nat.le_of_ble_eq_true rfl) ?_
        refine M_aload (pc := 136) dX8_goOn_136 rfl ?_
        refine M_aload (pc := 138) dX8_goOn_138 rfl ?_
        obtain ⟨r22, hr23, h⟩ := bnd h
        refine M_callVv (pc := 140) dX8_goOn_140 v_X8_51 rfl rfl at_8 (Nat.le_of_ble_eq_true rfl) (hrc 0 _ _ _ _ _ hb4 _ hr23) (Nat.le_refl _) ?_
        refine M_iinc (pc := 143) (v := (x6 + (1 : Int32))) (ls' := [some (.ref 155), some (.int x1), some (.int x2), some (.int x3), some (.ref b4), some (.ref 136), some (.int (x6 + (1 : Int32))), some (.ref (159 + 6 * ((x1 + (1 : Int32))).toNatClampNeg))]) dX8_goOn_143 rfl rfl (by decide) rfl ?_
        refine M_goto (pc := 146) (tgt := 49) dX8_goOn_146 (by decide) ?_
        refine M_mask (pc := 49) [true, true, true, true, true, true, true, false] rfl ?_
        exact ih (x6 + (1 : Int32)) r22 _ h
set_option maxRecDepth 4000 in
set_option maxHeartbeats 4000000 in
theorem C_X8_goOn {g : gX} {P : Nat → Nat → Option Nat} (hp : Wp P) : ∀ (q : Nat) {d : Nat} {J : HJ} (I : HI) (x1 : Int32) (x2 : Int32) (x3 : Int32) (b4 : Nat) (hb4 : OB NT b4 4) (r : HI), F_X8_goOn q I x1 x2 x3 b4 = some r → Cm g mX8_goOn (d + 1 * q + 8) [.ref 155, .int x1, .int x2, .int x3, .ref b4, .ref 136] (NT, I, J, P) none (NT, r, J, P) := by
  intro q
  induction q with
  | zero => intro d J I x1 x2 x3 b4 hb4 r h; cases h
  | succ q ih =>
  intro d0 J I x1 x2 x3 b4 hb4 r h
  obtain ⟨d, hd⟩ : ∃ d, d = d0 + 1 * q := ⟨_, rfl⟩
  rw [show d0 + 1 * (q + 1) + 8 = d + 9 by omega]
  have hrc : ∀ (e : Nat) {J : HJ} (I : HI) (x1 : Int32) (x2 : Int32) (x3 : Int32) (b4 : Nat) (hb4 : OB NT b4 4) (r : HI), F_X8_goOn q I x1 x2 x3 b4 = some r → _ := fun e {J} I x1 x2 x3 b4 hb4 r h9 => ih (d := d0 + e) (J := J) I x1 x2 x3 b4 hb4 r h9
  simp only [show ∀ e, d0 + e + 1 * q + 8 = d + e + 8 from fun e => by omega] at hrc
  unfold F_X8_goOn at h
  refine Cm.of (by decide) (by simp [Value.category]) (Nat.le_of_ble_eq_true rfl) (Nat.le_refl _) (ls := [some (.ref 155), some (.int x1), some (.int x2), some (.int x3), some (.ref b4), some (.ref 136), none, none]) rfl ?_
  refine M_iload_n (pc := 0) dX8_goOn_0 rfl ?_
  refine M_aload_n (pc := 1) dX8_goOn_1 rfl ?_
  refine M_getI (pc := 2) dX8_goOn_2 f_X8_9 at_8 ?_
  refine M_icmp_lt (pc := 5) (tgt := 9) dX8_goOn_5 (by decide) (fun hc1 => ?_) (fun hc1 => ?_)
  · have h := (if_pos hc1).symm.trans h
    refine M_iload_n (pc := 9) dX8_goOn_9 rfl ?_
    refine M_aload_n (pc := 10) dX8_goOn_10 rfl ?_
    refine M_getI (pc := 11) dX8_goOn_11 f_X8_15 at_8 ?_
    refine M_icmp_ge (pc := 14) (tgt := 23) dX8_goOn_14 (by decide) (fun hc2 => ?_) (fun hc2 => ?_)
    · have h := (if_pos hc2).symm.trans h
      refine M_aload_n (pc := 23) dX8_goOn_23 rfl ?_
      refine M_iload_n (pc := 24) dX8_goOn_24 rfl ?_
      refine M_putI (pc := 25) dX8_goOn_25 f_X8_9 at_8 rfl ⟨rfl, rfl⟩ ?_
      refine M_aload_n (pc := 28) dX8_goOn_28 rfl ?_
      refine M_getR (pc := 29) dX8_goOn_29 f_X8_18 at_8 (gc_155_2 hp).1 ?_
      refine M_iconst (pc := 32) (v := 0) dX8_goOn_32 (by decide) ?_
      refine M_aload_n (pc := 33) dX8_goOn_33 rfl ?_
      refine M_getR (pc := 34) dX8_goOn_34 f_X8_22 at_8 (gc_155_3 hp).1 ?_
      refine M_iconst (pc := 37) (v := 0) dX8_goOn_37 (by decide) ?_
      refine M_aload_n (pc := 38) dX8_goOn_38 rfl ?_
      refine M_getIs (pc := 39) (x := (I 155 1)) dX8_goOn_39 f_X8_15 at_8 (rd_ne (Or.inr (by decide))) ?_
      obtain ⟨hq3, h⟩ := chk h
      refine M_copyB (pc := 42) dX8_goOn_42 w_1185 w_470 w_469 w_14 (by omega) (by decide) (gc_155_3 hp).2 (gc_155_2 hp).2 hq3 (by decide) (by decide) ?_
      obtain rfl := Option.some.inj h
      exact M_vret (pc := 45) dX8_goOn_45 rfl rfl rfl
    · have h := (if_neg hc2).symm.trans h
      refine M_iload_n (pc := 17) dX8_goOn_17 rfl ?_
      refine M_bipush (pc := 18) (v := 6) dX8_goOn_18 (by decide) ?_
      refine M_icmp_lt (pc := 20) (tgt := 46) dX8_goOn_20 (by decide) (fun hc4 => ?_) (fun hc4 => ?_)
      · have h := (if_pos hc4).symm.trans h
        refine M_iconst (pc := 46) (v := 0) dX8_goOn_46 (by decide) ?_
        refine M_istore (pc := 47) (ls' := [some (.ref 155), some (.int x1), some (.int x2), some (.int x3), some (.ref b4), some (.ref 136), some (.int (0 : Int32)), none]) dX8_goOn_47 (by decide) rfl ?_
        exact LC_X8_goOn_49 (P := P) hp hrc hb4 (0 : Int32) I _ h
      · have h := (if_neg hc4).symm.trans h
        refine M_aload_n (pc := 23) dX8_goOn_23 rfl ?_
        refine M_iload_n (pc := 24) dX8_goOn_24 rfl ?_
        refine M_putI (pc := 25) dX8_goOn_25 f_X8_9 at_8 rfl ⟨rfl, rfl⟩ ?_
        refine M_aload_n (pc := 28) dX8_goOn_28 rfl ?_
        refine M_getR (pc := 29) dX8_goOn_29 f_X8_18 at_8 (gc_155_2 hp).1 ?_
        refine M_iconst (pc := 32) (v := 0) dX8_goOn_32 (by decide) ?_
        refine M_aload_n (pc := 33) dX8_goOn_33 rfl ?_
        refine M_getR (pc := 34) dX8_goOn_34 f_X8_22 at_8 (gc_155_3 hp).1 ?_
        refine M_iconst (pc := 37) (v := 0) dX8_goOn_37 (by decide) ?_
        refine M_aload_n (pc := 38) dX8_goOn_38 rfl ?_
        refine M_getIs (pc := 39) (x := (I 155 1)) dX8_goOn_39 f_X8_15 at_8 (rd_ne (Or.inr (by decide))) ?_
        obtain ⟨hq24, h⟩ := chk h
        refine M_copyB (pc := 42) dX8_goOn_42 w_1185 w_470 w_469 w_14 (by omega) (by decide) (gc_155_3 hp).2 (gc_155_2 hp).2 hq24 (by decide) (by decide) ?_
        obtain rfl := Option.some.inj h
        exact M_vret (pc := 45) dX8_goOn_45 rfl rfl rfl
  · have h := (if_neg hc1).symm.trans h
    obtain rfl := Option.some.inj h
    exact M_vret (pc := 8) dX8_goOn_8 rfl rfl rfl
def L_X10_firstWrong_c6_40 (x3 : Int32) (x4 : Int32) (I : HI) : Option (Int32 × HI) :=
  if x3 ≤ x4 then some ((I 138 3), I) else (F_X6_readLine I) >>= fun r5 => if r5.1 = 0 then some ((r5.2 138 3), r5.2) else if (r5.2 138 2) = 0 then some ((-1 : Int32), r5.2) else (F_X10_isSign r5.2 138 (59 : Int32)) >>= fun r9 => if r9 = 0 then some ((r5.2 138 3), r5.2) else (F_X10_advance r5.2 138) >>= fun r12 => L_X10_firstWrong_c6_40 x3 (x4 + (1 : Int32)) r12
partial_fixpoint
def F_X10_firstWrong_c6 (I : HI) (x2 : Int32) (x3 : Int32) : Option (Int32 × HI) :=
  (F_X10_advance (up2 (up2 I 138 1 (if (0 : Int32) < (if (400 : Int32) < x2 then (400 : Int32) else x2) then (if (400 : Int32) < x2 then (400 : Int32) else x2) else (0 : Int32))) 138 4 (0 : Int32)) 138) >>= fun r1 => if (r1 138 2) = 0 then some ((-1 : Int32), r1) else L_X10_firstWrong_c6_40 x3 (0 : Int32) r1
set_option maxRecDepth 4000 in
set_option maxHeartbeats 4000000 in
theorem LC_X10_firstWrong_c6_40 {g : gX} {d : Nat} {P : Nat → Nat → Option Nat} {J : HJ} {x3 : Int32} (hp : Wp P) (hx : P 138 0 = some 2) : ∀ (x4 : Int32) (I : HI) (r : Int32 × HI), L_X10_firstWrong_c6_40 x3 x4 I = some r → M g mX10_firstWrong (d + 8) (NT, NT, 0) ((.inl (some (.int r.1))), (NT, r.2, J, P)) 40 [some (.ref 138), none, none, some (.int x3), some (.int x4)] [] (NT, I, J, P) := by
  refine L_X10_firstWrong_c6_40.partial_correctness x3 (fun x4 I r => M g mX10_firstWrong (d + 8) (NT, NT, 0) ((.inl (some (.int r.1))), (NT, r.2, J, P)) 40 [some (.ref 138), none, none, some (.int x3), some (.int x4)] [] (NT, I, J, P)) ?_
  intro f ih x4 I r h
  refine M_iload (pc := 40) dX10_firstWrong_40 rfl ?_
  refine M_iload_n (pc := 42) dX10_firstWrong_42 rfl ?_
  refine M_icmp_ge (pc := 43) (tgt := 91) dX10_firstWrong_43 (by decide) (fun hc4 => ?_) (fun hc4 => ?_)
  · have h := (if_pos hc4).symm.trans h
    refine M_aload_n (pc := 91) dX10_firstWrong_91 rfl ?_
    refine M_getI (pc := 92) dX10_firstWrong_92 f_X10_22_6 at_6 ?_
    obtain rfl := Option.some.inj h
    exact M_iret (pc := 95) dX10_firstWrong_95 rfl rfl rfl rfl
  · have h := (if_neg hc4).symm.trans h
    refine M_aload_n (pc := 46) dX10_firstWrong_46 rfl ?_
    obtain ⟨r5, hr6, h⟩ := bnd h
    refine M_callAi (pc := 47) dX10_firstWrong_47 a_X10_40_6 rfl rfl at_6 (Nat.le_of_ble_eq_true rfl) (C_X6_readLine (d := d + 0) hp hx hr6) (Nat.le_refl _) ?_
    refine M_if_ne (pc := 50) (tgt := 58) dX10_firstWrong_50 (by decide) (fun hc7 => ?_) (fun hc7 => ?_)
    · have h := (if_neg hc7).symm.trans h
      refine M_aload_n (pc := 58) dX10_firstWrong_58 rfl ?_
      refine M_getI (pc := 59) dX10_firstWrong_59 f_X10_19_6 at_6 ?_
      refine M_if_ne (pc := 62) (tgt := 67) dX10_firstWrong_62 (by decide) (fun hc8 => ?_) (fun hc8 => ?_)
      · have h := (if_neg hc8).symm.trans h
        refine M_aload_n (pc := 67) dX10_firstWrong_67 rfl ?_
        refine M_bipush (pc := 68) (v := 59) dX10_firstWrong_68 (by decide) ?_
        obtain ⟨r9, hr10, h⟩ := bnd h
        refine M_callUi (pc := 70) dX10_firstWrong_70 u_X10_44_6 rfl rfl at_6 (Nat.le_of_ble_eq_true rfl) (C_X10_isSign (d := d + 7) hp at_6 (Or.inr rfl) hx hr10) (Nat.le_refl _) ?_
        refine M_if_ne (pc := 73) (tgt := 81) dX10_firstWrong_73 (by decide) (fun hc11 => ?_) (fun hc11 => ?_)
        · have h := (if_neg hc11).symm.trans h
          refine M_aload_n (pc := 81) dX10_firstWrong_81 rfl ?_
          obtain ⟨r12, hr13, h⟩ := bnd h
          refine M_callUv (pc := 82) dX10_firstWrong_82 u_X10_37_6 rfl rfl at_6 (Nat.le_of_ble_eq_true rfl) (C_X10_advance (d := d + 6) hp at_6 (Or.inr rfl) hx hr13) (Nat.le_refl _) ?_
          refine M_iinc (pc := 85) (v := (x4 + (1 : Int32))) (ls' := [some (.ref 138), none, none, some (.int x3), some (.int (x4 + (1 : Int32)))]) dX10_firstWrong_85 rfl rfl (by decide) rfl ?_
          refine M_goto (pc := 88) (tgt := 40) dX10_firstWrong_88 (by decide) ?_
          exact ih (x4 + (1 : Int32)) r12 _ h
        · have h := (if_pos hc11).symm.trans h
          refine M_aload_n (pc := 76) dX10_firstWrong_76 rfl ?_
          refine M_getI (pc := 77) dX10_firstWrong_77 f_X10_22_6 at_6 ?_
          obtain rfl := Option.some.inj h
          exact M_iret (pc := 80) dX10_firstWrong_80 rfl rfl rfl rfl
      · have h := (if_pos hc8).symm.trans h
        refine M_iconst (pc := 65) (v := -1) dX10_firstWrong_65 (by decide) ?_
        obtain rfl := Option.some.inj h
        exact M_iret (pc := 66) dX10_firstWrong_66 rfl rfl rfl rfl
    · have h := (if_pos hc7).symm.trans h
      refine M_aload_n (pc := 53) dX10_firstWrong_53 rfl ?_
      refine M_getI (pc := 54) dX10_firstWrong_54 f_X10_22_6 at_6 ?_
      obtain rfl := Option.some.inj h
      exact M_iret (pc := 57) dX10_firstWrong_57 rfl rfl rfl rfl
set_option maxRecDepth 4000 in
set_option maxHeartbeats 4000000 in
theorem C_X10_firstWrong_c6 {g : gX} {d : Nat} {P : Nat → Nat → Option Nat} {I : HI} {x2 : Int32} {x3 : Int32} {J : HJ} (hp : Wp P) {r : Int32 × HI} (h : F_X10_firstWrong_c6 I x2 x3 = some r) : Cm g mX10_firstWrong (d + 8) [.ref 138, .ref 2, .int x2, .int x3] (NT, I, J, P) (some (.int r.1)) (NT, r.2, J, (up2 P 138 0 (some 2))) := by
  unfold F_X10_firstWrong_c6 at h
  refine Cm.of (by decide) (by simp [Value.category]) (Nat.le_of_ble_eq_true rfl) (Nat.le_refl _) (ls := [some (.ref 138), some (.ref 2), some (.int x2), some (.int x3), none]) rfl ?_
  refine M_aload_n (pc := 0) dX10_firstWrong_0 rfl ?_
  refine M_aload_n (pc := 1) dX10_firstWrong_1 rfl ?_
  refine M_putR (pc := 2) dX10_firstWrong_2 f_X10_9_6 at_6 rfl ?_
  have hx : (up2 P 138 0 (some 2)) 138 0 = some 2 := by rw [up2_get, if_pos ⟨rfl, rfl⟩]
  have hp : Wp (up2 P 138 0 (some 2)) := Wp_up hp (by decide +kernel)
  refine M_aload_n (pc := 5) dX10_firstWrong_5 rfl ?_
  refine M_iconst (pc := 6) (v := 0) dX10_firstWrong_6 (by decide) ?_
  refine M_iload_n (pc := 7) dX10_firstWrong_7 rfl ?_
  refine M_aload_n (pc := 8) dX10_firstWrong_8 rfl ?_
  refine M_alen (pc := 9) (v := 400) (k := 0) dX10_firstWrong_9 ar_tape (by decide) ?_
  refine M_mmin (pc := 10) dX10_firstWrong_10 mm_X10_28.1 mm_X10_28.2.1 mm_X10_28.2.2.1 mm_X10_28.2.2.2 (Nat.le_of_ble_eq_true rfl) ?_
  refine M_mmax (pc := 13) dX10_firstWrong_13 mm_X10_34.1 mm_X10_34.2.1 mm_X10_34.2.2.1 mm_X10_34.2.2.2 (Nat.le_of_ble_eq_true rfl) ?_
  refine M_putI (pc := 16) dX10_firstWrong_16 f_X10_15_6 at_6 rfl ⟨rfl, rfl⟩ ?_
  refine M_aload_n (pc := 19) dX10_firstWrong_19 rfl ?_
  refine M_iconst (pc := 20) (v := 0) dX10_firstWrong_20 (by decide) ?_
  refine M_putI (pc := 21) dX10_firstWrong_21 f_X10_25_6 at_6 rfl ⟨rfl, rfl⟩ ?_
  refine M_aload_n (pc := 24) dX10_firstWrong_24 rfl ?_
  obtain ⟨r1, hr2, h⟩ := bnd h
  refine M_callUv (pc := 25) dX10_firstWrong_25 u_X10_37_6 rfl rfl at_6 (Nat.le_of_ble_eq_true rfl) (C_X10_advance (d := d + 6) hp at_6 (Or.inr rfl) hx hr2) (Nat.le_refl _) ?_
  refine M_aload_n (pc := 28) dX10_firstWrong_28 rfl ?_
  refine M_getI (pc := 29) dX10_firstWrong_29 f_X10_19_6 at_6 ?_
  refine M_if_ne (pc := 32) (tgt := 37) dX10_firstWrong_32 (by decide) (fun hc3 => ?_) (fun hc3 => ?_)
  · have h := (if_neg hc3).symm.trans h
    refine M_iconst (pc := 37) (v := 0) dX10_firstWrong_37 (by decide) ?_
    refine M_istore (pc := 38) (ls' := [some (.ref 138), some (.ref 2), some (.int x2), some (.int x3), some (.int (0 : Int32))]) dX10_firstWrong_38 (by decide) rfl ?_
    refine M_mask (pc := 40) [true, false, false, true, true] rfl ?_
    exact LC_X10_firstWrong_c6_40 (P := (up2 P 138 0 (some 2))) hp hx (0 : Int32) r1 _ h
  · have h := (if_pos hc3).symm.trans h
    refine M_iconst (pc := 35) (v := -1) dX10_firstWrong_35 (by decide) ?_
    obtain rfl := Option.some.inj h
    exact M_iret (pc := 36) dX10_firstWrong_36 rfl rfl rfl rfl
def F_X5_readLine (I : HI) : Option (Int32 × HI) :=
  (F_X5_kindHere I) >>= fun r1 => if r1 = (-1 : Int32) then some ((0 : Int32), I) else (F_X10_numberBehind I 146 (0 : Int32) (60 : Int32)) >>= fun r4 => if r4.1 = (-1 : Int32) then some ((0 : Int32), r4.2) else (F_X10_isWord r4.2 146 23) >>= fun r7 => if r7 = 0 then (F_X4_endLine r4.2 148 r1 r4.1) >>= fun r10 => some ((1 : Int32), r10) else (F_X10_advance r4.2 146) >>= fun r12 => (F_X5_readCondition r12) >>= fun r14 => if r14.1 = 0 then some ((0 : Int32), r14.2) else (F_X4_endLine r14.2 148 r1 r4.1) >>= fun r17 => some ((1 : Int32), r17)
set_option maxRecDepth 4000 in
set_option maxHeartbeats 4000000 in
theorem C_X5_readLine {g : gX} {d : Nat} {P : Nat → Nat → Option Nat} {I : HI} {J : HJ} (hp : Wp P) (hx : P 146 0 = some 2) {r : Int32 × HI} (h : F_X5_readLine I = some r) : Cm g mX5_readLine (d + 9) [.ref 146] (NT, I, J, P) (some (.int r.1)) (NT, r.2, J, P) := by
  unfold F_X5_readLine at h
  refine Cm.of (by decide) (by simp [Value.category]) (Nat.le_of_ble_eq_true rfl) (Nat.le_refl _) (ls := [some (.ref 146), none, none]) rfl ?_
  refine M_aload_n (pc := 0) dX5_readLine_0 rfl ?_
  obtain ⟨r1, hr2, h⟩ := bnd h
  refine M_callVi (pc := 1) dX5_readLine_1 v_X5_29 rfl rfl at_5 (Nat.le_of_ble_eq_true rfl) (C_X5_kindHere (d := d + 3) hp hx hr2) (Nat.le_refl _) ?_
  refine M_istore_n (pc := 4) (ls' := [some (.ref 146), some (.int r1), none]) dX5_readLine_4 (by decide) rfl ?_
  refine M_iload_n (pc := 5) dX5_readLine_5 rfl ?_
  refine M_iconst (pc := 6) (v := -1) dX5_readLine_6 (by decide) ?_
  refine M_icmp_ne (pc := 7) (tgt := 12) dX5_readLine_7 (by decide) (fun hc3 => ?_) (fun hc3 => ?_)
  · have h := (if_neg hc3).symm.trans h
    refine M_aload_n (pc := 12) dX5_readLine_12 rfl ?_
    refine M_iconst (pc := 13) (v := 0) dX5_readLine_13 (by decide) ?_
    refine M_bipush (pc := 14) (v := 60) dX5_readLine_14 (by decide) ?_
    obtain ⟨r4, hr5, h⟩ := bnd h
    refine M_callUi (pc := 16) dX5_readLine_16 u_X5_33 rfl rfl at_5 (Nat.le_of_ble_eq_true rfl) (C_X10_numberBehind (d := d + 6) hp at_5 (Or.inl rfl) hx hr5) (Nat.le_refl _) ?_
    refine M_istore_n (pc := 19) (ls' := [some (.ref 146), some (.int r1), some (.int r4.1)]) dX5_readLine_19 (by decide) rfl ?_
    refine M_iload_n (pc := 20) dX5_readLine_20 rfl ?_
    refine M_iconst (pc := 21) (v := -1) dX5_readLine_21 (by decide) ?_
    refine M_icmp_ne (pc := 22) (tgt := 27) dX5_readLine_22 (by decide) (fun hc6 => ?_) (fun hc6 => ?_)
    · have h := (if_neg hc6).symm.trans h
      refine M_aload_n (pc := 27) dX5_readLine_27 rfl ?_
      refine M_ldcS (pc := 28) (j := 23) dX5_readLine_28 (by decide) str_X5_37 ?_
      obtain ⟨r7, hr8, h⟩ := bnd h
      refine M_callUi (pc := 30) dX5_readLine_30 u_X5_39 rfl rfl at_5 (Nat.le_of_ble_eq_true rfl) (C_X10_isWord (d := d + 4) hp at_5 (Or.inl rfl) hx (by decide) hr8) (Nat.le_refl _) ?_
      refine M_if_eq (pc := 33) (tgt := 49) dX5_readLine_33 (by decide) (fun hc9 => ?_) (fun hc9 => ?_)
      · have h := (if_pos hc9).symm.trans h
        refine M_aload_n (pc := 49) dX5_readLine_49 rfl ?_
        refine M_getR (pc := 50) dX5_readLine_50 f_X5_14 at_5 (gc_146_5 hp).1 ?_
        refine M_iload_n (pc := 53) dX5_readLine_53 rfl ?_
        refine M_iload_n (pc := 54) dX5_readLine_54 rfl ?_
        obtain ⟨r10, hr11, h⟩ := bnd h
        refine M_callVv (pc := 55) dX5_readLine_55 v_X5_50 rfl rfl (gc_146_5 hp).2 (Nat.le_of_ble_eq_true rfl) (C_X4_endLine (d := d + 8) hp (gc_146_5 hp).2 hr11) (Nat.le_refl _) ?_
        refine M_iconst (pc := 58) (v := 1) dX5_readLine_58 (by decide) ?_
        obtain rfl := Option.some.inj h
        exact M_iret (pc := 59) dX5_readLine_59 rfl rfl rfl rfl
      · have h := (if_neg hc9).symm.trans h
        refine M_aload_n (pc := 36) dX5_readLine_36 rfl ?_
        obtain ⟨r12, hr13, h⟩ := bnd h
        refine M_callUv (pc := 37) dX5_readLine_37 u_X5_43 rfl rfl at_5 (Nat.le_of_ble_eq_true rfl) (C_X10_advance (d := d + 7) hp at_5 (Or.inl rfl) hx hr13) (Nat.le_refl _) ?_
        refine M_aload_n (pc := 40) dX5_readLine_40 rfl ?_
        obtain ⟨r14, hr15, h⟩ := bnd h
        refine M_callVi (pc := 41) dX5_readLine_41 v_X5_46 rfl rfl at_5 (Nat.le_of_ble_eq_true rfl) (C_X5_readCondition (d := d + 0) hp hx hr15) (Nat.le_refl _) ?_
        refine M_if_ne (pc := 44) (tgt := 49) dX5_readLine_44 (by decide) (fun hc16 => ?_) (fun hc16 => ?_)
        · have h := (if_neg hc16).symm.trans h
          refine M_aload_n (pc := 49) dX5_readLine_49 rfl ?_
          refine M_getR (pc := 50) dX5_readLine_50 f_X5_14 at_5 (gc_146_5 hp).1 ?_
          refine M_iload_n (pc := 53) dX5_readLine_53 rfl ?_
          refine M_iload_n (pc := 54) dX5_readLine_54 rfl ?_
          obtain ⟨r17, hr18, h⟩ := bnd h
          refine M_callVv (pc := 55) dX5_readLine_55 v_X5_50 rfl rfl (gc_146_5 hp).2 (Nat.le_of_ble_eq_true rfl) (C_X4_endLine (d := d + 8) hp (gc_146_5 hp).2 hr18) (Nat.le_refl _) ?_
          refine M_iconst (pc := 58) (v := 1) dX5_readLine_58 (by decide) ?_
          obtain rfl := Option.some.inj h
          exact M_iret (pc := 59) dX5_readLine_59 rfl rfl rfl rfl
        · have h := (if_pos hc16).symm.trans h
          refine M_iconst (pc := 47) (v := 0) dX5_readLine_47 (by decide) ?_
          obtain rfl := Option.some.inj h
          exact M_iret (pc := 48) dX5_readLine_48 rfl rfl rfl rfl
    · have h := (if_pos hc6).symm.trans h
      refine M_iconst (pc := 25) (v := 0) dX5_readLine_25 (by decide) ?_
      obtain rfl := Option.some.inj h
      exact M_iret (pc := 26) dX5_readLine_26 rfl rfl rfl rfl
  · have h := (if_pos hc3).symm.trans h
    refine M_iconst (pc := 10) (v := 0) dX5_readLine_10 (by decide) ?_
    obtain rfl := Option.some.inj h
    exact M_iret (pc := 11) dX5_readLine_11 rfl rfl rfl rfl
def F_X8_search (I : HI) (b1 : Nat) (x2 : Int32) (b3 : Nat) : Option (HI) :=
  (F_J6_bitCount_0f7a4 I x2) >>= fun r1 => if inB (0 : Int32) 7 = true then (F_X3_copy (up2 (up2 I 155 1 (if r1 < (6 : Int32) then r1 else (6 : Int32))) 155 0 (100 : Int32)) (159 + 6 * ((0 : Int32)).toNatClampNeg) b1) >>= fun r5 => (F_X8_goOn 8 r5 (0 : Int32) x2 (r5 b1 4) b3) >>= fun r7 => some r7 else none
set_option maxRecDepth 4000 in
set_option maxHeartbeats 4000000 in
theorem C_X8_search {g : gX} {d : Nat} {P : Nat → Nat → Option Nat} {I : HI} {b1 : Nat} {x2 : Int32} {b3 : Nat} {J : HJ} (hp : Wp P) (hb1 : OB NT b1 3) (hb3 : OB NT b3 4) {r : HI} (h : F_X8_search I b1 x2 b3 = some r) : Cm g mX8_search (d + 17) [.ref 155, .ref b1, .int x2, .ref b3, .ref 136] (NT, I, J, P) none (NT, r, J, P) := by
  unfold F_X8_search at h
  refine Cm.of (by decide) (by simp [Value.category]) (Nat.le_of_ble_eq_true rfl) (Nat.le_refl _) (ls := [some (.ref 155), some (.ref b1), some (.int x2), some (.ref b3), some (.ref 136)]) rfl ?_
  refine M_aload_n (pc := 0) dX8_search_0 rfl ?_
  refine M_bipush (pc := 1) (v := 6) dX8_search_1 (by decide) ?_
  refine M_iload_n (pc := 3) dX8_search_3 rfl ?_
  obtain ⟨r1, hr2, h⟩ := bnd h
  refine M_callSi (pc := 4) dX8_search_4 s_X8_32 rfl rfl (Nat.le_of_ble_eq_true rfl) (C_J6_bitCount_0f7a4 (d := d + 16) hp hr2) (Nat.le_refl _) ?_
  refine M_mmin (pc := 7) dX8_search_7 mm_X8_38.1 mm_X8_38.2.1 mm_X8_38.2.2.1 mm_X8_38.2.2.2 (Nat.le_of_ble_eq_true rfl) ?_
  refine M_putI (pc := 10) dX8_search_10 f_X8_15 at_8 rfl ⟨rfl, rfl⟩ ?_
  refine M_aload_n (pc := 13) dX8_search_13 rfl ?_
  refine M_bipush (pc := 14) (v := 100) dX8_search_14 (by decide) ?_
  refine M_putI (pc := 16) dX8_search_16 f_X8_9 at_8 rfl ⟨rfl, rfl⟩ ?_
  refine M_aload_n (pc := 19) dX8_search_19 rfl ?_
  refine M_getR (pc := 20) dX8_search_20 f_X8_27 at_8 (gc_155_4 hp).1 ?_
  refine M_iconst (pc := 23) (v := 0) dX8_search_23 (by decide) ?_
  obtain ⟨hq3, h⟩ := chk h
  have fo4 := gr_ob hp (inB_lt hq3)
  refine M_aaldL (pc := 24) dX8_search_24 ar_ob (inB_in hq3) fo4.1 ?_
  refine M_aload_n (pc := 25) dX8_search_25 rfl ?_
  obtain ⟨r5, hr6, h⟩ := bnd h
  refine M_callVv (pc := 26) dX8_search_26 v_X8_44 rfl rfl fo4.2 (Nat.le_of_ble_eq_true rfl) (C_X3_copy (d := d + 14) hp fo4.2 hb1 hr6) (Nat.le_refl _) ?_
  refine M_aload_n (pc := 29) dX8_search_29 rfl ?_
  refine M_iconst (pc := 30) (v := 0) dX8_search_30 (by decide) ?_
  refine M_iload_n (pc := 31) dX8_search_31 rfl ?_
  refine M_aload_n (pc := 32) dX8_search_32 rfl ?_
  refine M_getI (pc := 33) dX8_search_33 f_X8_48 hb1 ?_
  refine M_aload_n (pc := 36) dX8_search_36 rfl ?_
  refine M_aload (pc := 37) dX8_search_37 rfl ?_
  obtain ⟨r7, hr8, h⟩ := bnd h
  refine M_callVv (pc := 39) dX8_search_39 v_X8_51 rfl rfl at_8 (Nat.le_of_ble_eq_true rfl) (C_X8_goOn hp 8 (d := d + 0) _ _ _ _ _ hb3 _ hr8) (Nat.le_refl _) ?_
  obtain rfl := Option.some.inj h
  exact M_vret (pc := 42) dX8_search_42 rfl rfl rfl
def L_X10_firstWrong_c5_40 (x3 : Int32) (x4 : Int32) (I : HI) : Option (Int32 × HI) :=
  if x3 ≤ x4 then some ((I 146 3), I) else (F_X5_readLine I) >>= fun r5 => if r5.1 = 0 then some ((r5.2 146 3), r5.2) else if (r5.2 146 2) = 0 then some ((-1 : Int32), r5.2) else (F_X10_isSign r5.2 146 (59 : Int32)) >>= fun r9 => if r9 = 0 then some ((r5.2 146 3), r5.2) else (F_X10_advance r5.2 146) >>= fun r12 => L_X10_firstWrong_c5_40 x3 (x4 + (1 : Int32)) r12
partial_fixpoint
def F_X10_firstWrong_c5 (I : HI) (x2 : Int32) (x3 : Int32) : Option (Int32 × HI) :=
  (F_X10_advance (up2 (up2 I 146 1 (if (0 : Int32) < (if (400 : Int32) < x2 then (400 : Int32) else x2) then (if (400 : Int32) < x2 then (400 : Int32) else x2) else (0 : Int32))) 146 4 (0 : Int32)) 146) >>= fun r1 => if (r1 146 2) = 0 then some ((-1 : Int32), r1) else L_X10_firstWrong_c5_40 x3 (0 : Int32) r1
set_option maxRecDepth 4000 in
set_option maxHeartbeats 4000000 in
theorem LC_X10_firstWrong_c5_40 {g : gX} {d : Nat} {P : Nat → Nat → Option Nat} {J : HJ} {x3 : Int32} (hp : Wp P) (hx : P 146 0 = some 2) : ∀ (x4 : Int32) (I : HI) (r : Int32 × HI), L_X10_firstWrong_c5_40 x3 x4 I = some r → M g mX10_firstWrong (d + 10) (NT, NT, 0) ((.inl (some (.int r.1))), (NT, r.2, J, P)) 40 [some (.ref 146), none, none, some (.int x3), some (.int x4)] [] (NT, I, J, P) := by
  refine L_X10_firstWrong_c5_40.partial_correctness x3 (fun x4 I r => M g mX10_firstWrong (d + 10) (NT, NT, 0) ((.inl (some (.int r.1))), (NT, r.2, J, P)) 40 [some (.ref 146), none, none, some (.int x3), some (.int x4)] [] (NT, I, J, P)) ?_
  intro f ih x4 I r h
  refine M_iload (pc := 40) dX10_firstWrong_40 rfl ?_
  refine M_iload_n (pc := 42) dX10_firstWrong_42 rfl ?_
  refine M_icmp_ge (pc := 43) (tgt := 91) dX10_firstWrong_43 (by decide) (fun hc4 => ?_) (fun hc4 => ?_)
  · have h := (if_pos hc4).symm.trans h
    refine M_aload_n (pc := 91) dX10_firstWrong_91 rfl ?_
    refine M_getI (pc := 92) dX10_firstWrong_92 f_X10_22_5 at_5 ?_
    obtain rfl := Option.some.inj h
    exact M_iret (pc := 95) dX10_firstWrong_95 rfl rfl rfl rfl
  · have h := (if_neg hc4).symm.trans h
    refine M_aload_n (pc := 46) dX10_firstWrong_46 rfl ?_
    obtain ⟨r5, hr6, h⟩ := bnd h
    refine M_callAi (pc := 47) dX10_firstWrong_47 a_X10_40_5 rfl rfl at_5 (Nat.le_of_ble_eq_true rfl) (C_X5_readLine (d := d + 0) hp hx hr6) (Nat.le_refl _) ?_
    refine M_if_ne (pc := 50) (tgt := 58) dX10_firstWrong_50 (by decide) (fun hc7 => ?_) (fun hc7 => ?_)
    · have h := (if_neg hc7).symm.trans h
      refine M_aload_n (pc := 58) dX10_firstWrong_58 rfl ?_
      refine M_getI (pc := 59) dX10_firstWrong_59 f_X10_19_5 at_5 ?_
      refine M_if_ne (pc := 62) (tgt := 67) dX10_firstWrong_62 (by decide) (fun hc8 => ?_) (fun hc8 => ?_)
      · have h := (if_neg hc8).symm.trans h
        refine M_aload_n (pc := 67) dX10_firstWrong_67 rfl ?_
        refine M_bipush (pc := 68) (v := 59) dX10_firstWrong_68 (by decide) ?_
        obtain ⟨r9, hr10, h⟩ := bnd h
        refine M_callUi (pc := 70) dX10_firstWrong_70 u_X10_44_5 rfl rfl at_5 (Nat.le_of_ble_eq_true rfl) (C_X10_isSign (d := d + 9) hp at_5 (Or.inl rfl) hx hr10) (Nat.le_refl _) ?_
        refine M_if_ne (pc := 73) (tgt := 81) dX10_firstWrong_73 (by decide) (fun hc11 => ?_) (fun hc11 => ?_)
        · have h := (if_neg hc11).symm.trans h
          refine M_aload_n (pc := 81) dX10_firstWrong_81 rfl ?_
          obtain ⟨r12, hr13, h⟩ := bnd h
          refine M_callUv (pc := 82) dX10_firstWrong_82 u_X10_37_5 rfl rfl at_5 (Nat.le_of_ble_eq_true rfl) (C_X10_advance (d := d + 8) hp at_5 (Or.inl rfl) hx hr13) (Nat.le_refl _) ?_
          refine M_iinc (pc := 85) (v := (x4 + (1 : Int32))) (ls' := [some (.ref 146), none, none, some (.int x3), some (.int (x4 + (1 : Int32)))]) dX10_firstWrong_85 rfl rfl (by decide) rfl ?_
          refine M_goto (pc := 88) (tgt := 40) dX10_firstWrong_88 (by decide) ?_
          exact ih (x4 + (1 : Int32)) r12 _ h
        · have h := (if_pos hc11).symm.trans h
          refine M_aload_n (pc := 76) dX10_firstWrong_76 rfl ?_
          refine M_getI (pc := 77) dX10_firstWrong_77 f_X10_22_5 at_5 ?_
          obtain rfl := Option.some.inj h
          exact M_iret (pc := 80) dX10_firstWrong_80 rfl rfl rfl rfl
      · have h := (if_pos hc8).symm.trans h
        refine M_iconst (pc := 65) (v := -1) dX10_firstWrong_65 (by decide) ?_
        obtain rfl := Option.some.inj h
        exact M_iret (pc := 66) dX10_firstWrong_66 rfl rfl rfl rfl
    · have h := (if_pos hc7).symm.trans h
      refine M_aload_n (pc := 53) dX10_firstWrong_53 rfl ?_
      refine M_getI (pc := 54) dX10_firstWrong_54 f_X10_22_5 at_5 ?_
      obtain rfl := Option.some.inj h
      exact M_iret (pc := 57) dX10_firstWrong_57 rfl rfl rfl rfl
set_option maxRecDepth 4000 in
set_option maxHeartbeats 4000000 in
theorem C_X10_firstWrong_c5 {g : gX} {d : Nat} {P : Nat → Nat → Option Nat} {I : HI} {x2 : Int32} {x3 : Int32} {J : HJ} (hp : Wp P) {r : Int32 × HI} (h : F_X10_firstWrong_c5 I x2 x3 = some r) : Cm g mX10_firstWrong (d + 10) [.ref 146, .ref 2, .int x2, .int x3] (NT, I, J, P) (some (.int r.1)) (NT, r.2, J, (up2 P 146 0 (some 2))) := by
  unfold F_X10_firstWrong_c5 at h
  refine Cm.of (by decide) (by simp [Value.category]) (Nat.le_of_ble_eq_true rfl) (Nat.le_refl _) (ls := [some (.ref 146), some (.ref 2), some (.int x2), some (.int x3), none]) rfl ?_
  refine M_aload_n (pc := 0) dX10_firstWrong_0 rfl ?_
  refine M_aload_n (pc := 1) dX10_firstWrong_1 rfl ?_
  refine M_putR (pc := 2) dX10_firstWrong_2 f_X10_9_5 at_5 rfl ?_
  have hx : (up2 P 146 0 (some 2)) 146 0 = some 2 := by rw [up2_get, if_pos ⟨rfl, rfl⟩]
  have hp : Wp (up2 P 146 0 (some 2)) := Wp_up hp (by decide +kernel)
  refine M_aload_n (pc := 5) dX10_firstWrong_5 rfl ?_
  refine M_iconst (pc := 6) (v := 0) dX10_firstWrong_6 (by decide) ?_
  refine M_iload_n (pc := 7) dX10_firstWrong_7 rfl ?_
  refine M_aload_n (pc := 8) dX10_firstWrong_8 rfl ?_
  refine M_alen (pc := 9) (v := 400) (k := 0) dX10_firstWrong_9 ar_tape (by decide) ?_
  refine M_mmin (pc := 10) dX10_firstWrong_10 mm_X10_28.1 mm_X10_28.2.1 mm_X10_28.2.2.1 mm_X10_28.2.2.2 (Nat.le_of_ble_eq_true rfl) ?_
  refine M_mmax (pc := 13) dX10_firstWrong_13 mm_X10_34.1 mm_X10_34.2.1 mm_X10_34.2.2.1 mm_X10_34.2.2.2 (Nat.le_of_ble_eq_true rfl) ?_
  refine M_putI (pc := 16) dX10_firstWrong_16 f_X10_15_5 at_5 rfl ⟨rfl, rfl⟩ ?_
  refine M_aload_n (pc := 19) dX10_firstWrong_19 rfl ?_
  refine M_iconst (pc := 20) (v := 0) dX10_firstWrong_20 (by decide) ?_
  refine M_putI (pc := 21) dX10_firstWrong_21 f_X10_25_5 at_5 rfl ⟨rfl, rfl⟩ ?_
  refine M_aload_n (pc := 24) dX10_firstWrong_24 rfl ?_
  obtain ⟨r1, hr2, h⟩ := bnd h
  refine M_callUv (pc := 25) dX10_firstWrong_25 u_X10_37_5 rfl rfl at_5 (Nat.le_of_ble_eq_true rfl) (C_X10_advance (d := d + 8) hp at_5 (Or.inl rfl) hx hr2) (Nat.le_refl _) ?_
  refine M_aload_n (pc := 28) dX10_firstWrong_28 rfl ?_
  refine M_getI (pc := 29) dX10_firstWrong_29 f_X10_19_5 at_5 ?_
  refine M_if_ne (pc := 32) (tgt := 37) dX10_firstWrong_32 (by decide) (fun hc3 => ?_) (fun hc3 => ?_)
  · have h := (if_neg hc3).symm.trans h
    refine M_iconst (pc := 37) (v := 0) dX10_firstWrong_37 (by decide) ?_
    refine M_istore (pc := 38) (ls' := [some (.ref 146), some (.ref 2), some (.int x2), some (.int x3), some (.int (0 : Int32))]) dX10_firstWrong_38 (by decide) rfl ?_
    refine M_mask (pc := 40) [true, false, false, true, true] rfl ?_
    exact LC_X10_firstWrong_c5_40 (P := (up2 P 146 0 (some 2))) hp hx (0 : Int32) r1 _ h
  · have h := (if_pos hc3).symm.trans h
    refine M_iconst (pc := 35) (v := -1) dX10_firstWrong_35 (by decide) ?_
    obtain rfl := Option.some.inj h
    exact M_iret (pc := 36) dX10_firstWrong_36 rfl rfl rfl rfl
