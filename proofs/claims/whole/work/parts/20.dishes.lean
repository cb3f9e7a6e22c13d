def F_X1_has (I : HI) (a : Nat) (x1 : Int32) : Option (Int32) :=
  if x1 < 0 then some (0 : Int32) else if (I a 0) ≤ x1 then some (0 : Int32) else some (1 : Int32)
set_option maxRecDepth 4000 in
set_option maxHeartbeats 4000000 in
theorem C_X1_has {g : gX} {d : Nat} {P : Nat → Nat → Option Nat} {I : HI} {a : Nat} {x1 : Int32} {J : HJ} (hp : Wp P) (ha : OB NT a 1) {r : Int32} (h : F_X1_has I a x1 = some r) : Cm g mX1_has (d + 0) [.ref a, .int x1] (NT, I, J, P) (some (.int r)) (NT, I, J, P) := by
  unfold F_X1_has at h
  refine Cm.of (by decide) (by simp [Value.category]) (Nat.le_of_ble_eq_true rfl) (Nat.le_refl _) (ls := [some (.ref a), some (.int x1)]) rfl ?_
  refine M_iload_n (pc := 0) dX1_has_0 rfl ?_
  refine M_if_lt (pc := 1) (tgt := 16) dX1_has_1 (by decide) (fun hc1 => ?_) (fun hc1 => ?_)
  · have h := (if_pos hc1).symm.trans h
    refine M_iconst (pc := 16) (v := 0) dX1_has_16 (by decide) ?_
    obtain rfl := Option.some.inj h
    exact M_iret (pc := 17) dX1_has_17 rfl rfl rfl rfl
  · have h := (if_neg hc1).symm.trans h
    refine M_iload_n (pc := 4) dX1_has_4 rfl ?_
    refine M_aload_n (pc := 5) dX1_has_5 rfl ?_
    refine M_getI (pc := 6) dX1_has_6 f_X1_9 ha ?_
    refine M_icmp_ge (pc := 9) (tgt := 16) dX1_has_9 (by decide) (fun hc2 => ?_) (fun hc2 => ?_)
    · have h := (if_pos hc2).symm.trans h
      refine M_iconst (pc := 16) (v := 0) dX1_has_16 (by decide) ?_
      obtain rfl := Option.some.inj h
      exact M_iret (pc := 17) dX1_has_17 rfl rfl rfl rfl
    · have h := (if_neg hc2).symm.trans h
      refine M_iconst (pc := 12) (v := 1) dX1_has_12 (by decide) ?_
      refine M_goto (pc := 13) (tgt := 17) dX1_has_13 (by decide) ?_
      obtain rfl := Option.some.inj h
      exact M_iret (pc := 17) dX1_has_17 rfl rfl rfl rfl
def F_X1_isHad (I : HI) (a : Nat) (x1 : Int32) : Option (Int32) :=
  (F_X1_has I a x1) >>= fun r1 => if r1 = 0 then some (0 : Int32) else (ald 12 (I (a + 2)) x1) >>= fun v4 => if v4 = (-1 : Int32) then some (0 : Int32) else some (1 : Int32)
set_option maxRecDepth 4000 in
set_option maxHeartbeats 4000000 in
theorem C_X1_isHad {g : gX} {d : Nat} {P : Nat → Nat → Option Nat} {I : HI} {a : Nat} {x1 : Int32} {J : HJ} (hp : Wp P) (ha : OB NT a 1) {r : Int32} (h : F_X1_isHad I a x1 = some r) : Cm g mX1_isHad (d + 1) [.ref a, .int x1] (NT, I, J, P) (some (.int r)) (NT, I, J, P) := by
  unfold F_X1_isHad at h
  refine Cm.of (by decide) (by simp [Value.category]) (Nat.le_of_ble_eq_true rfl) (Nat.le_refl _) (ls := [some (.ref a), some (.int x1)]) rfl ?_
  refine M_aload_n (pc := 0) dX1_isHad_0 rfl ?_
  refine M_iload_n (pc := 1) dX1_isHad_1 rfl ?_
  obtain ⟨r1, hr2, h⟩ := bnd h
  refine M_callVi (pc := 2) dX1_isHad_2 v_X1_28 rfl rfl ha (Nat.le_of_ble_eq_true rfl) (C_X1_has (d := d + 0) hp ha hr2) (Nat.le_refl _) ?_
  refine M_if_eq (pc := 5) (tgt := 22) dX1_isHad_5 (by decide) (fun hc3 => ?_) (fun hc3 => ?_)
  · have h := (if_pos hc3).symm.trans h
    refine M_iconst (pc := 22) (v := 0) dX1_isHad_22 (by decide) ?_
    obtain rfl := Option.some.inj h
    exact M_iret (pc := 23) dX1_isHad_23 rfl rfl rfl rfl
  · have h := (if_neg hc3).symm.trans h
    refine M_aload_n (pc := 8) dX1_isHad_8 rfl ?_
    refine M_getR (pc := 9) dX1_isHad_9 f_X1_19 ha (gr_1_2 hp ha).1 ?_
    refine M_iload_n (pc := 12) dX1_isHad_12 rfl ?_
    obtain ⟨v4, hv5, h⟩ := bnd h
    refine M_aldI (pc := 13) dX1_isHad_13 (gr_1_2 hp ha).2 hv5 ?_
    refine M_iconst (pc := 14) (v := -1) dX1_isHad_14 (by decide) ?_
    refine M_icmp_eq (pc := 15) (tgt := 22) dX1_isHad_15 (by decide) (fun hc6 => ?_) (fun hc6 => ?_)
    · have h := (if_pos hc6).symm.trans h
      refine M_iconst (pc := 22) (v := 0) dX1_isHad_22 (by decide) ?_
      obtain rfl := Option.some.inj h
      exact M_iret (pc := 23) dX1_isHad_23 rfl rfl rfl rfl
    · have h := (if_neg hc6).symm.trans h
      refine M_iconst (pc := 18) (v := 1) dX1_isHad_18 (by decide) ?_
      refine M_goto (pc := 19) (tgt := 23) dX1_isHad_19 (by decide) ?_
      obtain rfl := Option.some.inj h
      exact M_iret (pc := 23) dX1_isHad_23 rfl rfl rfl rfl
def F_X1_all (I : HI) (a : Nat) : Option (Int32) :=
  some (((1 : Int32) <<< ((I a 0) &&& 31)) - (1 : Int32))
set_option maxRecDepth 4000 in
set_option maxHeartbeats 4000000 in
theorem C_X1_all {g : gX} {d : Nat} {P : Nat → Nat → Option Nat} {I : HI} {a : Nat} {J : HJ} (hp : Wp P) (ha : OB NT a 1) {r : Int32} (h : F_X1_all I a = some r) : Cm g mX1_all (d + 0) [.ref a] (NT, I, J, P) (some (.int r)) (NT, I, J, P) := by
  unfold F_X1_all at h
  refine Cm.of (by decide) (by simp [Value.category]) (Nat.le_of_ble_eq_true rfl) (Nat.le_refl _) (ls := [some (.ref a)]) rfl ?_
  refine M_iconst (pc := 0) (v := 1) dX1_all_0 (by decide) ?_
  refine M_aload_n (pc := 1) dX1_all_1 rfl ?_
  refine M_getI (pc := 2) dX1_all_2 f_X1_9 ha ?_
  refine M_ishl (pc := 5) dX1_all_5 ?_
  refine M_iconst (pc := 6) (v := 1) dX1_all_6 (by decide) ?_
  refine M_isub (pc := 7) dX1_all_7 ?_
  obtain rfl := Option.some.inj h
  exact M_iret (pc := 8) dX1_all_8 rfl rfl rfl rfl
def L_X1_distance_5 (I : HI) (a : Nat) (x1 : Int32) (x2 : Int32) (x3 : Int32) (x4 : Int32) : Option (Int32) :=
  if (5 : Int32) ≤ x4 then some x3 else (ald 60 (I (a + 1)) ((x1 * (5 : Int32)) + x4)) >>= fun v2 => (ald 60 (I (a + 1)) ((x2 * (5 : Int32)) + x4)) >>= fun v4 => if 0 ≤ (v2 - v4) then L_X1_distance_5 I a x1 x2 (x3 + (v2 - v4)) (x4 + (1 : Int32)) else L_X1_distance_5 I a x1 x2 (x3 + (-(v2 - v4))) (x4 + (1 : Int32))
partial_fixpoint
def F_X1_distance (I : HI) (a : Nat) (x1 : Int32) (x2 : Int32) : Option (Int32) :=
  L_X1_distance_5 I a x1 x2 (0 : Int32) (0 : Int32)
set_option maxRecDepth 4000 in
set_option maxHeartbeats 4000000 in
theorem LC_X1_distance_5 {g : gX} {d : Nat} {P : Nat → Nat → Option Nat} {J : HJ} {I : HI} {a : Nat} {x1 : Int32} {x2 : Int32} (hp : Wp P) (ha : OB NT a 1) : ∀ (x3 : Int32) (x4 : Int32) (r : Int32), L_X1_distance_5 I a x1 x2 x3 x4 = some r → M g mX1_distance (d + 0) (NT, NT, 0) ((.inl (some (.int r))), (NT, I, J, P)) 5 [some (.ref a), some (.int x1), some (.int x2), some (.int x3), some (.int x4), none] [] (NT, I, J, P) := by
  refine L_X1_distance_5.partial_correctness I a x1 x2 (fun x3 x4 r => M g mX1_distance (d + 0) (NT, NT, 0) ((.inl (some (.int r))), (NT, I, J, P)) 5 [some (.ref a), some (.int x1), some (.int x2), some (.int x3), some (.int x4), none] [] (NT, I, J, P)) ?_
  intro f ih x3 x4 r h
  refine M_iload (pc := 5) dX1_distance_5 rfl ?_
  refine M_iconst (pc := 7) (v := 5) dX1_distance_7 (by decide) ?_
  refine M_icmp_ge (pc := 8) (tgt := 58) dX1_distance_8 (by decide) (fun hc1 => ?_) (fun hc1 => ?_)
  · have h := (if_pos hc1).symm.trans h
    refine M_iload_n (pc := 58) dX1_distance_58 rfl ?_
    obtain rfl := Option.some.inj h
    exact M_iret (pc := 59) dX1_distance_59 rfl rfl rfl rfl
  · have h := (if_neg hc1).symm.trans h
    refine M_aload_n (pc := 11) dX1_distance_11 rfl ?_
    refine M_getR (pc := 12) dX1_distance_12 f_X1_15 ha (gr_1_1 hp ha).1 ?_
    refine M_iload_n (pc := 15) dX1_distance_15 rfl ?_
    refine M_iconst (pc := 16) (v := 5) dX1_distance_16 (by decide) ?_
    refine M_imul (pc := 17) dX1_distance_17 ?_
    refine M_iload (pc := 18) dX1_distance_18 rfl ?_
    refine M_iadd (pc := 20) dX1_distance_20 ?_
    obtain ⟨v2, hv3, h⟩ := bnd h
    refine M_aldI (pc := 21) dX1_distance_21 (gr_1_1 hp ha).2 hv3 ?_
    refine M_aload_n (pc := 22) dX1_distance_22 rfl ?_
    refine M_getR (pc := 23) dX1_distance_23 f_X1_15 ha (gr_1_1 hp ha).1 ?_
    refine M_iload_n (pc := 26) dX1_distance_26 rfl ?_
    refine M_iconst (pc := 27) (v := 5) dX1_distance_27 (by decide) ?_
    refine M_imul (pc := 28) dX1_distance_28 ?_
    refine M_iload (pc := 29) dX1_distance_29 rfl ?_
    refine M_iadd (pc := 31) dX1_distance_31 ?_
    obtain ⟨v4, hv5, h⟩ := bnd h
    refine M_aldI (pc := 32) dX1_distance_32 (gr_1_1 hp ha).2 hv5 ?_
    refine M_isub (pc := 33) dX1_distance_33 ?_
    refine M_istore (pc := 34) (ls' := [some (.ref a), some (.int x1), some (.int x2), some (.int x3), some (.int x4), some (.int (v2 - v4))]) dX1_distance_34 (by decide) rfl ?_
    refine M_iload_n (pc := 36) dX1_distance_36 rfl ?_
    refine M_iload (pc := 37) dX1_distance_37 rfl ?_
    refine M_if_ge (pc := 39) (tgt := 48) dX1_distance_39 (by decide) (fun hc6 => ?_) (fun hc6 => ?_)
    · have h := (if_pos hc6).symm.trans h
      refine M_iload (pc := 48) dX1_distance_48 rfl ?_
      refine M_iadd (pc := 50) dX1_distance_50 ?_
      refine M_istore_n (pc := 51) (ls' := [some (.ref a), some (.int x1), some (.int x2), some (.int (x3 + (v2 - v4))), some (.int x4), some (.int (v2 - v4))]) dX1_distance_51 (by decide) rfl ?_
      refine M_iinc (pc := 52) (v := (x4 + (1 : Int32))) (ls' := [some (.ref a), some (.int x1), some (.int x2), some (.int (x3 + (v2 - v4))), some (.int (x4 + (1 : Int32))), some (.int (v2 - v4))]) dX1_distance_52 rfl rfl (by decide) rfl ?_
      refine M_goto (pc := 55) (tgt := 5) dX1_distance_55 (by decide) ?_
      refine M_mask (pc := 5) [true, true, true, true, true, false] rfl ?_
      exact ih (x3 + (v2 - v4)) (x4 + (1 : Int32)) _ h
    · have h := (if_neg hc6).symm.trans h
      refine M_iload (pc := 42) dX1_distance_42 rfl ?_
      refine M_ineg (pc := 44) dX1_distance_44 ?_
      refine M_goto (pc := 45) (tgt := 50) dX1_distance_45 (by decide) ?_
      refine M_iadd (pc := 50) dX1_distance_50 ?_
      refine M_istore_n (pc := 51) (ls' := [some (.ref a), some (.int x1), some (.int x2), some (.int (x3 + (-(v2 - v4)))), some (.int x4), some (.int (v2 - v4))]) dX1_distance_51 (by decide) rfl ?_
      refine M_iinc (pc := 52) (v := (x4 + (1 : Int32))) (ls' := [some (.ref a), some (.int x1), some (.int x2), some (.int (x3 + (-(v2 - v4)))), some (.int (x4 + (1 : Int32))), some (.int (v2 - v4))]) dX1_distance_52 rfl rfl (by decide) rfl ?_
      refine M_goto (pc := 55) (tgt := 5) dX1_distance_55 (by decide) ?_
      refine M_mask (pc := 5) [true, true, true, true, true, false] rfl ?_
      exact ih (x3 + (-(v2 - v4))) (x4 + (1 : Int32)) _ h
set_option maxRecDepth 4000 in
set_option maxHeartbeats 4000000 in
theorem C_X1_distance {g : gX} {d : Nat} {P : Nat → Nat → Option Nat} {I : HI} {a : Nat} {x1 : Int32} {x2 : Int32} {J : HJ} (hp : Wp P) (ha : OB NT a 1) {r : Int32} (h : F_X1_distance I a x1 x2 = some r) : Cm g mX1_distance (d + 0) [.ref a, .int x1, .int x2] (NT, I, J, P) (some (.int r)) (NT, I, J, P) := by
  unfold F_X1_distance at h
  refine Cm.of (by decide) (by simp [Value.category]) (Nat.le_of_ble_eq_true rfl) (Nat.le_refl _) (ls := [some (.ref a), some (.int x1), some (.int x2), none, none, none]) rfl ?_
  refine M_iconst (pc := 0) (v := 0) dX1_distance_0 (by decide) ?_
  refine M_istore_n (pc := 1) (ls' := [some (.ref a), some (.int x1), some (.int x2), some (.int (0 : Int32)), none, none]) dX1_distance_1 (by decide) rfl ?_
  refine M_iconst (pc := 2) (v := 0) dX1_distance_2 (by decide) ?_
  refine M_istore (pc := 3) (ls' := [some (.ref a), some (.int x1), some (.int x2), some (.int (0 : Int32)), some (.int (0 : Int32)), none]) dX1_distance_3 (by decide) rfl ?_
  exact LC_X1_distance_5 (P := P) hp ha (0 : Int32) (0 : Int32) _ h
def L_X1_firstIn_5 (I : HI) (a : Nat) (x1 : Int32) (x2 : Int32) (x3 : Int32) (x4 : Int32) : Option (Int32) :=
  if (I a 0) ≤ x4 then some x3 else (ald 12 (I (a + 2)) x4) >>= fun v2 => if v2 = (-1 : Int32) then L_X1_firstIn_5 I a x1 x2 x3 (x4 + (1 : Int32)) else (ald 12 (I (a + 2)) x4) >>= fun v5 => if v5 < x1 then L_X1_firstIn_5 I a x1 x2 x3 (x4 + (1 : Int32)) else (ald 12 (I (a + 2)) x4) >>= fun v8 => if x2 < v8 then L_X1_firstIn_5 I a x1 x2 x3 (x4 + (1 : Int32)) else L_X1_firstIn_5 I a x1 x2 (x3 ||| ((1 : Int32) <<< (x4 &&& 31))) (x4 + (1 : Int32))
partial_fixpoint
def F_X1_firstIn (I : HI) (a : Nat) (x1 : Int32) (x2 : Int32) : Option (Int32) :=
  L_X1_firstIn_5 I a x1 x2 (0 : Int32) (0 : Int32)
set_option maxRecDepth 4000 in
set_option maxHeartbeats 4000000 in
theorem LC_X1_firstIn_5 {g : gX} {d : Nat} {P : Nat → Nat → Option Nat} {J : HJ} {I : HI} {a : Nat} {x1 : Int32} {x2 : Int32} (hp : Wp P) (ha : OB NT a 1) : ∀ (x3 : Int32) (x4 : Int32) (r : Int32), L_X1_firstIn_5 I a x1 x2 x3 x4 = some r → M g mX1_firstIn (d + 0) (NT, NT, 0) ((.inl (some (.int r))), (NT, I, J, P)) 5 [some (.ref a), some (.int x1), some (.int x2), some (.int x3), some (.int x4)] [] (NT, I, J, P) := by
  refine L_X1_firstIn_5.partial_correctness I a x1 x2 (fun x3 x4 r => M g mX1_firstIn (d + 0) (NT, NT, 0) ((.inl (some (.int r))), (NT, I, J, P)) 5 [some (.ref a), some (.int x1), some (.int x2), some (.int x3), some (.int x4)] [] (NT, I, J, P)) ?_
  intro f ih x3 x4 r h
  refine M_iload (pc := 5) dX1_firstIn_5 rfl ?_
  refine M_aload_n (pc := 7) dX1_firstIn_7 rfl ?_
  refine M_getI (pc := 8) dX1_firstIn_8 f_X1_9 ha ?_
  refine M_icmp_ge (pc := 11) (tgt := 60) dX1_firstIn_11 (by decide) (fun hc1 => ?_) (fun hc1 => ?_)
  · have h := (if_pos hc1).symm.trans h
    refine M_iload_n (pc := 60) dX1_firstIn_60 rfl ?_
    obtain rfl := Option.some.inj h
    exact M_iret (pc := 61) dX1_firstIn_61 rfl rfl rfl rfl
  · have h := (if_neg hc1).symm.trans h
    refine M_aload_n (pc := 14) dX1_firstIn_14 rfl ?_
    refine M_getR (pc := 15) dX1_firstIn_15 f_X1_19 ha (gr_1_2 hp ha).1 ?_
    refine M_iload (pc := 18) dX1_firstIn_18 rfl ?_
    obtain ⟨v2, hv3, h⟩ := bnd h
    refine M_aldI (pc := 20) dX1_firstIn_20 (gr_1_2 hp ha).2 hv3 ?_
    refine M_iconst (pc := 21) (v := -1) dX1_firstIn_21 (by decide) ?_
    refine M_icmp_eq (pc := 22) (tgt := 54) dX1_firstIn_22 (by decide) (fun hc4 => ?_) (fun hc4 => ?_)
    · have h := (if_pos hc4).symm.trans h
      refine M_iinc (pc := 54) (v := (x4 + (1 : Int32))) (ls' := [some (.ref a), some (.int x1), some (.int x2), some (.int x3), some (.int (x4 + (1 : Int32)))]) dX1_firstIn_54 rfl rfl (by decide) rfl ?_
      refine M_goto (pc := 57) (tgt := 5) dX1_firstIn_57 (by decide) ?_
      exact ih x3 (x4 + (1 : Int32)) _ h
    · have h := (if_neg hc4).symm.trans h
      refine M_aload_n (pc := 25) dX1_firstIn_25 rfl ?_
      refine M_getR (pc := 26) dX1_firstIn_26 f_X1_19 ha (gr_1_2 hp ha).1 ?_
      refine M_iload (pc := 29) dX1_firstIn_29 rfl ?_
      obtain ⟨v5, hv6, h⟩ := bnd h
      refine M_aldI (pc := 31) dX1_firstIn_31 (gr_1_2 hp ha).2 hv6 ?_
      refine M_iload_n (pc := 32) dX1_firstIn_32 rfl ?_
      refine M_icmp_lt (pc := 33) (tgt := 54) dX1_firstIn_33 (by decide) (fun hc7 => ?_) (fun hc7 => ?_)
      · have h := (if_pos hc7).symm.trans h
        refine M_iinc (pc := 54) (v := (x4 + (1 : Int32))) (ls' := [some (.ref a), some (.int x1), some (.int x2), some (.int x3), some (.int (x4 + (1 : Int32)))]) dX1_firstIn_54 rfl rfl (by decide) rfl ?_
        refine M_goto (pc := 57) (tgt := 5) dX1_firstIn_57 (by decide) ?_
        exact ih x3 (x4 + (1 : Int32)) _ h
      · have h := (if_neg hc7).symm.trans h
        refine M_aload_n (pc := 36) dX1_firstIn_36 rfl ?_
        refine M_getR (pc := 37) dX1_firstIn_37 f_X1_19 ha (gr_1_2 hp ha).1 ?_
        refine M_iload (pc := 40) dX1_firstIn_40 rfl ?_
        obtain ⟨v8, hv9, h⟩ := bnd h
        refine M_aldI (pc := 42) dX1_firstIn_42 (gr_1_2 hp ha).2 hv9 ?_
        refine M_iload_n (pc := 43) dX1_firstIn_43 rfl ?_
        refine M_icmp_gt (pc := 44) (tgt := 54) dX1_firstIn_44 (by decide) (fun hc10 => ?_) (fun hc10 => ?_)
        · have h := (if_pos hc10).symm.trans h
          refine M_iinc (pc := 54) (v := (x4 + (1 : Int32))) (ls' := [some (.ref a), some (.int x1), some (.int x2), some (.int x3), some (.int (x4 + (1 : Int32)))]) dX1_firstIn_54 rfl rfl (by decide) rfl ?_
          refine M_goto (pc := 57) (tgt := 5) dX1_firstIn_57 (by decide) ?_
          exact ih x3 (x4 + (1 : Int32)) _ h
        · have h := (if_neg hc10).symm.trans h
          refine M_iload_n (pc := 47) dX1_firstIn_47 rfl ?_
          refine M_iconst (pc := 48) (v := 1) dX1_firstIn_48 (by decide) ?_
          refine M_iload (pc := 49) dX1_firstIn_49 rfl ?_
          refine M_ishl (pc := 51) dX1_firstIn_51 ?_
          refine M_ior (pc := 52) dX1_firstIn_52 ?_
          refine M_istore_n (pc := 53) (ls' := [some (.ref a), some (.int x1), some (.int x2), some (.int (x3 ||| ((1 : Int32) <<< (x4 &&& 31)))), some (.int x4)]) dX1_firstIn_53 (by decide) rfl ?_
          refine M_iinc (pc := 54) (v := (x4 + (1 : Int32))) (ls' := [some (.ref a), some (.int x1), some (.int x2), some (.int (x3 ||| ((1 : Int32) <<< (x4 &&& 31)))), some (.int (x4 + (1 : Int32)))]) dX1_firstIn_54 rfl rfl (by decide) rfl ?_
          refine M_goto (pc := 57) (tgt := 5) dX1_firstIn_57 (by decide) ?_
          exact ih (x3 ||| ((1 : Int32) <<< (x4 &&& 31))) (x4 + (1 : Int32)) _ h
set_option maxRecDepth 4000 in
set_option maxHeartbeats 4000000 in
theorem C_X1_firstIn {g : gX} {d : Nat} {P : Nat → Nat → Option Nat} {I : HI} {a : Nat} {x1 : Int32} {x2 : Int32} {J : HJ} (hp : Wp P) (ha : OB NT a 1) {r : Int32} (h : F_X1_firstIn I a x1 x2 = some r) : Cm g mX1_firstIn (d + 0) [.ref a, .int x1, .int x2] (NT, I, J, P) (some (.int r)) (NT, I, J, P) := by
  unfold F_X1_firstIn at h
  refine Cm.of (by decide) (by simp [Value.category]) (Nat.le_of_ble_eq_true rfl) (Nat.le_refl _) (ls := [some (.ref a), some (.int x1), some (.int x2), none, none]) rfl ?_
  refine M_iconst (pc := 0) (v := 0) dX1_firstIn_0 (by decide) ?_
  refine M_istore_n (pc := 1) (ls' := [some (.ref a), some (.int x1), some (.int x2), some (.int (0 : Int32)), none]) dX1_firstIn_1 (by decide) rfl ?_
  refine M_iconst (pc := 2) (v := 0) dX1_firstIn_2 (by decide) ?_
  refine M_istore (pc := 3) (ls' := [some (.ref a), some (.int x1), some (.int x2), some (.int (0 : Int32)), some (.int (0 : Int32))]) dX1_firstIn_3 (by decide) rfl ?_
  exact LC_X1_firstIn_5 (P := P) hp ha (0 : Int32) (0 : Int32) _ h
def F_X1_allHad (I : HI) (a : Nat) : Option (Int32) :=
  (F_X1_firstIn I a (0 : Int32) (9999 : Int32)) >>= fun r1 => some r1
set_option maxRecDepth 4000 in
set_option maxHeartbeats 4000000 in
theorem C_X1_allHad {g : gX} {d : Nat} {P : Nat → Nat → Option Nat} {I : HI} {a : Nat} {J : HJ} (hp : Wp P) (ha : OB NT a 1) {r : Int32} (h : F_X1_allHad I a = some r) : Cm g mX1_allHad (d + 1) [.ref a] (NT, I, J, P) (some (.int r)) (NT, I, J, P) := by
  unfold F_X1_allHad at h
  refine Cm.of (by decide) (by simp [Value.category]) (Nat.le_of_ble_eq_true rfl) (Nat.le_refl _) (ls := [some (.ref a)]) rfl ?_
  refine M_aload_n (pc := 0) dX1_allHad_0 rfl ?_
  refine M_iconst (pc := 1) (v := 0) dX1_allHad_1 (by decide) ?_
  refine M_sipush (pc := 2) (v := 9999) dX1_allHad_2 (by decide) ?_
  obtain ⟨r1, hr2, h⟩ := bnd h
  refine M_callVi (pc := 5) dX1_allHad_5 v_X1_32 rfl rfl ha (Nat.le_of_ble_eq_true rfl) (C_X1_firstIn (d := d + 0) hp ha hr2) (Nat.le_refl _) ?_
  obtain rfl := Option.some.inj h
  exact M_iret (pc := 8) dX1_allHad_8 rfl rfl rfl rfl
def L_X1_calledUp_20 (I : HI) (a : Nat) (x1 : Int32) (x3 : Int32) (x4 : Int32) (x5 : Int32) : Option (Int32) :=
  if (I a 0) ≤ x5 then some x3 else (ald 12 (I (a + 2)) x5) >>= fun v5 => if v5 = (-1 : Int32) then L_X1_calledUp_20 I a x1 x3 x4 (x5 + (1 : Int32)) else (F_X1_distance I a x1 x5) >>= fun r8 => if x4 ≤ r8 then L_X1_calledUp_20 I a x1 x3 x4 (x5 + (1 : Int32)) else L_X1_calledUp_20 I a x1 x5 r8 (x5 + (1 : Int32))
partial_fixpoint
def F_X1_calledUp (I : HI) (a : Nat) (x1 : Int32) (x2 : Int32) : Option (Int32) :=
  (F_X1_isHad I a x1) >>= fun r1 => if r1 = 0 then L_X1_calledUp_20 I a x1 (-1 : Int32) (x2 + (1 : Int32)) (0 : Int32) else some x1
set_option maxRecDepth 4000 in
set_option maxHeartbeats 4000000 in
theorem LC_X1_calledUp_20 {g : gX} {d : Nat} {P : Nat → Nat → Option Nat} {J : HJ} {I : HI} {a : Nat} {x1 : Int32} (hp : Wp P) (ha : OB NT a 1) : ∀ (x3 : Int32) (x4 : Int32) (x5 : Int32) (r : Int32), L_X1_calledUp_20 I a x1 x3 x4 x5 = some r → M g mX1_calledUp (d + 2) (NT, NT, 0) ((.inl (some (.int r))), (NT, I, J, P)) 20 [some (.ref a), some (.int x1), none, some (.int x3), some (.int x4), some (.int x5), none] [] (NT, I, J, P) := by
  refine L_X1_calledUp_20.partial_correctness I a x1 (fun x3 x4 x5 r => M g mX1_calledUp (d + 2) (NT, NT, 0) ((.inl (some (.int r))), (NT, I, J, P)) 20 [some (.ref a), some (.int x1), none, some (.int x3), some (.int x4), some (.int x5), none] [] (NT, I, J, P)) ?_
  intro f ih x3 x4 x5 r h
  refine M_iload (pc := 20) dX1_calledUp_20 rfl ?_
  refine M_aload_n (pc := 22) dX1_calledUp_22 rfl ?_
  refine M_getI (pc := 23) dX1_calledUp_23 f_X1_9 ha ?_
  refine M_icmp_ge (pc := 26) (tgt := 69) dX1_calledUp_26 (by decide) (fun hc4 => ?_) (fun hc4 => ?_)
  · have h := (if_pos hc4).symm.trans h
    refine M_iload_n (pc := 69) dX1_calledUp_69 rfl ?_
    obtain rfl := Option.some.inj h
    exact M_iret (pc := 70) dX1_calledUp_70 rfl rfl rfl rfl
  · have h := (if_neg hc4).symm.trans h
    refine M_aload_n (pc := 29) dX1_calledUp_29 rfl ?_
    refine M_getR (pc := 30) dX1_calledUp_30 f_X1_19 ha (gr_1_2 hp ha).1 ?_
    refine M_iload (pc := 33) dX1_calledUp_33 rfl ?_
    obtain ⟨v5, hv6, h⟩ := bnd h
    refine M_aldI (pc := 35) dX1_calledUp_35 (gr_1_2 hp ha).2 hv6 ?_
    refine M_iconst (pc := 36) (v := -1) dX1_calledUp_36 (by decide) ?_
    refine M_icmp_eq (pc := 37) (tgt := 63) dX1_calledUp_37 (by decide) (fun hc7 => ?_) (fun hc7 => ?_)
    · have h := (if_pos hc7).symm.trans h
      refine M_iinc (pc := 63) (v := (x5 + (1 : Int32))) (ls' := [some (.ref a), some (.int x1), none, some (.int x3), some (.int x4), some (.int (x5 + (1 : Int32))), none]) dX1_calledUp_63 rfl rfl (by decide) rfl ?_
      refine M_goto (pc := 66) (tgt := 20) dX1_calledUp_66 (by decide) ?_
      exact ih x3 x4 (x5 + (1 : Int32)) _ h
    · have h := (if_neg hc7).symm.trans h
      refine M_aload_n (pc := 40) dX1_calledUp_40 rfl ?_
      refine M_iload_n (pc := 41) dX1_calledUp_41 rfl ?_
      refine M_iload (pc := 42) dX1_calledUp_42 rfl ?_
      obtain ⟨r8, hr9, h⟩ := bnd h
      refine M_callVi (pc := 44) dX1_calledUp_44 v_X1_39 rfl rfl ha (Nat.le_of_ble_eq_true rfl) (C_X1_distance (d := d + 1) hp ha hr9) (Nat.le_refl _) ?_
      refine M_istore (pc := 47) (ls' := [some (.ref a), some (.int x1), none, some (.int x3), some (.int x4), some (.int x5), some (.int r8)]) dX1_calledUp_47 (by decide) rfl ?_
      refine M_iload (pc := 49) dX1_calledUp_49 rfl ?_
      refine M_iload (pc := 51) dX1_calledUp_51 rfl ?_
      refine M_icmp_ge (pc := 53) (tgt := 63) dX1_calledUp_53 (by decide) (fun hc10 => ?_) (fun hc10 => ?_)
      · have h := (if_pos hc10).symm.trans h
        refine M_iinc (pc := 63) (v := (x5 + (1 : Int32))) (ls' := [some (.ref a), some (.int x1), none, some (.int x3), some (.int x4), some (.int (x5 + (1 : Int32))), some (.int r8)]) dX1_calledUp_63 rfl rfl (by decide) rfl ?_
        refine M_goto (pc := 66) (tgt := 20) dX1_calledUp_66 (by decide) ?_
        refine M_mask (pc := 20) [true, true, false, true, true, true, false] rfl ?_
        exact ih x3 x4 (x5 + (1 : Int32)) _ h
      · have h := (if_neg hc10).symm.trans h
        refine M_iload (pc := 56) dX1_calledUp_56 rfl ?_
        refine M_istore (pc := 58) (ls' := [some (.ref a), some (.int x1), none, some (.int x3), some (.int r8), some (.int x5), some (.int r8)]) dX1_calledUp_58 (by decide) rfl ?_
        refine M_iload (pc := 60) dX1_calledUp_60 rfl ?_
        refine M_istore_n (pc := 62) (ls' := [some (.ref a), some (.int x1), none, some (.int x5), some (.int r8), some (.int x5), some (.int r8)]) dX1_calledUp_62 (by decide) rfl ?_
        refine M_iinc (pc := 63) (v := (x5 + (1 : Int32))) (ls' := [some (.ref a), some (.int x1), none, some (.int x5), some (.int r8), some (.int (x5 + (1 : Int32))), some (.int r8)]) dX1_calledUp_63 rfl rfl (by decide) rfl ?_
        refine M_goto (pc := 66) (tgt := 20) dX1_calledUp_66 (by decide) ?_
        refine M_mask (pc := 20) [true, true, false, true, true, true, false] rfl ?_
        exact ih x5 r8 (x5 + (1 : Int32)) _ h
set_option maxRecDepth 4000 in
set_option maxHeartbeats 4000000 in
theorem C_X1_calledUp {g : gX} {d : Nat} {P : Nat → Nat → Option Nat} {I : HI} {a : Nat} {x1 : Int32} {x2 : Int32} {J : HJ} (hp : Wp P) (ha : OB NT a 1) {r : Int32} (h : F_X1_calledUp I a x1 x2 = some r) : Cm g mX1_calledUp (d + 2) [.ref a, .int x1, .int x2] (NT, I, J, P) (some (.int r)) (NT, I, J, P) := by
  unfold F_X1_calledUp at h
  refine Cm.of (by decide) (by simp [Value.category]) (Nat.le_of_ble_eq_true rfl) (Nat.le_refl _) (ls := [some (.ref a), some (.int x1), some (.int x2), none, none, none, none]) rfl ?_
  refine M_aload_n (pc := 0) dX1_calledUp_0 rfl ?_
  refine M_iload_n (pc := 1) dX1_calledUp_1 rfl ?_
  obtain ⟨r1, hr2, h⟩ := bnd h
  refine M_callVi (pc := 2) dX1_calledUp_2 v_X1_36 rfl rfl ha (Nat.le_of_ble_eq_true rfl) (C_X1_isHad (d := d + 0) hp ha hr2) (Nat.le_refl _) ?_
  refine M_if_eq (pc := 5) (tgt := 10) dX1_calledUp_5 (by decide) (fun hc3 => ?_) (fun hc3 => ?_)
  · have h := (if_pos hc3).symm.trans h
    refine M_iconst (pc := 10) (v := -1) dX1_calledUp_10 (by decide) ?_
    refine M_istore_n (pc := 11) (ls' := [some (.ref a), some (.int x1), some (.int x2), some (.int (-1 : Int32)), none, none, none]) dX1_calledUp_11 (by decide) rfl ?_
    refine M_iload_n (pc := 12) dX1_calledUp_12 rfl ?_
    refine M_iconst (pc := 13) (v := 1) dX1_calledUp_13 (by decide) ?_
    refine M_iadd (pc := 14) dX1_calledUp_14 ?_
    refine M_istore (pc := 15) (ls' := [some (.ref a), some (.int x1), some (.int x2), some (.int (-1 : Int32)), some (.int (x2 + (1 : Int32))), none, none]) dX1_calledUp_15 (by decide) rfl ?_
    refine M_iconst (pc := 17) (v := 0) dX1_calledUp_17 (by decide) ?_
    refine M_istore (pc := 18) (ls' := [some (.ref a), some (.int x1), some (.int x2), some (.int (-1 : Int32)), some (.int (x2 + (1 : Int32))), some (.int (0 : Int32)), none]) dX1_calledUp_18 (by decide) rfl ?_
    refine M_mask (pc := 20) [true, true, false, true, true, true, false] rfl ?_
    exact LC_X1_calledUp_20 (P := P) hp ha (-1 : Int32) (x2 + (1 : Int32)) (0 : Int32) _ h
  · have h := (if_neg hc3).symm.trans h
    refine M_iload_n (pc := 8) dX1_calledUp_8 rfl ?_
    obtain rfl := Option.some.inj h
    exact M_iret (pc := 9) dX1_calledUp_9 rfl rfl rfl rfl
def L_X1_earliestBehind_4 (I : HI) (a : Nat) (x1 : Int32) (x2 : Int32) (x3 : Int32) : Option (Int32) :=
  if (I a 0) ≤ x3 then some x2 else (ald 12 (I (a + 2)) x3) >>= fun v2 => if v2 ≤ x1 then L_X1_earliestBehind_4 I a x1 x2 (x3 + (1 : Int32)) else if x2 = (-1 : Int32) then L_X1_earliestBehind_4 I a x1 x3 (x3 + (1 : Int32)) else (ald 12 (I (a + 2)) x3) >>= fun v6 => (ald 12 (I (a + 2)) x2) >>= fun v8 => if v8 ≤ v6 then L_X1_earliestBehind_4 I a x1 x2 (x3 + (1 : Int32)) else L_X1_earliestBehind_4 I a x1 x3 (x3 + (1 : Int32))
partial_fixpoint
def F_X1_earliestBehind (I : HI) (a : Nat) (x1 : Int32) : Option (Int32) :=
  L_X1_earliestBehind_4 I a x1 (-1 : Int32) (0 : Int32)
set_option maxRecDepth 4000 in
set_option maxHeartbeats 4000000 in
theorem LC_X1_earliestBehind_4 {g : gX} {d : Nat} {P : Nat → Nat → Option Nat} {J : HJ} {I : HI} {a : Nat} {x1 : Int32} (hp : Wp P) (ha : OB NT a 1) : ∀ (x2 : Int32) (x3 : Int32) (r : Int32), L_X1_earliestBehind_4 I a x1 x2 x3 = some r → M g mX1_earliestBehind (d + 0) (NT, NT, 0) ((.inl (some (.int r))), (NT, I, J, P)) 4 [some (.ref a), some (.int x1), some (.int x2), some (.int x3)] [] (NT, I, J, P) := by
  refine L_X1_earliestBehind_4.partial_correctness I a x1 (fun x2 x3 r => M g mX1_earliestBehind (d + 0) (NT, NT, 0) ((.inl (some (.int r))), (NT, I, J, P)) 4 [some (.ref a), some (.int x1), some (.int x2), some (.int x3)] [] (NT, I, J, P)) ?_
  intro f ih x2 x3 r h
  refine M_iload_n (pc := 4) dX1_earliestBehind_4 rfl ?_
  refine M_aload_n (pc := 5) dX1_earliestBehind_5 rfl ?_
  refine M_getI (pc := 6) dX1_earliestBehind_6 f_X1_9 ha ?_
  refine M_icmp_ge (pc := 9) (tgt := 50) dX1_earliestBehind_9 (by decide) (fun hc1 => ?_) (fun hc1 => ?_)
  · have h := (if_pos hc1).symm.trans h
    refine M_iload_n (pc := 50) dX1_earliestBehind_50 rfl ?_
    obtain rfl := Option.some.inj h
    exact M_iret (pc := 51) dX1_earliestBehind_51 rfl rfl rfl rfl
  · have h := (if_neg hc1).symm.trans h
    refine M_aload_n (pc := 12) dX1_earliestBehind_12 rfl ?_
    refine M_getR (pc := 13) dX1_earliestBehind_13 f_X1_19 ha (gr_1_2 hp ha).1 ?_
    refine M_iload_n (pc := 16) dX1_earliestBehind_16 rfl ?_
    obtain ⟨v2, hv3, h⟩ := bnd h
    refine M_aldI (pc := 17) dX1_earliestBehind_17 (gr_1_2 hp ha).2 hv3 ?_
    refine M_iload_n (pc := 18) dX1_earliestBehind_18 rfl ?_
    refine M_icmp_le (pc := 19) (tgt := 44) dX1_earliestBehind_19 (by decide) (fun hc4 => ?_) (fun hc4 => ?_)
    · have h := (if_pos hc4).symm.trans h
      refine M_iinc (pc := 44) (v := (x3 + (1 : Int32))) (ls' := [some (.ref a), some (.int x1), some (.int x2), some (.int (x3 + (1 : Int32)))]) dX1_earliestBehind_44 rfl rfl (by decide) rfl ?_
      refine M_goto (pc := 47) (tgt := 4) dX1_earliestBehind_47 (by decide) ?_
      exact ih x2 (x3 + (1 : Int32)) _ h
    · have h := (if_neg hc4).symm.trans h
      refine M_iload_n (pc := 22) dX1_earliestBehind_22 rfl ?_
      refine M_iconst (pc := 23) (v := -1) dX1_earliestBehind_23 (by decide) ?_
      refine M_icmp_eq (pc := 24) (tgt := 42) dX1_earliestBehind_24 (by decide) (fun hc5 => ?_) (fun hc5 => ?_)
      · have h := (if_pos hc5).symm.trans h
        refine M_iload_n (pc := 42) dX1_earliestBehind_42 rfl ?_
        refine M_istore_n (pc := 43) (ls' := [some (.ref a), some (.int x1), some (.int x3), some (.int x3)]) dX1_earliestBehind_43 (by decide) rfl ?_
        refine M_iinc (pc := 44) (v := (x3 + (1 : Int32))) (ls' := [some (.ref a), some (.int x1), some (.int x3), some (.int (x3 + (1 : Int32)))]) dX1_earliestBehind_44 rfl rfl (by decide) rfl ?_
        refine M_goto (pc := 47) (tgt := 4) dX1_earliestBehind_47 (by decide) ?_
        exact ih x3 (x3 + (1 : Int32)) _ h
      · have h := (if_neg hc5).symm.trans h
        refine M_aload_n (pc := 27) dX1_earliestBehind_27 rfl ?_
        refine M_getR (pc := 28) dX1_earliestBehind_28 f_X1_19 ha (gr_1_2 hp ha).1 ?_
        refine M_iload_n (pc := 31) dX1_earliestBehind_31 rfl ?_
        obtain ⟨v6, hv7, h⟩ := bnd h
        refine M_aldI (pc := 32) dX1_earliestBehind_32 (gr_1_2 hp ha).2 hv7 ?_
        refine M_aload_n (pc := 33) dX1_earliestBehind_33 rfl ?_
        refine M_getR (pc := 34) dX1_earliestBehind_34 f_X1_19 ha (gr_1_2 hp ha).1 ?_
        refine M_iload_n (pc := 37) dX1_earliestBehind_37 rfl ?_
        obtain ⟨v8, hv9, h⟩ := bnd h
        refine M_aldI (pc := 38) dX1_earliestBehind_38 (gr_1_2 hp ha).2 hv9 ?_
        refine M_icmp_ge (pc := 39) (tgt := 44) dX1_earliestBehind_39 (by decide) (fun hc10 => ?_) (fun hc10 => ?_)
        · have h := (if_pos hc10).symm.trans h
          refine M_iinc (pc := 44) (v := (x3 + (1 : Int32))) (ls' := [some (.ref a), some (.int x1), some (.int x2), some (.int (x3 + (1 : Int32)))]) dX1_earliestBehind_44 rfl rfl (by decide) rfl ?_
          refine M_goto (pc := 47) (tgt := 4) dX1_earliestBehind_47 (by decide) ?_
          exact ih x2 (x3 + (1 : Int32)) _ h
        · have h := (if_neg hc10).symm.trans h
          refine M_iload_n (pc := 42) dX1_earliestBehind_42 rfl ?_
          refine M_istore_n (pc := 43) (ls' := [some (.ref a), some (.int x1), some (.int x3), some (.int x3)]) dX1_earliestBehind_43 (by decide) rfl ?_
          refine M_iinc (pc := 44) (v := (x3 + (1 : Int32))) (ls' := [some (.ref a), some (.int x1), some (.int x3), some (.int (x3 + (1 : Int32)))]) dX1_earliestBehind_44 rfl rfl (by decide) rfl ?_
          refine M_goto (pc := 47) (tgt := 4) dX1_earliestBehind_47 (by decide) ?_
          exact ih x3 (x3 + (1 : Int32)) _ h
set_option maxRecDepth 4000 in
set_option maxHeartbeats 4000000 in
theorem C_X1_earliestBehind {g : gX} {d : Nat} {P : Nat → Nat → Option Nat} {I : HI} {a : Nat} {x1 : Int32} {J : HJ} (hp : Wp P) (ha : OB NT a 1) {r : Int32} (h : F_X1_earliestBehind I a x1 = some r) : Cm g mX1_earliestBehind (d + 0) [.ref a, .int x1] (NT, I, J, P) (some (.int r)) (NT, I, J, P) := by
  unfold F_X1_earliestBehind at h
  refine Cm.of (by decide) (by simp [Value.category]) (Nat.le_of_ble_eq_true rfl) (Nat.le_refl _) (ls := [some (.ref a), some (.int x1), none, none]) rfl ?_
  refine M_iconst (pc := 0) (v := -1) dX1_earliestBehind_0 (by decide) ?_
  refine M_istore_n (pc := 1) (ls' := [some (.ref a), some (.int x1), some (.int (-1 : Int32)), none]) dX1_earliestBehind_1 (by decide) rfl ?_
  refine M_iconst (pc := 2) (v := 0) dX1_earliestBehind_2 (by decide) ?_
  refine M_istore_n (pc := 3) (ls' := [some (.ref a), some (.int x1), some (.int (-1 : Int32)), some (.int (0 : Int32))]) dX1_earliestBehind_3 (by decide) rfl ?_
  exact LC_X1_earliestBehind_4 (P := P) hp ha (-1 : Int32) (0 : Int32) _ h
def F_X1_inDecade (I : HI) (a : Nat) (x1 : Int32) : Option (Int32) :=
  if 0 ≤ x1 then (F_X1_firstIn I a (x1 * (10 : Int32)) ((x1 * (10 : Int32)) + (9 : Int32))) >>= fun r2 => some r2 else some (0 : Int32)
set_option maxRecDepth 4000 in
set_option maxHeartbeats 4000000 in
theorem C_X1_inDecade {g : gX} {d : Nat} {P : Nat → Nat → Option Nat} {I : HI} {a : Nat} {x1 : Int32} {J : HJ} (hp : Wp P) (ha : OB NT a 1) {r : Int32} (h : F_X1_inDecade I a x1 = some r) : Cm g mX1_inDecade (d + 1) [.ref a, .int x1] (NT, I, J, P) (some (.int r)) (NT, I, J, P) := by
  unfold F_X1_inDecade at h
  refine Cm.of (by decide) (by simp [Value.category]) (Nat.le_of_ble_eq_true rfl) (Nat.le_refl _) (ls := [some (.ref a), some (.int x1)]) rfl ?_
  refine M_iload_n (pc := 0) dX1_inDecade_0 rfl ?_
  refine M_if_ge (pc := 1) (tgt := 8) dX1_inDecade_1 (by decide) (fun hc1 => ?_) (fun hc1 => ?_)
  · have h := (if_pos hc1).symm.trans h
    refine M_aload_n (pc := 8) dX1_inDecade_8 rfl ?_
    refine M_iload_n (pc := 9) dX1_inDecade_9 rfl ?_
    refine M_bipush (pc := 10) (v := 10) dX1_inDecade_10 (by decide) ?_
    refine M_imul (pc := 12) dX1_inDecade_12 ?_
    refine M_iload_n (pc := 13) dX1_inDecade_13 rfl ?_
    refine M_bipush (pc := 14) (v := 10) dX1_inDecade_14 (by decide) ?_
    refine M_imul (pc := 16) dX1_inDecade_16 ?_
    refine M_bipush (pc := 17) (v := 9) dX1_inDecade_17 (by decide) ?_
    refine M_iadd (pc := 19) dX1_inDecade_19 ?_
    obtain ⟨r2, hr3, h⟩ := bnd h
    refine M_callVi (pc := 20) dX1_inDecade_20 v_X1_32 rfl rfl ha (Nat.le_of_ble_eq_true rfl) (C_X1_firstIn (d := d + 0) hp ha hr3) (Nat.le_refl _) ?_
    obtain rfl := Option.some.inj h
    exact M_iret (pc := 23) dX1_inDecade_23 rfl rfl rfl rfl
  · have h := (if_neg hc1).symm.trans h
    refine M_iconst (pc := 4) (v := 0) dX1_inDecade_4 (by decide) ?_
    refine M_goto (pc := 5) (tgt := 23) dX1_inDecade_5 (by decide) ?_
    obtain rfl := Option.some.inj h
    exact M_iret (pc := 23) dX1_inDecade_23 rfl rfl rfl rfl
def F_X1_inAge (I : HI) (a : Nat) (x1 : Int32) : Option (Int32) :=
  (F_X1_firstIn I a (x1 * (100 : Int32)) ((x1 * (100 : Int32)) + (99 : Int32))) >>= fun r1 => some r1
set_option maxRecDepth 4000 in
set_option maxHeartbeats 4000000 in
theorem C_X1_inAge {g : gX} {d : Nat} {P : Nat → Nat → Option Nat} {I : HI} {a : Nat} {x1 : Int32} {J : HJ} (hp : Wp P) (ha : OB NT a 1) {r : Int32} (h : F_X1_inAge I a x1 = some r) : Cm g mX1_inAge (d + 1) [.ref a, .int x1] (NT, I, J, P) (some (.int r)) (NT, I, J, P) := by
  unfold F_X1_inAge at h
  refine Cm.of (by decide) (by simp [Value.category]) (Nat.le_of_ble_eq_true rfl) (Nat.le_refl _) (ls := [some (.ref a), some (.int x1)]) rfl ?_
  refine M_aload_n (pc := 0) dX1_inAge_0 rfl ?_
  refine M_iload_n (pc := 1) dX1_inAge_1 rfl ?_
  refine M_bipush (pc := 2) (v := 100) dX1_inAge_2 (by decide) ?_
  refine M_imul (pc := 4) dX1_inAge_4 ?_
  refine M_iload_n (pc := 5) dX1_inAge_5 rfl ?_
  refine M_bipush (pc := 6) (v := 100) dX1_inAge_6 (by decide) ?_
  refine M_imul (pc := 8) dX1_inAge_8 ?_
  refine M_bipush (pc := 9) (v := 99) dX1_inAge_9 (by decide) ?_
  refine M_iadd (pc := 11) dX1_inAge_11 ?_
  obtain ⟨r1, hr2, h⟩ := bnd h
  refine M_callVi (pc := 12) dX1_inAge_12 v_X1_32 rfl rfl ha (Nat.le_of_ble_eq_true rfl) (C_X1_firstIn (d := d + 0) hp ha hr2) (Nat.le_refl _) ?_
  obtain rfl := Option.some.inj h
  exact M_iret (pc := 15) dX1_inAge_15 rfl rfl rfl rfl
def L_X1_leastOfAge_8 (I : HI) (a : Nat) (x2 : Int32) (x3 : Int32) : Option (Int32) :=
  if (I a 0) ≤ x3 then some (-1 : Int32) else if ((x2 >>> (x3 &&& 31)) &&& (1 : Int32)) = 0 then L_X1_leastOfAge_8 I a x2 (x3 + (1 : Int32)) else some x3
partial_fixpoint
def F_X1_leastOfAge (I : HI) (a : Nat) (x1 : Int32) : Option (Int32) :=
  (F_X1_inAge I a x1) >>= fun r1 => L_X1_leastOfAge_8 I a r1 (0 : Int32)
set_option maxRecDepth 4000 in
set_option maxHeartbeats 4000000 in
theorem LC_X1_leastOfAge_8 {g : gX} {d : Nat} {P : Nat → Nat → Option Nat} {J : HJ} {I : HI} {a : Nat} {x2 : Int32} (hp : Wp P) (ha : OB NT a 1) : ∀ (x3 : Int32) (r : Int32), L_X1_leastOfAge_8 I a x2 x3 = some r → M g mX1_leastOfAge (d + 2) (NT, NT, 0) ((.inl (some (.int r))), (NT, I, J, P)) 8 [some (.ref a), none, some (.int x2), some (.int x3)] [] (NT, I, J, P) := by
  refine L_X1_leastOfAge_8.partial_correctness I a x2 (fun x3 r => M g mX1_leastOfAge (d + 2) (NT, NT, 0) ((.inl (some (.int r))), (NT, I, J, P)) 8 [some (.ref a), none, some (.int x2), some (.int x3)] [] (NT, I, J, P)) ?_
  intro f ih x3 r h
  refine M_iload_n (pc := 8) dX1_leastOfAge_8 rfl ?_
  refine M_aload_n (pc := 9) dX1_leastOfAge_9 rfl ?_
  refine M_getI (pc := 10) dX1_leastOfAge_10 f_X1_9 ha ?_
  refine M_icmp_ge (pc := 13) (tgt := 32) dX1_leastOfAge_13 (by decide) (fun hc3 => ?_) (fun hc3 => ?_)
  · have h := (if_pos hc3).symm.trans h
    refine M_iconst (pc := 32) (v := -1) dX1_leastOfAge_32 (by decide) ?_
    obtain rfl := Option.some.inj h
    exact M_iret (pc := 33) dX1_leastOfAge_33 rfl rfl rfl rfl
  · have h := (if_neg hc3).symm.trans h
    refine M_iload_n (pc := 16) dX1_leastOfAge_16 rfl ?_
    refine M_iload_n (pc := 17) dX1_leastOfAge_17 rfl ?_
    refine M_ishr (pc := 18) dX1_leastOfAge_18 ?_
    refine M_iconst (pc := 19) (v := 1) dX1_leastOfAge_19 (by decide) ?_
    refine M_iand (pc := 20) dX1_leastOfAge_20 ?_
    refine M_if_eq (pc := 21) (tgt := 26) dX1_leastOfAge_21 (by decide) (fun hc4 => ?_) (fun hc4 => ?_)
    · have h := (if_pos hc4).symm.trans h
      refine M_iinc (pc := 26) (v := (x3 + (1 : Int32))) (ls' := [some (.ref a), none, some (.int x2), some (.int (x3 + (1 : Int32)))]) dX1_leastOfAge_26 rfl rfl (by decide) rfl ?_
      refine M_goto (pc := 29) (tgt := 8) dX1_leastOfAge_29 (by decide) ?_
      exact ih (x3 + (1 : Int32)) _ h
    · have h := (if_neg hc4).symm.trans h
      refine M_iload_n (pc := 24) dX1_leastOfAge_24 rfl ?_
      obtain rfl := Option.some.inj h
      exact M_iret (pc := 25) dX1_leastOfAge_25 rfl rfl rfl rfl
set_option maxRecDepth 4000 in
set_option maxHeartbeats 4000000 in
theorem C_X1_leastOfAge {g : gX} {d : Nat} {P : Nat → Nat → Option Nat} {I : HI} {a : Nat} {x1 : Int32} {J : HJ} (hp : Wp P) (ha : OB NT a 1) {r : Int32} (h : F_X1_leastOfAge I a x1 = some r) : Cm g mX1_leastOfAge (d + 2) [.ref a, .int x1] (NT, I, J, P) (some (.int r)) (NT, I, J, P) := by
  unfold F_X1_leastOfAge at h
  refine Cm.of (by decide) (by simp [Value.category]) (Nat.le_of_ble_eq_true rfl) (Nat.le_refl _) (ls := [some (.ref a), some (.int x1), none, none]) rfl ?_
  refine M_aload_n (pc := 0) dX1_leastOfAge_0 rfl ?_
  refine M_iload_n (pc := 1) dX1_leastOfAge_1 rfl ?_
  obtain ⟨r1, hr2, h⟩ := bnd h
  refine M_callVi (pc := 2) dX1_leastOfAge_2 v_X1_42 rfl rfl ha (Nat.le_of_ble_eq_true rfl) (C_X1_inAge (d := d + 0) hp ha hr2) (Nat.le_refl _) ?_
  refine M_istore_n (pc := 5) (ls' := [some (.ref a), some (.int x1), some (.int r1), none]) dX1_leastOfAge_5 (by decide) rfl ?_
  refine M_iconst (pc := 6) (v := 0) dX1_leastOfAge_6 (by decide) ?_
  refine M_istore_n (pc := 7) (ls' := [some (.ref a), some (.int x1), some (.int r1), some (.int (0 : Int32))]) dX1_leastOfAge_7 (by decide) rfl ?_
  refine M_mask (pc := 8) [true, false, true, true] rfl ?_
  exact LC_X1_leastOfAge_8 (P := P) hp ha (0 : Int32) _ h
def L_X1_hadAt_4 (I : HI) (a : Nat) (x1 : Int32) (x2 : Int32) (x3 : Int32) : Option (Int32) :=
  if (I a 0) ≤ x3 then some x2 else (ald 12 (I (a + 2)) x3) >>= fun v2 => if v2 = (-1 : Int32) then L_X1_hadAt_4 I a x1 x2 (x3 + (1 : Int32)) else (ald 12 (I (a + 3)) x3) >>= fun v5 => if v5 = x1 then L_X1_hadAt_4 I a x1 (x2 ||| ((1 : Int32) <<< (x3 &&& 31))) (x3 + (1 : Int32)) else L_X1_hadAt_4 I a x1 x2 (x3 + (1 : Int32))
partial_fixpoint
def F_X1_hadAt (I : HI) (a : Nat) (x1 : Int32) : Option (Int32) :=
  L_X1_hadAt_4 I a x1 (0 : Int32) (0 : Int32)
set_option maxRecDepth 4000 in
set_option maxHeartbeats 4000000 in
theorem LC_X1_hadAt_4 {g : gX} {d : Nat} {P : Nat → Nat → Option Nat} {J : HJ} {I : HI} {a : Nat} {x1 : Int32} (hp : Wp P) (ha : OB NT a 1) : ∀ (x2 : Int32) (x3 : Int32) (r : Int32), L_X1_hadAt_4 I a x1 x2 x3 = some r → M g mX1_hadAt (d + 0) (NT, NT, 0) ((.inl (some (.int r))), (NT, I, J, P)) 4 [some (.ref a), some (.int x1), some (.int x2), some (.int x3)] [] (NT, I, J, P) := by
  refine L_X1_hadAt_4.partial_correctness I a x1 (fun x2 x3 r => M g mX1_hadAt (d + 0) (NT, NT, 0) ((.inl (some (.int r))), (NT, I, J, P)) 4 [some (.ref a), some (.int x1), some (.int x2), some (.int x3)] [] (NT, I, J, P)) ?_
  intro f ih x2 x3 r h
  refine M_iload_n (pc := 4) dX1_hadAt_4 rfl ?_
  refine M_aload_n (pc := 5) dX1_hadAt_5 rfl ?_
  refine M_getI (pc := 6) dX1_hadAt_6 f_X1_9 ha ?_
  refine M_icmp_ge (pc := 9) (tgt := 44) dX1_hadAt_9 (by decide) (fun hc1 => ?_) (fun hc1 => ?_)
  · have h := (if_pos hc1).symm.trans h
    refine M_iload_n (pc := 44) dX1_hadAt_44 rfl ?_
    obtain rfl := Option.some.inj h
    exact M_iret (pc := 45) dX1_hadAt_45 rfl rfl rfl rfl
  · have h := (if_neg hc1).symm.trans h
    refine M_aload_n (pc := 12) dX1_hadAt_12 rfl ?_
    refine M_getR (pc := 13) dX1_hadAt_13 f_X1_19 ha (gr_1_2 hp ha).1 ?_
    refine M_iload_n (pc := 16) dX1_hadAt_16 rfl ?_
    obtain ⟨v2, hv3, h⟩ := bnd h
    refine M_aldI (pc := 17) dX1_hadAt_17 (gr_1_2 hp ha).2 hv3 ?_
    refine M_iconst (pc := 18) (v := -1) dX1_hadAt_18 (by decide) ?_
    refine M_icmp_eq (pc := 19) (tgt := 38) dX1_hadAt_19 (by decide) (fun hc4 => ?_) (fun hc4 => ?_)
    · have h := (if_pos hc4).symm.trans h
      refine M_iinc (pc := 38) (v := (x3 + (1 : Int32))) (ls' := [some (.ref a), some (.int x1), some (.int x2), some (.int (x3 + (1 : Int32)))]) dX1_hadAt_38 rfl rfl (by decide) rfl ?_
      refine M_goto (pc := 41) (tgt := 4) dX1_hadAt_41 (by decide) ?_
      exact ih x2 (x3 + (1 : Int32)) _ h
    · have h := (if_neg hc4).symm.trans h
      refine M_aload_n (pc := 22) dX1_hadAt_22 rfl ?_
      refine M_getR (pc := 23) dX1_hadAt_23 f_X1_22 ha (gr_1_3 hp ha).1 ?_
      refine M_iload_n (pc := 26) dX1_hadAt_26 rfl ?_
      obtain ⟨v5, hv6, h⟩ := bnd h
      refine M_aldI (pc := 27) dX1_hadAt_27 (gr_1_3 hp ha).2 hv6 ?_
      refine M_iload_n (pc := 28) dX1_hadAt_28 rfl ?_
      refine M_icmp_ne (pc := 29) (tgt := 38) dX1_hadAt_29 (by decide) (fun hc7 => ?_) (fun hc7 => ?_)
      · have h := (if_neg hc7).symm.trans h
        refine M_iinc (pc := 38) (v := (x3 + (1 : Int32))) (ls' := [some (.ref a), some (.int x1), some (.int x2), some (.int (x3 + (1 : Int32)))]) dX1_hadAt_38 rfl rfl (by decide) rfl ?_
        refine M_goto (pc := 41) (tgt := 4) dX1_hadAt_41 (by decide) ?_
        exact ih x2 (x3 + (1 : Int32)) _ h
      · have h := (if_pos hc7).symm.trans h
        refine M_iload_n (pc := 32) dX1_hadAt_32 rfl ?_
        refine M_iconst (pc := 33) (v := 1) dX1_hadAt_33 (by decide) ?_
        refine M_iload_n (pc := 34) dX1_hadAt_34 rfl ?_
        refine M_ishl (pc := 35) dX1_hadAt_35 ?_
        refine M_ior (pc := 36) dX1_hadAt_36 ?_
        refine M_istore_n (pc := 37) (ls' := [some (.ref a), some (.int x1), some (.int (x2 ||| ((1 : Int32) <<< (x3 &&& 31)))), some (.int x3)]) dX1_hadAt_37 (by decide) rfl ?_
        refine M_iinc (pc := 38) (v := (x3 + (1 : Int32))) (ls' := [some (.ref a), some (.int x1), some (.int (x2 ||| ((1 : Int32) <<< (x3 &&& 31)))), some (.int (x3 + (1 : Int32)))]) dX1_hadAt_38 rfl rfl (by decide) rfl ?_
        refine M_goto (pc := 41) (tgt := 4) dX1_hadAt_41 (by decide) ?_
        exact ih (x2 ||| ((1 : Int32) <<< (x3 &&& 31))) (x3 + (1 : Int32)) _ h
set_option maxRecDepth 4000 in
set_option maxHeartbeats 4000000 in
theorem C_X1_hadAt {g : gX} {d : Nat} {P : Nat → Nat → Option Nat} {I : HI} {a : Nat} {x1 : Int32} {J : HJ} (hp : Wp P) (ha : OB NT a 1) {r : Int32} (h : F_X1_hadAt I a x1 = some r) : Cm g mX1_hadAt (d + 0) [.ref a, .int x1] (NT, I, J, P) (some (.int r)) (NT, I, J, P) := by
  unfold F_X1_hadAt at h
  refine Cm.of (by decide) (by simp [Value.category]) (Nat.le_of_ble_eq_true rfl) (Nat.le_refl _) (ls := [some (.ref a), some (.int x1), none, none]) rfl ?_
  refine M_iconst (pc := 0) (v := 0) dX1_hadAt_0 (by decide) ?_
  refine M_istore_n (pc := 1) (ls' := [some (.ref a), some (.int x1), some (.int (0 : Int32)), none]) dX1_hadAt_1 (by decide) rfl ?_
  refine M_iconst (pc := 2) (v := 0) dX1_hadAt_2 (by decide) ?_
  refine M_istore_n (pc := 3) (ls' := [some (.ref a), some (.int x1), some (.int (0 : Int32)), some (.int (0 : Int32))]) dX1_hadAt_3 (by decide) rfl ?_
  exact LC_X1_hadAt_4 (P := P) hp ha (0 : Int32) (0 : Int32) _ h
def L_X1_hadWith_4 (I : HI) (a : Nat) (x1 : Int32) (x2 : Int32) (x3 : Int32) : Option (Int32) :=
  if (I a 0) ≤ x3 then some x2 else (ald 12 (I (a + 2)) x3) >>= fun v2 => if v2 = (-1 : Int32) then L_X1_hadWith_4 I a x1 x2 (x3 + (1 : Int32)) else (ald 12 (I (a + 4)) x3) >>= fun v5 => if v5 = x1 then L_X1_hadWith_4 I a x1 (x2 ||| ((1 : Int32) <<< (x3 &&& 31))) (x3 + (1 : Int32)) else L_X1_hadWith_4 I a x1 x2 (x3 + (1 : Int32))
partial_fixpoint
def F_X1_hadWith (I : HI) (a : Nat) (x1 : Int32) : Option (Int32) :=
  L_X1_hadWith_4 I a x1 (0 : Int32) (0 : Int32)
set_option maxRecDepth 4000 in
set_option maxHeartbeats 4000000 in
theorem LC_X1_hadWith_4 {g : gX} {d : Nat} {P : Nat → Nat → Option Nat} {J : HJ} {I : HI} {a : Nat} {x1 : Int32} (hp : Wp P) (ha : OB NT a 1) : ∀ (x2 : Int32) (x3 : Int32) (r : Int32), L_X1_hadWith_4 I a x1 x2 x3 = some r → M g mX1_hadWith (d + 0) (NT, NT, 0) ((.inl (some (.int r))), (NT, I, J, P)) 4 [some (.ref a), some (.int x1), some (.int x2), some (.int x3)] [] (NT, I, J, P) := by
  refine L_X1_hadWith_4.partial_correctness I a x1 (fun x2 x3 r => M g mX1_hadWith (d + 0) (NT, NT, 0) ((.inl (some (.int r))), (NT, I, J, P)) 4 [some (.ref a), some (.int x1), some (.int x2), some (.int x3)] [] (NT, I, J, P)) ?_
  intro f ih x2 x3 r h
  refine M_iload_n (pc := 4) dX1_hadWith_4 rfl ?_
  refine M_aload_n (pc := 5) dX1_hadWith_5 rfl ?_
  refine M_getI (pc := 6) dX1_hadWith_6 f_X1_9 ha ?_
  refine M_icmp_ge (pc := 9) (tgt := 44) dX1_hadWith_9 (by decide) (fun hc1 => ?_) (fun hc1 => ?_)
  · have h := (if_pos hc1).symm.trans h
    refine M_iload_n (pc := 44) dX1_hadWith_44 rfl ?_
    obtain rfl := Option.some.inj h
    exact M_iret (pc := 45) dX1_hadWith_45 rfl rfl rfl rfl
  · have h := (if_neg hc1).symm.trans h
    refine M_aload_n (pc := 12) dX1_hadWith_12 rfl ?_
    refine M_getR (pc := 13) dX1_hadWith_13 f_X1_19 ha (gr_1_2 hp ha).1 ?_
    refine M_iload_n (pc := 16) dX1_hadWith_16 rfl ?_
    obtain ⟨v2, hv3, h⟩ := bnd h
    refine M_aldI (pc := 17) dX1_hadWith_17 (gr_1_2 hp ha).2 hv3 ?_
    refine M_iconst (pc := 18) (v := -1) dX1_hadWith_18 (by decide) ?_
    refine M_icmp_eq (pc := 19) (tgt := 38) dX1_hadWith_19 (by decide) (fun hc4 => ?_) (fun hc4 => ?_)
    · have h := (if_pos hc4).symm.trans h
      refine M_iinc (pc := 38) (v := (x3 + (1 : Int32))) (ls' := [some (.ref a), some (.int x1), some (.int x2), some (.int (x3 + (1 : Int32)))]) dX1_hadWith_38 rfl rfl (by decide) rfl ?_
      refine M_goto (pc := 41) (tgt := 4) dX1_hadWith_41 (by decide) ?_
      exact ih x2 (x3 + (1 : Int32)) _ h
    · have h := (if_neg hc4).symm.trans h
      refine M_aload_n (pc := 22) dX1_hadWith_22 rfl ?_
      refine M_getR (pc := 23) dX1_hadWith_23 f_X1_25 ha (gr_1_4 hp ha).1 ?_
      refine M_iload_n (pc := 26) dX1_hadWith_26 rfl ?_
      obtain ⟨v5, hv6, h⟩ := bnd h
      refine M_aldI (pc := 27) dX1_hadWith_27 (gr_1_4 hp ha).2 hv6 ?_
      refine M_iload_n (pc := 28) dX1_hadWith_28 rfl ?_
      refine M_icmp_ne (pc := 29) (tgt := 38) dX1_hadWith_29 (by decide) (fun hc7 => ?_) (fun hc7 => ?_)
      · have h := (if_neg hc7).symm.trans h
        refine M_iinc (pc := 38) (v := (x3 + (1 : Int32))) (ls' := [some (.ref a), some (.int x1), some (.int x2), some (.int (x3 + (1 : Int32)))]) dX1_hadWith_38 rfl rfl (by decide) rfl ?_
        refine M_goto (pc := 41) (tgt := 4) dX1_hadWith_41 (by decide) ?_
        exact ih x2 (x3 + (1 : Int32)) _ h
      · have h := (if_pos hc7).symm.trans h
        refine M_iload_n (pc := 32) dX1_hadWith_32 rfl ?_
        refine M_iconst (pc := 33) (v := 1) dX1_hadWith_33 (by decide) ?_
        refine M_iload_n (pc := 34) dX1_hadWith_34 rfl ?_
        refine M_ishl (pc := 35) dX1_hadWith_35 ?_
        refine M_ior (pc := 36) dX1_hadWith_36 ?_
        refine M_istore_n (pc := 37) (ls' := [some (.ref a), some (.int x1), some (.int (x2 ||| ((1 : Int32) <<< (x3 &&& 31)))), some (.int x3)]) dX1_hadWith_37 (by decide) rfl ?_
        refine M_iinc (pc := 38) (v := (x3 + (1 : Int32))) (ls' := [some (.ref a), some (.int x1), some (.int (x2 ||| ((1 : Int32) <<< (x3 &&& 31)))), some (.int (x3 + (1 : Int32)))]) dX1_hadWith_38 rfl rfl (by decide) rfl ?_
        refine M_goto (pc := 41) (tgt := 4) dX1_hadWith_41 (by decide) ?_
        exact ih (x2 ||| ((1 : Int32) <<< (x3 &&& 31))) (x3 + (1 : Int32)) _ h
set_option maxRecDepth 4000 in
set_option maxHeartbeats 4000000 in
theorem C_X1_hadWith {g : gX} {d : Nat} {P : Nat → Nat → Option Nat} {I : HI} {a : Nat} {x1 : Int32} {J : HJ} (hp : Wp P) (ha : OB NT a 1) {r : Int32} (h : F_X1_hadWith I a x1 = some r) : Cm g mX1_hadWith (d + 0) [.ref a, .int x1] (NT, I, J, P) (some (.int r)) (NT, I, J, P) := by
  unfold F_X1_hadWith at h
  refine Cm.of (by decide) (by simp [Value.category]) (Nat.le_of_ble_eq_true rfl) (Nat.le_refl _) (ls := [some (.ref a), some (.int x1), none, none]) rfl ?_
  refine M_iconst (pc := 0) (v := 0) dX1_hadWith_0 (by decide) ?_
  refine M_istore_n (pc := 1) (ls' := [some (.ref a), some (.int x1), some (.int (0 : Int32)), none]) dX1_hadWith_1 (by decide) rfl ?_
  refine M_iconst (pc := 2) (v := 0) dX1_hadWith_2 (by decide) ?_
  refine M_istore_n (pc := 3) (ls' := [some (.ref a), some (.int x1), some (.int (0 : Int32)), some (.int (0 : Int32))]) dX1_hadWith_3 (by decide) rfl ?_
  exact LC_X1_hadWith_4 (P := P) hp ha (0 : Int32) (0 : Int32) _ h
def L_X1_companyIn_18 (I : HI) (a : Nat) (x3 : Int32) (x4 : Int32) (x5 : Int32) : Option (Int32) :=
  if (I a 0) ≤ x5 then some x4 else if ((x3 >>> (x5 &&& 31)) &&& (1 : Int32)) = 0 then L_X1_companyIn_18 I a x3 x4 (x5 + (1 : Int32)) else (ald 12 (I (a + 4)) x5) >>= fun v7 => if v7 = (-1 : Int32) then L_X1_companyIn_18 I a x3 x4 (x5 + (1 : Int32)) else (ald 12 (I (a + 4)) x5) >>= fun v10 => L_X1_companyIn_18 I a x3 (x4 ||| ((1 : Int32) <<< (v10 &&& 31))) (x5 + (1 : Int32))
partial_fixpoint
def F_X1_companyIn (I : HI) (a : Nat) (x1 : Int32) (x2 : Int32) : Option (Int32) :=
  (F_X1_inAge I a x1) >>= fun r1 => (F_X1_hadAt I a x2) >>= fun r3 => L_X1_companyIn_18 I a (r1 &&& r3) (0 : Int32) (0 : Int32)
set_option maxRecDepth 4000 in
set_option maxHeartbeats 4000000 in
theorem LC_X1_companyIn_18 {g : gX} {d : Nat} {P : Nat → Nat → Option Nat} {J : HJ} {I : HI} {a : Nat} {x3 : Int32} (hp : Wp P) (ha : OB NT a 1) : ∀ (x4 : Int32) (x5 : Int32) (r : Int32), L_X1_companyIn_18 I a x3 x4 x5 = some r → M g mX1_companyIn (d + 2) (NT, NT, 0) ((.inl (some (.int r))), (NT, I, J, P)) 18 [some (.ref a), none, none, some (.int x3), some (.int x4), some (.int x5)] [] (NT, I, J, P) := by
  refine L_X1_companyIn_18.partial_correctness I a x3 (fun x4 x5 r => M g mX1_companyIn (d + 2) (NT, NT, 0) ((.inl (some (.int r))), (NT, I, J, P)) 18 [some (.ref a), none, none, some (.int x3), some (.int x4), some (.int x5)] [] (NT, I, J, P)) ?_
  intro f ih x4 x5 r h
  refine M_iload (pc := 18) dX1_companyIn_18 rfl ?_
  refine M_aload_n (pc := 20) dX1_companyIn_20 rfl ?_
  refine M_getI (pc := 21) dX1_companyIn_21 f_X1_9 ha ?_
  refine M_icmp_ge (pc := 24) (tgt := 67) dX1_companyIn_24 (by decide) (fun hc5 => ?_) (fun hc5 => ?_)
  · have h := (if_pos hc5).symm.trans h
    refine M_iload (pc := 67) dX1_companyIn_67 rfl ?_
    obtain rfl := Option.some.inj h
    exact M_iret (pc := 69) dX1_companyIn_69 rfl rfl rfl rfl
  · have h := (if_neg hc5).symm.trans h
    refine M_iload_n (pc := 27) dX1_companyIn_27 rfl ?_
    refine M_iload (pc := 28) dX1_companyIn_28 rfl ?_
    refine M_ishr (pc := 30) dX1_companyIn_30 ?_
    refine M_iconst (pc := 31) (v := 1) dX1_companyIn_31 (by decide) ?_
    refine M_iand (pc := 32) dX1_companyIn_32 ?_
    refine M_if_eq (pc := 33) (tgt := 61) dX1_companyIn_33 (by decide) (fun hc6 => ?_) (fun hc6 => ?_)
    · have h := (if_pos hc6).symm.trans h
      refine M_iinc (pc := 61) (v := (x5 + (1 : Int32))) (ls' := [some (.ref a), none, none, some (.int x3), some (.int x4), some (.int (x5 + (1 : Int32)))]) dX1_companyIn_61 rfl rfl (by decide) rfl ?_
      refine M_goto (pc := 64) (tgt := 18) dX1_companyIn_64 (by decide) ?_
      exact ih x4 (x5 + (1 : Int32)) _ h
    · have h := (if_neg hc6).symm.trans h
      refine M_aload_n (pc := 36) dX1_companyIn_36 rfl ?_
      refine M_getR (pc := 37) dX1_companyIn_37 f_X1_25 ha (gr_1_4 hp ha).1 ?_
      refine M_iload (pc := 40) dX1_companyIn_40 rfl ?_
      obtain ⟨v7, hv8, h⟩ := bnd h
      refine M_aldI (pc := 42) dX1_companyIn_42 (gr_1_4 hp ha).2 hv8 ?_
      refine M_iconst (pc := 43) (v := -1) dX1_companyIn_43 (by decide) ?_
      refine M_icmp_eq (pc := 44) (tgt := 61) dX1_companyIn_44 (by decide) (fun hc9 => ?_) (fun hc9 => ?_)
      · have h := (if_pos hc9).symm.trans h
        refine M_iinc (pc := 61) (v := (x5 + (1 : Int32))) (ls' := [some (.ref a), none, none, some (.int x3), some (.int x4), some (.int (x5 + (1 : Int32)))]) dX1_companyIn_61 rfl rfl (by decide) rfl ?_
        refine M_goto (pc := 64) (tgt := 18) dX1_companyIn_64 (by decide) ?_
        exact ih x4 (x5 + (1 : Int32)) _ h
      · have h := (if_neg hc9).symm.trans h
        refine M_iload (pc := 47) dX1_companyIn_47 rfl ?_
        refine M_iconst (pc := 49) (v := 1) dX1_companyIn_49 (by decide) ?_
        refine M_aload_n (pc := 50) dX1_companyIn_50 rfl ?_
        refine M_getR (pc := 51) dX1_companyIn_51 f_X1_25 ha (gr_1_4 hp ha).1 ?_
        refine M_iload (pc := 54) dX1_companyIn_54 rfl ?_
        obtain ⟨v10, hv11, h⟩ := bnd h
        refine M_aldI (pc := 56) dX1_companyIn_56 (gr_1_4 hp ha).2 hv11 ?_
        refine M_ishl (pc := 57) dX1_companyIn_57 ?_
        refine M_ior (pc := 58) dX1_companyIn_58 ?_
        refine M_istore (pc := 59) (ls' := [some (.ref a), none, none, some (.int x3), some (.int (x4 ||| ((1 : Int32) <<< (v10 &&& 31)))), some (.int x5)]) dX1_companyIn_59 (by decide) rfl ?_
        refine M_iinc (pc := 61) (v := (x5 + (1 : Int32))) (ls' := [some (.ref a), none, none, some (.int x3), some (.int (x4 ||| ((1 : Int32) <<< (v10 &&& 31)))), some (.int (x5 + (1 : Int32)))]) dX1_companyIn_61 rfl rfl (by decide) rfl ?_
        refine M_goto (pc := 64) (tgt := 18) dX1_companyIn_64 (by decide) ?_
        exact ih (x4 ||| ((1 : Int32) <<< (v10 &&& 31))) (x5 + (1 : Int32)) _ h
set_option maxRecDepth 4000 in
set_option maxHeartbeats 4000000 in
theorem C_X1_companyIn {g : gX} {d : Nat} {P : Nat → Nat → Option Nat} {I : HI} {a : Nat} {x1 : Int32} {x2 : Int32} {J : HJ} (hp : Wp P) (ha : OB NT a 1) {r : Int32} (h : F_X1_companyIn I a x1 x2 = some r) : Cm g mX1_companyIn (d + 2) [.ref a, .int x1, .int x2] (NT, I, J, P) (some (.int r)) (NT, I, J, P) := by
  unfold F_X1_companyIn at h
  refine Cm.of (by decide) (by simp [Value.category]) (Nat.le_of_ble_eq_true rfl) (Nat.le_refl _) (ls := [some (.ref a), some (.int x1), some (.int x2), none, none, none]) rfl ?_
  refine M_aload_n (pc := 0) dX1_companyIn_0 rfl ?_
  refine M_iload_n (pc := 1) dX1_companyIn_1 rfl ?_
  obtain ⟨r1, hr2, h⟩ := bnd h
  refine M_callVi (pc := 2) dX1_companyIn_2 v_X1_42 rfl rfl ha (Nat.le_of_ble_eq_true rfl) (C_X1_inAge (d := d + 0) hp ha hr2) (Nat.le_refl _) ?_
  refine M_aload_n (pc := 5) dX1_companyIn_5 rfl ?_
  refine M_iload_n (pc := 6) dX1_companyIn_6 rfl ?_
  obtain ⟨r3, hr4, h⟩ := bnd h
  refine M_callVi (pc := 7) dX1_companyIn_7 v_X1_46 rfl rfl ha (Nat.le_of_ble_eq_true rfl) (C_X1_hadAt (d := d + 1) hp ha hr4) (Nat.le_refl _) ?_
  refine M_iand (pc := 10) dX1_companyIn_10 ?_
  refine M_istore_n (pc := 11) (ls' := [some (.ref a), some (.int x1), some (.int x2), some (.int (r1 &&& r3)), none, none]) dX1_companyIn_11 (by decide) rfl ?_
  refine M_iconst (pc := 12) (v := 0) dX1_companyIn_12 (by decide) ?_
  refine M_istore (pc := 13) (ls' := [some (.ref a), some (.int x1), some (.int x2), some (.int (r1 &&& r3)), some (.int (0 : Int32)), none]) dX1_companyIn_13 (by decide) rfl ?_
  refine M_iconst (pc := 15) (v := 0) dX1_companyIn_15 (by decide) ?_
  refine M_istore (pc := 16) (ls' := [some (.ref a), some (.int x1), some (.int x2), some (.int (r1 &&& r3)), some (.int (0 : Int32)), some (.int (0 : Int32))]) dX1_companyIn_16 (by decide) rfl ?_
  refine M_mask (pc := 18) [true, false, false, true, true, true] rfl ?_
  exact LC_X1_companyIn_18 (P := P) hp ha (0 : Int32) (0 : Int32) _ h
def F_X1_tell (I : HI) (a : Nat) (x1 : Int32) (x2 : Int32) (x3 : Int32) (x4 : Int32) : Option (HI) :=
  (F_X1_has I a x1) >>= fun r1 => if r1 = 0 then some I else if inB x1 12 = true then if inB x1 12 = true then if inB x1 12 = true then some (up2 (up2 (up2 I (a + 2) (x1).toNatClampNeg x2) (a + 3) (x1).toNatClampNeg x3) (a + 4) (x1).toNatClampNeg x4) else none else none else none
set_option maxRecDepth 4000 in
set_option maxHeartbeats 4000000 in
theorem C_X1_tell {g : gX} {d : Nat} {P : Nat → Nat → Option Nat} {I : HI} {a : Nat} {x1 : Int32} {x2 : Int32} {x3 : Int32} {x4 : Int32} {J : HJ} (hp : Wp P) (ha : OB NT a 1) {r : HI} (h : F_X1_tell I a x1 x2 x3 x4 = some r) : Cm g mX1_tell (d + 1) [.ref a, .int x1, .int x2, .int x3, .int x4] (NT, I, J, P) none (NT, r, J, P) := by
  unfold F_X1_tell at h
  refine Cm.of (by decide) (by simp [Value.category]) (Nat.le_of_ble_eq_true rfl) (Nat.le_refl _) (ls := [some (.ref a), some (.int x1), some (.int x2), some (.int x3), some (.int x4)]) rfl ?_
  refine M_aload_n (pc := 0) dX1_tell_0 rfl ?_
  refine M_iload_n (pc := 1) dX1_tell_1 rfl ?_
  obtain ⟨r1, hr2, h⟩ := bnd h
  refine M_callVi (pc := 2) dX1_tell_2 v_X1_28 rfl rfl ha (Nat.le_of_ble_eq_true rfl) (C_X1_has (d := d + 0) hp ha hr2) (Nat.le_refl _) ?_
  refine M_if_eq (pc := 5) (tgt := 30) dX1_tell_5 (by decide) (fun hc3 => ?_) (fun hc3 => ?_)
  · have h := (if_pos hc3).symm.trans h
    obtain rfl := Option.some.inj h
    exact M_vret (pc := 30) dX1_tell_30 rfl rfl rfl
  · have h := (if_neg hc3).symm.trans h
    refine M_aload_n (pc := 8) dX1_tell_8 rfl ?_
    refine M_getR (pc := 9) dX1_tell_9 f_X1_19 ha (gr_1_2 hp ha).1 ?_
    refine M_iload_n (pc := 12) dX1_tell_12 rfl ?_
    refine M_iload_n (pc := 13) dX1_tell_13 rfl ?_
    obtain ⟨hb4, h⟩ := chk h
    refine M_iast (pc := 14) dX1_tell_14 (gr_1_2 hp ha).2 (inB_in hb4) ?_
    refine M_aload_n (pc := 15) dX1_tell_15 rfl ?_
    refine M_getR (pc := 16) dX1_tell_16 f_X1_22 ha (gr_1_3 hp ha).1 ?_
    refine M_iload_n (pc := 19) dX1_tell_19 rfl ?_
    refine M_iload_n (pc := 20) dX1_tell_20 rfl ?_
    obtain ⟨hb5, h⟩ := chk h
    refine M_iast (pc := 21) dX1_tell_21 (gr_1_3 hp ha).2 (inB_in hb5) ?_
    refine M_aload_n (pc := 22) dX1_tell_22 rfl ?_
    refine M_getR (pc := 23) dX1_tell_23 f_X1_25 ha (gr_1_4 hp ha).1 ?_
    refine M_iload_n (pc := 26) dX1_tell_26 rfl ?_
    refine M_iload (pc := 27) dX1_tell_27 rfl ?_
    obtain ⟨hb6, h⟩ := chk h
    refine M_iast (pc := 29) dX1_tell_29 (gr_1_4 hp ha).2 (inB_in hb6) ?_
    obtain rfl := Option.some.inj h
    exact M_vret (pc := 30) dX1_tell_30 rfl rfl rfl
def F_X1_add (I : HI) (a : Nat) (x1 : Int32) (x2 : Int32) (x3 : Int32) : Option (HI) :=
  if (12 : Int32) ≤ (I a 0) then some I else (F_X1_tell (up2 I a 0 ((I a 0) + (1 : Int32))) a (((up2 I a 0 ((I a 0) + (1 : Int32))) a 0) - (1 : Int32)) x1 x2 x3) >>= fun r2 => some r2
set_option maxRecDepth 4000 in
set_option maxHeartbeats 4000000 in
theorem C_X1_add {g : gX} {d : Nat} {P : Nat → Nat → Option Nat} {I : HI} {a : Nat} {x1 : Int32} {x2 : Int32} {x3 : Int32} {J : HJ} (hp : Wp P) (ha : OB NT a 1) {r : HI} (h : F_X1_add I a x1 x2 x3 = some r) : Cm g mX1_add (d + 2) [.ref a, .int x1, .int x2, .int x3] (NT, I, J, P) none (NT, r, J, P) := by
  unfold F_X1_add at h
  refine Cm.of (by decide) (by simp [Value.category]) (Nat.le_of_ble_eq_true rfl) (Nat.le_refl _) (ls := [some (.ref a), some (.int x1), some (.int x2), some (.int x3)]) rfl ?_
  refine M_aload_n (pc := 0) dX1_add_0 rfl ?_
  refine M_getI (pc := 1) dX1_add_1 f_X1_9 ha ?_
  refine M_bipush (pc := 4) (v := 12) dX1_add_4 (by decide) ?_
  refine M_icmp_ge (pc := 6) (tgt := 32) dX1_add_6 (by decide) (fun hc1 => ?_) (fun hc1 => ?_)
  · have h := (if_pos hc1).symm.trans h
    obtain rfl := Option.some.inj h
    exact M_vret (pc := 32) dX1_add_32 rfl rfl rfl
  · have h := (if_neg hc1).symm.trans h
    refine M_aload_n (pc := 9) dX1_add_9 rfl ?_
    refine M_dup (pc := 10) dX1_add_10 rfl ?_
    refine M_getI (pc := 11) dX1_add_11 f_X1_9 ha ?_
    refine M_iconst (pc := 14) (v := 1) dX1_add_14 (by decide) ?_
    refine M_iadd (pc := 15) dX1_add_15 ?_
    refine M_putI (pc := 16) dX1_add_16 f_X1_9 ha rfl ⟨rfl, rfl⟩ ?_
    refine M_aload_n (pc := 19) dX1_add_19 rfl ?_
    refine M_aload_n (pc := 20) dX1_add_20 rfl ?_
    refine M_getI (pc := 21) dX1_add_21 f_X1_9 ha ?_
    refine M_iconst (pc := 24) (v := 1) dX1_add_24 (by decide) ?_
    refine M_isub (pc := 25) dX1_add_25 ?_
    refine M_iload_n (pc := 26) dX1_add_26 rfl ?_
    refine M_iload_n (pc := 27) dX1_add_27 rfl ?_
    refine M_iload_n (pc := 28) dX1_add_28 rfl ?_
    obtain ⟨r2, hr3, h⟩ := bnd h
    refine M_callVv (pc := 29) dX1_add_29 v_X1_49 rfl rfl ha (Nat.le_of_ble_eq_true rfl) (C_X1_tell (d := d + 0) hp ha hr3) (Nat.le_refl _) ?_
    obtain rfl := Option.some.inj h
    exact M_vret (pc := 32) dX1_add_32 rfl rfl rfl
