def L_X12_sumOf_12 (x1 : Int32) (x2 : Int32) (x4 : Int32) (x3 : Int32) (x5 : Int32) (I : HI) : Option (Int32 × HI) :=
  if (I 206 2) = (1 : Int32) then if (I 206 353) ≤ x5 then some (x3, I) else (ald 2051 (I 206) ((354 : Int32) + ((4 : Int32) * x5))) >>= fun v5 => if v5 = x1 then (F_X12_holdsLine I x5 x2 x4) >>= fun r8 => if r8.1 = 0 then L_X12_sumOf_12 x1 x2 x4 x3 (x5 + (1 : Int32)) r8.2 else (ald 2051 (r8.2 206) (((354 : Int32) + ((4 : Int32) * x5)) + (1 : Int32))) >>= fun v11 => L_X12_sumOf_12 x1 x2 x4 (x3 + v11) (x5 + (1 : Int32)) r8.2 else L_X12_sumOf_12 x1 x2 x4 x3 (x5 + (1 : Int32)) I else some (x3, I)
partial_fixpoint
def F_X12_sumOf (I : HI) (x1 : Int32) (x2 : Int32) : Option (Int32 × HI) :=
  (F_X12_callsBy I x2) >>= fun r1 => L_X12_sumOf_12 x1 x2 r1 (0 : Int32) (0 : Int32) I
set_option maxRecDepth 4000 in
set_option maxHeartbeats 4000000 in
theorem LC_X12_sumOf_12 {g : gX} {d : Nat} {P : Nat → Nat → Option Nat} {J : HJ} {x1 : Int32} {x2 : Int32} {x4 : Int32} (hp : Wp P) : ∀ (x3 : Int32) (x5 : Int32) (I : HI) (r : Int32 × HI), L_X12_sumOf_12 x1 x2 x4 x3 x5 I = some r → M g mX12_sumOf (d + 6) (NT, NT, 0) ((.inl (some (.int r.1))), (NT, r.2, J, P)) 12 [some (.ref 205), some (.int x1), some (.int x2), some (.int x3), some (.int x4), some (.int x5)] [] (NT, I, J, P) := by
  refine L_X12_sumOf_12.partial_correctness x1 x2 x4 (fun x3 x5 I r => M g mX12_sumOf (d + 6) (NT, NT, 0) ((.inl (some (.int r.1))), (NT, r.2, J, P)) 12 [some (.ref 205), some (.int x1), some (.int x2), some (.int x3), some (.int x4), some (.int x5)] [] (NT, I, J, P)) ?_
  intro f ih x3 x5 I r h
  refine M_aload_n (pc := 12) dX12_sumOf_12 rfl ?_
  refine M_getR (pc := 13) dX12_sumOf_13 f_X12_13 at_11 (gc_205_1 hp).1 ?_
  refine M_iconst (pc := 16) (v := 2) dX12_sumOf_16 (by decide) ?_
  refine M_ildc (pc := 17) (j := 2) dX12_sumOf_17 (gc_205_1 hp).2 (by decide) (by decide) ?_
  refine M_iconst (pc := 18) (v := 1) dX12_sumOf_18 (by decide) ?_
  refine M_icmp_ne (pc := 19) (tgt := 88) dX12_sumOf_19 (by decide) (fun hc3 => ?_) (fun hc3 => ?_)
  · have h := (if_neg hc3).symm.trans h
    refine M_iload_n (pc := 88) dX12_sumOf_88 rfl ?_
    obtain rfl := Option.some.inj h
    exact M_iret (pc := 89) dX12_sumOf_89 rfl rfl rfl rfl
  · have h := (if_pos hc3).symm.trans h
    refine M_iload (pc := 22) dX12_sumOf_22 rfl ?_
    refine M_aload_n (pc := 24) dX12_sumOf_24 rfl ?_
    refine M_getR (pc := 25) dX12_sumOf_25 f_X12_13 at_11 (gc_205_1 hp).1 ?_
    refine M_sipush (pc := 28) (v := 353) dX12_sumOf_28 (by decide) ?_
    refine M_ildc (pc := 31) (j := 353) dX12_sumOf_31 (gc_205_1 hp).2 (by decide) (by decide) ?_
    refine M_icmp_ge (pc := 32) (tgt := 88) dX12_sumOf_32 (by decide) (fun hc4 => ?_) (fun hc4 => ?_)
    · have h := (if_pos hc4).symm.trans h
      refine M_iload_n (pc := 88) dX12_sumOf_88 rfl ?_
      obtain rfl := Option.some.inj h
      exact M_iret (pc := 89) dX12_sumOf_89 rfl rfl rfl rfl
    · have h := (if_neg hc4).symm.trans h
      refine M_aload_n (pc := 35) dX12_sumOf_35 rfl ?_
      refine M_getR (pc := 36) dX12_sumOf_36 f_X12_13 at_11 (gc_205_1 hp).1 ?_
      refine M_sipush (pc := 39) (v := 354) dX12_sumOf_39 (by decide) ?_
      refine M_iconst (pc := 42) (v := 4) dX12_sumOf_42 (by decide) ?_
      refine M_iload (pc := 43) dX12_sumOf_43 rfl ?_
      refine M_imul (pc := 45) dX12_sumOf_45 ?_
      refine M_iadd (pc := 46) dX12_sumOf_46 ?_
      obtain ⟨v5, hv6, h⟩ := bnd h
      refine M_aldI (pc := 47) dX12_sumOf_47 (gc_205_1 hp).2 hv6 ?_
      refine M_iload_n (pc := 48) dX12_sumOf_48 rfl ?_
      refine M_icmp_ne (pc := 49) (tgt := 82) dX12_sumOf_49 (by decide) (fun hc7 => ?_) (fun hc7 => ?_)
      · have h := (if_neg hc7).symm.trans h
        refine M_iinc (pc := 82) (v := (x5 + (1 : Int32))) (ls' := [some (.ref 205), some (.int x1), some (.int x2), some (.int x3), some (.int x4), some (.int (x5 + (1 : Int32)))]) dX12_sumOf_82 rfl rfl (by decide) rfl ?_
        refine M_goto (pc := 85) (tgt := 12) dX12_sumOf_85 (by decide) ?_
        exact ih x3 (x5 + (1 : Int32)) I _ h
      · have h := (if_pos hc7).symm.trans h
        refine M_aload_n (pc := 52) dX12_sumOf_52 rfl ?_
        refine M_iload (pc := 53) dX12_sumOf_53 rfl ?_
        refine M_iload_n (pc := 55) dX12_sumOf_55 rfl ?_
        refine M_iload (pc := 56) dX12_sumOf_56 rfl ?_
        obtain ⟨r8, hr9, h⟩ := bnd h
        refine M_callVi (pc := 58) dX12_sumOf_58 v_X12_272 rfl rfl at_11 (Nat.le_of_ble_eq_true rfl) (C_X12_holdsLine (d := d + 0) hp hr9) (Nat.le_refl _) ?_
        refine M_if_eq (pc := 61) (tgt := 82) dX12_sumOf_61 (by decide) (fun hc10 => ?_) (fun hc10 => ?_)
        · have h := (if_pos hc10).symm.trans h
          refine M_iinc (pc := 82) (v := (x5 + (1 : Int32))) (ls' := [some (.ref 205), some (.int x1), some (.int x2), some (.int x3), some (.int x4), some (.int (x5 + (1 : Int32)))]) dX12_sumOf_82 rfl rfl (by decide) rfl ?_
          refine M_goto (pc := 85) (tgt := 12) dX12_sumOf_85 (by decide) ?_
          exact ih x3 (x5 + (1 : Int32)) r8.2 _ h
        · have h := (if_neg hc10).symm.trans h
          refine M_iload_n (pc := 64) dX12_sumOf_64 rfl ?_
          refine M_aload_n (pc := 65) dX12_sumOf_65 rfl ?_
          refine M_getR (pc := 66) dX12_sumOf_66 f_X12_13 at_11 (gc_205_1 hp).1 ?_
          refine M_sipush (pc := 69) (v := 354) dX12_sumOf_69 (by decide) ?_
          refine M_iconst (pc := 72) (v := 4) dX12_sumOf_72 (by decide) ?_
          refine M_iload (pc := 73) dX12_sumOf_73 rfl ?_
          refine M_imul (pc := 75) dX12_sumOf_75 ?_
          refine M_iadd (pc := 76) dX12_sumOf_76 ?_
          refine M_iconst (pc := 77) (v := 1) dX12_sumOf_77 (by decide) ?_
          refine M_iadd (pc := 78) dX12_sumOf_78 ?_
          obtain ⟨v11, hv12, h⟩ := bnd h
          refine M_aldI (pc := 79) dX12_sumOf_79 (gc_205_1 hp).2 hv12 ?_
          refine M_iadd (pc := 80) dX12_sumOf_80 ?_
          refine M_istore_n (pc := 81) (ls' := [some (.ref 205), some (.int x1), some (.int x2), some (.int (x3 + v11)), some (.int x4), some (.int x5)]) dX12_sumOf_81 (by decide) rfl ?_
          refine M_iinc (pc := 82) (v := (x5 + (1 : Int32))) (ls' := [some (.ref 205), some (.int x1), some (.int x2), some (.int (x3 + v11)), some (.int x4), some (.int (x5 + (1 : Int32)))]) dX12_sumOf_82 rfl rfl (by decide) rfl ?_
          refine M_goto (pc := 85) (tgt := 12) dX12_sumOf_85 (by decide) ?_
          exact ih (x3 + v11) (x5 + (1 : Int32)) r8.2 _ h
set_option maxRecDepth 4000 in
set_option maxHeartbeats 4000000 in
theorem C_X12_sumOf {g : gX} {d : Nat} {P : Nat → Nat → Option Nat} {I : HI} {x1 : Int32} {x2 : Int32} {J : HJ} (hp : Wp P) {r : Int32 × HI} (h : F_X12_sumOf I x1 x2 = some r) : Cm g mX12_sumOf (d + 6) [.ref 205, .int x1, .int x2] (NT, I, J, P) (some (.int r.1)) (NT, r.2, J, P) := by
  unfold F_X12_sumOf at h
  refine Cm.of (by decide) (by simp [Value.category]) (Nat.le_of_ble_eq_true rfl) (Nat.le_refl _) (ls := [some (.ref 205), some (.int x1), some (.int x2), none, none, none]) rfl ?_
  refine M_iconst (pc := 0) (v := 0) dX12_sumOf_0 (by decide) ?_
  refine M_istore_n (pc := 1) (ls' := [some (.ref 205), some (.int x1), some (.int x2), some (.int (0 : Int32)), none, none]) dX12_sumOf_1 (by decide) rfl ?_
  refine M_aload_n (pc := 2) dX12_sumOf_2 rfl ?_
  refine M_iload_n (pc := 3) dX12_sumOf_3 rfl ?_
  obtain ⟨r1, hr2, h⟩ := bnd h
  refine M_callVi (pc := 4) dX12_sumOf_4 v_X12_269 rfl rfl at_11 (Nat.le_of_ble_eq_true rfl) (C_X12_callsBy (d := d + 2) hp hr2) (Nat.le_refl _) ?_
  refine M_istore (pc := 7) (ls' := [some (.ref 205), some (.int x1), some (.int x2), some (.int (0 : Int32)), some (.int r1), none]) dX12_sumOf_7 (by decide) rfl ?_
  refine M_iconst (pc := 9) (v := 0) dX12_sumOf_9 (by decide) ?_
  refine M_istore (pc := 10) (ls' := [some (.ref 205), some (.int x1), some (.int x2), some (.int (0 : Int32)), some (.int r1), some (.int (0 : Int32))]) dX12_sumOf_10 (by decide) rfl ?_
  exact LC_X12_sumOf_12 (P := P) hp (0 : Int32) (0 : Int32) I _ h
def F_X12_turnsBy (I : HI) (x1 : Int32) : Option (Int32 × HI) :=
  (F_X12_sumOf I (0 : Int32) x1) >>= fun r1 => (F_X12_sumOf r1.2 (1 : Int32) x1) >>= fun r3 => some ((r1.1 - r3.1), r3.2)
set_option maxRecDepth 4000 in
set_option maxHeartbeats 4000000 in
theorem C_X12_turnsBy {g : gX} {d : Nat} {P : Nat → Nat → Option Nat} {I : HI} {x1 : Int32} {J : HJ} (hp : Wp P) {r : Int32 × HI} (h : F_X12_turnsBy I x1 = some r) : Cm g mX12_turnsBy (d + 7) [.ref 205, .int x1] (NT, I, J, P) (some (.int r.1)) (NT, r.2, J, P) := by
  unfold F_X12_turnsBy at h
  refine Cm.of (by decide) (by simp [Value.category]) (Nat.le_of_ble_eq_true rfl) (Nat.le_refl _) (ls := [some (.ref 205), some (.int x1)]) rfl ?_
  refine M_aload_n (pc := 0) dX12_turnsBy_0 rfl ?_
  refine M_iconst (pc := 1) (v := 0) dX12_turnsBy_1 (by decide) ?_
  refine M_iload_n (pc := 2) dX12_turnsBy_2 rfl ?_
  obtain ⟨r1, hr2, h⟩ := bnd h
  refine M_callVi (pc := 3) dX12_turnsBy_3 v_X12_275 rfl rfl at_11 (Nat.le_of_ble_eq_true rfl) (C_X12_sumOf (d := d + 0) hp hr2) (Nat.le_refl _) ?_
  refine M_aload_n (pc := 6) dX12_turnsBy_6 rfl ?_
  refine M_iconst (pc := 7) (v := 1) dX12_turnsBy_7 (by decide) ?_
  refine M_iload_n (pc := 8) dX12_turnsBy_8 rfl ?_
  obtain ⟨r3, hr4, h⟩ := bnd h
  refine M_callVi (pc := 9) dX12_turnsBy_9 v_X12_275 rfl rfl at_11 (Nat.le_of_ble_eq_true rfl) (C_X12_sumOf (d := d + 0) hp hr4) (Nat.le_refl _) ?_
  refine M_isub (pc := 12) dX12_turnsBy_12 ?_
  obtain rfl := Option.some.inj h
  exact M_iret (pc := 13) dX12_turnsBy_13 rfl rfl rfl rfl
def F_X12_paysBy (I : HI) (x1 : Int32) : Option (Int32 × HI) :=
  (F_X12_sumOf I (2 : Int32) x1) >>= fun r1 => some (((I 206 13) + r1.1), r1.2)
set_option maxRecDepth 4000 in
set_option maxHeartbeats 4000000 in
theorem C_X12_paysBy {g : gX} {d : Nat} {P : Nat → Nat → Option Nat} {I : HI} {x1 : Int32} {J : HJ} (hp : Wp P) {r : Int32 × HI} (h : F_X12_paysBy I x1 = some r) : Cm g mX12_paysBy (d + 7) [.ref 205, .int x1] (NT, I, J, P) (some (.int r.1)) (NT, r.2, J, P) := by
  unfold F_X12_paysBy at h
  refine Cm.of (by decide) (by simp [Value.category]) (Nat.le_of_ble_eq_true rfl) (Nat.le_refl _) (ls := [some (.ref 205), some (.int x1)]) rfl ?_
  refine M_aload_n (pc := 0) dX12_paysBy_0 rfl ?_
  refine M_getR (pc := 1) dX12_paysBy_1 f_X12_13 at_11 (gc_205_1 hp).1 ?_
  refine M_bipush (pc := 4) (v := 13) dX12_paysBy_4 (by decide) ?_
  refine M_ildc (pc := 6) (j := 13) dX12_paysBy_6 (gc_205_1 hp).2 (by decide) (by decide) ?_
  refine M_aload_n (pc := 7) dX12_paysBy_7 rfl ?_
  refine M_iconst (pc := 8) (v := 2) dX12_paysBy_8 (by decide) ?_
  refine M_iload_n (pc := 9) dX12_paysBy_9 rfl ?_
  obtain ⟨r1, hr2, h⟩ := bnd h
  refine M_callVi (pc := 10) dX12_paysBy_10 v_X12_275 rfl rfl at_11 (Nat.le_of_ble_eq_true rfl) (C_X12_sumOf (d := d + 0) hp hr2) (Nat.le_refl _) ?_
  refine M_iadd (pc := 13) dX12_paysBy_13 ?_
  obtain rfl := Option.some.inj h
  exact M_iret (pc := 14) dX12_paysBy_14 rfl rfl rfl rfl
def F_X12_dish (I : HI) (x1 : Int32) (x2 : Int32) : Option (Int32 × HI) :=
  (F_X12_noDish (up2 I 205 0 (0 : Int32)) x1) >>= fun r1 => (F_X12_throwsIf (up2 I 205 0 (0 : Int32)) r1 (1 : Int32)) >>= fun r3 => if r3.1 = 0 then (F_X12_in r3.2 x2 (0 : Int32) (10 : Int32)) >>= fun r6 => if r6 = 0 then (F_X12_throwsIf r3.2 (1 : Int32) (2 : Int32)) >>= fun r23 => if r23.1 = 0 then if x2 = (8 : Int32) then (F_X12_callsBy r23.2 x1) >>= fun r35 => some (r35, r23.2) else if x2 = (9 : Int32) then (F_X12_turnsBy r23.2 x1) >>= fun r33 => some (r33.1, r33.2) else if x2 = (10 : Int32) then (F_X12_paysBy r23.2 x1) >>= fun r31 => some (r31.1, r31.2) else (F_X12_of r23.2 x1 x2) >>= fun r29 => some (r29, r23.2) else some ((0 : Int32), r23.2) else (F_X12_throwsIf r3.2 (0 : Int32) (2 : Int32)) >>= fun r9 => if r9.1 = 0 then if x2 = (8 : Int32) then (F_X12_callsBy r9.2 x1) >>= fun r21 => some (r21, r9.2) else if x2 = (9 : Int32) then (F_X12_turnsBy r9.2 x1) >>= fun r19 => some (r19.1, r19.2) else if x2 = (10 : Int32) then (F_X12_paysBy r9.2 x1) >>= fun r17 => some (r17.1, r17.2) else (F_X12_of r9.2 x1 x2) >>= fun r15 => some (r15, r9.2) else some ((0 : Int32), r9.2) else some ((0 : Int32), r3.2)
set_option maxRecDepth 4000 in
set_option maxHeartbeats 4000000 in
theorem C_X12_dish {g : gX} {d : Nat} {P : Nat → Nat → Option Nat} {I : HI} {x1 : Int32} {x2 : Int32} {J : HJ} (hp : Wp P) {r : Int32 × HI} (h : F_X12_dish I x1 x2 = some r) : Cm g mX12_dish (d + 8) [.ref 205, .int x1, .int x2] (NT, I, J, P) (some (.int r.1)) (NT, r.2, J, P) := by
  unfold F_X12_dish at h
  refine Cm.of (by decide) (by simp [Value.category]) (Nat.le_of_ble_eq_true rfl) (Nat.le_refl _) (ls := [some (.ref 205), some (.int x1), some (.int x2)]) rfl ?_
  refine M_aload_n (pc := 0) dX12_dish_0 rfl ?_
  refine M_iconst (pc := 1) (v := 0) dX12_dish_1 (by decide) ?_
  refine M_putI (pc := 2) dX12_dish_2 f_X12_3 at_11 rfl ⟨rfl, rfl⟩ ?_
  refine M_aload_n (pc := 5) dX12_dish_5 rfl ?_
  refine M_aload_n (pc := 6) dX12_dish_6 rfl ?_
  refine M_iload_n (pc := 7) dX12_dish_7 rfl ?_
  obtain ⟨r1, hr2, h⟩ := bnd h
  refine M_callVi (pc := 8) dX12_dish_8 v_X12_278 rfl rfl at_11 (Nat.le_of_ble_eq_true rfl) (C_X12_noDish (d := d + 6) hp hr2) (Nat.le_refl _) ?_
  refine M_iconst (pc := 11) (v := 1) dX12_dish_11 (by decide) ?_
  obtain ⟨r3, hr4, h⟩ := bnd h
  refine M_callVi (pc := 12) dX12_dish_12 v_X12_243 rfl rfl at_11 (Nat.le_of_ble_eq_true rfl) (C_X12_throwsIf (d := d + 7) hp hr4) (Nat.le_refl _) ?_
  refine M_if_ne (pc := 15) (tgt := 41) dX12_dish_15 (by decide) (fun hc5 => ?_) (fun hc5 => ?_)
  · have h := (if_neg hc5).symm.trans h
    refine M_iconst (pc := 41) (v := 0) dX12_dish_41 (by decide) ?_
    obtain rfl := Option.some.inj h
    exact M_iret (pc := 42) dX12_dish_42 rfl rfl rfl rfl
  · have h := (if_pos hc5).symm.trans h
    refine M_aload_n (pc := 18) dX12_dish_18 rfl ?_
    refine M_iload_n (pc := 19) dX12_dish_19 rfl ?_
    refine M_iconst (pc := 20) (v := 0) dX12_dish_20 (by decide) ?_
    refine M_bipush (pc := 21) (v := 10) dX12_dish_21 (by decide) ?_
    obtain ⟨r6, hr7, h⟩ := bnd h
    refine M_callSi (pc := 23) dX12_dish_23 s_X12_73 rfl rfl (Nat.le_of_ble_eq_true rfl) (C_X12_in (d := d + 7) hp hr7) (Nat.le_refl _) ?_
    refine M_if_ne (pc := 26) (tgt := 33) dX12_dish_26 (by decide) (fun hc8 => ?_) (fun hc8 => ?_)
    · have h := (if_neg hc8).symm.trans h
      refine M_iconst (pc := 33) (v := 0) dX12_dish_33 (by decide) ?_
      refine M_iconst (pc := 34) (v := 2) dX12_dish_34 (by decide) ?_
      obtain ⟨r9, hr10, h⟩ := bnd h
      refine M_callVi (pc := 35) dX12_dish_35 v_X12_243 rfl rfl at_11 (Nat.le_of_ble_eq_true rfl) (C_X12_throwsIf (d := d + 7) hp hr10) (Nat.le_refl _) ?_
      refine M_if_eq (pc := 38) (tgt := 43) dX12_dish_38 (by decide) (fun hc11 => ?_) (fun hc11 => ?_)
      · have h := (if_pos hc11).symm.trans h
        refine M_iload_n (pc := 43) dX12_dish_43 rfl ?_
        refine M_bipush (pc := 44) (v := 8) dX12_dish_44 (by decide) ?_
        refine M_icmp_ne (pc := 46) (tgt := 57) dX12_dish_46 (by decide) (fun hc12 => ?_) (fun hc12 => ?_)
        · have h := (if_neg hc12).symm.trans h
          refine M_iload_n (pc := 57) dX12_dish_57 rfl ?_
          refine M_bipush (pc := 58) (v := 9) dX12_dish_58 (by decide) ?_
          refine M_icmp_ne (pc := 60) (tgt := 71) dX12_dish_60 (by decide) (fun hc13 => ?_) (fun hc13 => ?_)
          · have h := (if_neg hc13).symm.trans h
            refine M_iload_n (pc := 71) dX12_dish_71 rfl ?_
            refine M_bipush (pc := 72) (v := 10) dX12_dish_72 (by decide) ?_
            refine M_icmp_ne (pc := 74) (tgt := 85) dX12_dish_74 (by decide) (fun hc14 => ?_) (fun hc14 => ?_)
            · have h := (if_neg hc14).symm.trans h
              refine M_aload_n (pc := 85) dX12_dish_85 rfl ?_
              refine M_iload_n (pc := 86) dX12_dish_86 rfl ?_
              refine M_iload_n (pc := 87) dX12_dish_87 rfl ?_
              obtain ⟨r15, hr16, h⟩ := bnd h
              refine M_callVi (pc := 88) dX12_dish_88 v_X12_70 rfl rfl at_11 (Nat.le_of_ble_eq_true rfl) (C_X12_of (d := d + 6) hp hr16) (Nat.le_refl _) ?_
              obtain rfl := Option.some.inj h
              exact M_iret (pc := 91) dX12_dish_91 rfl rfl rfl rfl
            · have h := (if_pos hc14).symm.trans h
              refine M_aload_n (pc := 77) dX12_dish_77 rfl ?_
              refine M_iload_n (pc := 78) dX12_dish_78 rfl ?_
              obtain ⟨r17, hr18, h⟩ := bnd h
              refine M_callVi (pc := 79) dX12_dish_79 v_X12_284 rfl rfl at_11 (Nat.le_of_ble_eq_true rfl) (C_X12_paysBy (d := d + 0) hp hr18) (Nat.le_refl _) ?_
              refine M_goto (pc := 82) (tgt := 91) dX12_dish_82 (by decide) ?_
              obtain rfl := Option.some.inj h
              exact M_iret (pc := 91) dX12_dish_91 rfl rfl rfl rfl
          · have h := (if_pos hc13).symm.trans h
            refine M_aload_n (pc := 63) dX12_dish_63 rfl ?_
            refine M_iload_n (pc := 64) dX12_dish_64 rfl ?_
            obtain ⟨r19, hr20, h⟩ := bnd h
            refine M_callVi (pc := 65) dX12_dish_65 v_X12_281 rfl rfl at_11 (Nat.le_of_ble_eq_true rfl) (C_X12_turnsBy (d := d + 0) hp hr20) (Nat.le_refl _) ?_
            refine M_goto (pc := 68) (tgt := 91) dX12_dish_68 (by decide) ?_
            obtain rfl := Option.some.inj h
            exact M_iret (pc := 91) dX12_dish_91 rfl rfl rfl rfl
        · have h := (if_pos hc12).symm.trans h
          refine M_aload_n (pc := 49) dX12_dish_49 rfl ?_
          refine M_iload_n (pc := 50) dX12_dish_50 rfl ?_
          obtain ⟨r21, hr22, h⟩ := bnd h
          refine M_callVi (pc := 51) dX12_dish_51 v_X12_269 rfl rfl at_11 (Nat.le_of_ble_eq_true rfl) (C_X12_callsBy (d := d + 4) hp hr22) (Nat.le_refl _) ?_
          refine M_goto (pc := 54) (tgt := 91) dX12_dish_54 (by decide) ?_
          obtain rfl := Option.some.inj h
          exact M_iret (pc := 91) dX12_dish_91 rfl rfl rfl rfl
      · have h := (if_neg hc11).symm.trans h
        refine M_iconst (pc := 41) (v := 0) dX12_dish_41 (by decide) ?_
        obtain rfl := Option.some.inj h
        exact M_iret (pc := 42) dX12_dish_42 rfl rfl rfl rfl
    · have h := (if_pos hc8).symm.trans h
      refine M_iconst (pc := 29) (v := 1) dX12_dish_29 (by decide) ?_
      refine M_goto (pc := 30) (tgt := 34) dX12_dish_30 (by decide) ?_
      refine M_iconst (pc := 34) (v := 2) dX12_dish_34 (by decide) ?_
      obtain ⟨r23, hr24, h⟩ := bnd h
      refine M_callVi (pc := 35) dX12_dish_35 v_X12_243 rfl rfl at_11 (Nat.le_of_ble_eq_true rfl) (C_X12_throwsIf (d := d + 7) hp hr24) (Nat.le_refl _) ?_
      refine M_if_eq (pc := 38) (tgt := 43) dX12_dish_38 (by decide) (fun hc25 => ?_) (fun hc25 => ?_)
      · have h := (if_pos hc25).symm.trans h
        refine M_iload_n (pc := 43) dX12_dish_43 rfl ?_
        refine M_bipush (pc := 44) (v := 8) dX12_dish_44 (by decide) ?_
        refine M_icmp_ne (pc := 46) (tgt := 57) dX12_dish_46 (by decide) (fun hc26 => ?_) (fun hc26 => ?_)
        · have h := (if_neg hc26).symm.trans h
          refine M_iload_n (pc := 57) dX12_dish_57 rfl ?_
          refine M_bipush (pc := 58) (v := 9) dX12_dish_58 (by decide) ?_
          refine M_icmp_ne (pc := 60) (tgt := 71) dX12_dish_60 (by decide) (fun hc27 => ?_) (fun hc27 => ?_)
          · have h := (if_neg hc27).symm.trans h
            refine M_iload_n (pc := 71) dX12_dish_71 rfl ?_
            refine M_bipush (pc := 72) (v := 10) dX12_dish_72 (by decide) ?_
            refine M_icmp_ne (pc := 74) (tgt := 85) dX12_dish_74 (by decide) (fun hc28 => ?_) (fun hc28 => ?_)
            · have h := (if_neg hc28).symm.trans h
              refine M_aload_n (pc := 85) dX12_dish_85 rfl ?_
              refine M_iload_n (pc := 86) dX12_dish_86 rfl ?_
              refine M_iload_n (pc := 87) dX12_dish_87 rfl ?_
              obtain ⟨r29, hr30, h⟩ := bnd h
              refine M_callVi (pc := 88) dX12_dish_88 v_X12_70 rfl rfl at_11 (Nat.le_of_ble_eq_true rfl) (C_X12_of (d := d + 6) hp hr30) (Nat.le_refl _) ?_
              obtain rfl := Option.some.inj h
              exact M_iret (pc := 91) dX12_dish_91 rfl rfl rfl rfl
            · have h := (if_pos hc28).symm.trans h
              refine M_aload_n (pc := 77) dX12_dish_77 rfl ?_
              refine M_iload_n (pc := 78) dX12_dish_78 rfl ?_
              obtain ⟨r31, hr32, h⟩ := bnd h
              refine M_callVi (pc := 79) dX12_dish_79 v_X12_284 rfl rfl at_11 (Nat.le_of_ble_eq_true rfl) (C_X12_paysBy (d := d + 0) hp hr32) (Nat.le_refl _) ?_
              refine M_goto (pc := 82) (tgt := 91) dX12_dish_82 (by decide) ?_
              obtain rfl := Option.some.inj h
              exact M_iret (pc := 91) dX12_dish_91 rfl rfl rfl rfl
          · have h := (if_pos hc27).symm.trans h
            refine M_aload_n (pc := 63) dX12_dish_63 rfl ?_
            refine M_iload_n (pc := 64) dX12_dish_64 rfl ?_
            obtain ⟨r33, hr34, h⟩ := bnd h
            refine M_callVi (pc := 65) dX12_dish_65 v_X12_281 rfl rfl at_11 (Nat.le_of_ble_eq_true rfl) (C_X12_turnsBy (d := d + 0) hp hr34) (Nat.le_refl _) ?_
            refine M_goto (pc := 68) (tgt := 91) dX12_dish_68 (by decide) ?_
            obtain rfl := Option.some.inj h
            exact M_iret (pc := 91) dX12_dish_91 rfl rfl rfl rfl
        · have h := (if_pos hc26).symm.trans h
          refine M_aload_n (pc := 49) dX12_dish_49 rfl ?_
          refine M_iload_n (pc := 50) dX12_dish_50 rfl ?_
          obtain ⟨r35, hr36, h⟩ := bnd h
          refine M_callVi (pc := 51) dX12_dish_51 v_X12_269 rfl rfl at_11 (Nat.le_of_ble_eq_true rfl) (C_X12_callsBy (d := d + 4) hp hr36) (Nat.le_refl _) ?_
          refine M_goto (pc := 54) (tgt := 91) dX12_dish_54 (by decide) ?_
          obtain rfl := Option.some.inj h
          exact M_iret (pc := 91) dX12_dish_91 rfl rfl rfl rfl
      · have h := (if_neg hc25).symm.trans h
        refine M_iconst (pc := 41) (v := 0) dX12_dish_41 (by decide) ?_
        obtain rfl := Option.some.inj h
        exact M_iret (pc := 42) dX12_dish_42 rfl rfl rfl rfl
def F_X12_far (I : HI) (x1 : Int32) (x2 : Int32) : Option (Int32 × HI) :=
  (F_X12_noDish (up2 I 205 0 (0 : Int32)) x1) >>= fun r1 => if r1 = 0 then (F_X12_noDish (up2 I 205 0 (0 : Int32)) x2) >>= fun r9 => if r9 = 0 then (F_X12_throwsIf (up2 I 205 0 (0 : Int32)) (0 : Int32) (1 : Int32)) >>= fun r12 => if r12.1 = 0 then (F_X12_farOf r12.2 x1 x2) >>= fun r15 => some (r15, r12.2) else some ((0 : Int32), r12.2) else (F_X12_throwsIf (up2 I 205 0 (0 : Int32)) (1 : Int32) (1 : Int32)) >>= fun r17 => if r17.1 = 0 then (F_X12_farOf r17.2 x1 x2) >>= fun r20 => some (r20, r17.2) else some ((0 : Int32), r17.2) else (F_X12_throwsIf (up2 I 205 0 (0 : Int32)) (1 : Int32) (1 : Int32)) >>= fun r4 => if r4.1 = 0 then (F_X12_farOf r4.2 x1 x2) >>= fun r7 => some (r7, r4.2) else some ((0 : Int32), r4.2)
set_option maxRecDepth 4000 in
set_option maxHeartbeats 4000000 in
theorem C_X12_far {g : gX} {d : Nat} {P : Nat → Nat → Option Nat} {I : HI} {x1 : Int32} {x2 : Int32} {J : HJ} (hp : Wp P) {r : Int32 × HI} (h : F_X12_far I x1 x2 = some r) : Cm g mX12_far (d + 3) [.ref 205, .int x1, .int x2] (NT, I, J, P) (some (.int r.1)) (NT, r.2, J, P) := by
  unfold F_X12_far at h
  refine Cm.of (by decide) (by simp [Value.category]) (Nat.le_of_ble_eq_true rfl) (Nat.le_refl _) (ls := [some (.ref 205), some (.int x1), some (.int x2)]) rfl ?_
  refine M_aload_n (pc := 0) dX12_far_0 rfl ?_
  refine M_iconst (pc := 1) (v := 0) dX12_far_1 (by decide) ?_
  refine M_putI (pc := 2) dX12_far_2 f_X12_3 at_11 rfl ⟨rfl, rfl⟩ ?_
  refine M_aload_n (pc := 5) dX12_far_5 rfl ?_
  refine M_aload_n (pc := 6) dX12_far_6 rfl ?_
  refine M_iload_n (pc := 7) dX12_far_7 rfl ?_
  obtain ⟨r1, hr2, h⟩ := bnd h
  refine M_callVi (pc := 8) dX12_far_8 v_X12_278 rfl rfl at_11 (Nat.le_of_ble_eq_true rfl) (C_X12_noDish (d := d + 1) hp hr2) (Nat.le_refl _) ?_
  refine M_if_ne (pc := 11) (tgt := 22) dX12_far_11 (by decide) (fun hc3 => ?_) (fun hc3 => ?_)
  · have h := (if_neg hc3).symm.trans h
    refine M_iconst (pc := 22) (v := 1) dX12_far_22 (by decide) ?_
    refine M_goto (pc := 23) (tgt := 27) dX12_far_23 (by decide) ?_
    refine M_iconst (pc := 27) (v := 1) dX12_far_27 (by decide) ?_
    obtain ⟨r4, hr5, h⟩ := bnd h
    refine M_callVi (pc := 28) dX12_far_28 v_X12_243 rfl rfl at_11 (Nat.le_of_ble_eq_true rfl) (C_X12_throwsIf (d := d + 2) hp hr5) (Nat.le_refl _) ?_
    refine M_if_eq (pc := 31) (tgt := 38) dX12_far_31 (by decide) (fun hc6 => ?_) (fun hc6 => ?_)
    · have h := (if_pos hc6).symm.trans h
      refine M_aload_n (pc := 38) dX12_far_38 rfl ?_
      refine M_iload_n (pc := 39) dX12_far_39 rfl ?_
      refine M_iload_n (pc := 40) dX12_far_40 rfl ?_
      obtain ⟨r7, hr8, h⟩ := bnd h
      refine M_callVi (pc := 41) dX12_far_41 v_X12_256 rfl rfl at_11 (Nat.le_of_ble_eq_true rfl) (C_X12_farOf (d := d + 0) hp hr8) (Nat.le_refl _) ?_
      obtain rfl := Option.some.inj h
      exact M_iret (pc := 44) dX12_far_44 rfl rfl rfl rfl
    · have h := (if_neg hc6).symm.trans h
      refine M_iconst (pc := 34) (v := 0) dX12_far_34 (by decide) ?_
      refine M_goto (pc := 35) (tgt := 44) dX12_far_35 (by decide) ?_
      obtain rfl := Option.some.inj h
      exact M_iret (pc := 44) dX12_far_44 rfl rfl rfl rfl
  · have h := (if_pos hc3).symm.trans h
    refine M_aload_n (pc := 14) dX12_far_14 rfl ?_
    refine M_iload_n (pc := 15) dX12_far_15 rfl ?_
    obtain ⟨r9, hr10, h⟩ := bnd h
    refine M_callVi (pc := 16) dX12_far_16 v_X12_278 rfl rfl at_11 (Nat.le_of_ble_eq_true rfl) (C_X12_noDish (d := d + 1) hp hr10) (Nat.le_refl _) ?_
    refine M_if_eq (pc := 19) (tgt := 26) dX12_far_19 (by decide) (fun hc11 => ?_) (fun hc11 => ?_)
    · have h := (if_pos hc11).symm.trans h
      refine M_iconst (pc := 26) (v := 0) dX12_far_26 (by decide) ?_
      refine M_iconst (pc := 27) (v := 1) dX12_far_27 (by decide) ?_
      obtain ⟨r12, hr13, h⟩ := bnd h
      refine M_callVi (pc := 28) dX12_far_28 v_X12_243 rfl rfl at_11 (Nat.le_of_ble_eq_true rfl) (C_X12_throwsIf (d := d + 2) hp hr13) (Nat.le_refl _) ?_
      refine M_if_eq (pc := 31) (tgt := 38) dX12_far_31 (by decide) (fun hc14 => ?_) (fun hc14 => ?_)
      · have h := (if_pos hc14).symm.trans h
        refine M_aload_n (pc := 38) dX12_far_38 rfl ?_
        refine M_iload_n (pc := 39) dX12_far_39 rfl ?_
        refine M_iload_n (pc := 40) dX12_far_40 rfl ?_
        obtain ⟨r15, hr16, h⟩ := bnd h
        refine M_callVi (pc := 41) dX12_far_41 v_X12_256 rfl rfl at_11 (Nat.le_of_ble_eq_true rfl) (C_X12_farOf (d := d + 0) hp hr16) (Nat.le_refl _) ?_
        obtain rfl := Option.some.inj h
        exact M_iret (pc := 44) dX12_far_44 rfl rfl rfl rfl
      · have h := (if_neg hc14).symm.trans h
        refine M_iconst (pc := 34) (v := 0) dX12_far_34 (by decide) ?_
        refine M_goto (pc := 35) (tgt := 44) dX12_far_35 (by decide) ?_
        obtain rfl := Option.some.inj h
        exact M_iret (pc := 44) dX12_far_44 rfl rfl rfl rfl
    · have h := (if_neg hc11).symm.trans h
      refine M_iconst (pc := 22) (v := 1) dX12_far_22 (by decide) ?_
      refine M_goto (pc := 23) (tgt := 27) dX12_far_23 (by decide) ?_
      refine M_iconst (pc := 27) (v := 1) dX12_far_27 (by decide) ?_
      obtain ⟨r17, hr18, h⟩ := bnd h
      refine M_callVi (pc := 28) dX12_far_28 v_X12_243 rfl rfl at_11 (Nat.le_of_ble_eq_true rfl) (C_X12_throwsIf (d := d + 2) hp hr18) (Nat.le_refl _) ?_
      refine M_if_eq (pc := 31) (tgt := 38) dX12_far_31 (by decide) (fun hc19 => ?_) (fun hc19 => ?_)
      · have h := (if_pos hc19).symm.trans h
        refine M_aload_n (pc := 38) dX12_far_38 rfl ?_
        refine M_iload_n (pc := 39) dX12_far_39 rfl ?_
        refine M_iload_n (pc := 40) dX12_far_40 rfl ?_
        obtain ⟨r20, hr21, h⟩ := bnd h
        refine M_callVi (pc := 41) dX12_far_41 v_X12_256 rfl rfl at_11 (Nat.le_of_ble_eq_true rfl) (C_X12_farOf (d := d + 0) hp hr21) (Nat.le_refl _) ?_
        obtain rfl := Option.some.inj h
        exact M_iret (pc := 44) dX12_far_44 rfl rfl rfl rfl
      · have h := (if_neg hc19).symm.trans h
        refine M_iconst (pc := 34) (v := 0) dX12_far_34 (by decide) ?_
        refine M_goto (pc := 35) (tgt := 44) dX12_far_35 (by decide) ?_
        obtain rfl := Option.some.inj h
        exact M_iret (pc := 44) dX12_far_44 rfl rfl rfl rfl
def L_X12_near_24 (I : HI) (x1 : Int32) (x2 : Int32) (x3 : Int32) : Option (Int32 × HI) :=
  (F_X12_dishes I) >>= fun r6 => if r6 ≤ x3 then some (x2, I) else if x3 = x1 then L_X12_near_24 I x1 (x2 ||| (0 : Int32)) (x3 + (1 : Int32)) else (F_X12_farOf I x3 x1) >>= fun r10 => if (I 206 8) < r10 then L_X12_near_24 I x1 (x2 ||| (0 : Int32)) (x3 + (1 : Int32)) else L_X12_near_24 I x1 (x2 ||| ((1 : Int32) <<< (x3 &&& 31))) (x3 + (1 : Int32))
partial_fixpoint
def F_X12_near (I : HI) (x1 : Int32) : Option (Int32 × HI) :=
  (F_X12_noDish (up2 I 205 0 (0 : Int32)) x1) >>= fun r1 => (F_X12_throwsIf (up2 I 205 0 (0 : Int32)) r1 (1 : Int32)) >>= fun r3 => if r3.1 = 0 then L_X12_near_24 r3.2 x1 (0 : Int32) (0 : Int32) else some ((0 : Int32), r3.2)
set_option maxRecDepth 4000 in
set_option maxHeartbeats 4000000 in
theorem LC_X12_near_24 {g : gX} {d : Nat} {P : Nat → Nat → Option Nat} {J : HJ} {I : HI} {x1 : Int32} (hp : Wp P) : ∀ (x2 : Int32) (x3 : Int32) (r : Int32 × HI), L_X12_near_24 I x1 x2 x3 = some r → M g mX12_near (d + 3) (NT, NT, 0) ((.inl (some (.int r.1))), (NT, r.2, J, P)) 24 [some (.ref 205), some (.int x1), some (.int x2), some (.int x3)] [] (NT, I, J, P) := by
  refine L_X12_near_24.partial_correctness I x1 (fun x2 x3 r => M g mX12_near (d + 3) (NT, NT, 0) ((.inl (some (.int r.1))), (NT, r.2, J, P)) 24 [some (.ref 205), some (.int x1), some (.int x2), some (.int x3)] [] (NT, I, J, P)) ?_
  intro f ih x2 x3 r h
  refine M_iload_n (pc := 24) dX12_near_24 rfl ?_
  refine M_aload_n (pc := 25) dX12_near_25 rfl ?_
  obtain ⟨r6, hr7, h⟩ := bnd h
  refine M_callVi (pc := 26) dX12_near_26 v_X12_62 rfl rfl at_11 (Nat.le_of_ble_eq_true rfl) (C_X12_dishes (d := d + 2) hp hr7) (Nat.le_refl _) ?_
  refine M_icmp_ge (pc := 29) (tgt := 69) dX12_near_29 (by decide) (fun hc8 => ?_) (fun hc8 => ?_)
  · have h := (if_pos hc8).symm.trans h
    refine M_iload_n (pc := 69) dX12_near_69 rfl ?_
    obtain rfl := Option.some.inj h
    exact M_iret (pc := 70) dX12_near_70 rfl rfl rfl rfl
  · have h := (if_neg hc8).symm.trans h
    refine M_iload_n (pc := 32) dX12_near_32 rfl ?_
    refine M_iload_n (pc := 33) dX12_near_33 rfl ?_
    refine M_iload_n (pc := 34) dX12_near_34 rfl ?_
    refine M_icmp_eq (pc := 35) (tgt := 60) dX12_near_35 (by decide) (fun hc9 => ?_) (fun hc9 => ?_)
    · have h := (if_pos hc9).symm.trans h
      refine M_iconst (pc := 60) (v := 0) dX12_near_60 (by decide) ?_
      refine M_ior (pc := 61) dX12_near_61 ?_
      refine M_istore_n (pc := 62) (ls' := [some (.ref 205), some (.int x1), some (.int (x2 ||| (0 : Int32))), some (.int x3)]) dX12_near_62 (by decide) rfl ?_
      refine M_iinc (pc := 63) (v := (x3 + (1 : Int32))) (ls' := [some (.ref 205), some (.int x1), some (.int (x2 ||| (0 : Int32))), some (.int (x3 + (1 : Int32)))]) dX12_near_63 rfl rfl (by decide) rfl ?_
      refine M_goto (pc := 66) (tgt := 24) dX12_near_66 (by decide) ?_
      exact ih (x2 ||| (0 : Int32)) (x3 + (1 : Int32)) _ h
    · have h := (if_neg hc9).symm.trans h
      refine M_aload_n (pc := 38) dX12_near_38 rfl ?_
      refine M_iload_n (pc := 39) dX12_near_39 rfl ?_
      refine M_iload_n (pc := 40) dX12_near_40 rfl ?_
      obtain ⟨r10, hr11, h⟩ := bnd h
      refine M_callVi (pc := 41) dX12_near_41 v_X12_256 rfl rfl at_11 (Nat.le_of_ble_eq_true rfl) (C_X12_farOf (d := d + 0) hp hr11) (Nat.le_refl _) ?_
      refine M_aload_n (pc := 44) dX12_near_44 rfl ?_
      refine M_getR (pc := 45) dX12_near_45 f_X12_13 at_11 (gc_205_1 hp).1 ?_
      refine M_bipush (pc := 48) (v := 8) dX12_near_48 (by decide) ?_
      refine M_ildc (pc := 50) (j := 8) dX12_near_50 (gc_205_1 hp).2 (by decide) (by decide) ?_
      refine M_icmp_gt (pc := 51) (tgt := 60) dX12_near_51 (by decide) (fun hc12 => ?_) (fun hc12 => ?_)
      · have h := (if_pos hc12).symm.trans h
        refine M_iconst (pc := 60) (v := 0) dX12_near_60 (by decide) ?_
        refine M_ior (pc := 61) dX12_near_61 ?_
        refine M_istore_n (pc := 62) (ls' := [some (.ref 205), some (.int x1), some (.int (x2 ||| (0 : Int32))), some (.int x3)]) dX12_near_62 (by decide) rfl ?_
        refine M_iinc (pc := 63) (v := (x3 + (1 : Int32))) (ls' := [some (.ref 205), some (.int x1), some (.int (x2 ||| (0 : Int32))), some (.int (x3 + (1 : Int32)))]) dX12_near_63 rfl rfl (by decide) rfl ?_
        refine M_goto (pc := 66) (tgt := 24) dX12_near_66 (by decide) ?_
        exact ih (x2 ||| (0 : Int32)) (x3 + (1 : Int32)) _ h
      · have h := (if_neg hc12).symm.trans h
        refine M_iconst (pc := 54) (v := 1) dX12_near_54 (by decide) ?_
        refine M_iload_n (pc := 55) dX12_near_55 rfl ?_
        refine M_ishl (pc := 56) dX12_near_56 ?_
        refine M_goto (pc := 57) (tgt := 61) dX12_near_57 (by decide) ?_
        refine M_ior (pc := 61) dX12_near_61 ?_
        refine M_istore_n (pc := 62) (ls' := [some (.ref 205), some (.int x1), some (.int (x2 ||| ((1 : Int32) <<< (x3 &&& 31)))), some (.int x3)]) dX12_near_62 (by decide) rfl ?_
        refine M_iinc (pc := 63) (v := (x3 + (1 : Int32))) (ls' := [some (.ref 205), some (.int x1), some (.int (x2 ||| ((1 : Int32) <<< (x3 &&& 31)))), some (.int (x3 + (1 : Int32)))]) dX12_near_63 rfl rfl (by decide) rfl ?_
        refine M_goto (pc := 66) (tgt := 24) dX12_near_66 (by decide) ?_
        exact ih (x2 ||| ((1 : Int32) <<< (x3 &&& 31))) (x3 + (1 : Int32)) _ h
set_option maxRecDepth 4000 in
set_option maxHeartbeats 4000000 in
theorem C_X12_near {g : gX} {d : Nat} {P : Nat → Nat → Option Nat} {I : HI} {x1 : Int32} {J : HJ} (hp : Wp P) {r : Int32 × HI} (h : F_X12_near I x1 = some r) : Cm g mX12_near (d + 3) [.ref 205, .int x1] (NT, I, J, P) (some (.int r.1)) (NT, r.2, J, P) := by
  unfold F_X12_near at h
  refine Cm.of (by decide) (by simp [Value.category]) (Nat.le_of_ble_eq_true rfl) (Nat.le_refl _) (ls := [some (.ref 205), some (.int x1), none, none]) rfl ?_
  refine M_aload_n (pc := 0) dX12_near_0 rfl ?_
  refine M_iconst (pc := 1) (v := 0) dX12_near_1 (by decide) ?_
  refine M_putI (pc := 2) dX12_near_2 f_X12_3 at_11 rfl ⟨rfl, rfl⟩ ?_
  refine M_aload_n (pc := 5) dX12_near_5 rfl ?_
  refine M_aload_n (pc := 6) dX12_near_6 rfl ?_
  refine M_iload_n (pc := 7) dX12_near_7 rfl ?_
  obtain ⟨r1, hr2, h⟩ := bnd h
  refine M_callVi (pc := 8) dX12_near_8 v_X12_278 rfl rfl at_11 (Nat.le_of_ble_eq_true rfl) (C_X12_noDish (d := d + 1) hp hr2) (Nat.le_refl _) ?_
  refine M_iconst (pc := 11) (v := 1) dX12_near_11 (by decide) ?_
  obtain ⟨r3, hr4, h⟩ := bnd h
  refine M_callVi (pc := 12) dX12_near_12 v_X12_243 rfl rfl at_11 (Nat.le_of_ble_eq_true rfl) (C_X12_throwsIf (d := d + 2) hp hr4) (Nat.le_refl _) ?_
  refine M_if_eq (pc := 15) (tgt := 20) dX12_near_15 (by decide) (fun hc5 => ?_) (fun hc5 => ?_)
  · have h := (if_pos hc5).symm.trans h
    refine M_iconst (pc := 20) (v := 0) dX12_near_20 (by decide) ?_
    refine M_istore_n (pc := 21) (ls' := [some (.ref 205), some (.int x1), some (.int (0 : Int32)), none]) dX12_near_21 (by decide) rfl ?_
    refine M_iconst (pc := 22) (v := 0) dX12_near_22 (by decide) ?_
    refine M_istore_n (pc := 23) (ls' := [some (.ref 205), some (.int x1), some (.int (0 : Int32)), some (.int (0 : Int32))]) dX12_near_23 (by decide) rfl ?_
    exact LC_X12_near_24 (P := P) hp (0 : Int32) (0 : Int32) _ h
  · have h := (if_neg hc5).symm.trans h
    refine M_iconst (pc := 18) (v := 0) dX12_near_18 (by decide) ?_
    obtain rfl := Option.some.inj h
    exact M_iret (pc := 19) dX12_near_19 rfl rfl rfl rfl
def L_X12_newOnes_4 (I : HI) (x1 : Int32) (x2 : Int32) : Option (Int32) :=
  (F_X12_dishes I) >>= fun r1 => if r1 ≤ x2 then some x1 else (F_X12_isNew I x2) >>= fun r4 => if r4 = 0 then L_X12_newOnes_4 I (x1 ||| (0 : Int32)) (x2 + (1 : Int32)) else L_X12_newOnes_4 I (x1 ||| ((1 : Int32) <<< (x2 &&& 31))) (x2 + (1 : Int32))
partial_fixpoint
def F_X12_newOnes (I : HI) : Option (Int32) :=
  L_X12_newOnes_4 I (0 : Int32) (0 : Int32)
set_option maxRecDepth 4000 in
set_option maxHeartbeats 4000000 in
theorem LC_X12_newOnes_4 {g : gX} {d : Nat} {P : Nat → Nat → Option Nat} {J : HJ} {I : HI} (hp : Wp P) : ∀ (x1 : Int32) (x2 : Int32) (r : Int32), L_X12_newOnes_4 I x1 x2 = some r → M g mX12_newOnes (d + 3) (NT, NT, 0) ((.inl (some (.int r))), (NT, I, J, P)) 4 [some (.ref 205), some (.int x1), some (.int x2)] [] (NT, I, J, P) := by
  refine L_X12_newOnes_4.partial_correctness I (fun x1 x2 r => M g mX12_newOnes (d + 3) (NT, NT, 0) ((.inl (some (.int r))), (NT, I, J, P)) 4 [some (.ref 205), some (.int x1), some (.int x2)] [] (NT, I, J, P)) ?_
  intro f ih x1 x2 r h
  refine M_iload_n (pc := 4) dX12_newOnes_4 rfl ?_
  refine M_aload_n (pc := 5) dX12_newOnes_5 rfl ?_
  obtain ⟨r1, hr2, h⟩ := bnd h
  refine M_callVi (pc := 6) dX12_newOnes_6 v_X12_62 rfl rfl at_11 (Nat.le_of_ble_eq_true rfl) (C_X12_dishes (d := d + 2) hp hr2) (Nat.le_refl _) ?_
  refine M_icmp_ge (pc := 9) (tgt := 36) dX12_newOnes_9 (by decide) (fun hc3 => ?_) (fun hc3 => ?_)
  · have h := (if_pos hc3).symm.trans h
    refine M_iload_n (pc := 36) dX12_newOnes_36 rfl ?_
    obtain rfl := Option.some.inj h
    exact M_iret (pc := 37) dX12_newOnes_37 rfl rfl rfl rfl
  · have h := (if_neg hc3).symm.trans h
    refine M_iload_n (pc := 12) dX12_newOnes_12 rfl ?_
    refine M_aload_n (pc := 13) dX12_newOnes_13 rfl ?_
    refine M_iload_n (pc := 14) dX12_newOnes_14 rfl ?_
    obtain ⟨r4, hr5, h⟩ := bnd h
    refine M_callVi (pc := 15) dX12_newOnes_15 v_X12_252 rfl rfl at_11 (Nat.le_of_ble_eq_true rfl) (C_X12_isNew (d := d + 0) hp hr5) (Nat.le_refl _) ?_
    refine M_if_eq (pc := 18) (tgt := 27) dX12_newOnes_18 (by decide) (fun hc6 => ?_) (fun hc6 => ?_)
    · have h := (if_pos hc6).symm.trans h
      refine M_iconst (pc := 27) (v := 0) dX12_newOnes_27 (by decide) ?_
      refine M_ior (pc := 28) dX12_newOnes_28 ?_
      refine M_istore_n (pc := 29) (ls' := [some (.ref 205), some (.int (x1 ||| (0 : Int32))), some (.int x2)]) dX12_newOnes_29 (by decide) rfl ?_
      refine M_iinc (pc := 30) (v := (x2 + (1 : Int32))) (ls' := [some (.ref 205), some (.int (x1 ||| (0 : Int32))), some (.int (x2 + (1 : Int32)))]) dX12_newOnes_30 rfl rfl (by decide) rfl ?_
      refine M_goto (pc := 33) (tgt := 4) dX12_newOnes_33 (by decide) ?_
      exact ih (x1 ||| (0 : Int32)) (x2 + (1 : Int32)) _ h
    · have h := (if_neg hc6).symm.trans h
      refine M_iconst (pc := 21) (v := 1) dX12_newOnes_21 (by decide) ?_
      refine M_iload_n (pc := 22) dX12_newOnes_22 rfl ?_
      refine M_ishl (pc := 23) dX12_newOnes_23 ?_
      refine M_goto (pc := 24) (tgt := 28) dX12_newOnes_24 (by decide) ?_
      refine M_ior (pc := 28) dX12_newOnes_28 ?_
      refine M_istore_n (pc := 29) (ls' := [some (.ref 205), some (.int (x1 ||| ((1 : Int32) <<< (x2 &&& 31)))), some (.int x2)]) dX12_newOnes_29 (by decide) rfl ?_
      refine M_iinc (pc := 30) (v := (x2 + (1 : Int32))) (ls' := [some (.ref 205), some (.int (x1 ||| ((1 : Int32) <<< (x2 &&& 31)))), some (.int (x2 + (1 : Int32)))]) dX12_newOnes_30 rfl rfl (by decide) rfl ?_
      refine M_goto (pc := 33) (tgt := 4) dX12_newOnes_33 (by decide) ?_
      exact ih (x1 ||| ((1 : Int32) <<< (x2 &&& 31))) (x2 + (1 : Int32)) _ h
set_option maxRecDepth 4000 in
set_option maxHeartbeats 4000000 in
theorem C_X12_newOnes {g : gX} {d : Nat} {P : Nat → Nat → Option Nat} {I : HI} {J : HJ} (hp : Wp P) {r : Int32} (h : F_X12_newOnes I = some r) : Cm g mX12_newOnes (d + 3) [.ref 205] (NT, I, J, P) (some (.int r)) (NT, I, J, P) := by
  unfold F_X12_newOnes at h
  refine Cm.of (by decide) (by simp [Value.category]) (Nat.le_of_ble_eq_true rfl) (Nat.le_refl _) (ls := [some (.ref 205), none, none]) rfl ?_
  refine M_iconst (pc := 0) (v := 0) dX12_newOnes_0 (by decide) ?_
  refine M_istore_n (pc := 1) (ls' := [some (.ref 205), some (.int (0 : Int32)), none]) dX12_newOnes_1 (by decide) rfl ?_
  refine M_iconst (pc := 2) (v := 0) dX12_newOnes_2 (by decide) ?_
  refine M_istore_n (pc := 3) (ls' := [some (.ref 205), some (.int (0 : Int32)), some (.int (0 : Int32))]) dX12_newOnes_3 (by decide) rfl ?_
  exact LC_X12_newOnes_4 (P := P) hp (0 : Int32) (0 : Int32) _ h
def F_X12_left (I : HI) : Option (Int32 × HI) :=
  (F_X12_newOnes (up2 I 205 0 (0 : Int32))) >>= fun r1 => some (r1, (up2 I 205 0 (0 : Int32)))
set_option maxRecDepth 4000 in
set_option maxHeartbeats 4000000 in
theorem C_X12_left {g : gX} {d : Nat} {P : Nat → Nat → Option Nat} {I : HI} {J : HJ} (hp : Wp P) {r : Int32 × HI} (h : F_X12_left I = some r) : Cm g mX12_left (d + 4) [.ref 205] (NT, I, J, P) (some (.int r.1)) (NT, r.2, J, P) := by
  unfold F_X12_left at h
  refine Cm.of (by decide) (by simp [Value.category]) (Nat.le_of_ble_eq_true rfl) (Nat.le_refl _) (ls := [some (.ref 205)]) rfl ?_
  refine M_aload_n (pc := 0) dX12_left_0 rfl ?_
  refine M_iconst (pc := 1) (v := 0) dX12_left_1 (by decide) ?_
  refine M_putI (pc := 2) dX12_left_2 f_X12_3 at_11 rfl ⟨rfl, rfl⟩ ?_
  refine M_aload_n (pc := 5) dX12_left_5 rfl ?_
  obtain ⟨r1, hr2, h⟩ := bnd h
  refine M_callVi (pc := 6) dX12_left_6 v_X12_287 rfl rfl at_11 (Nat.le_of_ble_eq_true rfl) (C_X12_newOnes (d := d + 0) hp hr2) (Nat.le_refl _) ?_
  obtain rfl := Option.some.inj h
  exact M_iret (pc := 9) dX12_left_9 rfl rfl rfl rfl
def L_X12_tells_4 (x1 : Int32) (x2 : Int32) (x3 : Int32) (I : HI) : Option (HI) :=
  if x3 < (4 : Int32) then some (up2 (up2 (up2 (up2 (up2 I 206 113 (I 206 7)) 206 114 x1) 206 115 x2) 206 116 (I 206 4)) 206 15 (if ((I 206 15) + (1 : Int32)) < (60 : Int32) then ((I 206 15) + (1 : Int32)) else (60 : Int32))) else (ald 2051 (I 206) (((113 : Int32) + x3) - (4 : Int32))) >>= fun v2 => if inB ((113 : Int32) + x3) 2051 = true then L_X12_tells_4 x1 x2 (x3 + (-1 : Int32)) (up2 I 206 (((113 : Int32) + x3)).toNatClampNeg v2) else none
partial_fixpoint
def F_X12_tells (I : HI) (x1 : Int32) (x2 : Int32) : Option (HI) :=
  L_X12_tells_4 x1 x2 (239 : Int32) I
set_option maxRecDepth 4000 in
set_option maxHeartbeats 4000000 in
theorem LC_X12_tells_4 {g : gX} {d : Nat} {P : Nat → Nat → Option Nat} {J : HJ} {x1 : Int32} {x2 : Int32} (hp : Wp P) : ∀ (x3 : Int32) (I : HI) (r : HI), L_X12_tells_4 x1 x2 x3 I = some r → M g mX12_tells (d + 1) (NT, NT, 0) ((.inl none), (NT, r, J, P)) 4 [some (.ref 205), some (.int x1), some (.int x2), some (.int x3)] [] (NT, I, J, P) := by
  refine L_X12_tells_4.partial_correctness x1 x2 (fun x3 I r => M g mX12_tells (d + 1) (NT, NT, 0) ((.inl none), (NT, r, J, P)) 4 [some (.ref 205), some (.int x1), some (.int x2), some (.int x3)] [] (NT, I, J, P)) ?_
  intro f ih x3 I r h
  refine M_iload_n (pc := 4) dX12_tells_4 rfl ?_
  refine M_iconst (pc := 5) (v := 4) dX12_tells_5 (by decide) ?_
  refine M_icmp_lt (pc := 6) (tgt := 35) dX12_tells_6 (by decide) (fun hc1 => ?_) (fun hc1 => ?_)
  · have h := (if_pos hc1).symm.trans h
    refine M_aload_n (pc := 35) dX12_tells_35 rfl ?_
    refine M_getR (pc := 36) dX12_tells_36 f_X12_13 at_11 (gc_205_1 hp).1 ?_
    refine M_bipush (pc := 39) (v := 113) dX12_tells_39 (by decide) ?_
    refine M_aload_n (pc := 41) dX12_tells_41 rfl ?_
    refine M_getR (pc := 42) dX12_tells_42 f_X12_13 at_11 (gc_205_1 hp).1 ?_
    refine M_bipush (pc := 45) (v := 7) dX12_tells_45 (by decide) ?_
    refine M_ildc (pc := 47) (j := 7) dX12_tells_47 (gc_205_1 hp).2 (by decide) (by decide) ?_
    refine M_istc (pc := 48) (j := 113) dX12_tells_48 (gc_205_1 hp).2 (by decide) (by decide) ?_
    refine M_aload_n (pc := 49) dX12_tells_49 rfl ?_
    refine M_getR (pc := 50) dX12_tells_50 f_X12_13 at_11 (gc_205_1 hp).1 ?_
    refine M_bipush (pc := 53) (v := 114) dX12_tells_53 (by decide) ?_
    refine M_iload_n (pc := 55) dX12_tells_55 rfl ?_
    refine M_istc (pc := 56) (j := 114) dX12_tells_56 (gc_205_1 hp).2 (by decide) (by decide) ?_
    refine M_aload_n (pc := 57) dX12_tells_57 rfl ?_
    refine M_getR (pc := 58) dX12_tells_58 f_X12_13 at_11 (gc_205_1 hp).1 ?_
    refine M_bipush (pc := 61) (v := 115) dX12_tells_61 (by decide) ?_
    refine M_iload_n (pc := 63) dX12_tells_63 rfl ?_
    refine M_istc (pc := 64) (j := 115) dX12_tells_64 (gc_205_1 hp).2 (by decide) (by decide) ?_
    refine M_aload_n (pc := 65) dX12_tells_65 rfl ?_
    refine M_getR (pc := 66) dX12_tells_66 f_X12_13 at_11 (gc_205_1 hp).1 ?_
    refine M_bipush (pc := 69) (v := 116) dX12_tells_69 (by decide) ?_
    refine M_aload_n (pc := 71) dX12_tells_71 rfl ?_
    refine M_getR (pc := 72) dX12_tells_72 f_X12_13 at_11 (gc_205_1 hp).1 ?_
    refine M_iconst (pc := 75) (v := 4) dX12_tells_75 (by decide) ?_
    refine M_ildcs (pc := 76) (j := 4) (x := (I 206 4)) dX12_tells_76 (gc_205_1 hp).2 (by decide) (by decide) ((rd_ne (Or.inr (by decide))).trans ((rd_ne (Or.inr (by decide))).trans (rd_ne (Or.inr (by decide))))) ?_
    refine M_istc (pc := 77) (j := 116) dX12_tells_77 (gc_205_1 hp).2 (by decide) (by decide) ?_
    refine M_aload_n (pc := 78) dX12_tells_78 rfl ?_
    refine M_getR (pc := 79) dX12_tells_79 f_X12_13 at_11 (gc_205_1 hp).1 ?_
    refine M_bipush (pc := 82) (v := 15) dX12_tells_82 (by decide) ?_
    refine M_bipush (pc := 84) (v := 60) dX12_tells_84 (by decide) ?_
    refine M_aload_n (pc := 86) dX12_tells_86 rfl ?_
    refine M_getR (pc := 87) dX12_tells_87 f_X12_13 at_11 (gc_205_1 hp).1 ?_
    refine M_bipush (pc := 90) (v := 15) dX12_tells_90 (by decide) ?_
    refine M_ildcs (pc := 92) (j := 15) (x := (I 206 15)) dX12_tells_92 (gc_205_1 hp).2 (by decide) (by decide) ((rd_ne (Or.inr (by decide))).trans ((rd_ne (Or.inr (by decide))).trans ((rd_ne (Or.inr (by decide))).trans (rd_ne (Or.inr (by decide)))))) ?_
    refine M_iconst (pc := 93) (v := 1) dX12_tells_93 (by decide) ?_
    refine M_iadd (pc := 94) dX12_tells_94 ?_
    refine M_mmin (pc := 95) dX12_tells_95 mm_X12_259.1 mm_X12_259.2.1 mm_X12_259.2.2.1 mm_X12_259.2.2.2 (Nat.le_of_ble_eq_true rfl) ?_
    refine M_istc (pc := 98) (j := 15) dX12_tells_98 (gc_205_1 hp).2 (by decide) (by decide) ?_
    obtain rfl := Option.some.inj h
    exact M_vret (pc := 99) dX12_tells_99 rfl rfl rfl
  · have h := (if_neg hc1).symm.trans h
    refine M_aload_n (pc := 9) dX12_tells_9 rfl ?_
    refine M_getR (pc := 10) dX12_tells_10 f_X12_13 at_11 (gc_205_1 hp).1 ?_
    refine M_bipush (pc := 13) (v := 113) dX12_tells_13 (by decide) ?_
    refine M_iload_n (pc := 15) dX12_tells_15 rfl ?_
    refine M_iadd (pc := 16) dX12_tells_16 ?_
    refine M_aload_n (pc := 17) dX12_tells_17 rfl ?_
    refine M_getR (pc := 18) dX12_tells_18 f_X12_13 at_11 (gc_205_1 hp).1 ?_
    refine M_bipush (pc := 21) (v := 113) dX12_tells_21 (by decide) ?_
    refine M_iload_n (pc := 23) dX12_tells_23 rfl ?_
    refine M_iadd (pc := 24) dX12_tells_24 ?_
    refine M_iconst (pc := 25) (v := 4) dX12_tells_25 (by decide) ?_
    refine M_isub (pc := 26) dX12_tells_26 ?_
    obtain ⟨v2, hv3, h⟩ := bnd h
    refine M_aldI (pc := 27) dX12_tells_27 (gc_205_1 hp).2 hv3 ?_
    obtain ⟨hq4, h⟩ := chk h
    refine M_iast (pc := 28) dX12_tells_28 (gc_205_1 hp).2 (inB_in hq4) ?_
    refine M_iinc (pc := 29) (v := (x3 + (-1 : Int32))) (ls' := [some (.ref 205), some (.int x1), some (.int x2), some (.int (x3 + (-1 : Int32)))]) dX12_tells_29 rfl rfl (by decide) rfl ?_
    refine M_goto (pc := 32) (tgt := 4) dX12_tells_32 (by decide) ?_
    exact ih (x3 + (-1 : Int32)) (up2 I 206 (((113 : Int32) + x3)).toNatClampNeg v2) _ h
set_option maxRecDepth 4000 in
set_option maxHeartbeats 4000000 in
theorem C_X12_tells {g : gX} {d : Nat} {P : Nat → Nat → Option Nat} {I : HI} {x1 : Int32} {x2 : Int32} {J : HJ} (hp : Wp P) {r : HI} (h : F_X12_tells I x1 x2 = some r) : Cm g mX12_tells (d + 1) [.ref 205, .int x1, .int x2] (NT, I, J, P) none (NT, r, J, P) := by
  unfold F_X12_tells at h
  refine Cm.of (by decide) (by simp [Value.category]) (Nat.le_of_ble_eq_true rfl) (Nat.le_refl _) (ls := [some (.ref 205), some (.int x1), some (.int x2), none]) rfl ?_
  refine M_sipush (pc := 0) (v := 239) dX12_tells_0 (by decide) ?_
  refine M_istore_n (pc := 3) (ls' := [some (.ref 205), some (.int x1), some (.int x2), some (.int (239 : Int32))]) dX12_tells_3 (by decide) rfl ?_
  exact LC_X12_tells_4 (P := P) hp (239 : Int32) I _ h
def F_X12_takesNone (I : HI) : Option (Int32) :=
  if (I 206 5) = (99 : Int32) then some (1 : Int32) else some (0 : Int32)
set_option maxRecDepth 4000 in
set_option maxHeartbeats 4000000 in
theorem C_X12_takesNone {g : gX} {d : Nat} {P : Nat → Nat → Option Nat} {I : HI} {J : HJ} (hp : Wp P) {r : Int32} (h : F_X12_takesNone I = some r) : Cm g mX12_takesNone (d + 0) [.ref 205] (NT, I, J, P) (some (.int r)) (NT, I, J, P) := by
  unfold F_X12_takesNone at h
  refine Cm.of (by decide) (by simp [Value.category]) (Nat.le_of_ble_eq_true rfl) (Nat.le_refl _) (ls := [some (.ref 205)]) rfl ?_
  refine M_aload_n (pc := 0) dX12_takesNone_0 rfl ?_
  refine M_getR (pc := 1) dX12_takesNone_1 f_X12_13 at_11 (gc_205_1 hp).1 ?_
  refine M_iconst (pc := 4) (v := 5) dX12_takesNone_4 (by decide) ?_
  refine M_ildc (pc := 5) (j := 5) dX12_takesNone_5 (gc_205_1 hp).2 (by decide) (by decide) ?_
  refine M_bipush (pc := 6) (v := 99) dX12_takesNone_6 (by decide) ?_
  refine M_icmp_ne (pc := 8) (tgt := 15) dX12_takesNone_8 (by decide) (fun hc1 => ?_) (fun hc1 => ?_)
  · have h := (if_neg hc1).symm.trans h
    refine M_iconst (pc := 15) (v := 0) dX12_takesNone_15 (by decide) ?_
    obtain rfl := Option.some.inj h
    exact M_iret (pc := 16) dX12_takesNone_16 rfl rfl rfl rfl
  · have h := (if_pos hc1).symm.trans h
    refine M_iconst (pc := 11) (v := 1) dX12_takesNone_11 (by decide) ?_
    refine M_goto (pc := 12) (tgt := 16) dX12_takesNone_12 (by decide) ?_
    obtain rfl := Option.some.inj h
    exact M_iret (pc := 16) dX12_takesNone_16 rfl rfl rfl rfl
def F_X12_takes (I : HI) (x1 : Int32) : Option (Int32 × HI) :=
  (F_X12_takesNone I) >>= fun r1 => if r1 = 0 then (F_X12_callsBy I x1) >>= fun r4 => (F_X12_paysBy I x1) >>= fun r6 => (F_X12_turnsBy r6.2 x1) >>= fun r8 => if r4 = (-1 : Int32) then (F_X12_isNew (up2 (up2 (up2 r8.2 206 14 (if ((r8.2 206 14) + r6.1) < (9999 : Int32) then ((r8.2 206 14) + r6.1) else (9999 : Int32))) 206 5 (if (0 : Int32) < (if ((r6.2 206 5) + r8.1) < (99 : Int32) then ((r6.2 206 5) + r8.1) else (99 : Int32)) then (if ((r6.2 206 5) + r8.1) < (99 : Int32) then ((r6.2 206 5) + r8.1) else (99 : Int32)) else (0 : Int32))) 206 4 (r8.2 206 3)) x1) >>= fun r29 => if r29 = 0 then (F_X12_tells (up2 (up2 (up2 (up2 r8.2 206 14 (if ((r8.2 206 14) + r6.1) < (9999 : Int32) then ((r8.2 206 14) + r6.1) else (9999 : Int32))) 206 5 (if (0 : Int32) < (if ((r6.2 206 5) + r8.1) < (99 : Int32) then ((r6.2 206 5) + r8.1) else (99 : Int32)) then (if ((r6.2 206 5) + r8.1) < (99 : Int32) then ((r6.2 206 5) + r8.1) else (99 : Int32)) else (0 : Int32))) 206 4 (r8.2 206 3)) 206 6 ((r8.2 206 6) + (1 : Int32))) x1 r4) >>= fun r32 => some (r6.1, r32) else (F_X12_at (up2 (up2 (up2 r8.2 206 14 (if ((r8.2 206 14) + r6.1) < (9999 : Int32) then ((r8.2 206 14) + r6.1) else (9999 : Int32))) 206 5 (if (0 : Int32) < (if ((r6.2 206 5) + r8.1) < (99 : Int32) then ((r6.2 206 5) + r8.1) else (99 : Int32)) then (if ((r6.2 206 5) + r8.1) < (99 : Int32) then ((r6.2 206 5) + r8.1) else (99 : Int32)) else (0 : Int32))) 206 4 (r8.2 206 3)) x1 (5 : Int32)) >>= fun r34 => if inB r34 2051 = true then (F_X12_at (up2 (up2 (up2 (up2 r8.2 206 14 (if ((r8.2 206 14) + r6.1) < (9999 : Int32) then ((r8.2 206 14) + r6.1) else (9999 : Int32))) 206 5 (if (0 : Int32) < (if ((r6.2 206 5) + r8.1) < (99 : Int32) then ((r6.2 206 5) + r8.1) else (99 : Int32)) then (if ((r6.2 206 5) + r8.1) < (99 : Int32) then ((r6.2 206 5) + r8.1) else (99 : Int32)) else (0 : Int32))) 206 4 (r8.2 206 3)) 206 (r34).toNatClampNeg (r8.2 206 3)) x1 (6 : Int32)) >>= fun r37 => if inB r37 2051 = true then (F_X12_at (up2 (up2 (up2 (up2 (up2 r8.2 206 14 (if ((r8.2 206 14) + r6.1) < (9999 : Int32) then ((r8.2 206 14) + r6.1) else (9999 : Int32))) 206 5 (if (0 : Int32) < (if ((r6.2 206 5) + r8.1) < (99 : Int32) then ((r6.2 206 5) + r8.1) else (99 : Int32)) then (if ((r6.2 206 5) + r8.1) < (99 : Int32) then ((r6.2 206 5) + r8.1) else (99 : Int32)) else (0 : Int32))) 206 4 (r8.2 206 3)) 206 (r34).toNatClampNeg (r8.2 206 3)) 206 (r37).toNatClampNeg ((up2 (up2 (up2 (up2 r8.2 206 14 (if ((r8.2 206 14) + r6.1) < (9999 : Int32) then ((r8.2 206 14) + r6.1) else (9999 : Int32))) 206 5 (if (0 : Int32) < (if ((r6.2 206 5) + r8.1) < (99 : Int32) then ((r6.2 206 5) + r8.1) else (99 : Int32)) then (if ((r6.2 206 5) + r8.1) < (99 : Int32) then ((r6.2 206 5) + r8.1) else (99 : Int32)) else (0 : Int32))) 206 4 (r8.2 206 3)) 206 (r34).toNatClampNeg (r8.2 206 3)) 206 12)) x1 (7 : Int32)) >>= fun r40 => if inB r40 2051 = true then (F_X12_tells (up2 (up2 (up2 (up2 (up2 (up2 (up2 r8.2 206 14 (if ((r8.2 206 14) + r6.1) < (9999 : Int32) then ((r8.2 206 14) + r6.1) else (9999 : Int32))) 206 5 (if (0 : Int32) < (if ((r6.2 206 5) + r8.1) < (99 : Int32) then ((r6.2 206 5) + r8.1) else (99 : Int32)) then (if ((r6.2 206 5) + r8.1) < (99 : Int32) then ((r6.2 206 5) + r8.1) else (99 : Int32)) else (0 : Int32))) 206 4 (r8.2 206 3)) 206 (r34).toNatClampNeg (r8.2 206 3)) 206 (r37).toNatClampNeg ((up2 (up2 (up2 (up2 r8.2 206 14 (if ((r8.2 206 14) + r6.1) < (9999 : Int32) then ((r8.2 206 14) + r6.1) else (9999 : Int32))) 206 5 (if (0 : Int32) < (if ((r6.2 206 5) + r8.1) < (99 : Int32) then ((r6.2 206 5) + r8.1) else (99 : Int32)) then (if ((r6.2 206 5) + r8.1) < (99 : Int32) then ((r6.2 206 5) + r8.1) else (99 : Int32)) else (0 : Int32))) 206 4 (r8.2 206 3)) 206 (r34).toNatClampNeg (r8.2 206 3)) 206 12)) 206 (r40).toNatClampNeg (-1 : Int32)) 206 6 (((up2 (up2 (up2 (up2 (up2 (up2 r8.2 206 14 (if ((r8.2 206 14) + r6.1) < (9999 : Int32) then ((r8.2 206 14) + r6.1) else (9999 : Int32))) 206 5 (if (0 : Int32) < (if ((r6.2 206 5) + r8.1) < (99 : Int32) then ((r6.2 206 5) + r8.1) else (99 : Int32)) then (if ((r6.2 206 5) + r8.1) < (99 : Int32) then ((r6.2 206 5) + r8.1) else (99 : Int32)) else (0 : Int32))) 206 4 (r8.2 206 3)) 206 (r34).toNatClampNeg (r8.2 206 3)) 206 (r37).toNatClampNeg ((up2 (up2 (up2 (up2 r8.2 206 14 (if ((r8.2 206 14) + r6.1) < (9999 : Int32) then ((r8.2 206 14) + r6.1) else (9999 : Int32))) 206 5 (if (0 : Int32) < (if ((r6.2 206 5) + r8.1) < (99 : Int32) then ((r6.2 206 5) + r8.1) else (99 : Int32)) then (if ((r6.2 206 5) + r8.1) < (99 : Int32) then ((r6.2 206 5) + r8.1) else (99 : Int32)) else (0 : Int32))) 206 4 (r8.2 206 3)) 206 (r34).toNatClampNeg (r8.2 206 3)) 206 12)) 206 (r40).toNatClampNeg (-1 : Int32)) 206 6) + (1 : Int32))) x1 r4) >>= fun r43 => some (r6.1, r43) else none else none else none else (F_X12_of (up2 (up2 r8.2 206 14 (if ((r8.2 206 14) + r6.1) < (9999 : Int32) then ((r8.2 206 14) + r6.1) else (9999 : Int32))) 206 5 (if (0 : Int32) < (if ((r6.2 206 5) + r8.1) < (99 : Int32) then ((r6.2 206 5) + r8.1) else (99 : Int32)) then (if ((r6.2 206 5) + r8.1) < (99 : Int32) then ((r6.2 206 5) + r8.1) else (99 : Int32)) else (0 : Int32))) r4 (5 : Int32)) >>= fun r11 => (F_X12_isNew (up2 (up2 (up2 r8.2 206 14 (if ((r8.2 206 14) + r6.1) < (9999 : Int32) then ((r8.2 206 14) + r6.1) else (9999 : Int32))) 206 5 (if (0 : Int32) < (if ((r6.2 206 5) + r8.1) < (99 : Int32) then ((r6.2 206 5) + r8.1) else (99 : Int32)) then (if ((r6.2 206 5) + r8.1) < (99 : Int32) then ((r6.2 206 5) + r8.1) else (99 : Int32)) else (0 : Int32))) 206 4 r11) x1) >>= fun r13 => if r13 = 0 then (F_X12_tells (up2 (up2 (up2 (up2 r8.2 206 14 (if ((r8.2 206 14) + r6.1) < (9999 : Int32) then ((r8.2 206 14) + r6.1) else (9999 : Int32))) 206 5 (if (0 : Int32) < (if ((r6.2 206 5) + r8.1) < (99 : Int32) then ((r6.2 206 5) + r8.1) else (99 : Int32)) then (if ((r6.2 206 5) + r8.1) < (99 : Int32) then ((r6.2 206 5) + r8.1) else (99 : Int32)) else (0 : Int32))) 206 4 r11) 206 6 ((r8.2 206 6) + (1 : Int32))) x1 r4) >>= fun r16 => some (r6.1, r16) else (F_X12_at (up2 (up2 (up2 r8.2 206 14 (if ((r8.2 206 14) + r6.1) < (9999 : Int32) then ((r8.2 206 14) + r6.1) else (9999 : Int32))) 206 5 (if (0 : Int32) < (if ((r6.2 206 5) + r8.1) < (99 : Int32) then ((r6.2 206 5) + r8.1) else (99 : Int32)) then (if ((r6.2 206 5) + r8.1) < (99 : Int32) then ((r6.2 206 5) + r8.1) else (99 : Int32)) else (0 : Int32))) 206 4 r11) x1 (5 : Int32)) >>= fun r18 => if inB r18 2051 = true then (F_X12_at (up2 (up2 (up2 (up2 r8.2 206 14 (if ((r8.2 206 14) + r6.1) < (9999 : Int32) then ((r8.2 206 14) + r6.1) else (9999 : Int32))) 206 5 (if (0 : Int32) < (if ((r6.2 206 5) + r8.1) < (99 : Int32) then ((r6.2 206 5) + r8.1) else (99 : Int32)) then (if ((r6.2 206 5) + r8.1) < (99 : Int32) then ((r6.2 206 5) + r8.1) else (99 : Int32)) else (0 : Int32))) 206 4 r11) 206 (r18).toNatClampNeg (r8.2 206 3)) x1 (6 : Int32)) >>= fun r21 => if inB r21 2051 = true then (F_X12_at (up2 (up2 (up2 (up2 (up2 r8.2 206 14 (if ((r8.2 206 14) + r6.1) < (9999 : Int32) then ((r8.2 206 14) + r6.1) else (9999 : Int32))) 206 5 (if (0 : Int32) < (if ((r6.2 206 5) + r8.1) < (99 : Int32) then ((r6.2 206 5) + r8.1) else (99 : Int32)) then (if ((r6.2 206 5) + r8.1) < (99 : Int32) then ((r6.2 206 5) + r8.1) else (99 : Int32)) else (0 : Int32))) 206 4 r11) 206 (r18).toNatClampNeg (r8.2 206 3)) 206 (r21).toNatClampNeg ((up2 (up2 (up2 (up2 r8.2 206 14 (if ((r8.2 206 14) + r6.1) < (9999 : Int32) then ((r8.2 206 14) + r6.1) else (9999 : Int32))) 206 5 (if (0 : Int32) < (if ((r6.2 206 5) + r8.1) < (99 : Int32) then ((r6.2 206 5) + r8.1) else (99 : Int32)) then (if ((r6.2 206 5) + r8.1) < (99 : Int32) then ((r6.2 206 5) + r8.1) else (99 : Int32)) else (0 : Int32))) 206 4 r11) 206 (r18).toNatClampNeg (r8.2 206 3)) 206 12)) x1 (7 : Int32)) >>= fun r24 => if inB r24 2051 = true then (F_X12_tells (up2 (up2 (up2 (up2 (up2 (up2 (up2 r8.2 206 14 (if ((r8.2 206 14) + r6.1) < (9999 : Int32) then ((r8.2 206 14) + r6.1) else (9999 : Int32))) 206 5 (if (0 : Int32) < (if ((r6.2 206 5) + r8.1) < (99 : Int32) then ((r6.2 206 5) + r8.1) else (99 : Int32)) then (if ((r6.2 206 5) + r8.1) < (99 : Int32) then ((r6.2 206 5) + r8.1) else (99 : Int32)) else (0 : Int32))) 206 4 r11) 206 (r18).toNatClampNeg (r8.2 206 3)) 206 (r21).toNatClampNeg ((up2 (up2 (up2 (up2 r8.2 206 14 (if ((r8.2 206 14) + r6.1) < (9999 : Int32) then ((r8.2 206 14) + r6.1) else (9999 : Int32))) 206 5 (if (0 : Int32) < (if ((r6.2 206 5) + r8.1) < (99 : Int32) then ((r6.2 206 5) + r8.1) else (99 : Int32)) then (if ((r6.2 206 5) + r8.1) < (99 : Int32) then ((r6.2 206 5) + r8.1) else (99 : Int32)) else (0 : Int32))) 206 4 r11) 206 (r18).toNatClampNeg (r8.2 206 3)) 206 12)) 206 (r24).toNatClampNeg (-1 : Int32)) 206 6 (((up2 (up2 (up2 (up2 (up2 (up2 r8.2 206 14 (if ((r8.2 206 14) + r6.1) < (9999 : Int32) then ((r8.2 206 14) + r6.1) else (9999 : Int32))) 206 5 (if (0 : Int32) < (if ((r6.2 206 5) + r8.1) < (99 : Int32) then ((r6.2 206 5) + r8.1) else (99 : Int32)) then (if ((r6.2 206 5) + r8.1) < (99 : Int32) then ((r6.2 206 5) + r8.1) else (99 : Int32)) else (0 : Int32))) 206 4 r11) 206 (r18).toNatClampNeg (r8.2 206 3)) 206 (r21).toNatClampNeg ((up2 (up2 (up2 (up2 r8.2 206 14 (if ((r8.2 206 14) + r6.1) < (9999 : Int32) then ((r8.2 206 14) + r6.1) else (9999 : Int32))) 206 5 (if (0 : Int32) < (if ((r6.2 206 5) + r8.1) < (99 : Int32) then ((r6.2 206 5) + r8.1) else (99 : Int32)) then (if ((r6.2 206 5) + r8.1) < (99 : Int32) then ((r6.2 206 5) + r8.1) else (99 : Int32)) else (0 : Int32))) 206 4 r11) 206 (r18).toNatClampNeg (r8.2 206 3)) 206 12)) 206 (r24).toNatClampNeg (-1 : Int32)) 206 6) + (1 : Int32))) x1 r4) >>= fun r27 => some (r6.1, r27) else none else none else none else some ((-1 : Int32), I)
set_option maxRecDepth 4000 in
set_option maxHeartbeats 4000000 in
theorem C_X12_takes {g : gX} {d : Nat} {P : Nat → Nat → Option Nat} {I : HI} {x1 : Int32} {J : HJ} (hp : Wp P) {r : Int32 × HI} (h : F_X12_takes I x1 = some r) : Cm g mX12_takes (d + 8) [.ref 205, .int x1] (NT, I, J, P) (some (.int r.1)) (NT, r.2, J, P) := by
  unfold F_X12_takes at h
  refine Cm.of (by decide) (by simp [Value.category]) (Nat.le_of_ble_eq_true rfl) (Nat.le_refl _) (ls := [some (.ref 205), some (.int x1), none, none, none]) rfl ?_
  refine M_aload_n (pc := 0) dX12_takes_0 rfl ?_
  obtain ⟨r1, hr2, h⟩ := bnd h
  refine M_callVi (pc := 1) dX12_takes_1 v_X12_290 rfl rfl at_11 (Nat.le_of_ble_eq_true rfl) (C_X12_takesNone (d := d + 7) hp hr2) (Nat.le_refl _) ?_
  refine M_if_eq (pc := 4) (tgt := 9) dX12_takes_4 (by decide) (fun hc3 => ?_) (fun hc3 => ?_)
  · have h := (if_pos hc3).symm.trans h
    refine M_aload_n (pc := 9) dX12_takes_9 rfl ?_
    refine M_iload_n (pc := 10) dX12_takes_10 rfl ?_
    obtain ⟨r4, hr5, h⟩ := bnd h
    refine M_callVi (pc := 11) dX12_takes_11 v_X12_269 rfl rfl at_11 (Nat.le_of_ble_eq_true rfl) (C_X12_callsBy (d := d + 4) hp hr5) (Nat.le_refl _) ?_
    refine M_istore_n (pc := 14) (ls' := [some (.ref 205), some (.int x1), some (.int r4), none, none]) dX12_takes_14 (by decide) rfl ?_
    refine M_aload_n (pc := 15) dX12_takes_15 rfl ?_
    refine M_iload_n (pc := 16) dX12_takes_16 rfl ?_
    obtain ⟨r6, hr7, h⟩ := bnd h
    refine M_callVi (pc := 17) dX12_takes_17 v_X12_284 rfl rfl at_11 (Nat.le_of_ble_eq_true rfl) (C_X12_paysBy (d := d + 0) hp hr7) (Nat.le_refl _) ?_
    refine M_istore_n (pc := 20) (ls' := [some (.ref 205), some (.int x1), some (.int r4), some (.int r6.1), none]) dX12_takes_20 (by decide) rfl ?_
    refine M_aload_n (pc := 21) dX12_takes_21 rfl ?_
    refine M_getR (pc := 22) dX12_takes_22 f_X12_13 at_11 (gc_205_1 hp).1 ?_
    refine M_iconst (pc := 25) (v := 5) dX12_takes_25 (by decide) ?_
    refine M_ildc (pc := 26) (j := 5) dX12_takes_26 (gc_205_1 hp).2 (by decide) (by decide) ?_
    refine M_aload_n (pc := 27) dX12_takes_27 rfl ?_
    refine M_iload_n (pc := 28) dX12_takes_28 rfl ?_
    obtain ⟨r8, hr9, h⟩ := bnd h
    refine M_callVi (pc := 29) dX12_takes_29 v_X12_281 rfl rfl at_11 (Nat.le_of_ble_eq_true rfl) (C_X12_turnsBy (d := d + 0) hp hr9) (Nat.le_refl _) ?_
    refine M_iadd (pc := 32) dX12_takes_32 ?_
    refine M_istore (pc := 33) (ls' := [some (.ref 205), some (.int x1), some (.int r4), some (.int r6.1), some (.int ((r6.2 206 5) + r8.1))]) dX12_takes_33 (by decide) rfl ?_
    refine M_aload_n (pc := 35) dX12_takes_35 rfl ?_
    refine M_getR (pc := 36) dX12_takes_36 f_X12_13 at_11 (gc_205_1 hp).1 ?_
    refine M_bipush (pc := 39) (v := 14) dX12_takes_39 (by decide) ?_
    refine M_sipush (pc := 41) (v := 9999) dX12_takes_41 (by decide) ?_
    refine M_aload_n (pc := 44) dX12_takes_44 rfl ?_
    refine M_getR (pc := 45) dX12_takes_45 f_X12_13 at_11 (gc_205_1 hp).1 ?_
    refine M_bipush (pc := 48) (v := 14) dX12_takes_48 (by decide) ?_
    refine M_ildc (pc := 50) (j := 14) dX12_takes_50 (gc_205_1 hp).2 (by decide) (by decide) ?_
    refine M_iload_n (pc := 51) dX12_takes_51 rfl ?_
    refine M_iadd (pc := 52) dX12_takes_52 ?_
    refine M_mmin (pc := 53) dX12_takes_53 mm_X12_259.1 mm_X12_259.2.1 mm_X12_259.2.2.1 mm_X12_259.2.2.2 (Nat.le_of_ble_eq_true rfl) ?_
    refine M_istc (pc := 56) (j := 14) dX12_takes_56 (gc_205_1 hp).2 (by decide) (by decide) ?_
    refine M_aload_n (pc := 57) dX12_takes_57 rfl ?_
    refine M_getR (pc := 58) dX12_takes_58 f_X12_13 at_11 (gc_205_1 hp).1 ?_
    refine M_iconst (pc := 61) (v := 5) dX12_takes_61 (by decide) ?_
    refine M_iconst (pc := 62) (v := 0) dX12_takes_62 (by decide) ?_
    refine M_bipush (pc := 63) (v := 99) dX12_takes_63 (by decide) ?_
    refine M_iload (pc := 65) dX12_takes_65 rfl ?_
    refine M_mmin (pc := 67) dX12_takes_67 mm_X12_259.1 mm_X12_259.2.1 mm_X12_259.2.2.1 mm_X12_259.2.2.2 (Nat.le_of_ble_eq_true rfl) ?_
    refine M_mmax (pc := 70) dX12_takes_70 mm_X12_293.1 mm_X12_293.2.1 mm_X12_293.2.2.1 mm_X12_293.2.2.2 (Nat.le_of_ble_eq_true rfl) ?_
    refine M_istc (pc := 73) (j := 5) dX12_takes_73 (gc_205_1 hp).2 (by decide) (by decide) ?_
    refine M_aload_n (pc := 74) dX12_takes_74 rfl ?_
    refine M_getR (pc := 75) dX12_takes_75 f_X12_13 at_11 (gc_205_1 hp).1 ?_
    refine M_iconst (pc := 78) (v := 4) dX12_takes_78 (by decide) ?_
    refine M_iload_n (pc := 79) dX12_takes_79 rfl ?_
    refine M_iconst (pc := 80) (v := -1) dX12_takes_80 (by decide) ?_
    refine M_icmp_ne (pc := 81) (tgt := 93) dX12_takes_81 (by decide) (fun hc10 => ?_) (fun hc10 => ?_)
    · have h := (if_neg hc10).symm.trans h
      refine M_aload_n (pc := 93) dX12_takes_93 rfl ?_
      refine M_iload_n (pc := 94) dX12_takes_94 rfl ?_
      refine M_iconst (pc := 95) (v := 5) dX12_takes_95 (by decide) ?_
      obtain ⟨r11, hr12, h⟩ := bnd h
      refine M_callVi (pc := 96) dX12_takes_96 v_X12_70 rfl rfl at_11 (Nat.le_of_ble_eq_true rfl) (C_X12_of (d := d + 6) hp hr12) (Nat.le_refl _) ?_
      refine M_istc (pc := 99) (j := 4) dX12_takes_99 (gc_205_1 hp).2 (by decide) (by decide) ?_
      refine M_aload_n (pc := 100) dX12_takes_100 rfl ?_
      refine M_iload_n (pc := 101) dX12_takes_101 rfl ?_
      obtain ⟨r13, hr14, h⟩ := bnd h
      refine M_callVi (pc := 102) dX12_takes_102 v_X12_252 rfl rfl at_11 (Nat.le_of_ble_eq_true rfl) (C_X12_isNew (d := d + 5) hp hr14) (Nat.le_refl _) ?_
      refine M_if_eq (pc := 105) (tgt := 154) dX12_takes_105 (by decide) (fun hc15 => ?_) (fun hc15 => ?_)
      · have h := (if_pos hc15).symm.trans h
        refine M_aload_n (pc := 154) dX12_takes_154 rfl ?_
        refine M_getR (pc := 155) dX12_takes_155 f_X12_13 at_11 (gc_205_1 hp).1 ?_
        refine M_bipush (pc := 158) (v := 6) dX12_takes_158 (by decide) ?_
        refine M_dup2 (pc := 160) dX12_takes_160 rfl rfl ?_
        refine M_ildcs (pc := 161) (j := 6) (x := (r8.2 206 6)) dX12_takes_161 (gc_205_1 hp).2 (by decide) (by decide) ((rd_ne (Or.inr (by decide))).trans ((rd_ne (Or.inr (by decide))).trans (rd_ne (Or.inr (by decide))))) ?_
        refine M_iconst (pc := 162) (v := 1) dX12_takes_162 (by decide) ?_
        refine M_iadd (pc := 163) dX12_takes_163 ?_
        refine M_istc (pc := 164) (j := 6) dX12_takes_164 (gc_205_1 hp).2 (by decide) (by decide) ?_
        refine M_aload_n (pc := 165) dX12_takes_165 rfl ?_
        refine M_iload_n (pc := 166) dX12_takes_166 rfl ?_
        refine M_iload_n (pc := 167) dX12_takes_167 rfl ?_
        obtain ⟨r16, hr17, h⟩ := bnd h
        refine M_callVv (pc := 168) dX12_takes_168 v_X12_296 rfl rfl at_11 (Nat.le_of_ble_eq_true rfl) (C_X12_tells (d := d + 6) hp hr17) (Nat.le_refl _) ?_
        refine M_iload_n (pc := 171) dX12_takes_171 rfl ?_
        obtain rfl := Option.some.inj h
        exact M_iret (pc := 172) dX12_takes_172 rfl rfl rfl rfl
      · have h := (if_neg hc15).symm.trans h
        refine M_aload_n (pc := 108) dX12_takes_108 rfl ?_
        refine M_getR (pc := 109) dX12_takes_109 f_X12_13 at_11 (gc_205_1 hp).1 ?_
        refine M_iload_n (pc := 112) dX12_takes_112 rfl ?_
        refine M_iconst (pc := 113) (v := 5) dX12_takes_113 (by decide) ?_
        obtain ⟨r18, hr19, h⟩ := bnd h
        refine M_callSi (pc := 114) dX12_takes_114 s_X12_66 rfl rfl (Nat.le_of_ble_eq_true rfl) (C_X12_at (d := d + 7) hp hr19) (Nat.le_refl _) ?_
        refine M_aload_n (pc := 117) dX12_takes_117 rfl ?_
        refine M_getR (pc := 118) dX12_takes_118 f_X12_13 at_11 (gc_205_1 hp).1 ?_
        refine M_iconst (pc := 121) (v := 3) dX12_takes_121 (by decide) ?_
        refine M_ildcs (pc := 122) (j := 3) (x := (r8.2 206 3)) dX12_takes_122 (gc_205_1 hp).2 (by decide) (by decide) ((rd_ne (Or.inr (by decide))).trans ((rd_ne (Or.inr (by decide))).trans (rd_ne (Or.inr (by decide))))) ?_
        obtain ⟨hq20, h⟩ := chk h
        refine M_iast (pc := 123) dX12_takes_123 (gc_205_1 hp).2 (inB_in hq20) ?_
        refine M_aload_n (pc := 124) dX12_takes_124 rfl ?_
        refine M_getR (pc := 125) dX12_takes_125 f_X12_13 at_11 (gc_205_1 hp).1 ?_
        refine M_iload_n (pc := 128) dX12_takes_128 rfl ?_
        refine M_bipush (pc := 129) (v := 6) dX12_takes_129 (by decide) ?_
        obtain ⟨r21, hr22, h⟩ := bnd h
        refine M_callSi (pc := 131) dX12_takes_131 s_X12_66 rfl rfl (Nat.le_of_ble_eq_true rfl) (C_X12_at (d := d + 7) hp hr22) (Nat.le_refl _) ?_
        refine M_aload_n (pc := 134) dX12_takes_134 rfl ?_
        refine M_getR (pc := 135) dX12_takes_135 f_X12_13 at_11 (gc_205_1 hp).1 ?_
        refine M_bipush (pc := 138) (v := 12) dX12_takes_138 (by decide) ?_
        refine M_ildc (pc := 140) (j := 12) dX12_takes_140 (gc_205_1 hp).2 (by decide) (by decide) ?_
        obtain ⟨hq23, h⟩ := chk h
        refine M_iast (pc := 141) dX12_takes_141 (gc_205_1 hp).2 (inB_in hq23) ?_
        refine M_aload_n (pc := 142) dX12_takes_142 rfl ?_
        refine M_getR (pc := 143) dX12_takes_143 f_X12_13 at_11 (gc_205_1 hp).1 ?_
        refine M_iload_n (pc := 146) dX12_takes_146 rfl ?_
        refine M_bipush (pc := 147) (v := 7) dX12_takes_147 (by decide) ?_
        obtain ⟨r24, hr25, h⟩ := bnd h
        refine M_callSi (pc := 149) dX12_takes_149 s_X12_66 rfl rfl (Nat.le_of_ble_eq_true rfl) (C_X12_at (d := d + 7) hp hr25) (Nat.le_refl _) ?_
        refine M_iconst (pc := 152) (v := -1) dX12_takes_152 (by decide) ?_
        obtain ⟨hq26, h⟩ := chk h
        refine M_iast (pc := 153) dX12_takes_153 (gc_205_1 hp).2 (inB_in hq26) ?_
        refine M_aload_n (pc := 154) dX12_takes_154 rfl ?_
        refine M_getR (pc := 155) dX12_takes_155 f_X12_13 at_11 (gc_205_1 hp).1 ?_
        refine M_bipush (pc := 158) (v := 6) dX12_takes_158 (by decide) ?_
        refine M_dup2 (pc := 160) dX12_takes_160 rfl rfl ?_
        refine M_ildc (pc := 161) (j := 6) dX12_takes_161 (gc_205_1 hp).2 (by decide) (by decide) ?_
        refine M_iconst (pc := 162) (v := 1) dX12_takes_162 (by decide) ?_
        refine M_iadd (pc := 163) dX12_takes_163 ?_
        refine M_istc (pc := 164) (j := 6) dX12_takes_164 (gc_205_1 hp).2 (by decide) (by decide) ?_
        refine M_aload_n (pc := 165) dX12_takes_165 rfl ?_
        refine M_iload_n (pc := 166) dX12_takes_166 rfl ?_
        refine M_iload_n (pc := 167) dX12_takes_167 rfl ?_
        obtain ⟨r27, hr28, h⟩ := bnd h
        refine M_callVv (pc := 168) dX12_takes_168 v_X12_296 rfl rfl at_11 (Nat.le_of_ble_eq_true rfl) (C_X12_tells (d := d + 6) hp hr28) (Nat.le_refl _) ?_
        refine M_iload_n (pc := 171) dX12_takes_171 rfl ?_
        obtain rfl := Option.some.inj h
        exact M_iret (pc := 172) dX12_takes_172 rfl rfl rfl rfl
    · have h := (if_pos hc10).symm.trans h
      refine M_aload_n (pc := 84) dX12_takes_84 rfl ?_
      refine M_getR (pc := 85) dX12_takes_85 f_X12_13 at_11 (gc_205_1 hp).1 ?_
      refine M_iconst (pc := 88) (v := 3) dX12_takes_88 (by decide) ?_
      refine M_ildcs (pc := 89) (j := 3) (x := (r8.2 206 3)) dX12_takes_89 (gc_205_1 hp).2 (by decide) (by decide) ((rd_ne (Or.inr (by decide))).trans (rd_ne (Or.inr (by decide)))) ?_
      refine M_goto (pc := 90) (tgt := 99) dX12_takes_90 (by decide) ?_
      refine M_istc (pc := 99) (j := 4) dX12_takes_99 (gc_205_1 hp).2 (by decide) (by decide) ?_
      refine M_aload_n (pc := 100) dX12_takes_100 rfl ?_
      refine M_iload_n (pc := 101) dX12_takes_101 rfl ?_
      obtain ⟨r29, hr30, h⟩ := bnd h
      refine M_callVi (pc := 102) dX12_takes_102 v_X12_252 rfl rfl at_11 (Nat.le_of_ble_eq_true rfl) (C_X12_isNew (d := d + 5) hp hr30) (Nat.le_refl _) ?_
      refine M_if_eq (pc := 105) (tgt := 154) dX12_takes_105 (by decide) (fun hc31 => ?_) (fun hc31 => ?_)
      · have h := (if_pos hc31).symm.trans h
        refine M_aload_n (pc := 154) dX12_takes_154 rfl ?_
        refine M_getR (pc := 155) dX12_takes_155 f_X12_13 at_11 (gc_205_1 hp).1 ?_
        refine M_bipush (pc := 158) (v := 6) dX12_takes_158 (by decide) ?_
        refine M_dup2 (pc := 160) dX12_takes_160 rfl rfl ?_
        refine M_ildcs (pc := 161) (j := 6) (x := (r8.2 206 6)) dX12_takes_161 (gc_205_1 hp).2 (by decide) (by decide) ((rd_ne (Or.inr (by decide))).trans ((rd_ne (Or.inr (by decide))).trans (rd_ne (Or.inr (by decide))))) ?_
        refine M_iconst (pc := 162) (v := 1) dX12_takes_162 (by decide) ?_
        refine M_iadd (pc := 163) dX12_takes_163 ?_
        refine M_istc (pc := 164) (j := 6) dX12_takes_164 (gc_205_1 hp).2 (by decide) (by decide) ?_
        refine M_aload_n (pc := 165) dX12_takes_165 rfl ?_
        refine M_iload_n (pc := 166) dX12_takes_166 rfl ?_
        refine M_iload_n (pc := 167) dX12_takes_167 rfl ?_
        obtain ⟨r32, hr33, h⟩ := bnd h
        refine M_callVv (pc := 168) dX12_takes_168 v_X12_296 rfl rfl at_11 (Nat.le_of_ble_eq_true rfl) (C_X12_tells (d := d + 6) hp hr33) (Nat.le_refl _) ?_
        refine M_iload_n (pc := 171) dX12_takes_171 rfl ?_
        obtain rfl := Option.some.inj h
        exact M_iret (pc := 172) dX12_takes_172 rfl rfl rfl rfl
      · have h := (if_neg hc31).symm.trans h
        refine M_aload_n (pc := 108) dX12_takes_108 rfl ?_
        refine M_getR (pc := 109) dX12_takes_109 f_X12_13 at_11 (gc_205_1 hp).1 ?_
        refine M_iload_n (pc := 112) dX12_takes_112 rfl ?_
        refine M_iconst (pc := 113) (v := 5) dX12_takes_113 (by decide) ?_
        obtain ⟨r34, hr35, h⟩ := bnd h
        refine M_callSi (pc := 114) dX12_takes_114 s_X12_66 rfl rfl (Nat.le_of_ble_eq_true rfl) (C_X12_at (d := d + 7) hp hr35) (Nat.le_refl _) ?_
        refine M_aload_n (pc := 117) dX12_takes_117 rfl ?_
        refine M_getR (pc := 118) dX12_takes_118 f_X12_13 at_11 (gc_205_1 hp).1 ?_
        refine M_iconst (pc := 121) (v := 3) dX12_takes_121 (by decide) ?_
        refine M_ildcs (pc := 122) (j := 3) (x := (r8.2 206 3)) dX12_takes_122 (gc_205_1 hp).2 (by decide) (by decide) ((rd_ne (Or.inr (by decide))).trans ((rd_ne (Or.inr (by decide))).trans (rd_ne (Or.inr (by decide))))) ?_
        obtain ⟨hq36, h⟩ := chk h
        refine M_iast (pc := 123) dX12_takes_123 (gc_205_1 hp).2 (inB_in hq36) ?_
        refine M_aload_n (pc := 124) dX12_takes_124 rfl ?_
        refine M_getR (pc := 125) dX12_takes_125 f_X12_13 at_11 (gc_205_1 hp).1 ?_
        refine M_iload_n (pc := 128) dX12_takes_128 rfl ?_
        refine M_bipush (pc := 129) (v := 6) dX12_takes_129 (by decide) ?_
        obtain ⟨r37, hr38, h⟩ := bnd h
        refine M_callSi (pc := 131) dX12_takes_131 s_X12_66 rfl rfl (Nat.le_of_ble_eq_true rfl) (C_X12_at (d := d + 7) hp hr38) (Nat.le_refl _) ?_
        refine M_aload_n (pc := 134) dX12_takes_134 rfl ?_
        refine M_getR (pc := 135) dX12_takes_135 f_X12_13 at_11 (gc_205_1 hp).1 ?_
        refine M_bipush (pc := 138) (v := 12) dX12_takes_138 (by decide) ?_
        refine M_ildc (pc := 140) (j := 12) dX12_takes_140 (gc_205_1 hp).2 (by decide) (by decide) ?_
        obtain ⟨hq39, h⟩ := chk h
        refine M_iast (pc := 141) dX12_takes_141 (gc_205_1 hp).2 (inB_in hq39) ?_
        refine M_aload_n (pc := 142) dX12_takes_142 rfl ?_
        refine M_getR (pc := 143) dX12_takes_143 f_X12_13 at_11 (gc_205_1 hp).1 ?_
        refine M_iload_n (pc := 146) dX12_takes_146 rfl ?_
        refine M_bipush (pc := 147) (v := 7) dX12_takes_147 (by decide) ?_
        obtain ⟨r40, hr41, h⟩ := bnd h
        refine M_callSi (pc := 149) dX12_takes_149 s_X12_66 rfl rfl (Nat.le_of_ble_eq_true rfl) (C_X12_at (d := d + 7) hp hr41) (Nat.le_refl _) ?_
        refine M_iconst (pc := 152) (v := -1) dX12_takes_152 (by decide) ?_
        obtain ⟨hq42, h⟩ := chk h
        refine M_iast (pc := 153) dX12_takes_153 (gc_205_1 hp).2 (inB_in hq42) ?_
        refine M_aload_n (pc := 154) dX12_takes_154 rfl ?_
        refine M_getR (pc := 155) dX12_takes_155 f_X12_13 at_11 (gc_205_1 hp).1 ?_
        refine M_bipush (pc := 158) (v := 6) dX12_takes_158 (by decide) ?_
        refine M_dup2 (pc := 160) dX12_takes_160 rfl rfl ?_
        refine M_ildc (pc := 161) (j := 6) dX12_takes_161 (gc_205_1 hp).2 (by decide) (by decide) ?_
        refine M_iconst (pc := 162) (v := 1) dX12_takes_162 (by decide) ?_
        refine M_iadd (pc := 163) dX12_takes_163 ?_
        refine M_istc (pc := 164) (j := 6) dX12_takes_164 (gc_205_1 hp).2 (by decide) (by decide) ?_
        refine M_aload_n (pc := 165) dX12_takes_165 rfl ?_
        refine M_iload_n (pc := 166) dX12_takes_166 rfl ?_
        refine M_iload_n (pc := 167) dX12_takes_167 rfl ?_
        obtain ⟨r43, hr44, h⟩ := bnd h
        refine M_callVv (pc := 168) dX12_takes_168 v_X12_296 rfl rfl at_11 (Nat.le_of_ble_eq_true rfl) (C_X12_tells (d := d + 6) hp hr44) (Nat.le_refl _) ?_
        refine M_iload_n (pc := 171) dX12_takes_171 rfl ?_
        obtain rfl := Option.some.inj h
        exact M_iret (pc := 172) dX12_takes_172 rfl rfl rfl rfl
  · have h := (if_neg hc3).symm.trans h
    refine M_iconst (pc := 7) (v := -1) dX12_takes_7 (by decide) ?_
    obtain rfl := Option.some.inj h
    exact M_iret (pc := 8) dX12_takes_8 rfl rfl rfl rfl
def F_X12_crusts (I : HI) : Option (HI) :=
  some (up2 (up2 (up2 (up2 (up2 I 206 3 (if ((I 206 3) + (1 : Int32)) < (9999 : Int32) then ((I 206 3) + (1 : Int32)) else (9999 : Int32))) 206 4 (if ((I 206 3) + (1 : Int32)) < (9999 : Int32) then ((I 206 3) + (1 : Int32)) else (9999 : Int32))) 206 5 ((I 206 5) / (2 : Int32))) 206 6 (0 : Int32)) 206 7 (if ((I 206 7) + (1 : Int32)) < (9999 : Int32) then ((I 206 7) + (1 : Int32)) else (9999 : Int32)))
set_option maxRecDepth 4000 in
set_option maxHeartbeats 4000000 in
theorem C_X12_crusts {g : gX} {d : Nat} {P : Nat → Nat → Option Nat} {I : HI} {J : HJ} (hp : Wp P) {r : HI} (h : F_X12_crusts I = some r) : Cm g mX12_crusts (d + 1) [.ref 205] (NT, I, J, P) none (NT, r, J, P) := by
  unfold F_X12_crusts at h
  refine Cm.of (by decide) (by simp [Value.category]) (Nat.le_of_ble_eq_true rfl) (Nat.le_refl _) (ls := [some (.ref 205)]) rfl ?_
  refine M_aload_n (pc := 0) dX12_crusts_0 rfl ?_
  refine M_getR (pc := 1) dX12_crusts_1 f_X12_13 at_11 (gc_205_1 hp).1 ?_
  refine M_iconst (pc := 4) (v := 3) dX12_crusts_4 (by decide) ?_
  refine M_sipush (pc := 5) (v := 9999) dX12_crusts_5 (by decide) ?_
  refine M_aload_n (pc := 8) dX12_crusts_8 rfl ?_
  refine M_getR (pc := 9) dX12_crusts_9 f_X12_13 at_11 (gc_205_1 hp).1 ?_
  refine M_iconst (pc := 12) (v := 3) dX12_crusts_12 (by decide) ?_
  refine M_ildc (pc := 13) (j := 3) dX12_crusts_13 (gc_205_1 hp).2 (by decide) (by decide) ?_
  refine M_iconst (pc := 14) (v := 1) dX12_crusts_14 (by decide) ?_
  refine M_iadd (pc := 15) dX12_crusts_15 ?_
  refine M_mmin (pc := 16) dX12_crusts_16 mm_X12_259.1 mm_X12_259.2.1 mm_X12_259.2.2.1 mm_X12_259.2.2.2 (Nat.le_of_ble_eq_true rfl) ?_
  refine M_istc (pc := 19) (j := 3) dX12_crusts_19 (gc_205_1 hp).2 (by decide) (by decide) ?_
  refine M_aload_n (pc := 20) dX12_crusts_20 rfl ?_
  refine M_getR (pc := 21) dX12_crusts_21 f_X12_13 at_11 (gc_205_1 hp).1 ?_
  refine M_iconst (pc := 24) (v := 4) dX12_crusts_24 (by decide) ?_
  refine M_aload_n (pc := 25) dX12_crusts_25 rfl ?_
  refine M_getR (pc := 26) dX12_crusts_26 f_X12_13 at_11 (gc_205_1 hp).1 ?_
  refine M_iconst (pc := 29) (v := 3) dX12_crusts_29 (by decide) ?_
  refine M_ildcs (pc := 30) (j := 3) (x := (if ((I 206 3) + (1 : Int32)) < (9999 : Int32) then ((I 206 3) + (1 : Int32)) else (9999 : Int32))) dX12_crusts_30 (gc_205_1 hp).2 (by decide) (by decide) rd_eq ?_
  refine M_istc (pc := 31) (j := 4) dX12_crusts_31 (gc_205_1 hp).2 (by decide) (by decide) ?_
  refine M_aload_n (pc := 32) dX12_crusts_32 rfl ?_
  refine M_getR (pc := 33) dX12_crusts_33 f_X12_13 at_11 (gc_205_1 hp).1 ?_
  refine M_iconst (pc := 36) (v := 5) dX12_crusts_36 (by decide) ?_
  refine M_dup2 (pc := 37) dX12_crusts_37 rfl rfl ?_
  refine M_ildcs (pc := 38) (j := 5) (x := (I 206 5)) dX12_crusts_38 (gc_205_1 hp).2 (by decide) (by decide) ((rd_ne (Or.inr (by decide))).trans (rd_ne (Or.inr (by decide)))) ?_
  refine M_iconst (pc := 39) (v := 2) dX12_crusts_39 (by decide) ?_
  refine M_idiv (pc := 40) dX12_crusts_40 (by decide) ?_
  refine M_istc (pc := 41) (j := 5) dX12_crusts_41 (gc_205_1 hp).2 (by decide) (by decide) ?_
  refine M_aload_n (pc := 42) dX12_crusts_42 rfl ?_
  refine M_getR (pc := 43) dX12_crusts_43 f_X12_13 at_11 (gc_205_1 hp).1 ?_
  refine M_bipush (pc := 46) (v := 6) dX12_crusts_46 (by decide) ?_
  refine M_iconst (pc := 48) (v := 0) dX12_crusts_48 (by decide) ?_
  refine M_istc (pc := 49) (j := 6) dX12_crusts_49 (gc_205_1 hp).2 (by decide) (by decide) ?_
  refine M_aload_n (pc := 50) dX12_crusts_50 rfl ?_
  refine M_getR (pc := 51) dX12_crusts_51 f_X12_13 at_11 (gc_205_1 hp).1 ?_
  refine M_bipush (pc := 54) (v := 7) dX12_crusts_54 (by decide) ?_
  refine M_sipush (pc := 56) (v := 9999) dX12_crusts_56 (by decide) ?_
  refine M_aload_n (pc := 59) dX12_crusts_59 rfl ?_
  refine M_getR (pc := 60) dX12_crusts_60 f_X12_13 at_11 (gc_205_1 hp).1 ?_
  refine M_bipush (pc := 63) (v := 7) dX12_crusts_63 (by decide) ?_
  refine M_ildcs (pc := 65) (j := 7) (x := (I 206 7)) dX12_crusts_65 (gc_205_1 hp).2 (by decide) (by decide) ((rd_ne (Or.inr (by decide))).trans ((rd_ne (Or.inr (by decide))).trans ((rd_ne (Or.inr (by decide))).trans (rd_ne (Or.inr (by decide)))))) ?_
  refine M_iconst (pc := 66) (v := 1) dX12_crusts_66 (by decide) ?_
  refine M_iadd (pc := 67) dX12_crusts_67 ?_
  refine M_mmin (pc := 68) dX12_crusts_68 mm_X12_259.1 mm_X12_259.2.1 mm_X12_259.2.2.1 mm_X12_259.2.2.2 (Nat.le_of_ble_eq_true rfl) ?_
  refine M_istc (pc := 71) (j := 7) dX12_crusts_71 (gc_205_1 hp).2 (by decide) (by decide) ?_
  obtain rfl := Option.some.inj h
  exact M_vret (pc := 72) dX12_crusts_72 rfl rfl rfl
def L_X12_oneEvening_12 (x1 : Int32) (x2 : Int32) (x3 : Int32) (I : HI) : Option (Int32 × HI) :=
  if x1 ≤ x3 then (F_X12_crusts I) >>= fun r4 => some (x2, r4) else (F_X12_dishes I) >>= fun r6 => if r6 ≤ 0 then (F_X12_crusts I) >>= fun r9 => some (x2, r9) else (F_X12_dishes I) >>= fun r11 => (F_X12_drawn I r11) >>= fun r13 => (F_X12_takes r13.2 r13.1) >>= fun r15 => if r15.1 = (-1 : Int32) then L_X12_oneEvening_12 x1 (x2 + (0 : Int32)) (x3 + (1 : Int32)) r15.2 else L_X12_oneEvening_12 x1 (x2 + (1 : Int32)) (x3 + (1 : Int32)) r15.2
partial_fixpoint
def F_X12_oneEvening (I : HI) : Option (Int32 × HI) :=
  (F_X12_drawn I (4 : Int32)) >>= fun r1 => L_X12_oneEvening_12 ((1 : Int32) + r1.1) (0 : Int32) (0 : Int32) r1.2
set_option maxRecDepth 4000 in
set_option maxHeartbeats 4000000 in
theorem LC_X12_oneEvening_12 {g : gX} {d : Nat} {P : Nat → Nat → Option Nat} {J : HJ} {x1 : Int32} (hp : Wp P) : ∀ (x2 : Int32) (x3 : Int32) (I : HI) (r : Int32 × HI), L_X12_oneEvening_12 x1 x2 x3 I = some r → M g mX12_oneEvening (d + 9) (NT, NT, 0) ((.inl (some (.int r.1))), (NT, r.2, J, P)) 12 [some (.ref 205), some (.int x1), some (.int x2), some (.int x3)] [] (NT, I, J, P) := by
  refine L_X12_oneEvening_12.partial_correctness x1 (fun x2 x3 I r => M g mX12_oneEvening (d + 9) (NT, NT, 0) ((.inl (some (.int r.1))), (NT, r.2, J, P)) 12 [some (.ref 205), some (.int x1), some (.int x2), some (.int x3)] [] (NT, I, J, P)) ?_
  intro f ih x2 x3 I r h
  refine M_iload_n (pc := 12) dX12_oneEvening_12 rfl ?_
  refine M_iload_n (pc := 13) dX12_oneEvening_13 rfl ?_
  refine M_icmp_ge (pc := 14) (tgt := 54) dX12_oneEvening_14 (by decide) (fun hc3 => ?_) (fun hc3 => ?_)
  · have h := (if_pos hc3).symm.trans h
    refine M_aload_n (pc := 54) dX12_oneEvening_54 rfl ?_
    obtain ⟨r4, hr5, h⟩ := bnd h
    refine M_callVv (pc := 55) dX12_oneEvening_55 v_X12_305 rfl rfl at_11 (Nat.le_of_ble_eq_true rfl) (C_X12_crusts (d := d + 7) hp hr5) (Nat.le_refl _) ?_
    refine M_iload_n (pc := 58) dX12_oneEvening_58 rfl ?_
    obtain rfl := Option.some.inj h
    exact M_iret (pc := 59) dX12_oneEvening_59 rfl rfl rfl rfl
  · have h := (if_neg hc3).symm.trans h
    refine M_aload_n (pc := 17) dX12_oneEvening_17 rfl ?_
    obtain ⟨r6, hr7, h⟩ := bnd h
    refine M_callVi (pc := 18) dX12_oneEvening_18 v_X12_62 rfl rfl at_11 (Nat.le_of_ble_eq_true rfl) (C_X12_dishes (d := d + 8) hp hr7) (Nat.le_refl _) ?_
    refine M_if_le (pc := 21) (tgt := 54) dX12_oneEvening_21 (by decide) (fun hc8 => ?_) (fun hc8 => ?_)
    · have h := (if_pos hc8).symm.trans h
      refine M_aload_n (pc := 54) dX12_oneEvening_54 rfl ?_
      obtain ⟨r9, hr10, h⟩ := bnd h
      refine M_callVv (pc := 55) dX12_oneEvening_55 v_X12_305 rfl rfl at_11 (Nat.le_of_ble_eq_true rfl) (C_X12_crusts (d := d + 7) hp hr10) (Nat.le_refl _) ?_
      refine M_iload_n (pc := 58) dX12_oneEvening_58 rfl ?_
      obtain rfl := Option.some.inj h
      exact M_iret (pc := 59) dX12_oneEvening_59 rfl rfl rfl rfl
    · have h := (if_neg hc8).symm.trans h
      refine M_iload_n (pc := 24) dX12_oneEvening_24 rfl ?_
      refine M_aload_n (pc := 25) dX12_oneEvening_25 rfl ?_
      refine M_aload_n (pc := 26) dX12_oneEvening_26 rfl ?_
      refine M_aload_n (pc := 27) dX12_oneEvening_27 rfl ?_
      obtain ⟨r11, hr12, h⟩ := bnd h
      refine M_callVi (pc := 28) dX12_oneEvening_28 v_X12_62 rfl rfl at_11 (Nat.le_of_ble_eq_true rfl) (C_X12_dishes (d := d + 8) hp hr12) (Nat.le_refl _) ?_
      obtain ⟨r13, hr14, h⟩ := bnd h
      refine M_callVi (pc := 31) dX12_oneEvening_31 v_X12_299 rfl rfl at_11 (Nat.le_of_ble_eq_true rfl) (C_X12_drawn (d := d + 8) hp hr14) (Nat.le_refl _) ?_
      obtain ⟨r15, hr16, h⟩ := bnd h
      refine M_callVi (pc := 34) dX12_oneEvening_34 v_X12_302 rfl rfl at_11 (Nat.le_of_ble_eq_true rfl) (C_X12_takes (d := d + 0) hp hr16) (Nat.le_refl _) ?_
      refine M_iconst (pc := 37) (v := -1) dX12_oneEvening_37 (by decide) ?_
      refine M_icmp_ne (pc := 38) (tgt := 45) dX12_oneEvening_38 (by decide) (fun hc17 => ?_) (fun hc17 => ?_)
      · have h := (if_neg hc17).symm.trans h
        refine M_iconst (pc := 45) (v := 1) dX12_oneEvening_45 (by decide) ?_
        refine M_iadd (pc := 46) dX12_oneEvening_46 ?_
        refine M_istore_n (pc := 47) (ls' := [some (.ref 205), some (.int x1), some (.int (x2 + (1 : Int32))), some (.int x3)]) dX12_oneEvening_47 (by decide) rfl ?_
        refine M_iinc (pc := 48) (v := (x3 + (1 : Int32))) (ls' := [some (.ref 205), some (.int x1), some (.int (x2 + (1 : Int32))), some (.int (x3 + (1 : Int32)))]) dX12_oneEvening_48 rfl rfl (by decide) rfl ?_
        refine M_goto (pc := 51) (tgt := 12) dX12_oneEvening_51 (by decide) ?_
        exact ih (x2 + (1 : Int32)) (x3 + (1 : Int32)) r15.2 _ h
      · have h := (if_pos hc17).symm.trans h
        refine M_iconst (pc := 41) (v := 0) dX12_oneEvening_41 (by decide) ?_
        refine M_goto (pc := 42) (tgt := 46) dX12_oneEvening_42 (by decide) ?_
        refine M_iadd (pc := 46) dX12_oneEvening_46 ?_
        refine M_istore_n (pc := 47) (ls' := [some (.ref 205), some (.int x1), some (.int (x2 + (0 : Int32))), some (.int x3)]) dX12_oneEvening_47 (by decide) rfl ?_
        refine M_iinc (pc := 48) (v := (x3 + (1 : Int32))) (ls' := [some (.ref 205), some (.int x1), some (.int (x2 + (0 : Int32))), some (.int (x3 + (1 : Int32)))]) dX12_oneEvening_48 rfl rfl (by decide) rfl ?_
        refine M_goto (pc := 51) (tgt := 12) dX12_oneEvening_51 (by decide) ?_
        exact ih (x2 + (0 : Int32)) (x3 + (1 : Int32)) r15.2 _ h
set_option maxRecDepth 4000 in
set_option maxHeartbeats 4000000 in
theorem C_X12_oneEvening {g : gX} {d : Nat} {P : Nat → Nat → Option Nat} {I : HI} {J : HJ} (hp : Wp P) {r : Int32 × HI} (h : F_X12_oneEvening I = some r) : Cm g mX12_oneEvening (d + 9) [.ref 205] (NT, I, J, P) (some (.int r.1)) (NT, r.2, J, P) := by
  unfold F_X12_oneEvening at h
  refine Cm.of (by decide) (by simp [Value.category]) (Nat.le_of_ble_eq_true rfl) (Nat.le_refl _) (ls := [some (.ref 205), none, none, none]) rfl ?_
  refine M_iconst (pc := 0) (v := 1) dX12_oneEvening_0 (by decide) ?_
  refine M_aload_n (pc := 1) dX12_oneEvening_1 rfl ?_
  refine M_iconst (pc := 2) (v := 4) dX12_oneEvening_2 (by decide) ?_
  obtain ⟨r1, hr2, h⟩ := bnd h
  refine M_callVi (pc := 3) dX12_oneEvening_3 v_X12_299 rfl rfl at_11 (Nat.le_of_ble_eq_true rfl) (C_X12_drawn (d := d + 8) hp hr2) (Nat.le_refl _) ?_
  refine M_iadd (pc := 6) dX12_oneEvening_6 ?_
  refine M_istore_n (pc := 7) (ls' := [some (.ref 205), some (.int ((1 : Int32) + r1.1)), none, none]) dX12_oneEvening_7 (by decide) rfl ?_
  refine M_iconst (pc := 8) (v := 0) dX12_oneEvening_8 (by decide) ?_
  refine M_istore_n (pc := 9) (ls' := [some (.ref 205), some (.int ((1 : Int32) + r1.1)), some (.int (0 : Int32)), none]) dX12_oneEvening_9 (by decide) rfl ?_
  refine M_iconst (pc := 10) (v := 0) dX12_oneEvening_10 (by decide) ?_
  refine M_istore_n (pc := 11) (ls' := [some (.ref 205), some (.int ((1 : Int32) + r1.1)), some (.int (0 : Int32)), some (.int (0 : Int32))]) dX12_oneEvening_11 (by decide) rfl ?_
  exact LC_X12_oneEvening_12 (P := P) hp (0 : Int32) (0 : Int32) r1.2 _ h
def L_X12_goesOn_4 (x1 : Int32) (x2 : Int32) (x3 : Int32) (I : HI) : Option (Int32 × HI) :=
  if x1 ≤ x3 then some (x2, I) else (F_X12_oneEvening I) >>= fun r2 => L_X12_goesOn_4 x1 (x2 + r2.1) (x3 + (1 : Int32)) r2.2
partial_fixpoint
def F_X12_goesOn (I : HI) (x1 : Int32) : Option (Int32 × HI) :=
  L_X12_goesOn_4 x1 (0 : Int32) (0 : Int32) I
set_option maxRecDepth 4000 in
set_option maxHeartbeats 4000000 in
theorem LC_X12_goesOn_4 {g : gX} {d : Nat} {P : Nat → Nat → Option Nat} {J : HJ} {x1 : Int32} (hp : Wp P) : ∀ (x2 : Int32) (x3 : Int32) (I : HI) (r : Int32 × HI), L_X12_goesOn_4 x1 x2 x3 I = some r → M g mX12_goesOn (d + 10) (NT, NT, 0) ((.inl (some (.int r.1))), (NT, r.2, J, P)) 4 [some (.ref 205), some (.int x1), some (.int x2), some (.int x3)] [] (NT, I, J, P) := by
  refine L_X12_goesOn_4.partial_correctness x1 (fun x2 x3 I r => M g mX12_goesOn (d + 10) (NT, NT, 0) ((.inl (some (.int r.1))), (NT, r.2, J, P)) 4 [some (.ref 205), some (.int x1), some (.int x2), some (.int x3)] [] (NT, I, J, P)) ?_
  intro f ih x2 x3 I r h
  refine M_iload_n (pc := 4) dX12_goesOn_4 rfl ?_
  refine M_iload_n (pc := 5) dX12_goesOn_5 rfl ?_
  refine M_icmp_ge (pc := 6) (tgt := 22) dX12_goesOn_6 (by decide) (fun hc1 => ?_) (fun hc1 => ?_)
  · have h := (if_pos hc1).symm.trans h
    refine M_iload_n (pc := 22) dX12_goesOn_22 rfl ?_
    obtain rfl := Option.some.inj h
    exact M_iret (pc := 23) dX12_goesOn_23 rfl rfl rfl rfl
  · have h := (if_neg hc1).symm.trans h
    refine M_iload_n (pc := 9) dX12_goesOn_9 rfl ?_
    refine M_aload_n (pc := 10) dX12_goesOn_10 rfl ?_
    obtain ⟨r2, hr3, h⟩ := bnd h
    refine M_callVi (pc := 11) dX12_goesOn_11 v_X12_308 rfl rfl at_11 (Nat.le_of_ble_eq_true rfl) (C_X12_oneEvening (d := d + 0) hp hr3) (Nat.le_refl _) ?_
    refine M_iadd (pc := 14) dX12_goesOn_14 ?_
    refine M_istore_n (pc := 15) (ls' := [some (.ref 205), some (.int x1), some (.int (x2 + r2.1)), some (.int x3)]) dX12_goesOn_15 (by decide) rfl ?_
    refine M_iinc (pc := 16) (v := (x3 + (1 : Int32))) (ls' := [some (.ref 205), some (.int x1), some (.int (x2 + r2.1)), some (.int (x3 + (1 : Int32)))]) dX12_goesOn_16 rfl rfl (by decide) rfl ?_
    refine M_goto (pc := 19) (tgt := 4) dX12_goesOn_19 (by decide) ?_
    exact ih (x2 + r2.1) (x3 + (1 : Int32)) r2.2 _ h
set_option maxRecDepth 4000 in
set_option maxHeartbeats 4000000 in
theorem C_X12_goesOn {g : gX} {d : Nat} {P : Nat → Nat → Option Nat} {I : HI} {x1 : Int32} {J : HJ} (hp : Wp P) {r : Int32 × HI} (h : F_X12_goesOn I x1 = some r) : Cm g mX12_goesOn (d + 10) [.ref 205, .int x1] (NT, I, J, P) (some (.int r.1)) (NT, r.2, J, P) := by
  unfold F_X12_goesOn at h
  refine Cm.of (by decide) (by simp [Value.category]) (Nat.le_of_ble_eq_true rfl) (Nat.le_refl _) (ls := [some (.ref 205), some (.int x1), none, none]) rfl ?_
  refine M_iconst (pc := 0) (v := 0) dX12_goesOn_0 (by decide) ?_
  refine M_istore_n (pc := 1) (ls' := [some (.ref 205), some (.int x1), some (.int (0 : Int32)), none]) dX12_goesOn_1 (by decide) rfl ?_
  refine M_iconst (pc := 2) (v := 0) dX12_goesOn_2 (by decide) ?_
  refine M_istore_n (pc := 3) (ls' := [some (.ref 205), some (.int x1), some (.int (0 : Int32)), some (.int (0 : Int32))]) dX12_goesOn_3 (by decide) rfl ?_
  exact LC_X12_goesOn_4 (P := P) hp (0 : Int32) (0 : Int32) I _ h
def F_X12_spoon (I : HI) (x1 : Int32) : Option (Int32 × HI) :=
  (F_X12_noDish (up2 I 205 0 (0 : Int32)) x1) >>= fun r1 => (F_X12_throwsIf (up2 I 205 0 (0 : Int32)) r1 (1 : Int32)) >>= fun r3 => if r3.1 = 0 then (F_X12_takesNone r3.2) >>= fun r6 => (F_X12_throwsIf r3.2 r6 (2 : Int32)) >>= fun r8 => if r8.1 = 0 then (F_X12_remembers r8.2) >>= fun r11 => (F_X12_takes r11 x1) >>= fun r13 => some ((r13.2 206 4), r13.2) else some ((0 : Int32), r8.2) else some ((0 : Int32), r3.2)
set_option maxRecDepth 4000 in
set_option maxHeartbeats 4000000 in
theorem C_X12_spoon {g : gX} {d : Nat} {P : Nat → Nat → Option Nat} {I : HI} {x1 : Int32} {J : HJ} (hp : Wp P) {r : Int32 × HI} (h : F_X12_spoon I x1 = some r) : Cm g mX12_spoon (d + 9) [.ref 205, .int x1] (NT, I, J, P) (some (.int r.1)) (NT, r.2, J, P) := by
  unfold F_X12_spoon at h
  refine Cm.of (by decide) (by simp [Value.category]) (Nat.le_of_ble_eq_true rfl) (Nat.le_refl _) (ls := [some (.ref 205), some (.int x1)]) rfl ?_
  refine M_aload_n (pc := 0) dX12_spoon_0 rfl ?_
  refine M_iconst (pc := 1) (v := 0) dX12_spoon_1 (by decide) ?_
  refine M_putI (pc := 2) dX12_spoon_2 f_X12_3 at_11 rfl ⟨rfl, rfl⟩ ?_
  refine M_aload_n (pc := 5) dX12_spoon_5 rfl ?_
  refine M_aload_n (pc := 6) dX12_spoon_6 rfl ?_
  refine M_iload_n (pc := 7) dX12_spoon_7 rfl ?_
  obtain ⟨r1, hr2, h⟩ := bnd h
  refine M_callVi (pc := 8) dX12_spoon_8 v_X12_278 rfl rfl at_11 (Nat.le_of_ble_eq_true rfl) (C_X12_noDish (d := d + 7) hp hr2) (Nat.le_refl _) ?_
  refine M_iconst (pc := 11) (v := 1) dX12_spoon_11 (by decide) ?_
  obtain ⟨r3, hr4, h⟩ := bnd h
  refine M_callVi (pc := 12) dX12_spoon_12 v_X12_243 rfl rfl at_11 (Nat.le_of_ble_eq_true rfl) (C_X12_throwsIf (d := d + 8) hp hr4) (Nat.le_refl _) ?_
  refine M_if_ne (pc := 15) (tgt := 30) dX12_spoon_15 (by decide) (fun hc5 => ?_) (fun hc5 => ?_)
  · have h := (if_neg hc5).symm.trans h
    refine M_iconst (pc := 30) (v := 0) dX12_spoon_30 (by decide) ?_
    obtain rfl := Option.some.inj h
    exact M_iret (pc := 31) dX12_spoon_31 rfl rfl rfl rfl
  · have h := (if_pos hc5).symm.trans h
    refine M_aload_n (pc := 18) dX12_spoon_18 rfl ?_
    refine M_aload_n (pc := 19) dX12_spoon_19 rfl ?_
    obtain ⟨r6, hr7, h⟩ := bnd h
    refine M_callVi (pc := 20) dX12_spoon_20 v_X12_290 rfl rfl at_11 (Nat.le_of_ble_eq_true rfl) (C_X12_takesNone (d := d + 8) hp hr7) (Nat.le_refl _) ?_
    refine M_iconst (pc := 23) (v := 2) dX12_spoon_23 (by decide) ?_
    obtain ⟨r8, hr9, h⟩ := bnd h
    refine M_callVi (pc := 24) dX12_spoon_24 v_X12_243 rfl rfl at_11 (Nat.le_of_ble_eq_true rfl) (C_X12_throwsIf (d := d + 8) hp hr9) (Nat.le_refl _) ?_
    refine M_if_eq (pc := 27) (tgt := 32) dX12_spoon_27 (by decide) (fun hc10 => ?_) (fun hc10 => ?_)
    · have h := (if_pos hc10).symm.trans h
      refine M_aload_n (pc := 32) dX12_spoon_32 rfl ?_
      obtain ⟨r11, hr12, h⟩ := bnd h
      refine M_callVv (pc := 33) dX12_spoon_33 v_X12_311 rfl rfl at_11 (Nat.le_of_ble_eq_true rfl) (C_X12_remembers (d := d + 8) hp hr12) (Nat.le_refl _) ?_
      refine M_aload_n (pc := 36) dX12_spoon_36 rfl ?_
      refine M_iload_n (pc := 37) dX12_spoon_37 rfl ?_
      obtain ⟨r13, hr14, h⟩ := bnd h
      refine M_callVi (pc := 38) dX12_spoon_38 v_X12_302 rfl rfl at_11 (Nat.le_of_ble_eq_true rfl) (C_X12_takes (d := d + 0) hp hr14) (Nat.le_refl _) ?_
      refine M_pop (pc := 41) dX12_spoon_41 rfl ?_
      refine M_aload_n (pc := 42) dX12_spoon_42 rfl ?_
      refine M_getR (pc := 43) dX12_spoon_43 f_X12_13 at_11 (gc_205_1 hp).1 ?_
      refine M_iconst (pc := 46) (v := 4) dX12_spoon_46 (by decide) ?_
      refine M_ildc (pc := 47) (j := 4) dX12_spoon_47 (gc_205_1 hp).2 (by decide) (by decide) ?_
      obtain rfl := Option.some.inj h
      exact M_iret (pc := 48) dX12_spoon_48 rfl rfl rfl rfl
    · have h := (if_neg hc10).symm.trans h
      refine M_iconst (pc := 30) (v := 0) dX12_spoon_30 (by decide) ?_
      obtain rfl := Option.some.inj h
      exact M_iret (pc := 31) dX12_spoon_31 rfl rfl rfl rfl
def F_X12_crust (I : HI) : Option (Int32 × HI) :=
  (F_X12_remembers (up2 I 205 0 (0 : Int32))) >>= fun r1 => (F_X12_crusts r1) >>= fun r3 => some ((r3 206 3), r3)
set_option maxRecDepth 4000 in
set_option maxHeartbeats 4000000 in
theorem C_X12_crust {g : gX} {d : Nat} {P : Nat → Nat → Option Nat} {I : HI} {J : HJ} (hp : Wp P) {r : Int32 × HI} (h : F_X12_crust I = some r) : Cm g mX12_crust (d + 2) [.ref 205] (NT, I, J, P) (some (.int r.1)) (NT, r.2, J, P) := by
  unfold F_X12_crust at h
  refine Cm.of (by decide) (by simp [Value.category]) (Nat.le_of_ble_eq_true rfl) (Nat.le_refl _) (ls := [some (.ref 205)]) rfl ?_
  refine M_aload_n (pc := 0) dX12_crust_0 rfl ?_
  refine M_iconst (pc := 1) (v := 0) dX12_crust_1 (by decide) ?_
  refine M_putI (pc := 2) dX12_crust_2 f_X12_3 at_11 rfl ⟨rfl, rfl⟩ ?_
  refine M_aload_n (pc := 5) dX12_crust_5 rfl ?_
  obtain ⟨r1, hr2, h⟩ := bnd h
  refine M_callVv (pc := 6) dX12_crust_6 v_X12_311 rfl rfl at_11 (Nat.le_of_ble_eq_true rfl) (C_X12_remembers (d := d + 1) hp hr2) (Nat.le_refl _) ?_
  refine M_aload_n (pc := 9) dX12_crust_9 rfl ?_
  obtain ⟨r3, hr4, h⟩ := bnd h
  refine M_callVv (pc := 10) dX12_crust_10 v_X12_305 rfl rfl at_11 (Nat.le_of_ble_eq_true rfl) (C_X12_crusts (d := d + 0) hp hr4) (Nat.le_refl _) ?_
  refine M_aload_n (pc := 13) dX12_crust_13 rfl ?_
  refine M_getR (pc := 14) dX12_crust_14 f_X12_13 at_11 (gc_205_1 hp).1 ?_
  refine M_iconst (pc := 17) (v := 3) dX12_crust_17 (by decide) ?_
  refine M_ildc (pc := 18) (j := 3) dX12_crust_18 (gc_205_1 hp).2 (by decide) (by decide) ?_
  obtain rfl := Option.some.inj h
  exact M_iret (pc := 19) dX12_crust_19 rfl rfl rfl rfl
def F_X12_had (I : HI) (x1 : Int32) (x2 : Int32) (x3 : Int32) (x4 : Int32) : Option (Int32 × HI) :=
  (F_X12_noDish (up2 I 205 0 (0 : Int32)) x1) >>= fun r1 => if r1 = 0 then (F_X12_noPlace (up2 I 205 0 (0 : Int32)) x3) >>= fun r61 => if r61 = 0 then (F_X12_throwsIf (up2 I 205 0 (0 : Int32)) (0 : Int32) (1 : Int32)) >>= fun r64 => if r64.1 = 0 then (F_X12_in r64.2 x2 (0 : Int32) (9999 : Int32)) >>= fun r67 => if r67 = 0 then (F_X12_throwsIf r64.2 (1 : Int32) (2 : Int32)) >>= fun r70 => if r70.1 = 0 then (F_X12_remembers r70.2) >>= fun r73 => (F_X12_of r73 x1 (5 : Int32)) >>= fun r75 => (F_X12_at r73 x1 (5 : Int32)) >>= fun r77 => if inB r77 2051 = true then (F_X12_at (up2 r73 206 (r77).toNatClampNeg x2) x1 (6 : Int32)) >>= fun r80 => if inB r80 2051 = true then (F_X12_at (up2 (up2 r73 206 (r77).toNatClampNeg x2) 206 (r80).toNatClampNeg x3) x1 (7 : Int32)) >>= fun r83 => if inB r83 2051 = true then some (r75, (up2 (up2 (up2 r73 206 (r77).toNatClampNeg x2) 206 (r80).toNatClampNeg x3) 206 (r83).toNatClampNeg x4)) else none else none else none else some ((0 : Int32), r70.2) else (F_X12_in r64.2 x4 (-1 : Int32) (7 : Int32)) >>= fun r86 => if r86 = 0 then (F_X12_throwsIf r64.2 (1 : Int32) (2 : Int32)) >>= fun r105 => if r105.1 = 0 then (F_X12_remembers r105.2) >>= fun r108 => (F_X12_of r108 x1 (5 : Int32)) >>= fun r110 => (F_X12_at r108 x1 (5 : Int32)) >>= fun r112 => if inB r112 2051 = true then (F_X12_at (up2 r108 206 (r112).toNatClampNeg x2) x1 (6 : Int32)) >>= fun r115 => if inB r115 2051 = true then (F_X12_at (up2 (up2 r108 206 (r112).toNatClampNeg x2) 206 (r115).toNatClampNeg x3) x1 (7 : Int32)) >>= fun r118 => if inB r118 2051 = true then some (r110, (up2 (up2 (up2 r108 206 (r112).toNatClampNeg x2) 206 (r115).toNatClampNeg x3) 206 (r118).toNatClampNeg x4)) else none else none else none else some ((0 : Int32), r105.2) else (F_X12_throwsIf r64.2 (0 : Int32) (2 : Int32)) >>= fun r89 => if r89.1 = 0 then (F_X12_remembers r89.2) >>= fun r92 => (F_X12_of r92 x1 (5 : Int32)) >>= fun r94 => (F_X12_at r92 x1 (5 : Int32)) >>= fun r96 => if inB r96 2051 = true then (F_X12_at (up2 r92 206 (r96).toNatClampNeg x2) x1 (6 : Int32)) >>= fun r99 => if inB r99 2051 = true then (F_X12_at (up2 (up2 r92 206 (r96).toNatClampNeg x2) 206 (r99).toNatClampNeg x3) x1 (7 : Int32)) >>= fun r102 => if inB r102 2051 = true then some (r94, (up2 (up2 (up2 r92 206 (r96).toNatClampNeg x2) 206 (r99).toNatClampNeg x3) 206 (r102).toNatClampNeg x4)) else none else none else none else some ((0 : Int32), r89.2) else some ((0 : Int32), r64.2) else (F_X12_throwsIf (up2 I 205 0 (0 : Int32)) (1 : Int32) (1 : Int32)) >>= fun r121 => if r121.1 = 0 then (F_X12_in r121.2 x2 (0 : Int32) (9999 : Int32)) >>= fun r124 => if r124 = 0 then (F_X12_throwsIf r121.2 (1 : Int32) (2 : Int32)) >>= fun r127 => if r127.1 = 0 then (F_X12_remembers r127.2) >>= fun r130 => (F_X12_of r130 x1 (5 : Int32)) >>= fun r132 => (F_X12_at r130 x1 (5 : Int32)) >>= fun r134 => if inB r134 2051 = true then (F_X12_at (up2 r130 206 (r134).toNatClampNeg x2) x1 (6 : Int32)) >>= fun r137 => if inB r137 2051 = true then (F_X12_at (up2 (up2 r130 206 (r134).toNatClampNeg x2) 206 (r137).toNatClampNeg x3) x1 (7 : Int32)) >>= fun r140 => if inB r140 2051 = true then some (r132, (up2 (up2 (up2 r130 206 (r134).toNatClampNeg x2) 206 (r137).toNatClampNeg x3) 206 (r140).toNatClampNeg x4)) else none else none else none else some ((0 : Int32), r127.2) else (F_X12_in r121.2 x4 (-1 : Int32) (7 : Int32)) >>= fun r143 => if r143 = 0 then (F_X12_throwsIf r121.2 (1 : Int32) (2 : Int32)) >>= fun r162 => if r162.1 = 0 then (F_X12_remembers r162.2) >>= fun r165 => (F_X12_of r165 x1 (5 : Int32)) >>= fun r167 => (F_X12_at r165 x1 (5 : Int32)) >>= fun r169 => if inB r169 2051 = true then (F_X12_at (up2 r165 206 (r169).toNatClampNeg x2) x1 (6 : Int32)) >>= fun r172 => if inB r172 2051 = true then (F_X12_at (up2 (up2 r165 206 (r169).toNatClampNeg x2) 206 (r172).toNatClampNeg x3) x1 (7 : Int32)) >>= fun r175 => if inB r175 2051 = true then some (r167, (up2 (up2 (up2 r165 206 (r169).toNatClampNeg x2) 206 (r172).toNatClampNeg x3) 206 (r175).toNatClampNeg x4)) else none else none else none else some ((0 : Int32), r162.2) else (F_X12_throwsIf r121.2 (0 : Int32) (2 : Int32)) >>= fun r146 => if r146.1 = 0 then (F_X12_remembers r146.2) >>= fun r149 => (F_X12_of r149 x1 (5 : Int32)) >>= fun r151 => (F_X12_at r149 x1 (5 : Int32)) >>= fun r153 => if inB r153 2051 = true then (F_X12_at (up2 r149 206 (r153).toNatClampNeg x2) x1 (6 : Int32)) >>= fun r156 => if inB r156 2051 = true then (F_X12_at (up2 (up2 r149 206 (r153).toNatClampNeg x2) 206 (r156).toNatClampNeg x3) x1 (7 : Int32)) >>= fun r159 => if inB r159 2051 = true then some (r151, (up2 (up2 (up2 r149 206 (r153).toNatClampNeg x2) 206 (r156).toNatClampNeg x3) 206 (r159).toNatClampNeg x4)) else none else none else none else some ((0 : Int32), r146.2) else some ((0 : Int32), r121.2) else (F_X12_throwsIf (up2 I 205 0 (0 : Int32)) (1 : Int32) (1 : Int32)) >>= fun r4 => if r4.1 = 0 then (F_X12_in r4.2 x2 (0 : Int32) (9999 : Int32)) >>= fun r7 => if r7 = 0 then (F_X12_throwsIf r4.2 (1 : Int32) (2 : Int32)) >>= fun r10 => if r10.1 = 0 then (F_X12_remembers r10.2) >>= fun r13 => (F_X12_of r13 x1 (5 : Int32)) >>= fun r15 => (F_X12_at r13 x1 (5 : Int32)) >>= fun r17 => if inB r17 2051 = true then (F_X12_at (up2 r13 206 (r17).toNatClampNeg x2) x1 (6 : Int32)) >>= fun r20 => if inB r20 2051 = true then (F_X12_at (up2 (up2 r13 206 (r17).toNatClampNeg x2) 206 (r20).toNatClampNeg x3) x1 (7 : Int32)) >>= fun r23 => if inB r23 2051 = true then some (r15, (up2 (up2 (up2 r13 206 (r17).toNatClampNeg x2) 206 (r20).toNatClampNeg x3) 206 (r23).toNatClampNeg x4)) else none else none else none else some ((0 : Int32), r10.2) else (F_X12_in r4.2 x4 (-1 : Int32) (7 : Int32)) >>= fun r26 => if r26 = 0 then (F_X12_throwsIf r4.2 (1 : Int32) (2 : Int32)) >>= fun r45 => if r45.1 = 0 then (F_X12_remembers r45.2) >>= fun r48 => (F_X12_of r48 x1 (5 : Int32)) >>= fun r50 => (F_X12_at r48 x1 (5 : Int32)) >>= fun r52 => if inB r52 2051 = true then (F_X12_at (up2 r48 206 (r52).toNatClampNeg x2) x1 (6 : Int32)) >>= fun r55 => if inB r55 2051 = true then (F_X12_at (up2 (up2 r48 206 (r52).toNatClampNeg x2) 206 (r55).toNatClampNeg x3) x1 (7 : Int32)) >>= fun r58 => if inB r58 2051 = true then some (r50, (up2 (up2 (up2 r48 206 (r52).toNatClampNeg x2) 206 (r55).toNatClampNeg x3) 206 (r58).toNatClampNeg x4)) else none else none else none else some ((0 : Int32), r45.2) else (F_X12_throwsIf r4.2 (0 : Int32) (2 : Int32)) >>= fun r29 => if r29.1 = 0 then (F_X12_remembers r29.2) >>= fun r32 => (F_X12_of r32 x1 (5 : Int32)) >>= fun r34 => (F_X12_at r32 x1 (5 : Int32)) >>= fun r36 => if inB r36 2051 = true then (F_X12_at (up2 r32 206 (r36).toNatClampNeg x2) x1 (6 : Int32)) >>= fun r39 => if inB r39 2051 = true then (F_X12_at (up2 (up2 r32 206 (r36).toNatClampNeg x2) 206 (r39).toNatClampNeg x3) x1 (7 : Int32)) >>= fun r42 => if inB r42 2051 = true then some (r34, (up2 (up2 (up2 r32 206 (r36).toNatClampNeg x2) 206 (r39).toNatClampNeg x3) 206 (r42).toNatClampNeg x4)) else none else none else none else some ((0 : Int32), r29.2) else some ((0 : Int32), r4.2)
set_option maxRecDepth 4000 in
set_option maxHeartbeats 4000000 in
theorem C_X12_had {g : gX} {d : Nat} {P : Nat → Nat → Option Nat} {I : HI} {x1 : Int32} {x2 : Int32} {x3 : Int32} {x4 : Int32} {J : HJ} (hp : Wp P) {r : Int32 × HI} (h : F_X12_had I x1 x2 x3 x4 = some r) : Cm g mX12_had (d + 2) [.ref 205, .int x1, .int x2, .int x3, .int x4] (NT, I, J, P) (some (.int r.1)) (NT, r.2, J, P) := by
  unfold F_X12_had at h
  refine Cm.of (by decide) (by simp [Value.category]) (Nat.le_of_ble_eq_true rfl) (Nat.le_refl _) (ls := [some (.ref 205), some (.int x1), some (.int x2), some (.int x3), some (.int x4), none]) rfl ?_
  refine M_aload_n (pc := 0) dX12_had_0 rfl ?_
  refine M_iconst (pc := 1) (v := 0) dX12_had_1 (by decide) ?_
  refine M_putI (pc := 2) dX12_had_2 f_X12_3 at_11 rfl ⟨rfl, rfl⟩ ?_
  refine M_aload_n (pc := 5) dX12_had_5 rfl ?_
  refine M_aload_n (pc := 6) dX12_had_6 rfl ?_
  refine M_iload_n (pc := 7) dX12_had_7 rfl ?_
  obtain ⟨r1, hr2, h⟩ := bnd h
  refine M_callVi (pc := 8) dX12_had_8 v_X12_278 rfl rfl at_11 (Nat.le_of_ble_eq_true rfl) (C_X12_noDish (d := d + 0) hp hr2) (Nat.le_refl _) ?_
  refine M_if_ne (pc := 11) (tgt := 21) dX12_had_11 (by decide) (fun hc3 => ?_) (fun hc3 => ?_)
  · have h := (if_neg hc3).symm.trans h
    refine M_iconst (pc := 21) (v := 1) dX12_had_21 (by decide) ?_
    refine M_goto (pc := 22) (tgt := 26) dX12_had_22 (by decide) ?_
    refine M_iconst (pc := 26) (v := 1) dX12_had_26 (by decide) ?_
    obtain ⟨r4, hr5, h⟩ := bnd h
    refine M_callVi (pc := 27) dX12_had_27 v_X12_243 rfl rfl at_11 (Nat.le_of_ble_eq_true rfl) (C_X12_throwsIf (d := d + 1) hp hr5) (Nat.le_refl _) ?_
    refine M_if_ne (pc := 30) (tgt := 68) dX12_had_30 (by decide) (fun hc6 => ?_) (fun hc6 => ?_)
    · have h := (if_neg hc6).symm.trans h
      refine M_iconst (pc := 68) (v := 0) dX12_had_68 (by decide) ?_
      obtain rfl := Option.some.inj h
      exact M_iret (pc := 69) dX12_had_69 rfl rfl rfl rfl
    · have h := (if_pos hc6).symm.trans h
      refine M_aload_n (pc := 33) dX12_had_33 rfl ?_
      refine M_iload_n (pc := 34) dX12_had_34 rfl ?_
      refine M_iconst (pc := 35) (v := 0) dX12_had_35 (by decide) ?_
      refine M_sipush (pc := 36) (v := 9999) dX12_had_36 (by decide) ?_
      obtain ⟨r7, hr8, h⟩ := bnd h
      refine M_callSi (pc := 39) dX12_had_39 s_X12_73 rfl rfl (Nat.le_of_ble_eq_true rfl) (C_X12_in (d := d + 1) hp hr8) (Nat.le_refl _) ?_
      refine M_if_eq (pc := 42) (tgt := 56) dX12_had_42 (by decide) (fun hc9 => ?_) (fun hc9 => ?_)
      · have h := (if_pos hc9).symm.trans h
        refine M_iconst (pc := 56) (v := 1) dX12_had_56 (by decide) ?_
        refine M_goto (pc := 57) (tgt := 61) dX12_had_57 (by decide) ?_
        refine M_iconst (pc := 61) (v := 2) dX12_had_61 (by decide) ?_
        obtain ⟨r10, hr11, h⟩ := bnd h
        refine M_callVi (pc := 62) dX12_had_62 v_X12_243 rfl rfl at_11 (Nat.le_of_ble_eq_true rfl) (C_X12_throwsIf (d := d + 1) hp hr11) (Nat.le_refl _) ?_
        refine M_if_eq (pc := 65) (tgt := 70) dX12_had_65 (by decide) (fun hc12 => ?_) (fun hc12 => ?_)
        · have h := (if_pos hc12).symm.trans h
          refine M_aload_n (pc := 70) dX12_had_70 rfl ?_
          obtain ⟨r13, hr14, h⟩ := bnd h
          refine M_callVv (pc := 71) dX12_had_71 v_X12_311 rfl rfl at_11 (Nat.le_of_ble_eq_true rfl) (C_X12_remembers (d := d + 1) hp hr14) (Nat.le_refl _) ?_
          refine M_aload_n (pc := 74) dX12_had_74 rfl ?_
          refine M_iload_n (pc := 75) dX12_had_75 rfl ?_
          refine M_iconst (pc := 76) (v := 5) dX12_had_76 (by decide) ?_
          obtain ⟨r15, hr16, h⟩ := bnd h
          refine M_callVi (pc := 77) dX12_had_77 v_X12_70 rfl rfl at_11 (Nat.le_of_ble_eq_true rfl) (C_X12_of (d := d + 0) hp hr16) (Nat.le_refl _) ?_
          refine M_istore (pc := 80) (ls' := [some (.ref 205), some (.int x1), some (.int x2), some (.int x3), some (.int x4), some (.int r15)]) dX12_had_80 (by decide) rfl ?_
          refine M_aload_n (pc := 82) dX12_had_82 rfl ?_
          refine M_getR (pc := 83) dX12_had_83 f_X12_13 at_11 (gc_205_1 hp).1 ?_
          refine M_iload_n (pc := 86) dX12_had_86 rfl ?_
          refine M_iconst (pc := 87) (v := 5) dX12_had_87 (by decide) ?_
          obtain ⟨r17, hr18, h⟩ := bnd h
          refine M_callSi (pc := 88) dX12_had_88 s_X12_66 rfl rfl (Nat.le_of_ble_eq_true rfl) (C_X12_at (d := d + 1) hp hr18) (Nat.le_refl _) ?_
          refine M_iload_n (pc := 91) dX12_had_91 rfl ?_
          obtain ⟨hq19, h⟩ := chk h
          refine M_iast (pc := 92) dX12_had_92 (gc_205_1 hp).2 (inB_in hq19) ?_
          refine M_aload_n (pc := 93) dX12_had_93 rfl ?_
          refine M_getR (pc := 94) dX12_had_94 f_X12_13 at_11 (gc_205_1 hp).1 ?_
          refine M_iload_n (pc := 97) dX12_had_97 rfl ?_
          refine M_bipush (pc := 98) (v := 6) dX12_had_98 (by decide) ?_
          obtain ⟨r20, hr21, h⟩ := bnd h
          refine M_callSi (pc := 100) dX12_had_100 s_X12_66 rfl rfl (Nat.le_of_ble_eq_true rfl) (C_X12_at (d := d + 1) hp hr21) (Nat.le_refl _) ?_
          refine M_iload_n (pc := 103) dX12_had_103 rfl ?_
          obtain ⟨hq22, h⟩ := chk h
          refine M_iast (pc := 104) dX12_had_104 (gc_205_1 hp).2 (inB_in hq22) ?_
          refine M_aload_n (pc := 105) dX12_had_105 rfl ?_
          refine M_getR (pc := 106) dX12_had_106 f_X12_13 at_11 (gc_205_1 hp).1 ?_
          refine M_iload_n (pc := 109) dX12_had_109 rfl ?_
          refine M_bipush (pc := 110) (v := 7) dX12_had_110 (by decide) ?_
          obtain ⟨r23, hr24, h⟩ := bnd h
          refine M_callSi (pc := 112) dX12_had_112 s_X12_66 rfl rfl (Nat.le_of_ble_eq_true rfl) (C_X12_at (d := d + 1) hp hr24) (Nat.le_refl _) ?_
          refine M_iload (pc := 115) dX12_had_115 rfl ?_
          obtain ⟨hq25, h⟩ := chk h
          refine M_iast (pc := 117) dX12_had_117 (gc_205_1 hp).2 (inB_in hq25) ?_
          refine M_iload (pc := 118) dX12_had_118 rfl ?_
          obtain rfl := Option.some.inj h
          exact M_iret (pc := 120) dX12_had_120 rfl rfl rfl rfl
        · have h := (if_neg hc12).symm.trans h
          refine M_iconst (pc := 68) (v := 0) dX12_had_68 (by decide) ?_
          obtain rfl := Option.some.inj h
          exact M_iret (pc := 69) dX12_had_69 rfl rfl rfl rfl
      · have h := (if_neg hc9).symm.trans h
        refine M_iload (pc := 45) dX12_had_45 rfl ?_
        refine M_iconst (pc := 47) (v := -1) dX12_had_47 (by decide) ?_
        refine M_bipush (pc := 48) (v := 7) dX12_had_48 (by decide) ?_
        obtain ⟨r26, hr27, h⟩ := bnd h
        refine M_callSi (pc := 50) dX12_had_50 s_X12_73 rfl rfl (Nat.le_of_ble_eq_true rfl) (C_X12_in (d := d + 1) hp hr27) (Nat.le_refl _) ?_
        refine M_if_ne (pc := 53) (tgt := 60) dX12_had_53 (by decide) (fun hc28 => ?_) (fun hc28 => ?_)
        · have h := (if_neg hc28).symm.trans h
          refine M_iconst (pc := 60) (v := 0) dX12_had_60 (by decide) ?_
          refine M_iconst (pc := 61) (v := 2) dX12_had_61 (by decide) ?_
          obtain ⟨r29, hr30, h⟩ := bnd h
          refine M_callVi (pc := 62) dX12_had_62 v_X12_243 rfl rfl at_11 (Nat.le_of_ble_eq_true rfl) (C_X12_throwsIf (d := d + 1) hp hr30) (Nat.le_refl _) ?_
          refine M_if_eq (pc := 65) (tgt := 70) dX12_had_65 (by decide) (fun hc31 => ?_) (fun hc31 => ?_)
          · have h := (if_pos hc31).symm.trans h
            refine M_aload_n (pc := 70) dX12_had_70 rfl ?_
            obtain ⟨r32, hr33, h⟩ := bnd h
            refine M_callVv (pc := 71) dX12_had_71 v_X12_311 rfl rfl at_11 (Nat.le_of_ble_eq_true rfl) (C_X12_remembers (d := d + 1) hp hr33) (Nat.le_refl _) ?_
            refine M_aload_n (pc := 74) dX12_had_74 rfl ?_
            refine M_iload_n (pc := 75) dX12_had_75 rfl ?_
            refine M_iconst (pc := 76) (v := 5) dX12_had_76 (by decide) ?_
            obtain ⟨r34, hr35, h⟩ := bnd h
            refine M_callVi (pc := 77) dX12_had_77 v_X12_70 rfl rfl at_11 (Nat.le_of_ble_eq_true rfl) (C_X12_of (d := d + 0) hp hr35) (Nat.le_refl _) ?_
            refine M_istore (pc := 80) (ls' := [some (.ref 205), some (.int x1), some (.int x2), some (.int x3), some (.int x4), some (.int r34)]) dX12_had_80 (by decide) rfl ?_
            refine M_aload_n (pc := 82) dX12_had_82 rfl ?_
            refine M_getR (pc := 83) dX12_had_83 f_X12_13 at_11 (gc_205_1 hp).1 ?_
            refine M_iload_n (pc := 86) dX12_had_86 rfl ?_
            refine M_iconst (pc := 87) (v := 5) dX12_had_87 (by decide) ?_
            obtain ⟨r36, hr37, h⟩ := bnd h
            refine M_callSi (pc := 88) dX12_had_88 s_X12_66 rfl rfl (Nat.le_of_ble_eq_true rfl) (C_X12_at (d := d + 1) hp hr37) (Nat.le_refl _) ?_
            refine M_iload_n (pc := 91) dX12_had_91 rfl ?_
            obtain ⟨hq38, h⟩ := chk h
            refine M_iast (pc := 92) dX12_had_92 (gc_205_1 hp).2 (inB_in hq38) ?_
            refine M_aload_n (pc := 93) dX12_had_93 rfl ?_
            refine M_getR (pc := 94) dX12_had_94 f_X12_13 at_11 (gc_205_1 hp).1 ?_
            refine M_iload_n (pc := 97) dX12_had_97 rfl ?_
            refine M_bipush (pc := 98) (v := 6) dX12_had_98 (by decide) ?_
            obtain ⟨r39, hr40, h⟩ := bnd h
            refine M_callSi (pc := 100) dX12_had_100 s_X12_66 rfl rfl (Nat.le_of_ble_eq_true rfl) (C_X12_at (d := d + 1) hp hr40) (Nat.le_refl _) ?_
            refine M_iload_n (pc := 103) dX12_had_103 rfl ?_
            obtain ⟨hq41, h⟩ := chk h
            refine M_iast (pc := 104) dX12_had_104 (gc_205_1 hp).2 (inB_in hq41) ?_
            refine M_aload_n (pc := 105) dX12_had_105 rfl ?_
            refine M_getR (pc := 106) dX12_had_106 f_X12_13 at_11 (gc_205_1 hp).1 ?_
            refine M_iload_n (pc := 109) dX12_had_109 rfl ?_
            refine M_bipush (pc := 110) (v := 7) dX12_had_110 (by decide) ?_
            obtain ⟨r42, hr43, h⟩ := bnd h
            refine M_callSi (pc := 112) dX12_had_112 s_X12_66 rfl rfl (Nat.le_of_ble_eq_true rfl) (C_X12_at (d := d + 1) hp hr43) (Nat.le_refl _) ?_
            refine M_iload (pc := 115) dX12_had_115 rfl ?_
            obtain ⟨hq44, h⟩ := chk h
            refine M_iast (pc := 117) dX12_had_117 (gc_205_1 hp).2 (inB_in hq44) ?_
            refine M_iload (pc := 118) dX12_had_118 rfl ?_
            obtain rfl := Option.some.inj h
            exact M_iret (pc := 120) dX12_had_120 rfl rfl rfl rfl
          · have h := (if_neg hc31).symm.trans h
            refine M_iconst (pc := 68) (v := 0) dX12_had_68 (by decide) ?_
            obtain rfl := Option.some.inj h
            exact M_iret (pc := 69) dX12_had_69 rfl rfl rfl rfl
        · have h := (if_pos hc28).symm.trans h
          refine M_iconst (pc := 56) (v := 1) dX12_had_56 (by decide) ?_
          refine M_goto (pc := 57) (tgt := 61) dX12_had_57 (by decide) ?_
          refine M_iconst (pc := 61) (v := 2) dX12_had_61 (by decide) ?_
          obtain ⟨r45, hr46, h⟩ := bnd h
          refine M_callVi (pc := 62) dX12_had_62 v_X12_243 rfl rfl at_11 (Nat.le_of_ble_eq_true rfl) (C_X12_throwsIf (d := d + 1) hp hr46) (Nat.le_refl _) ?_
          refine M_if_eq (pc := 65) (tgt := 70) dX12_had_65 (by decide) (fun hc47 => ?_) (fun hc47 => ?_)
          · have h := (if_pos hc47).symm.trans h
            refine M_aload_n (pc := 70) dX12_had_70 rfl ?_
            obtain ⟨r48, hr49, h⟩ := bnd h
            refine M_callVv (pc := 71) dX12_had_71 v_X12_311 rfl rfl at_11 (Nat.le_of_ble_eq_true rfl) (C_X12_remembers (d := d + 1) hp hr49) (Nat.le_refl _) ?_
            refine M_aload_n (pc := 74) dX12_had_74 rfl ?_
            refine M_iload_n (pc := 75) dX12_had_75 rfl ?_
            refine M_iconst (pc := 76) (v := 5) dX12_had_76 (by decide) ?_
            obtain ⟨r50, hr51, h⟩ := bnd h
            refine M_callVi (pc := 77) dX12_had_77 v_X12_70 rfl rfl at_11 (Nat.le_of_ble_eq_true rfl) (C_X12_of (d := d + 0) hp hr51) (Nat.le_refl _) ?_
            refine M_istore (pc := 80) (ls' := [some (.ref 205), some (.int x1), some (.int x2), some (.int x3), some (.int x4), some (.int r50)]) dX12_had_80 (by decide) rfl ?_
            refine M_aload_n (pc := 82) dX12_had_82 rfl ?_
            refine M_getR (pc := 83) dX12_had_83 f_X12_13 at_11 (gc_205_1 hp).1 ?_
            refine M_iload_n (pc := 86) dX12_had_86 rfl ?_
            refine M_iconst (pc := 87) (v := 5) dX12_had_87 (by decide) ?_
            obtain ⟨r52, hr53, h⟩ := bnd h
            refine M_callSi (pc := 88) dX12_had_88 s_X12_66 rfl rfl (Nat.le_of_ble_eq_true rfl) (C_X12_at (d := d + 1) hp hr53) (Nat.le_refl _) ?_
            refine M_iload_n (pc := 91) dX12_had_91 rfl ?_
            obtain ⟨hq54, h⟩ := chk h
            refine M_iast (pc := 92) dX12_had_92 (gc_205_1 hp).2 (inB_in hq54) ?_
            refine M_aload_n (pc := 93) dX12_had_93 rfl ?_
            refine M_getR (pc := 94) dX12_had_94 f_X12_13 at_11 (gc_205_1 hp).1 ?_
            refine M_iload_n (pc := 97) dX12_had_97 rfl ?_
            refine M_bipush (pc := 98) (v := 6) dX12_had_98 (by decide) ?_
            obtain ⟨r55, hr56, h⟩ := bnd h
            refine M_callSi (pc := 100) dX12_had_100 s_X12_66 rfl rfl (Nat.le_of_ble_eq_true rfl) (C_X12_at (d := d + 1) hp hr56) (Nat.le_refl _) ?_
            refine M_iload_n (pc := 103) dX12_had_103 rfl ?_
            obtain ⟨hq57, h⟩ := chk h
            refine M_iast (pc := 104) dX12_had_104 (gc_205_1 hp).2 (inB_in hq57) ?_
            refine M_aload_n (pc := 105) dX12_had_105 rfl ?_
            refine M_getR (pc := 106) dX12_had_106 f_X12_13 at_11 (gc_205_1 hp).1 ?_
            refine M_iload_n (pc := 109) dX12_had_109 rfl ?_
            refine M_bipush (pc := 110) (v := 7) dX12_had_110 (by decide) ?_
            obtain ⟨r58, hr59, h⟩ := bnd h
            refine M_callSi (pc := 112) dX12_had_112 s_X12_66 rfl rfl (Nat.le_of_ble_eq_true rfl) (C_X12_at (d := d + 1) hp hr59) (Nat.le_refl _) ?_
            refine M_iload (pc := 115) dX12_had_115 rfl ?_
            obtain ⟨hq60, h⟩ := chk h
            refine M_iast (pc := 117) dX12_had_117 (gc_205_1 hp).2 (inB_in hq60) ?_
            refine M_iload (pc := 118) dX12_had_118 rfl ?_
            obtain rfl := Option.some.inj h
            exact M_iret (pc := 120) dX12_had_120 rfl rfl rfl rfl
          · have h := (if_neg hc47).symm.trans h
            refine M_iconst (pc := 68) (v := 0) dX12_had_68 (by decide) ?_
            obtain rfl := Option.some.inj h
            exact M_iret (pc := 69) dX12_had_69 rfl rfl rfl rfl
  · have h := (if_pos hc3).symm.trans h
    refine M_iload_n (pc := 14) dX12_had_14 rfl ?_
    obtain ⟨r61, hr62, h⟩ := bnd h
    refine M_callSi (pc := 15) dX12_had_15 s_X12_314 rfl rfl (Nat.le_of_ble_eq_true rfl) (C_X12_noPlace (d := d + 0) hp hr62) (Nat.le_refl _) ?_
    refine M_if_eq (pc := 18) (tgt := 25) dX12_had_18 (by decide) (fun hc63 => ?_) (fun hc63 => ?_)
    · have h := (if_pos hc63).symm.trans h
      refine M_iconst (pc := 25) (v := 0) dX12_had_25 (by decide) ?_
      refine M_iconst (pc := 26) (v := 1) dX12_had_26 (by decide) ?_
      obtain ⟨r64, hr65, h⟩ := bnd h
      refine M_callVi (pc := 27) dX12_had_27 v_X12_243 rfl rfl at_11 (Nat.le_of_ble_eq_true rfl) (C_X12_throwsIf (d := d + 1) hp hr65) (Nat.le_refl _) ?_
      refine M_if_ne (pc := 30) (tgt := 68) dX12_had_30 (by decide) (fun hc66 => ?_) (fun hc66 => ?_)
      · have h := (if_neg hc66).symm.trans h
        refine M_iconst (pc := 68) (v := 0) dX12_had_68 (by decide) ?_
        obtain rfl := Option.some.inj h
        exact M_iret (pc := 69) dX12_had_69 rfl rfl rfl rfl
      · have h := (if_pos hc66).symm.trans h
        refine M_aload_n (pc := 33) dX12_had_33 rfl ?_
        refine M_iload_n (pc := 34) dX12_had_34 rfl ?_
        refine M_iconst (pc := 35) (v := 0) dX12_had_35 (by decide) ?_
        refine M_sipush (pc := 36) (v := 9999) dX12_had_36 (by decide) ?_
        obtain ⟨r67, hr68, h⟩ := bnd h
        refine M_callSi (pc := 39) dX12_had_39 s_X12_73 rfl rfl (Nat.le_of_ble_eq_true rfl) (C_X12_in (d := d + 1) hp hr68) (Nat.le_refl _) ?_
        refine M_if_eq (pc := 42) (tgt := 56) dX12_had_42 (by decide) (fun hc69 => ?_) (fun hc69 => ?_)
        · have h := (if_pos hc69).symm.trans h
          refine M_iconst (pc := 56) (v := 1) dX12_had_56 (by decide) ?_
          refine M_goto (pc := 57) (tgt := 61) dX12_had_57 (by decide) ?_
          refine M_iconst (pc := 61) (v := 2) dX12_had_61 (by decide) ?_
          obtain ⟨r70, hr71, h⟩ := bnd h
          refine M_callVi (pc := 62) dX12_had_62 v_X12_243 rfl rfl at_11 (Nat.le_of_ble_eq_true rfl) (C_X12_throwsIf (d := d + 1) hp hr71) (Nat.le_refl _) ?_
          refine M_if_eq (pc := 65) (tgt := 70) dX12_had_65 (by decide) (fun hc72 => ?_) (fun hc72 => ?_)
          · have h := (if_pos hc72).symm.trans h
            refine M_aload_n (pc := 70) dX12_had_70 rfl ?_
            obtain ⟨r73, hr74, h⟩ := bnd h
            refine M_callVv (pc := 71) dX12_had_71 v_X12_311 rfl rfl at_11 (Nat.le_of_ble_eq_true rfl) (C_X12_remembers (d := d + 1) hp hr74) (Nat.le_refl _) ?_
            refine M_aload_n (pc := 74) dX12_had_74 rfl ?_
            refine M_iload_n (pc := 75) dX12_had_75 rfl ?_
            refine M_iconst (pc := 76) (v := 5) dX12_had_76 (by decide) ?_
            obtain ⟨r75, hr76, h⟩ := bnd h
            refine M_callVi (pc := 77) dX12_had_77 v_X12_70 rfl rfl at_11 (Nat.le_of_ble_eq_true rfl) (C_X12_of (d := d + 0) hp hr76) (Nat.le_refl _) ?_
            refine M_istore (pc := 80) (ls' := [some (.ref 205), some (.int x1), some (.int x2), some (.int x3), some (.int x4), some (.int r75)]) dX12_had_80 (by decide) rfl ?_
            refine M_aload_n (pc := 82) dX12_had_82 rfl ?_
            refine M_getR (pc := 83) dX12_had_83 f_X12_13 at_11 (gc_205_1 hp).1 ?_
            refine M_iload_n (pc := 86) dX12_had_86 rfl ?_
            refine M_iconst (pc := 87) (v := 5) dX12_had_87 (by decide) ?_
            obtain ⟨r77, hr78, h⟩ := bnd h
            refine M_callSi (pc := 88) dX12_had_88 s_X12_66 rfl rfl (Nat.le_of_ble_eq_true rfl) (C_X12_at (d := d + 1) hp hr78) (Nat.le_refl _) ?_
            refine M_iload_n (pc := 91) dX12_had_91 rfl ?_
            obtain ⟨hq79, h⟩ := chk h
            refine M_iast (pc := 92) dX12_had_92 (gc_205_1 hp).2 (inB_in hq79) ?_
            refine M_aload_n (pc := 93) dX12_had_93 rfl ?_
            refine M_getR (pc := 94) dX12_had_94 f_X12_13 at_11 (gc_205_1 hp).1 ?_
            refine M_iload_n (pc := 97) dX12_had_97 rfl ?_
            refine M_bipush (pc := 98) (v := 6) dX12_had_98 (by decide) ?_
            obtain ⟨r80, hr81, h⟩ := bnd h
            refine M_callSi (pc := 100) dX12_had_100 s_X12_66 rfl rfl (Nat.le_of_ble_eq_true rfl) (C_X12_at (d := d + 1) hp hr81) (Nat.le_refl _) ?_
            refine M_iload_n (pc := 103) dX12_had_103 rfl ?_
            obtain ⟨hq82, h⟩ := chk h
            refine M_iast (pc := 104) dX12_had_104 (gc_205_1 hp).2 (inB_in hq82) ?_
            refine M_aload_n (pc := 105) dX12_had_105 rfl ?_
            refine M_getR (pc := 106) dX12_had_106 f_X12_13 at_11 (gc_205_1 hp).1 ?_
            refine M_iload_n (pc := 109) dX12_had_109 rfl ?_
            refine M_bipush (pc := 110) (v := 7) dX12_had_110 (by decide) ?_
            obtain ⟨r83, hr84, h⟩ := bnd h
            refine M_callSi (pc := 112) dX12_had_112 s_X12_66 rfl rfl (Nat.le_of_ble_eq_true rfl) (C_X12_at (d := d + 1) hp hr84) (Nat.le_refl _) ?_
            refine M_iload (pc := 115) dX12_had_115 rfl ?_
            obtain ⟨hq85, h⟩ := chk h
            refine M_iast (pc := 117) dX12_had_117 (gc_205_1 hp).2 (inB_in hq85) ?_
            refine M_iload (pc := 118) dX12_had_118 rfl ?_
            obtain rfl := Option.some.inj h
            exact M_iret (pc := 120) dX12_had_120 rfl rfl rfl rfl
          · have h := (if_neg hc72).symm.trans h
            refine M_iconst (pc := 68) (v := 0) dX12_had_68 (by decide) ?_
            obtain rfl := Option.some.inj h
            exact M_iret (pc := 69) dX12_had_69 rfl rfl rfl rfl
        · have h := (if_neg hc69).symm.trans h
          refine M_iload (pc := 45) dX12_had_45 rfl ?_
          refine M_iconst (pc := 47) (v := -1) dX12_had_47 (by decide) ?_
          refine M_bipush (pc := 48) (v := 7) dX12_had_48 (by decide) ?_
          obtain ⟨r86, hr87, h⟩ := bnd h
          refine M_callSi (pc := 50) dX12_had_50 s_X12_73 rfl rfl (Nat.le_of_ble_eq_true rfl) (C_X12_in (d := d + 1) hp hr87) (Nat.le_refl _) ?_
          refine M_if_ne (pc := 53) (tgt := 60) dX12_had_53 (by decide) (fun hc88 => ?_) (fun hc88 => ?_)
          · have h := (if_neg hc88).symm.trans h
            refine M_iconst (pc := 60) (v := 0) dX12_had_60 (by decide) ?_
            refine M_iconst (pc := 61) (v := 2) dX12_had_61 (by decide) ?_
            obtain ⟨r89, hr90, h⟩ := bnd h
            refine M_callVi (pc := 62) dX12_had_62 v_X12_243 rfl rfl at_11 (Nat.le_of_ble_eq_true rfl) (C_X12_throwsIf (d := d + 1) hp hr90) (Nat.le_refl _) ?_
            refine M_if_eq (pc := 65) (tgt := 70) dX12_had_65 (by decide) (fun hc91 => ?_) (fun hc91 => ?_)
            · have h := (if_pos hc91).symm.trans h
              refine M_aload_n (pc := 70) dX12_had_70 rfl ?_
              obtain ⟨r92, hr93, h⟩ := bnd h
              refine M_callVv (pc := 71) dX12_had_71 v_X12_311 rfl rfl at_11 (Nat.le_of_ble_eq_true rfl) (C_X12_remembers (d := d + 1) hp hr93) (Nat.le_refl _) ?_
              refine M_aload_n (pc := 74) dX12_had_74 rfl ?_
              refine M_iload_n (pc := 75) dX12_had_75 rfl ?_
              refine M_iconst (pc := 76) (v := 5) dX12_had_76 (by decide) ?_
              obtain ⟨r94, hr95, h⟩ := bnd h
              refine M_callVi (pc := 77) dX12_had_77 v_X12_70 rfl rfl at_11 (Nat.le_of_ble_eq_true rfl) (C_X12_of (d := d + 0) hp hr95) (Nat.le_refl _) ?_
              refine M_istore (pc := 80) (ls' := [some (.ref 205), some (.int x1), some (.int x2), some (.int x3), some (.int x4), some (.int r94)]) dX12_had_80 (by decide) rfl ?_
              refine M_aload_n (pc := 82) dX12_had_82 rfl ?_
              refine M_getR (pc := 83) dX12_had_83 f_X12_13 at_11 (gc_205_1 hp).1 ?_
              refine M_iload_n (pc := 86) dX12_had_86 rfl ?_
              refine M_iconst (pc := 87) (v := 5) dX12_had_87 (by decide) ?_
              obtain ⟨r96, hr97, h⟩ := bnd h
              refine M_callSi (pc := 88) dX12_had_88 s_X12_66 rfl rfl (Nat.le_of_ble_eq_true rfl) (C_X12_at (d := d + 1) hp hr97) (Nat.le_refl _) ?_
              refine M_iload_n (pc := 91) dX12_had_91 rfl ?_
              obtain ⟨hq98, h⟩ := chk h
              refine M_iast (pc := 92) dX12_had_92 (gc_205_1 hp).2 (inB_in hq98) ?_
              refine M_aload_n (pc := 93) dX12_had_93 rfl ?_
              refine M_getR (pc := 94) dX12_had_94 f_X12_13 at_11 (gc_205_1 hp).1 ?_
              refine M_iload_n (pc := 97) dX12_had_97 rfl ?_
              refine M_bipush (pc := 98) (v := 6) dX12_had_98 (by decide) ?_
              obtain ⟨r99, hr100, h⟩ := bnd h
              refine M_callSi (pc := 100) dX12_had_100 s_X12_66 rfl rfl (Nat.le_of_ble_eq_true rfl) (C_X12_at (d := d + 1) hp hr100) (Nat.le_refl _) ?_
              refine M_iload_n (pc := 103) dX12_had_103 rfl ?_
              obtain ⟨hq101, h⟩ := chk h
              refine M_iast (pc := 104) dX12_had_104 (gc_205_1 hp).2 (inB_in hq101) ?_
              refine M_aload_n (pc := 105) dX12_had_105 rfl ?_
              refine M_getR (pc := 106) dX12_had_106 f_X12_13 at_11 (gc_205_1 hp).1 ?_
              refine M_iload_n (pc := 109) dX12_had_109 rfl ?_
              refine M_bipush (pc := 110) (v := 7) dX12_had_110 (by decide) ?_
              obtain ⟨r102, hr103, h⟩ := bnd h
              refine M_callSi (pc := 112) dX12_had_112 s_X12_66 rfl rfl (Nat.le_of_ble_eq_true rfl) (C_X12_at (d := d + 1) hp hr103) (Nat.le_refl _) ?_
              refine M_iload (pc := 115) dX12_had_115 rfl ?_
              obtain ⟨hq104, h⟩ := chk h
              refine M_iast (pc := 117) dX12_had_117 (gc_205_1 hp).2 (inB_in hq104) ?_
              refine M_iload (pc := 118) dX12_had_118 rfl ?_
              obtain rfl := Option.some.inj h
              exact M_iret (pc := 120) dX12_had_120 rfl rfl rfl rfl
            · have h := (if_neg hc91).symm.trans h
              refine M_iconst (pc := 68) (v := 0) dX12_had_68 (by decide) ?_
              obtain rfl := Option.some.inj h
              exact M_iret (pc := 69) dX12_had_69 rfl rfl rfl rfl
          · have h := (if_pos hc88).symm.trans h
            refine M_iconst (pc := 56) (v := 1) dX12_had_56 (by decide) ?_
            refine M_goto (pc := 57) (tgt := 61) dX12_had_57 (by decide) ?_
            refine M_iconst (pc := 61) (v := 2) dX12_had_61 (by decide) ?_
            obtain ⟨r105, hr106, h⟩ := bnd h
            refine M_callVi (pc := 62) dX12_had_62 v_X12_243 rfl rfl at_11 (Nat.le_of_ble_eq_true rfl) (C_X12_throwsIf (d := d + 1) hp hr106) (Nat.le_refl _) ?_
            refine M_if_eq (pc := 65) (tgt := 70) dX12_had_65 (by decide) (fun hc107 => ?_) (fun hc107 => ?_)
            · have h := (if_pos hc107).symm.trans h
              refine M_aload_n (pc := 70) dX12_had_70 rfl ?_
              obtain ⟨r108, hr109, h⟩ := bnd h
              refine M_callVv (pc := 71) dX12_had_71 v_X12_311 rfl rfl at_11 (Nat.le_of_ble_eq_true rfl) (C_X12_remembers (d := d + 1) hp hr109) (Nat.le_refl _) ?_
              refine M_aload_n (pc := 74) dX12_had_74 rfl ?_
              refine M_iload_n (pc := 75) dX12_had_75 rfl ?_
              refine M_iconst (pc := 76) (v := 5) dX12_had_76 (by decide) ?_
              obtain ⟨r110, hr111, h⟩ := bnd h
              refine M_callVi (pc := 77) dX12_had_77 v_X12_70 rfl rfl at_11 (Nat.le_of_ble_eq_true rfl) (C_X12_of (d := d + 0) hp hr111) (Nat.le_refl _) ?_
              refine M_istore (pc := 80) (ls' := [some (.ref 205), some (.int x1), some (.int x2), some (.int x3), some (.int x4), some (.int r110)]) dX12_had_80 (by decide) rfl ?_
              refine M_aload_n (pc := 82) dX12_had_82 rfl ?_
              refine M_getR (pc := 83) dX12_had_83 f_X12_13 at_11 (gc_205_1 hp).1 ?_
              refine M_iload_n (pc := 86) dX12_had_86 rfl ?_
              refine M_iconst (pc := 87) (v := 5) dX12_had_87 (by decide) ?_
              obtain ⟨r112, hr113, h⟩ := bnd h
              refine M_callSi (pc := 88) dX12_had_88 s_X12_66 rfl rfl (Nat.le_of_ble_eq_true rfl) (C_X12_at (d := d + 1) hp hr113) (Nat.le_refl _) ?_
              refine M_iload_n (pc := 91) dX12_had_91 rfl ?_
              obtain ⟨hq114, h⟩ := chk h
              refine M_iast (pc := 92) dX12_had_92 (gc_205_1 hp).2 (inB_in hq114) ?_
              refine M_aload_n (pc := 93) dX12_had_93 rfl ?_
              refine M_getR (pc := 94) dX12_had_94 f_X12_13 at_11 (gc_205_1 hp).1 ?_
              refine M_iload_n (pc := 97) dX12_had_97 rfl ?_
              refine M_bipush (pc := 98) (v := 6) dX12_had_98 (by decide) ?_
              obtain ⟨r115, hr116, h⟩ := bnd h
              refine M_callSi (pc := 100) dX12_had_100 s_X12_66 rfl rfl (Nat.le_of_ble_eq_true rfl) (C_X12_at (d := d + 1) hp hr116) (Nat.le_refl _) ?_
              refine M_iload_n (pc := 103) dX12_had_103 rfl ?_
              obtain ⟨hq117, h⟩ := chk h
              refine M_iast (pc := 104) dX12_had_104 (gc_205_1 hp).2 (inB_in hq117) ?_
              refine M_aload_n (pc := 105) dX12_had_105 rfl ?_
              refine M_getR (pc := 106) dX12_had_106 f_X12_13 at_11 (gc_205_1 hp).1 ?_
              refine M_iload_n (pc := 109) dX12_had_109 rfl ?_
              refine M_bipush (pc := 110) (v := 7) dX12_had_110 (by decide) ?_
              obtain ⟨r118, hr119, h⟩ := bnd h
              refine M_callSi (pc := 112) dX12_had_112 s_X12_66 rfl rfl (Nat.le_of_ble_eq_true rfl) (C_X12_at (d := d + 1) hp hr119) (Nat.le_refl _) ?_
              refine M_iload (pc := 115) dX12_had_115 rfl ?_
              obtain ⟨hq120, h⟩ := chk h
              refine M_iast (pc := 117) dX12_had_117 (gc_205_1 hp).2 (inB_in hq120) ?_
              refine M_iload (pc := 118) dX12_had_118 rfl ?_
              obtain rfl := Option.some.inj h
              exact M_iret (pc := 120) dX12_had_120 rfl rfl rfl rfl
            · have h := (if_neg hc107).symm.trans h
              refine M_iconst (pc := 68) (v := 0) dX12_had_68 (by decide) ?_
              obtain rfl := Option.some.inj h
              exact M_iret (pc := 69) dX12_had_69 rfl rfl rfl rfl
    · have h := (if_neg hc63).symm.trans h
      refine M_iconst (pc := 21) (v := 1) dX12_had_21 (by decide) ?_
      refine M_goto (pc := 22) (tgt := 26) dX12_had_22 (by decide) ?_
      refine M_iconst (pc := 26) (v := 1) dX12_had_26 (by decide) ?_
      obtain ⟨r121, hr122, h⟩ := bnd h
      refine M_callVi (pc := 27) dX12_had_27 v_X12_243 rfl rfl at_11 (Nat.le_of_ble_eq_true rfl) (C_X12_throwsIf (d := d + 1) hp hr122) (Nat.le_refl _) ?_
      refine M_if_ne (pc := 30) (tgt := 68) dX12_had_30 (by decide) (fun hc123 => ?_) (fun hc123 => ?_)
      · have h := (if_neg hc123).symm.trans h
        refine M_iconst (pc := 68) (v := 0) dX12_had_68 (by decide) ?_
        obtain rfl := Option.some.inj h
        exact M_iret (pc := 69) dX12_had_69 rfl rfl rfl rfl
      · have h := (if_pos hc123).symm.trans h
        refine M_aload_n (pc := 33) dX12_had_33 rfl ?_
        refine M_iload_n (pc := 34) dX12_had_34 rfl ?_
        refine M_iconst (pc := 35) (v := 0) dX12_had_35 (by decide) ?_
        refine M_sipush (pc := 36) (v := 9999) dX12_had_36 (by decide) ?_
        obtain ⟨r124, hr125, h⟩ := bnd h
        refine M_callSi (pc := 39) dX12_had_39 s_X12_73 rfl rfl (Nat.le_of_ble_eq_true rfl) (C_X12_in (d := d + 1) hp hr125) (Nat.le_refl _) ?_
        refine M_if_eq (pc := 42) (tgt := 56) dX12_had_42 (by decide) (fun hc126 => ?_) (fun hc126 => ?_)
        · have h := (if_pos hc126).symm.trans h
          refine M_iconst (pc := 56) (v := 1) dX12_had_56 (by decide) ?_
          refine M_goto (pc := 57) (tgt := 61) dX12_had_57 (by decide) ?_
          refine M_iconst (pc := 61) (v := 2) dX12_had_61 (by decide) ?_
          obtain ⟨r127, hr128, h⟩ := bnd h
          refine M_callVi (pc := 62) dX12_had_62 v_X12_243 rfl rfl at_11 (Nat.le_of_ble_eq_true rfl) (C_X12_throwsIf (d := d + 1) hp hr128) (Nat.le_refl _) ?_
          refine M_if_eq (pc := 65) (tgt := 70) dX12_had_65 (by decide) (fun hc129 => ?_) (fun hc129 => ?_)
          · have h := (if_pos hc129).symm.trans h
            refine M_aload_n (pc := 70) dX12_had_70 rfl ?_
            obtain ⟨r130, hr131, h⟩ := bnd h
            refine M_callVv (pc := 71) dX12_had_71 v_X12_311 rfl rfl at_11 (Nat.le_of_ble_eq_true rfl) (C_X12_remembers (d := d + 1) hp hr131) (Nat.le_refl _) ?_
            refine M_aload_n (pc := 74) dX12_had_74 rfl ?_
            refine M_iload_n (pc := 75) dX12_had_75 rfl ?_
            refine M_iconst (pc := 76) (v := 5) dX12_had_76 (by decide) ?_
            obtain ⟨r132, hr133, h⟩ := bnd h
            refine M_callVi (pc := 77) dX12_had_77 v_X12_70 rfl rfl at_11 (Nat.le_of_ble_eq_true rfl) (C_X12_of (d := d + 0) hp hr133) (Nat.le_refl _) ?_
            refine M_istore (pc := 80) (ls' := [some (.ref 205), some (.int x1), some (.int x2), some (.int x3), some (.int x4), some (.int r132)]) dX12_had_80 (by decide) rfl ?_
            refine M_aload_n (pc := 82) dX12_had_82 rfl ?_
            refine M_getR (pc := 83) dX12_had_83 f_X12_13 at_11 (gc_205_1 hp).1 ?_
            refine M_iload_n (pc := 86) dX12_had_86 rfl ?_
            refine M_iconst (pc := 87) (v := 5) dX12_had_87 (by decide) ?_
            obtain ⟨r134, hr135, h⟩ := bnd h
            refine M_callSi (pc := 88) dX12_had_88 s_X12_66 rfl rfl (Nat.le_of_ble_eq_true rfl) (C_X12_at (d := d + 1) hp hr135) (Nat.le_refl _) ?_
            refine M_iload_n (pc := 91) dX12_had_91 rfl ?_
            obtain ⟨hq136, h⟩ := chk h
            refine M_iast (pc := 92) dX12_had_92 (gc_205_1 hp).2 (inB_in hq136) ?_
            refine M_aload_n (pc := 93) dX12_had_93 rfl ?_
            refine M_getR (pc := 94) dX12_had_94 f_X12_13 at_11 (gc_205_1 hp).1 ?_
            refine M_iload_n (pc := 97) dX12_had_97 rfl ?_
            refine M_bipush (pc := 98) (v := 6) dX12_had_98 (by decide) ?_
            obtain ⟨r137, hr138, h⟩ := bnd h
            refine M_callSi (pc := 100) dX12_had_100 s_X12_66 rfl rfl (Nat.le_of_ble_eq_true rfl) (C_X12_at (d := d + 1) hp hr138) (Nat.le_refl _) ?_
            refine M_iload_n (pc := 103) dX12_had_103 rfl ?_
            obtain ⟨hq139, h⟩ := chk h
            refine M_iast (pc := 104) dX12_had_104 (gc_205_1 hp).2 (inB_in hq139) ?_
            refine M_aload_n (pc := 105) dX12_had_105 rfl ?_
            refine M_getR (pc := 106) dX12_had_106 f_X12_13 at_11 (gc_205_1 hp).1 ?_
            refine M_iload_n (pc := 109) dX12_had_109 rfl ?_
            refine M_bipush (pc := 110) (v := 7) dX12_had_110 (by decide) ?_
            obtain ⟨r140, hr141, h⟩ := bnd h
            refine M_callSi (pc := 112) dX12_had_112 s_X12_66 rfl rfl (Nat.le_of_ble_eq_true rfl) (C_X12_at (d := d + 1) hp hr141) (Nat.le_refl _) ?_
            refine M_iload (pc := 115) dX12_had_115 rfl ?_
            obtain ⟨hq142, h⟩ := chk h
            refine M_iast (pc := 117) dX12_had_117 (gc_205_1 hp).2 (inB_in hq142) ?_
            refine M_iload (pc := 118) dX12_had_118 rfl ?_
            obtain rfl := Option.some.inj h
            exact M_iret (pc := 120) dX12_had_120 rfl rfl rfl rfl
          · have h := (if_neg hc129).symm.trans h
            refine M_iconst (pc := 68) (v := 0) dX12_had_68 (by decide) ?_
            obtain rfl := Option.some.inj h
            exact M_iret (pc := 69) dX12_had_69 rfl rfl rfl rfl
        · have h := (if_neg hc126).symm.trans h
          refine M_iload (pc := 45) dX12_had_45 rfl ?_
          refine M_iconst (pc := 47) (v := -1) dX12_had_47 (by decide) ?_
          refine M_bipush (pc := 48) (v := 7) dX12_had_48 (by decide) ?_
          obtain ⟨r143, hr144, h⟩ := bnd h
          refine M_callSi (pc := 50) dX12_had_50 s_X12_73 rfl rfl (Nat.le_of_ble_eq_true rfl) (C_X12_in (d := d + 1) hp hr144) (Nat.le_refl _) ?_
          refine M_if_ne (pc := 53) (tgt := 60) dX12_had_53 (by decide) (fun hc145 => ?_) (fun hc145 => ?_)
          · have h := (if_neg hc145).symm.trans h
            refine M_iconst (pc := 60) (v := 0) dX12_had_60 (by decide) ?_
            refine M_iconst (pc := 61) (v := 2) dX12_had_61 (by decide) ?_
            obtain ⟨r146, hr147, h⟩ := bnd h
            refine M_callVi (pc := 62) dX12_had_62 v_X12_243 rfl rfl at_11 (Nat.le_of_ble_eq_true rfl) (C_X12_throwsIf (d := d + 1) hp hr147) (Nat.le_refl _) ?_
            refine M_if_eq (pc := 65) (tgt := 70) dX12_had_65 (by decide) (fun hc148 => ?_) (fun hc148 => ?_)
            · have h := (if_pos hc148).symm.trans h
              refine M_aload_n (pc := 70) dX12_had_70 rfl ?_
              obtain ⟨r149, hr150, h⟩ := bnd h
              refine M_callVv (pc := 71) dX12_had_71 v_X12_311 rfl rfl at_11 (Nat.le_of_ble_eq_true rfl) (C_X12_remembers (d := d + 1) hp hr150) (Nat.le_refl _) ?_
              refine M_aload_n (pc := 74) dX12_had_74 rfl ?_
              refine M_iload_n (pc := 75) dX12_had_75 rfl ?_
              refine M_iconst (pc := 76) (v := 5) dX12_had_76 (by decide) ?_
              obtain ⟨r151, hr152, h⟩ := bnd h
              refine M_callVi (pc := 77) dX12_had_77 v_X12_70 rfl rfl at_11 (Nat.le_of_ble_eq_true rfl) (C_X12_of (d := d + 0) hp hr152) (Nat.le_refl _) ?_
              refine M_istore (pc := 80) (ls' := [some (.ref 205), some (.int x1), some (.int x2), some (.int x3), some (.int x4), some (.int r151)]) dX12_had_80 (by decide) rfl ?_
              refine M_aload_n (pc := 82) dX12_had_82 rfl ?_
              refine M_getR (pc := 83) dX12_had_83 f_X12_13 at_11 (gc_205_1 hp).1 ?_
              refine M_iload_n (pc := 86) dX12_had_86 rfl ?_
              refine M_iconst (pc := 87) (v := 5) dX12_had_87 (by decide) ?_
              obtain ⟨r153, hr154, h⟩ := bnd h
              refine M_callSi (pc := 88) dX12_had_88 s_X12_66 rfl rfl (Nat.le_of_ble_eq_true rfl) (C_X12_at (d := d + 1) hp hr154) (Nat.le_refl _) ?_
              refine M_iload_n (pc := 91) dX12_had_91 rfl ?_
              obtain ⟨hq155, h⟩ := chk h
              refine M_iast (pc := 92) dX12_had_92 (gc_205_1 hp).2 (inB_in hq155) ?_
              refine M_aload_n (pc := 93) dX12_had_93 rfl ?_
              refine M_getR (pc := 94) dX12_had_94 f_X12_13 at_11 (gc_205_1 hp).1 ?_
              refine M_iload_n (pc := 97) dX12_had_97 rfl ?_
              refine M_bipush (pc := 98) (v := 6) dX12_had_98 (by decide) ?_
              obtain ⟨r156, hr157, h⟩ := bnd h
              refine M_callSi (pc := 100) dX12_had_100 s_X12_66 rfl rfl (Nat.le_of_ble_eq_true rfl) (C_X12_at (d := d + 1) hp hr157) (Nat.le_refl _) ?_
              refine M_iload_n (pc := 103) dX12_had_103 rfl ?_
              obtain ⟨hq158, h⟩ := chk h
              refine M_iast (pc := 104) dX12_had_104 (gc_205_1 hp).2 (inB_in hq158) ?_
              refine M_aload_n (pc := 105) dX12_had_105 rfl ?_
              refine M_getR (pc := 106) dX12_had_106 f_X12_13 at_11 (gc_205_1 hp).1 ?_
              refine M_iload_n (pc := 109) dX12_had_109 rfl ?_
              refine M_bipush (pc := 110) (v := 7) dX12_had_110 (by decide) ?_
              obtain ⟨r159, hr160, h⟩ := bnd h
              refine M_callSi (pc := 112) dX12_had_112 s_X12_66 rfl rfl (Nat.le_of_ble_eq_true rfl) (C_X12_at (d := d + 1) hp hr160) (Nat.le_refl _) ?_
              refine M_iload (pc := 115) dX12_had_115 rfl ?_
              obtain ⟨hq161, h⟩ := chk h
              refine M_iast (pc := 117) dX12_had_117 (gc_205_1 hp).2 (inB_in hq161) ?_
              refine M_iload (pc := 118) dX12_had_118 rfl ?_
              obtain rfl := Option.some.inj h
              exact M_iret (pc := 120) dX12_had_120 rfl rfl rfl rfl
            · have h := (if_neg hc148).symm.trans h
              refine M_iconst (pc := 68) (v := 0) dX12_had_68 (by decide) ?_
              obtain rfl := Option.some.inj h
              exact M_iret (pc := 69) dX12_had_69 rfl rfl rfl rfl
          · have h := (if_pos hc145).symm.trans h
            refine M_iconst (pc := 56) (v := 1) dX12_had_56 (by decide) ?_
            refine M_goto (pc := 57) (tgt := 61) dX12_had_57 (by decide) ?_
            refine M_iconst (pc := 61) (v := 2) dX12_had_61 (by decide) ?_
            obtain ⟨r162, hr163, h⟩ := bnd h
            refine M_callVi (pc := 62) dX12_had_62 v_X12_243 rfl rfl at_11 (Nat.le_of_ble_eq_true rfl) (C_X12_throwsIf (d := d + 1) hp hr163) (Nat.le_refl _) ?_
            refine M_if_eq (pc := 65) (tgt := 70) dX12_had_65 (by decide) (fun hc164 => ?_) (fun hc164 => ?_)
            · have h := (if_pos hc164).symm.trans h
              refine M_aload_n (pc := 70) dX12_had_70 rfl ?_
              obtain ⟨r165, hr166, h⟩ := bnd h
              refine M_callVv (pc := 71) dX12_had_71 v_X12_311 rfl rfl at_11 (Nat.le_of_ble_eq_true rfl) (C_X12_remembers (d := d + 1) hp hr166) (Nat.le_refl _) ?_
              refine M_aload_n (pc := 74) dX12_had_74 rfl ?_
              refine M_iload_n (pc := 75) dX12_had_75 rfl ?_
              refine M_iconst (pc := 76) (v := 5) dX12_had_76 (by decide) ?_
              obtain ⟨r167, hr168, h⟩ := bnd h
              refine M_callVi (pc := 77) dX12_had_77 v_X12_70 rfl rfl at_11 (Nat.le_of_ble_eq_true rfl) (C_X12_of (d := d + 0) hp hr168) (Nat.le_refl _) ?_
              refine M_istore (pc := 80) (ls' := [some (.ref 205), some (.int x1), some (.int x2), some (.int x3), some (.int x4), some (.int r167)]) dX12_had_80 (by decide) rfl ?_
              refine M_aload_n (pc := 82) dX12_had_82 rfl ?_
              refine M_getR (pc := 83) dX12_had_83 f_X12_13 at_11 (gc_205_1 hp).1 ?_
              refine M_iload_n (pc := 86) dX12_had_86 rfl ?_
              refine M_iconst (pc := 87) (v := 5) dX12_had_87 (by decide) ?_
              obtain ⟨r169, hr170, h⟩ := bnd h
              refine M_callSi (pc := 88) dX12_had_88 s_X12_66 rfl rfl (Nat.le_of_ble_eq_true rfl) (C_X12_at (d := d + 1) hp hr170) (Nat.le_refl _) ?_
              refine M_iload_n (pc := 91) dX12_had_91 rfl ?_
              obtain ⟨hq171, h⟩ := chk h
              refine M_iast (pc := 92) dX12_had_92 (gc_205_1 hp).2 (inB_in hq171) ?_
              refine M_aload_n (pc := 93) dX12_had_93 rfl ?_
              refine M_getR (pc := 94) dX12_had_94 f_X12_13 at_11 (gc_205_1 hp).1 ?_
              refine M_iload_n (pc := 97) dX12_had_97 rfl ?_
              refine M_bipush (pc := 98) (v := 6) dX12_had_98 (by decide) ?_
              obtain ⟨r172, hr173, h⟩ := bnd h
              refine M_callSi (pc := 100) dX12_had_100 s_X12_66 rfl rfl (Nat.le_of_ble_eq_true rfl) (C_X12_at (d := d + 1) hp hr173) (Nat.le_refl _) ?_
              refine M_iload_n (pc := 103) dX12_had_103 rfl ?_
              obtain ⟨hq174, h⟩ := chk h
              refine M_iast (pc := 104) dX12_had_104 (gc_205_1 hp).2 (inB_in hq174) ?_
              refine M_aload_n (pc := 105) dX12_had_105 rfl ?_
              refine M_getR (pc := 106) dX12_had_106 f_X12_13 at_11 (gc_205_1 hp).1 ?_
              refine M_iload_n (pc := 109) dX12_had_109 rfl ?_
              refine M_bipush (pc := 110) (v := 7) dX12_had_110 (by decide) ?_
              obtain ⟨r175, hr176, h⟩ := bnd h
              refine M_callSi (pc := 112) dX12_had_112 s_X12_66 rfl rfl (Nat.le_of_ble_eq_true rfl) (C_X12_at (d := d + 1) hp hr176) (Nat.le_refl _) ?_
              refine M_iload (pc := 115) dX12_had_115 rfl ?_
              obtain ⟨hq177, h⟩ := chk h
              refine M_iast (pc := 117) dX12_had_117 (gc_205_1 hp).2 (inB_in hq177) ?_
              refine M_iload (pc := 118) dX12_had_118 rfl ?_
              obtain rfl := Option.some.inj h
              exact M_iret (pc := 120) dX12_had_120 rfl rfl rfl rfl
            · have h := (if_neg hc164).symm.trans h
              refine M_iconst (pc := 68) (v := 0) dX12_had_68 (by decide) ?_
              obtain rfl := Option.some.inj h
              exact M_iret (pc := 69) dX12_had_69 rfl rfl rfl rfl
def L_X12_forget_46 (x1 : Int32) (x2 : Int32) (x3 : Int32) (I : HI) : Option (Int32 × HI) :=
  if (8 : Int32) ≤ x3 then some (x2, I) else (F_X12_at I x1 x3) >>= fun r16 => if inB r16 2051 = true then L_X12_forget_46 x1 x2 (x3 + (1 : Int32)) (up2 I 206 (r16).toNatClampNeg (-1 : Int32)) else none
partial_fixpoint
def F_X12_forget (I : HI) (x1 : Int32) : Option (Int32 × HI) :=
  (F_X12_noDish (up2 I 205 0 (0 : Int32)) x1) >>= fun r1 => (F_X12_throwsIf (up2 I 205 0 (0 : Int32)) r1 (1 : Int32)) >>= fun r3 => if r3.1 = 0 then (F_X12_isNew r3.2 x1) >>= fun r6 => (F_X12_throwsIf r3.2 r6 (2 : Int32)) >>= fun r8 => if r8.1 = 0 then (F_X12_remembers r8.2) >>= fun r11 => (F_X12_of r11 x1 (5 : Int32)) >>= fun r13 => L_X12_forget_46 x1 r13 (5 : Int32) r11 else some ((0 : Int32), r8.2) else some ((0 : Int32), r3.2)
set_option maxRecDepth 4000 in
set_option maxHeartbeats 4000000 in
theorem LC_X12_forget_46 {g : gX} {d : Nat} {P : Nat → Nat → Option Nat} {J : HJ} {x1 : Int32} {x2 : Int32} (hp : Wp P) : ∀ (x3 : Int32) (I : HI) (r : Int32 × HI), L_X12_forget_46 x1 x2 x3 I = some r → M g mX12_forget (d + 3) (NT, NT, 0) ((.inl (some (.int r.1))), (NT, r.2, J, P)) 46 [some (.ref 205), some (.int x1), some (.int x2), some (.int x3)] [] (NT, I, J, P) := by
  refine L_X12_forget_46.partial_correctness x1 x2 (fun x3 I r => M g mX12_forget (d + 3) (NT, NT, 0) ((.inl (some (.int r.1))), (NT, r.2, J, P)) 46 [some (.ref 205), some (.int x1), some (.int x2), some (.int x3)] [] (NT, I, J, P)) ?_
  intro f ih x3 I r h
  refine M_iload_n (pc := 46) dX12_forget_46 rfl ?_
  refine M_bipush (pc := 47) (v := 8) dX12_forget_47 (by decide) ?_
  refine M_icmp_ge (pc := 49) (tgt := 69) dX12_forget_49 (by decide) (fun hc15 => ?_) (fun hc15 => ?_)
  · have h := (if_pos hc15).symm.trans h
    refine M_iload_n (pc := 69) dX12_forget_69 rfl ?_
    obtain rfl := Option.some.inj h
    exact M_iret (pc := 70) dX12_forget_70 rfl rfl rfl rfl
  · have h := (if_neg hc15).symm.trans h
    refine M_aload_n (pc := 52) dX12_forget_52 rfl ?_
    refine M_getR (pc := 53) dX12_forget_53 f_X12_13 at_11 (gc_205_1 hp).1 ?_
    refine M_iload_n (pc := 56) dX12_forget_56 rfl ?_
    refine M_iload_n (pc := 57) dX12_forget_57 rfl ?_
    obtain ⟨r16, hr17, h⟩ := bnd h
    refine M_callSi (pc := 58) dX12_forget_58 s_X12_66 rfl rfl (Nat.le_of_ble_eq_true rfl) (C_X12_at (d := d + 2) hp hr17) (Nat.le_refl _) ?_
    refine M_iconst (pc := 61) (v := -1) dX12_forget_61 (by decide) ?_
    obtain ⟨hq18, h⟩ := chk h
    refine M_iast (pc := 62) dX12_forget_62 (gc_205_1 hp).2 (inB_in hq18) ?_
    refine M_iinc (pc := 63) (v := (x3 + (1 : Int32))) (ls' := [some (.ref 205), some (.int x1), some (.int x2), some (.int (x3 + (1 : Int32)))]) dX12_forget_63 rfl rfl (by decide) rfl ?_
    refine M_goto (pc := 66) (tgt := 46) dX12_forget_66 (by decide) ?_
    exact ih (x3 + (1 : Int32)) (up2 I 206 (r16).toNatClampNeg (-1 : Int32)) _ h
set_option maxRecDepth 4000 in
set_option maxHeartbeats 4000000 in
theorem C_X12_forget {g : gX} {d : Nat} {P : Nat → Nat → Option Nat} {I : HI} {x1 : Int32} {J : HJ} (hp : Wp P) {r : Int32 × HI} (h : F_X12_forget I x1 = some r) : Cm g mX12_forget (d + 3) [.ref 205, .int x1] (NT, I, J, P) (some (.int r.1)) (NT, r.2, J, P) := by
  unfold F_X12_forget at h
  refine Cm.of (by decide) (by simp [Value.category]) (Nat.le_of_ble_eq_true rfl) (Nat.le_refl _) (ls := [some (.ref 205), some (.int x1), none, none]) rfl ?_
  refine M_aload_n (pc := 0) dX12_forget_0 rfl ?_
  refine M_iconst (pc := 1) (v := 0) dX12_forget_1 (by decide) ?_
  refine M_putI (pc := 2) dX12_forget_2 f_X12_3 at_11 rfl ⟨rfl, rfl⟩ ?_
  refine M_aload_n (pc := 5) dX12_forget_5 rfl ?_
  refine M_aload_n (pc := 6) dX12_forget_6 rfl ?_
  refine M_iload_n (pc := 7) dX12_forget_7 rfl ?_
  obtain ⟨r1, hr2, h⟩ := bnd h
  refine M_callVi (pc := 8) dX12_forget_8 v_X12_278 rfl rfl at_11 (Nat.le_of_ble_eq_true rfl) (C_X12_noDish (d := d + 1) hp hr2) (Nat.le_refl _) ?_
  refine M_iconst (pc := 11) (v := 1) dX12_forget_11 (by decide) ?_
  obtain ⟨r3, hr4, h⟩ := bnd h
  refine M_callVi (pc := 12) dX12_forget_12 v_X12_243 rfl rfl at_11 (Nat.le_of_ble_eq_true rfl) (C_X12_throwsIf (d := d + 2) hp hr4) (Nat.le_refl _) ?_
  refine M_if_ne (pc := 15) (tgt := 31) dX12_forget_15 (by decide) (fun hc5 => ?_) (fun hc5 => ?_)
  · have h := (if_neg hc5).symm.trans h
    refine M_iconst (pc := 31) (v := 0) dX12_forget_31 (by decide) ?_
    obtain rfl := Option.some.inj h
    exact M_iret (pc := 32) dX12_forget_32 rfl rfl rfl rfl
  · have h := (if_pos hc5).symm.trans h
    refine M_aload_n (pc := 18) dX12_forget_18 rfl ?_
    refine M_aload_n (pc := 19) dX12_forget_19 rfl ?_
    refine M_iload_n (pc := 20) dX12_forget_20 rfl ?_
    obtain ⟨r6, hr7, h⟩ := bnd h
    refine M_callVi (pc := 21) dX12_forget_21 v_X12_252 rfl rfl at_11 (Nat.le_of_ble_eq_true rfl) (C_X12_isNew (d := d + 0) hp hr7) (Nat.le_refl _) ?_
    refine M_iconst (pc := 24) (v := 2) dX12_forget_24 (by decide) ?_
    obtain ⟨r8, hr9, h⟩ := bnd h
    refine M_callVi (pc := 25) dX12_forget_25 v_X12_243 rfl rfl at_11 (Nat.le_of_ble_eq_true rfl) (C_X12_throwsIf (d := d + 2) hp hr9) (Nat.le_refl _) ?_
    refine M_if_eq (pc := 28) (tgt := 33) dX12_forget_28 (by decide) (fun hc10 => ?_) (fun hc10 => ?_)
    · have h := (if_pos hc10).symm.trans h
      refine M_aload_n (pc := 33) dX12_forget_33 rfl ?_
      obtain ⟨r11, hr12, h⟩ := bnd h
      refine M_callVv (pc := 34) dX12_forget_34 v_X12_311 rfl rfl at_11 (Nat.le_of_ble_eq_true rfl) (C_X12_remembers (d := d + 2) hp hr12) (Nat.le_refl _) ?_
      refine M_aload_n (pc := 37) dX12_forget_37 rfl ?_
      refine M_iload_n (pc := 38) dX12_forget_38 rfl ?_
      refine M_iconst (pc := 39) (v := 5) dX12_forget_39 (by decide) ?_
      obtain ⟨r13, hr14, h⟩ := bnd h
      refine M_callVi (pc := 40) dX12_forget_40 v_X12_70 rfl rfl at_11 (Nat.le_of_ble_eq_true rfl) (C_X12_of (d := d + 1) hp hr14) (Nat.le_refl _) ?_
      refine M_istore_n (pc := 43) (ls' := [some (.ref 205), some (.int x1), some (.int r13), none]) dX12_forget_43 (by decide) rfl ?_
      refine M_iconst (pc := 44) (v := 5) dX12_forget_44 (by decide) ?_
      refine M_istore_n (pc := 45) (ls' := [some (.ref 205), some (.int x1), some (.int r13), some (.int (5 : Int32))]) dX12_forget_45 (by decide) rfl ?_
      exact LC_X12_forget_46 (P := P) hp (5 : Int32) r11 _ h
    · have h := (if_neg hc10).symm.trans h
      refine M_iconst (pc := 31) (v := 0) dX12_forget_31 (by decide) ?_
      obtain rfl := Option.some.inj h
      exact M_iret (pc := 32) dX12_forget_32 rfl rfl rfl rfl
def F_X12_reach (I : HI) (x1 : Int32) : Option (Int32 × HI) :=
  (F_X12_in (up2 I 205 0 (0 : Int32)) x1 (0 : Int32) (45 : Int32)) >>= fun r1 => if r1 = 0 then (F_X12_throwsIf (up2 I 205 0 (0 : Int32)) (1 : Int32) (1 : Int32)) >>= fun r9 => if r9.1 = 0 then (F_X12_remembers r9.2) >>= fun r12 => some ((r12 206 8), (up2 r12 206 8 x1)) else some ((0 : Int32), r9.2) else (F_X12_throwsIf (up2 I 205 0 (0 : Int32)) (0 : Int32) (1 : Int32)) >>= fun r4 => if r4.1 = 0 then (F_X12_remembers r4.2) >>= fun r7 => some ((r7 206 8), (up2 r7 206 8 x1)) else some ((0 : Int32), r4.2)
set_option maxRecDepth 4000 in
set_option maxHeartbeats 4000000 in
theorem C_X12_reach {g : gX} {d : Nat} {P : Nat → Nat → Option Nat} {I : HI} {x1 : Int32} {J : HJ} (hp : Wp P) {r : Int32 × HI} (h : F_X12_reach I x1 = some r) : Cm g mX12_reach (d + 1) [.ref 205, .int x1] (NT, I, J, P) (some (.int r.1)) (NT, r.2, J, P) := by
  unfold F_X12_reach at h
  refine Cm.of (by decide) (by simp [Value.category]) (Nat.le_of_ble_eq_true rfl) (Nat.le_refl _) (ls := [some (.ref 205), some (.int x1), none]) rfl ?_
  refine M_aload_n (pc := 0) dX12_reach_0 rfl ?_
  refine M_iconst (pc := 1) (v := 0) dX12_reach_1 (by decide) ?_
  refine M_putI (pc := 2) dX12_reach_2 f_X12_3 at_11 rfl ⟨rfl, rfl⟩ ?_
  refine M_aload_n (pc := 5) dX12_reach_5 rfl ?_
  refine M_iload_n (pc := 6) dX12_reach_6 rfl ?_
  refine M_iconst (pc := 7) (v := 0) dX12_reach_7 (by decide) ?_
  refine M_bipush (pc := 8) (v := 45) dX12_reach_8 (by decide) ?_
  obtain ⟨r1, hr2, h⟩ := bnd h
  refine M_callSi (pc := 10) dX12_reach_10 s_X12_73 rfl rfl (Nat.le_of_ble_eq_true rfl) (C_X12_in (d := d + 0) hp hr2) (Nat.le_refl _) ?_
  refine M_if_ne (pc := 13) (tgt := 20) dX12_reach_13 (by decide) (fun hc3 => ?_) (fun hc3 => ?_)
  · have h := (if_neg hc3).symm.trans h
    refine M_iconst (pc := 20) (v := 0) dX12_reach_20 (by decide) ?_
    refine M_iconst (pc := 21) (v := 1) dX12_reach_21 (by decide) ?_
    obtain ⟨r4, hr5, h⟩ := bnd h
    refine M_callVi (pc := 22) dX12_reach_22 v_X12_243 rfl rfl at_11 (Nat.le_of_ble_eq_true rfl) (C_X12_throwsIf (d := d + 0) hp hr5) (Nat.le_refl _) ?_
    refine M_if_eq (pc := 25) (tgt := 30) dX12_reach_25 (by decide) (fun hc6 => ?_) (fun hc6 => ?_)
    · have h := (if_pos hc6).symm.trans h
      refine M_aload_n (pc := 30) dX12_reach_30 rfl ?_
      obtain ⟨r7, hr8, h⟩ := bnd h
      refine M_callVv (pc := 31) dX12_reach_31 v_X12_311 rfl rfl at_11 (Nat.le_of_ble_eq_true rfl) (C_X12_remembers (d := d + 0) hp hr8) (Nat.le_refl _) ?_
      refine M_aload_n (pc := 34) dX12_reach_34 rfl ?_
      refine M_getR (pc := 35) dX12_reach_35 f_X12_13 at_11 (gc_205_1 hp).1 ?_
      refine M_bipush (pc := 38) (v := 8) dX12_reach_38 (by decide) ?_
      refine M_ildc (pc := 40) (j := 8) dX12_reach_40 (gc_205_1 hp).2 (by decide) (by decide) ?_
      refine M_istore_n (pc := 41) (ls' := [some (.ref 205), some (.int x1), some (.int (r7 206 8))]) dX12_reach_41 (by decide) rfl ?_
      refine M_aload_n (pc := 42) dX12_reach_42 rfl ?_
      refine M_getR (pc := 43) dX12_reach_43 f_X12_13 at_11 (gc_205_1 hp).1 ?_
      refine M_bipush (pc := 46) (v := 8) dX12_reach_46 (by decide) ?_
      refine M_iload_n (pc := 48) dX12_reach_48 rfl ?_
      refine M_istc (pc := 49) (j := 8) dX12_reach_49 (gc_205_1 hp).2 (by decide) (by decide) ?_
      refine M_iload_n (pc := 50) dX12_reach_50 rfl ?_
      obtain rfl := Option.some.inj h
      exact M_iret (pc := 51) dX12_reach_51 rfl rfl rfl rfl
    · have h := (if_neg hc6).symm.trans h
      refine M_iconst (pc := 28) (v := 0) dX12_reach_28 (by decide) ?_
      obtain rfl := Option.some.inj h
      exact M_iret (pc := 29) dX12_reach_29 rfl rfl rfl rfl
  · have h := (if_pos hc3).symm.trans h
    refine M_iconst (pc := 16) (v := 1) dX12_reach_16 (by decide) ?_
    refine M_goto (pc := 17) (tgt := 21) dX12_reach_17 (by decide) ?_
    refine M_iconst (pc := 21) (v := 1) dX12_reach_21 (by decide) ?_
    obtain ⟨r9, hr10, h⟩ := bnd h
    refine M_callVi (pc := 22) dX12_reach_22 v_X12_243 rfl rfl at_11 (Nat.le_of_ble_eq_true rfl) (C_X12_throwsIf (d := d + 0) hp hr10) (Nat.le_refl _) ?_
    refine M_if_eq (pc := 25) (tgt := 30) dX12_reach_25 (by decide) (fun hc11 => ?_) (fun hc11 => ?_)
    · have h := (if_pos hc11).symm.trans h
      refine M_aload_n (pc := 30) dX12_reach_30 rfl ?_
      obtain ⟨r12, hr13, h⟩ := bnd h
      refine M_callVv (pc := 31) dX12_reach_31 v_X12_311 rfl rfl at_11 (Nat.le_of_ble_eq_true rfl) (C_X12_remembers (d := d + 0) hp hr13) (Nat.le_refl _) ?_
      refine M_aload_n (pc := 34) dX12_reach_34 rfl ?_
      refine M_getR (pc := 35) dX12_reach_35 f_X12_13 at_11 (gc_205_1 hp).1 ?_
      refine M_bipush (pc := 38) (v := 8) dX12_reach_38 (by decide) ?_
      refine M_ildc (pc := 40) (j := 8) dX12_reach_40 (gc_205_1 hp).2 (by decide) (by decide) ?_
      refine M_istore_n (pc := 41) (ls' := [some (.ref 205), some (.int x1), some (.int (r12 206 8))]) dX12_reach_41 (by decide) rfl ?_
      refine M_aload_n (pc := 42) dX12_reach_42 rfl ?_
      refine M_getR (pc := 43) dX12_reach_43 f_X12_13 at_11 (gc_205_1 hp).1 ?_
      refine M_bipush (pc := 46) (v := 8) dX12_reach_46 (by decide) ?_
      refine M_iload_n (pc := 48) dX12_reach_48 rfl ?_
      refine M_istc (pc := 49) (j := 8) dX12_reach_49 (gc_205_1 hp).2 (by decide) (by decide) ?_
      refine M_iload_n (pc := 50) dX12_reach_50 rfl ?_
      obtain rfl := Option.some.inj h
      exact M_iret (pc := 51) dX12_reach_51 rfl rfl rfl rfl
    · have h := (if_neg hc11).symm.trans h
      refine M_iconst (pc := 28) (v := 0) dX12_reach_28 (by decide) ?_
      obtain rfl := Option.some.inj h
      exact M_iret (pc := 29) dX12_reach_29 rfl rfl rfl rfl
def F_X12_house (I : HI) (x1 : Int32) : Option (Int32 × HI) :=
  (F_X12_noPlace (up2 I 205 0 (0 : Int32)) x1) >>= fun r1 => (F_X12_throwsIf (up2 I 205 0 (0 : Int32)) r1 (1 : Int32)) >>= fun r3 => if r3.1 = 0 then (F_X12_remembers r3.2) >>= fun r6 => some ((r6 206 12), (up2 r6 206 12 x1)) else some ((0 : Int32), r3.2)
set_option maxRecDepth 4000 in
set_option maxHeartbeats 4000000 in
theorem C_X12_house {g : gX} {d : Nat} {P : Nat → Nat → Option Nat} {I : HI} {x1 : Int32} {J : HJ} (hp : Wp P) {r : Int32 × HI} (h : F_X12_house I x1 = some r) : Cm g mX12_house (d + 2) [.ref 205, .int x1] (NT, I, J, P) (some (.int r.1)) (NT, r.2, J, P) := by
  unfold F_X12_house at h
  refine Cm.of (by decide) (by simp [Value.category]) (Nat.le_of_ble_eq_true rfl) (Nat.le_refl _) (ls := [some (.ref 205), some (.int x1), none]) rfl ?_
  refine M_aload_n (pc := 0) dX12_house_0 rfl ?_
  refine M_iconst (pc := 1) (v := 0) dX12_house_1 (by decide) ?_
  refine M_putI (pc := 2) dX12_house_2 f_X12_3 at_11 rfl ⟨rfl, rfl⟩ ?_
  refine M_aload_n (pc := 5) dX12_house_5 rfl ?_
  refine M_iload_n (pc := 6) dX12_house_6 rfl ?_
  obtain ⟨r1, hr2, h⟩ := bnd h
  refine M_callSi (pc := 7) dX12_house_7 s_X12_314 rfl rfl (Nat.le_of_ble_eq_true rfl) (C_X12_noPlace (d := d + 0) hp hr2) (Nat.le_refl _) ?_
  refine M_iconst (pc := 10) (v := 1) dX12_house_10 (by decide) ?_
  obtain ⟨r3, hr4, h⟩ := bnd h
  refine M_callVi (pc := 11) dX12_house_11 v_X12_243 rfl rfl at_11 (Nat.le_of_ble_eq_true rfl) (C_X12_throwsIf (d := d + 1) hp hr4) (Nat.le_refl _) ?_
  refine M_if_eq (pc := 14) (tgt := 19) dX12_house_14 (by decide) (fun hc5 => ?_) (fun hc5 => ?_)
  · have h := (if_pos hc5).symm.trans h
    refine M_aload_n (pc := 19) dX12_house_19 rfl ?_
    obtain ⟨r6, hr7, h⟩ := bnd h
    refine M_callVv (pc := 20) dX12_house_20 v_X12_311 rfl rfl at_11 (Nat.le_of_ble_eq_true rfl) (C_X12_remembers (d := d + 1) hp hr7) (Nat.le_refl _) ?_
    refine M_aload_n (pc := 23) dX12_house_23 rfl ?_
    refine M_getR (pc := 24) dX12_house_24 f_X12_13 at_11 (gc_205_1 hp).1 ?_
    refine M_bipush (pc := 27) (v := 12) dX12_house_27 (by decide) ?_
    refine M_ildc (pc := 29) (j := 12) dX12_house_29 (gc_205_1 hp).2 (by decide) (by decide) ?_
    refine M_istore_n (pc := 30) (ls' := [some (.ref 205), some (.int x1), some (.int (r6 206 12))]) dX12_house_30 (by decide) rfl ?_
    refine M_aload_n (pc := 31) dX12_house_31 rfl ?_
    refine M_getR (pc := 32) dX12_house_32 f_X12_13 at_11 (gc_205_1 hp).1 ?_
    refine M_bipush (pc := 35) (v := 12) dX12_house_35 (by decide) ?_
    refine M_iload_n (pc := 37) dX12_house_37 rfl ?_
    refine M_istc (pc := 38) (j := 12) dX12_house_38 (gc_205_1 hp).2 (by decide) (by decide) ?_
    refine M_iload_n (pc := 39) dX12_house_39 rfl ?_
    obtain rfl := Option.some.inj h
    exact M_iret (pc := 40) dX12_house_40 rfl rfl rfl rfl
  · have h := (if_neg hc5).symm.trans h
    refine M_iconst (pc := 17) (v := 0) dX12_house_17 (by decide) ?_
    obtain rfl := Option.some.inj h
    exact M_iret (pc := 18) dX12_house_18 rfl rfl rfl rfl
def F_X12_look (I : HI) : Option (Int32 × HI) :=
  (F_X12_remembers (up2 I 205 0 (0 : Int32))) >>= fun r1 => (F_X12_drawn r1 (100 : Int32)) >>= fun r3 => if (r3.2 206 11) ≤ r3.1 then some ((((r1 206 4) / (10 : Int32)) + (0 : Int32)), r3.2) else some ((((r1 206 4) / (10 : Int32)) + (1 : Int32)), r3.2)
set_option maxRecDepth 4000 in
set_option maxHeartbeats 4000000 in
theorem C_X12_look {g : gX} {d : Nat} {P : Nat → Nat → Option Nat} {I : HI} {J : HJ} (hp : Wp P) {r : Int32 × HI} (h : F_X12_look I = some r) : Cm g mX12_look (d + 1) [.ref 205] (NT, I, J, P) (some (.int r.1)) (NT, r.2, J, P) := by
  unfold F_X12_look at h
  refine Cm.of (by decide) (by simp [Value.category]) (Nat.le_of_ble_eq_true rfl) (Nat.le_refl _) (ls := [some (.ref 205)]) rfl ?_
  refine M_aload_n (pc := 0) dX12_look_0 rfl ?_
  refine M_iconst (pc := 1) (v := 0) dX12_look_1 (by decide) ?_
  refine M_putI (pc := 2) dX12_look_2 f_X12_3 at_11 rfl ⟨rfl, rfl⟩ ?_
  refine M_aload_n (pc := 5) dX12_look_5 rfl ?_
  obtain ⟨r1, hr2, h⟩ := bnd h
  refine M_callVv (pc := 6) dX12_look_6 v_X12_311 rfl rfl at_11 (Nat.le_of_ble_eq_true rfl) (C_X12_remembers (d := d + 0) hp hr2) (Nat.le_refl _) ?_
  refine M_aload_n (pc := 9) dX12_look_9 rfl ?_
  refine M_getR (pc := 10) dX12_look_10 f_X12_13 at_11 (gc_205_1 hp).1 ?_
  refine M_iconst (pc := 13) (v := 4) dX12_look_13 (by decide) ?_
  refine M_ildc (pc := 14) (j := 4) dX12_look_14 (gc_205_1 hp).2 (by decide) (by decide) ?_
  refine M_bipush (pc := 15) (v := 10) dX12_look_15 (by decide) ?_
  refine M_idiv (pc := 17) dX12_look_17 (by decide) ?_
  refine M_aload_n (pc := 18) dX12_look_18 rfl ?_
  refine M_bipush (pc := 19) (v := 100) dX12_look_19 (by decide) ?_
  obtain ⟨r3, hr4, h⟩ := bnd h
  refine M_callVi (pc := 21) dX12_look_21 v_X12_299 rfl rfl at_11 (Nat.le_of_ble_eq_true rfl) (C_X12_drawn (d := d + 0) hp hr4) (Nat.le_refl _) ?_
  refine M_aload_n (pc := 24) dX12_look_24 rfl ?_
  refine M_getR (pc := 25) dX12_look_25 f_X12_13 at_11 (gc_205_1 hp).1 ?_
  refine M_bipush (pc := 28) (v := 11) dX12_look_28 (by decide) ?_
  refine M_ildc (pc := 30) (j := 11) dX12_look_30 (gc_205_1 hp).2 (by decide) (by decide) ?_
  refine M_icmp_ge (pc := 31) (tgt := 38) dX12_look_31 (by decide) (fun hc5 => ?_) (fun hc5 => ?_)
  · have h := (if_pos hc5).symm.trans h
    refine M_iconst (pc := 38) (v := 0) dX12_look_38 (by decide) ?_
    refine M_iadd (pc := 39) dX12_look_39 ?_
    obtain rfl := Option.some.inj h
    exact M_iret (pc := 40) dX12_look_40 rfl rfl rfl rfl
  · have h := (if_neg hc5).symm.trans h
    refine M_iconst (pc := 34) (v := 1) dX12_look_34 (by decide) ?_
    refine M_goto (pc := 35) (tgt := 39) dX12_look_35 (by decide) ?_
    refine M_iadd (pc := 39) dX12_look_39 ?_
    obtain rfl := Option.some.inj h
    exact M_iret (pc := 40) dX12_look_40 rfl rfl rfl rfl
def F_X12_evenings (I : HI) (x1 : Int32) : Option (Int32 × HI) :=
  (F_X12_in (up2 I 205 0 (0 : Int32)) x1 (1 : Int32) (60 : Int32)) >>= fun r1 => if r1 = 0 then (F_X12_throwsIf (up2 I 205 0 (0 : Int32)) (1 : Int32) (1 : Int32)) >>= fun r11 => if r11.1 = 0 then (F_X12_remembers r11.2) >>= fun r14 => (F_X12_goesOn r14 x1) >>= fun r16 => some (r16.1, r16.2) else some ((0 : Int32), r11.2) else (F_X12_throwsIf (up2 I 205 0 (0 : Int32)) (0 : Int32) (1 : Int32)) >>= fun r4 => if r4.1 = 0 then (F_X12_remembers r4.2) >>= fun r7 => (F_X12_goesOn r7 x1) >>= fun r9 => some (r9.1, r9.2) else some ((0 : Int32), r4.2)
set_option maxRecDepth 4000 in
set_option maxHeartbeats 4000000 in
theorem C_X12_evenings {g : gX} {d : Nat} {P : Nat → Nat → Option Nat} {I : HI} {x1 : Int32} {J : HJ} (hp : Wp P) {r : Int32 × HI} (h : F_X12_evenings I x1 = some r) : Cm g mX12_evenings (d + 11) [.ref 205, .int x1] (NT, I, J, P) (some (.int r.1)) (NT, r.2, J, P) := by
  unfold F_X12_evenings at h
  refine Cm.of (by decide) (by simp [Value.category]) (Nat.le_of_ble_eq_true rfl) (Nat.le_refl _) (ls := [some (.ref 205), some (.int x1)]) rfl ?_
  refine M_aload_n (pc := 0) dX12_evenings_0 rfl ?_
  refine M_iconst (pc := 1) (v := 0) dX12_evenings_1 (by decide) ?_
  refine M_putI (pc := 2) dX12_evenings_2 f_X12_3 at_11 rfl ⟨rfl, rfl⟩ ?_
  refine M_aload_n (pc := 5) dX12_evenings_5 rfl ?_
  refine M_iload_n (pc := 6) dX12_evenings_6 rfl ?_
  refine M_iconst (pc := 7) (v := 1) dX12_evenings_7 (by decide) ?_
  refine M_bipush (pc := 8) (v := 60) dX12_evenings_8 (by decide) ?_
  obtain ⟨r1, hr2, h⟩ := bnd h
  refine M_callSi (pc := 10) dX12_evenings_10 s_X12_73 rfl rfl (Nat.le_of_ble_eq_true rfl) (C_X12_in (d := d + 10) hp hr2) (Nat.le_refl _) ?_
  refine M_if_ne (pc := 13) (tgt := 20) dX12_evenings_13 (by decide) (fun hc3 => ?_) (fun hc3 => ?_)
  · have h := (if_neg hc3).symm.trans h
    refine M_iconst (pc := 20) (v := 0) dX12_evenings_20 (by decide) ?_
    refine M_iconst (pc := 21) (v := 1) dX12_evenings_21 (by decide) ?_
    obtain ⟨r4, hr5, h⟩ := bnd h
    refine M_callVi (pc := 22) dX12_evenings_22 v_X12_243 rfl rfl at_11 (Nat.le_of_ble_eq_true rfl) (C_X12_throwsIf (d := d + 10) hp hr5) (Nat.le_refl _) ?_
    refine M_if_eq (pc := 25) (tgt := 30) dX12_evenings_25 (by decide) (fun hc6 => ?_) (fun hc6 => ?_)
    · have h := (if_pos hc6).symm.trans h
      refine M_aload_n (pc := 30) dX12_evenings_30 rfl ?_
      obtain ⟨r7, hr8, h⟩ := bnd h
      refine M_callVv (pc := 31) dX12_evenings_31 v_X12_311 rfl rfl at_11 (Nat.le_of_ble_eq_true rfl) (C_X12_remembers (d := d + 10) hp hr8) (Nat.le_refl _) ?_
      refine M_aload_n (pc := 34) dX12_evenings_34 rfl ?_
      refine M_iload_n (pc := 35) dX12_evenings_35 rfl ?_
      obtain ⟨r9, hr10, h⟩ := bnd h
      refine M_callVi (pc := 36) dX12_evenings_36 v_X12_317 rfl rfl at_11 (Nat.le_of_ble_eq_true rfl) (C_X12_goesOn (d := d + 0) hp hr10) (Nat.le_refl _) ?_
      obtain rfl := Option.some.inj h
      exact M_iret (pc := 39) dX12_evenings_39 rfl rfl rfl rfl
    · have h := (if_neg hc6).symm.trans h
      refine M_iconst (pc := 28) (v := 0) dX12_evenings_28 (by decide) ?_
      obtain rfl := Option.some.inj h
      exact M_iret (pc := 29) dX12_evenings_29 rfl rfl rfl rfl
  · have h := (if_pos hc3).symm.trans h
    refine M_iconst (pc := 16) (v := 1) dX12_evenings_16 (by decide) ?_
    refine M_goto (pc := 17) (tgt := 21) dX12_evenings_17 (by decide) ?_
    refine M_iconst (pc := 21) (v := 1) dX12_evenings_21 (by decide) ?_
    obtain ⟨r11, hr12, h⟩ := bnd h
    refine M_callVi (pc := 22) dX12_evenings_22 v_X12_243 rfl rfl at_11 (Nat.le_of_ble_eq_true rfl) (C_X12_throwsIf (d := d + 10) hp hr12) (Nat.le_refl _) ?_
    refine M_if_eq (pc := 25) (tgt := 30) dX12_evenings_25 (by decide) (fun hc13 => ?_) (fun hc13 => ?_)
    · have h := (if_pos hc13).symm.trans h
      refine M_aload_n (pc := 30) dX12_evenings_30 rfl ?_
      obtain ⟨r14, hr15, h⟩ := bnd h
      refine M_callVv (pc := 31) dX12_evenings_31 v_X12_311 rfl rfl at_11 (Nat.le_of_ble_eq_true rfl) (C_X12_remembers (d := d + 10) hp hr15) (Nat.le_refl _) ?_
      refine M_aload_n (pc := 34) dX12_evenings_34 rfl ?_
      refine M_iload_n (pc := 35) dX12_evenings_35 rfl ?_
      obtain ⟨r16, hr17, h⟩ := bnd h
      refine M_callVi (pc := 36) dX12_evenings_36 v_X12_317 rfl rfl at_11 (Nat.le_of_ble_eq_true rfl) (C_X12_goesOn (d := d + 0) hp hr17) (Nat.le_refl _) ?_
      obtain rfl := Option.some.inj h
      exact M_iret (pc := 39) dX12_evenings_39 rfl rfl rfl rfl
    · have h := (if_neg hc13).symm.trans h
      refine M_iconst (pc := 28) (v := 0) dX12_evenings_28 (by decide) ?_
      obtain rfl := Option.some.inj h
      exact M_iret (pc := 29) dX12_evenings_29 rfl rfl rfl rfl
def L_X12_keepsAll_2 (x1 : Int32) (I : HI) : Option (HI) :=
  if (353 : Int32) ≤ x1 then some I else (ald 2051 (I 206) x1) >>= fun v2 => if inB x1 353 = true then L_X12_keepsAll_2 (x1 + (1 : Int32)) (up2 I 209 (x1).toNatClampNeg v2) else none
partial_fixpoint
def F_X12_keepsAll (I : HI) : Option (HI) :=
  L_X12_keepsAll_2 (0 : Int32) I
set_option maxRecDepth 4000 in
set_option maxHeartbeats 4000000 in
theorem LC_X12_keepsAll_2 {g : gX} {d : Nat} {P : Nat → Nat → Option Nat} {J : HJ}  (hp : Wp P) : ∀ (x1 : Int32) (I : HI) (r : HI), L_X12_keepsAll_2  x1 I = some r → M g mX12_keepsAll (d + 0) (NT, NT, 0) ((.inl none), (NT, r, J, P)) 2 [some (.ref 205), some (.int x1)] [] (NT, I, J, P) := by
  refine L_X12_keepsAll_2.partial_correctness  (fun x1 I r => M g mX12_keepsAll (d + 0) (NT, NT, 0) ((.inl none), (NT, r, J, P)) 2 [some (.ref 205), some (.int x1)] [] (NT, I, J, P)) ?_
  intro f ih x1 I r h
  refine M_iload_n (pc := 2) dX12_keepsAll_2 rfl ?_
  refine M_sipush (pc := 3) (v := 353) dX12_keepsAll_3 (by decide) ?_
  refine M_icmp_ge (pc := 6) (tgt := 27) dX12_keepsAll_6 (by decide) (fun hc1 => ?_) (fun hc1 => ?_)
  · have h := (if_pos hc1).symm.trans h
    obtain rfl := Option.some.inj h
    exact M_vret (pc := 27) dX12_keepsAll_27 rfl rfl rfl
  · have h := (if_neg hc1).symm.trans h
    refine M_aload_n (pc := 9) dX12_keepsAll_9 rfl ?_
    refine M_getR (pc := 10) dX12_keepsAll_10 f_X12_23 at_11 (gc_205_4 hp).1 ?_
    refine M_iload_n (pc := 13) dX12_keepsAll_13 rfl ?_
    refine M_aload_n (pc := 14) dX12_keepsAll_14 rfl ?_
    refine M_getR (pc := 15) dX12_keepsAll_15 f_X12_13 at_11 (gc_205_1 hp).1 ?_
    refine M_iload_n (pc := 18) dX12_keepsAll_18 rfl ?_
    obtain ⟨v2, hv3, h⟩ := bnd h
    refine M_aldI (pc := 19) dX12_keepsAll_19 (gc_205_1 hp).2 hv3 ?_
    obtain ⟨hq4, h⟩ := chk h
    refine M_iast (pc := 20) dX12_keepsAll_20 (gc_205_4 hp).2 (inB_in hq4) ?_
    refine M_iinc (pc := 21) (v := (x1 + (1 : Int32))) (ls' := [some (.ref 205), some (.int (x1 + (1 : Int32)))]) dX12_keepsAll_21 rfl rfl (by decide) rfl ?_
    refine M_goto (pc := 24) (tgt := 2) dX12_keepsAll_24 (by decide) ?_
    exact ih (x1 + (1 : Int32)) (up2 I 209 (x1).toNatClampNeg v2) _ h
set_option maxRecDepth 4000 in
set_option maxHeartbeats 4000000 in
theorem C_X12_keepsAll {g : gX} {d : Nat} {P : Nat → Nat → Option Nat} {I : HI} {J : HJ} (hp : Wp P) {r : HI} (h : F_X12_keepsAll I = some r) : Cm g mX12_keepsAll (d + 0) [.ref 205] (NT, I, J, P) none (NT, r, J, P) := by
  unfold F_X12_keepsAll at h
  refine Cm.of (by decide) (by simp [Value.category]) (Nat.le_of_ble_eq_true rfl) (Nat.le_refl _) (ls := [some (.ref 205), none]) rfl ?_
  refine M_iconst (pc := 0) (v := 0) dX12_keepsAll_0 (by decide) ?_
  refine M_istore_n (pc := 1) (ls' := [some (.ref 205), some (.int (0 : Int32))]) dX12_keepsAll_1 (by decide) rfl ?_
  exact LC_X12_keepsAll_2 (P := P) hp (0 : Int32) I _ h
def L_X12_bringsBack_2 (x1 : Int32) (I : HI) : Option (HI) :=
  if (353 : Int32) ≤ x1 then some I else (ald 353 (I 209) x1) >>= fun v2 => if inB x1 2051 = true then L_X12_bringsBack_2 (x1 + (1 : Int32)) (up2 I 206 (x1).toNatClampNeg v2) else none
partial_fixpoint
def F_X12_bringsBack (I : HI) : Option (HI) :=
  L_X12_bringsBack_2 (0 : Int32) I
set_option maxRecDepth 4000 in
set_option maxHeartbeats 4000000 in
theorem LC_X12_bringsBack_2 {g : gX} {d : Nat} {P : Nat → Nat → Option Nat} {J : HJ}  (hp : Wp P) : ∀ (x1 : Int32) (I : HI) (r : HI), L_X12_bringsBack_2  x1 I = some r → M g mX12_bringsBack (d + 0) (NT, NT, 0) ((.inl none), (NT, r, J, P)) 2 [some (.ref 205), some (.int x1)] [] (NT, I, J, P) := by
  refine L_X12_bringsBack_2.partial_correctness  (fun x1 I r => M g mX12_bringsBack (d + 0) (NT, NT, 0) ((.inl none), (NT, r, J, P)) 2 [some (.ref 205), some (.int x1)] [] (NT, I, J, P)) ?_
  intro f ih x1 I r h
  refine M_iload_n (pc := 2) dX12_bringsBack_2 rfl ?_
  refine M_sipush (pc := 3) (v := 353) dX12_bringsBack_3 (by decide) ?_
  refine M_icmp_ge (pc := 6) (tgt := 27) dX12_bringsBack_6 (by decide) (fun hc1 => ?_) (fun hc1 => ?_)
  · have h := (if_pos hc1).symm.trans h
    obtain rfl := Option.some.inj h
    exact M_vret (pc := 27) dX12_bringsBack_27 rfl rfl rfl
  · have h := (if_neg hc1).symm.trans h
    refine M_aload_n (pc := 9) dX12_bringsBack_9 rfl ?_
    refine M_getR (pc := 10) dX12_bringsBack_10 f_X12_13 at_11 (gc_205_1 hp).1 ?_
    refine M_iload_n (pc := 13) dX12_bringsBack_13 rfl ?_
    refine M_aload_n (pc := 14) dX12_bringsBack_14 rfl ?_
    refine M_getR (pc := 15) dX12_bringsBack_15 f_X12_23 at_11 (gc_205_4 hp).1 ?_
    refine M_iload_n (pc := 18) dX12_bringsBack_18 rfl ?_
    obtain ⟨v2, hv3, h⟩ := bnd h
    refine M_aldI (pc := 19) dX12_bringsBack_19 (gc_205_4 hp).2 hv3 ?_
    obtain ⟨hq4, h⟩ := chk h
    refine M_iast (pc := 20) dX12_bringsBack_20 (gc_205_1 hp).2 (inB_in hq4) ?_
    refine M_iinc (pc := 21) (v := (x1 + (1 : Int32))) (ls' := [some (.ref 205), some (.int (x1 + (1 : Int32)))]) dX12_bringsBack_21 rfl rfl (by decide) rfl ?_
    refine M_goto (pc := 24) (tgt := 2) dX12_bringsBack_24 (by decide) ?_
    exact ih (x1 + (1 : Int32)) (up2 I 206 (x1).toNatClampNeg v2) _ h
set_option maxRecDepth 4000 in
set_option maxHeartbeats 4000000 in
theorem C_X12_bringsBack {g : gX} {d : Nat} {P : Nat → Nat → Option Nat} {I : HI} {J : HJ} (hp : Wp P) {r : HI} (h : F_X12_bringsBack I = some r) : Cm g mX12_bringsBack (d + 0) [.ref 205] (NT, I, J, P) none (NT, r, J, P) := by
  unfold F_X12_bringsBack at h
  refine Cm.of (by decide) (by simp [Value.category]) (Nat.le_of_ble_eq_true rfl) (Nat.le_refl _) (ls := [some (.ref 205), none]) rfl ?_
  refine M_iconst (pc := 0) (v := 0) dX12_bringsBack_0 (by decide) ?_
  refine M_istore_n (pc := 1) (ls' := [some (.ref 205), some (.int (0 : Int32))]) dX12_bringsBack_1 (by decide) rfl ?_
  exact LC_X12_bringsBack_2 (P := P) hp (0 : Int32) I _ h
def L_X12_isMenu_17 (I : HI) (x1 : Int32) (x2 : Int32) : Option (Int32) :=
  if (I 205 11) ≤ x2 then if x1 = 0 ∨ x1 = 1 then some x1 else none else if x1 = 0 then if x1 = 0 ∨ x1 = 1 then some x1 else none else (ald 400 (I 211) x2) >>= fun v6 => (F_X12_noDish I v6) >>= fun r8 => if r8 = 0 then L_X12_isMenu_17 I (1 : Int32) (x2 + (1 : Int32)) else L_X12_isMenu_17 I (0 : Int32) (x2 + (1 : Int32))
partial_fixpoint
def F_X12_isMenu (I : HI) : Option (Int32) :=
  if (40 : Int32) < (I 205 11) then L_X12_isMenu_17 I (0 : Int32) (0 : Int32) else L_X12_isMenu_17 I (1 : Int32) (0 : Int32)
set_option maxRecDepth 4000 in
set_option maxHeartbeats 4000000 in
theorem LC_X12_isMenu_17 {g : gX} {d : Nat} {P : Nat → Nat → Option Nat} {J : HJ} {I : HI} (hp : Wp P) : ∀ (x1 : Int32) (x2 : Int32) (r : Int32), L_X12_isMenu_17 I x1 x2 = some r → M g mX12_isMenu (d + 2) (NT, NT, 0) ((.inl (some (.int r))), (NT, I, J, P)) 17 [some (.ref 205), some (.int x1), some (.int x2)] [] (NT, I, J, P) := by
  refine L_X12_isMenu_17.partial_correctness I (fun x1 x2 r => M g mX12_isMenu (d + 2) (NT, NT, 0) ((.inl (some (.int r))), (NT, I, J, P)) 17 [some (.ref 205), some (.int x1), some (.int x2)] [] (NT, I, J, P)) ?_
  intro f ih x1 x2 r h
  refine M_iload_n (pc := 17) dX12_isMenu_17 rfl ?_
  refine M_aload_n (pc := 18) dX12_isMenu_18 rfl ?_
  refine M_getI (pc := 19) dX12_isMenu_19 f_X12_84 at_11 ?_
  refine M_icmp_ge (pc := 22) (tgt := 54) dX12_isMenu_22 (by decide) (fun hc2 => ?_) (fun hc2 => ?_)
  · have h := (if_pos hc2).symm.trans h
    refine M_iload_n (pc := 54) dX12_isMenu_54 rfl ?_
    obtain ⟨hq3, h⟩ := chk h
    obtain rfl := Option.some.inj h
    exact M_iret (pc := 55) dX12_isMenu_55 rfl (by rcases hq3 with q | q <;> rw [q] <;> rfl) rfl rfl
  · have h := (if_neg hc2).symm.trans h
    refine M_iload_n (pc := 25) dX12_isMenu_25 rfl ?_
    refine M_if_eq (pc := 26) (tgt := 54) dX12_isMenu_26 (by decide) (fun hc4 => ?_) (fun hc4 => ?_)
    · have h := (if_pos hc4).symm.trans h
      refine M_iload_n (pc := 54) dX12_isMenu_54 rfl ?_
      obtain ⟨hq5, h⟩ := chk h
      obtain rfl := Option.some.inj h
      exact M_iret (pc := 55) dX12_isMenu_55 rfl (by rcases hq5 with q | q <;> rw [q] <;> rfl) rfl rfl
    · have h := (if_neg hc4).symm.trans h
      refine M_aload_n (pc := 29) dX12_isMenu_29 rfl ?_
      refine M_aload_n (pc := 30) dX12_isMenu_30 rfl ?_
      refine M_getR (pc := 31) dX12_isMenu_31 f_X12_29 at_11 (gc_205_8 hp).1 ?_
      refine M_iload_n (pc := 34) dX12_isMenu_34 rfl ?_
      obtain ⟨v6, hv7, h⟩ := bnd h
      refine M_aldB (pc := 35) dX12_isMenu_35 (gc_205_8 hp).2 hv7 ?_
      obtain ⟨r8, hr9, h⟩ := bnd h
      refine M_callVi (pc := 36) dX12_isMenu_36 v_X12_278 rfl rfl at_11 (Nat.le_of_ble_eq_true rfl) (C_X12_noDish (d := d + 0) hp hr9) (Nat.le_refl _) ?_
      refine M_if_ne (pc := 39) (tgt := 46) dX12_isMenu_39 (by decide) (fun hc10 => ?_) (fun hc10 => ?_)
      · have h := (if_neg hc10).symm.trans h
        refine M_iconst (pc := 46) (v := 0) dX12_isMenu_46 (by decide) ?_
        refine M_istore_n (pc := 47) (ls' := [some (.ref 205), some (.int (0 : Int32)), some (.int x2)]) dX12_isMenu_47 (by decide) rfl ?_
        refine M_iinc (pc := 48) (v := (x2 + (1 : Int32))) (ls' := [some (.ref 205), some (.int (0 : Int32)), some (.int (x2 + (1 : Int32)))]) dX12_isMenu_48 rfl rfl (by decide) rfl ?_
        refine M_goto (pc := 51) (tgt := 17) dX12_isMenu_51 (by decide) ?_
        exact ih (0 : Int32) (x2 + (1 : Int32)) _ h
      · have h := (if_pos hc10).symm.trans h
        refine M_iconst (pc := 42) (v := 1) dX12_isMenu_42 (by decide) ?_
        refine M_goto (pc := 43) (tgt := 47) dX12_isMenu_43 (by decide) ?_
        refine M_istore_n (pc := 47) (ls' := [some (.ref 205), some (.int (1 : Int32)), some (.int x2)]) dX12_isMenu_47 (by decide) rfl ?_
        refine M_iinc (pc := 48) (v := (x2 + (1 : Int32))) (ls' := [some (.ref 205), some (.int (1 : Int32)), some (.int (x2 + (1 : Int32)))]) dX12_isMenu_48 rfl rfl (by decide) rfl ?_
        refine M_goto (pc := 51) (tgt := 17) dX12_isMenu_51 (by decide) ?_
        exact ih (1 : Int32) (x2 + (1 : Int32)) _ h
set_option maxRecDepth 4000 in
set_option maxHeartbeats 4000000 in
theorem C_X12_isMenu {g : gX} {d : Nat} {P : Nat → Nat → Option Nat} {I : HI} {J : HJ} (hp : Wp P) {r : Int32} (h : F_X12_isMenu I = some r) : Cm g mX12_isMenu (d + 2) [.ref 205] (NT, I, J, P) (some (.int r)) (NT, I, J, P) := by
  unfold F_X12_isMenu at h
  refine Cm.of (by decide) (by simp [Value.category]) (Nat.le_of_ble_eq_true rfl) (Nat.le_refl _) (ls := [some (.ref 205), none, none]) rfl ?_
  refine M_aload_n (pc := 0) dX12_isMenu_0 rfl ?_
  refine M_getI (pc := 1) dX12_isMenu_1 f_X12_84 at_11 ?_
  refine M_bipush (pc := 4) (v := 40) dX12_isMenu_4 (by decide) ?_
  refine M_icmp_gt (pc := 6) (tgt := 13) dX12_isMenu_6 (by decide) (fun hc1 => ?_) (fun hc1 => ?_)
  · have h := (if_pos hc1).symm.trans h
    refine M_iconst (pc := 13) (v := 0) dX12_isMenu_13 (by decide) ?_
    refine M_istore_n (pc := 14) (ls' := [some (.ref 205), some (.int (0 : Int32)), none]) dX12_isMenu_14 (by decide) rfl ?_
    refine M_iconst (pc := 15) (v := 0) dX12_isMenu_15 (by decide) ?_
    refine M_istore_n (pc := 16) (ls' := [some (.ref 205), some (.int (0 : Int32)), some (.int (0 : Int32))]) dX12_isMenu_16 (by decide) rfl ?_
    exact LC_X12_isMenu_17 (P := P) hp (0 : Int32) (0 : Int32) _ h
  · have h := (if_neg hc1).symm.trans h
    refine M_iconst (pc := 9) (v := 1) dX12_isMenu_9 (by decide) ?_
    refine M_goto (pc := 10) (tgt := 14) dX12_isMenu_10 (by decide) ?_
    refine M_istore_n (pc := 14) (ls' := [some (.ref 205), some (.int (1 : Int32)), none]) dX12_isMenu_14 (by decide) rfl ?_
    refine M_iconst (pc := 15) (v := 0) dX12_isMenu_15 (by decide) ?_
    refine M_istore_n (pc := 16) (ls' := [some (.ref 205), some (.int (1 : Int32)), some (.int (0 : Int32))]) dX12_isMenu_16 (by decide) rfl ?_
    exact LC_X12_isMenu_17 (P := P) hp (1 : Int32) (0 : Int32) _ h
def L_X12_menu_59 (x1 : Int32) (x2 : Int32) (x3 : Int32) (x4 : Int32) (I : HI) : Option (Int32 × HI) :=
  if (I 205 11) ≤ x4 then if x1 = 0 then (F_X12_bringsBack I) >>= fun r27 => some ((I 206 4), r27) else if x1 = (1 : Int32) then (F_X12_bringsBack I) >>= fun r25 => some ((I 206 5), r25) else if x1 = (2 : Int32) then (F_X12_bringsBack I) >>= fun r23 => some (x2, r23) else (F_X12_bringsBack I) >>= fun r21 => some (x3, r21) else (ald 400 (I 211) x4) >>= fun v29 => (F_X12_takes I v29) >>= fun r31 => if r31.1 = (-1 : Int32) then if r31.1 = (-1 : Int32) then L_X12_menu_59 x1 (x2 + (0 : Int32)) (x3 + (0 : Int32)) (x4 + (1 : Int32)) r31.2 else L_X12_menu_59 x1 (x2 + (0 : Int32)) (x3 + r31.1) (x4 + (1 : Int32)) r31.2 else if r31.1 = (-1 : Int32) then L_X12_menu_59 x1 (x2 + (1 : Int32)) (x3 + (0 : Int32)) (x4 + (1 : Int32)) r31.2 else L_X12_menu_59 x1 (x2 + (1 : Int32)) (x3 + r31.1) (x4 + (1 : Int32)) r31.2
partial_fixpoint
def F_X12_menu (I : HI) (x1 : Int32) : Option (Int32 × HI) :=
  (F_X12_uses I) >>= fun r1 => (F_X12_isMenu r1) >>= fun r3 => if r3 = 0 then (F_X12_throwsIf r1 (1 : Int32) (1 : Int32)) >>= fun r41 => if r41.1 = 0 then (F_X12_in r41.2 x1 (0 : Int32) (3 : Int32)) >>= fun r44 => if r44 = 0 then (F_X12_throwsIf r41.2 (1 : Int32) (2 : Int32)) >>= fun r52 => if r52.1 = 0 then (F_X12_keepsAll r52.2) >>= fun r55 => L_X12_menu_59 x1 (0 : Int32) (0 : Int32) (0 : Int32) r55 else some ((0 : Int32), r52.2) else (F_X12_throwsIf r41.2 (0 : Int32) (2 : Int32)) >>= fun r47 => if r47.1 = 0 then (F_X12_keepsAll r47.2) >>= fun r50 => L_X12_menu_59 x1 (0 : Int32) (0 : Int32) (0 : Int32) r50 else some ((0 : Int32), r47.2) else some ((0 : Int32), r41.2) else (F_X12_throwsIf r1 (0 : Int32) (1 : Int32)) >>= fun r6 => if r6.1 = 0 then (F_X12_in r6.2 x1 (0 : Int32) (3 : Int32)) >>= fun r9 => if r9 = 0 then (F_X12_throwsIf r6.2 (1 : Int32) (2 : Int32)) >>= fun r36 => if r36.1 = 0 then (F_X12_keepsAll r36.2) >>= fun r39 => L_X12_menu_59 x1 (0 : Int32) (0 : Int32) (0 : Int32) r39 else some ((0 : Int32), r36.2) else (F_X12_throwsIf r6.2 (0 : Int32) (2 : Int32)) >>= fun r12 => if r12.1 = 0 then (F_X12_keepsAll r12.2) >>= fun r15 => L_X12_menu_59 x1 (0 : Int32) (0 : Int32) (0 : Int32) r15 else some ((0 : Int32), r12.2) else some ((0 : Int32), r6.2)
set_option maxRecDepth 4000 in
set_option maxHeartbeats 4000000 in
theorem LC_X12_menu_59 {g : gX} {d : Nat} {P : Nat → Nat → Option Nat} {J : HJ} {x1 : Int32} (hp : Wp P) : ∀ (x2 : Int32) (x3 : Int32) (x4 : Int32) (I : HI) (r : Int32 × HI), L_X12_menu_59 x1 x2 x3 x4 I = some r → M g mX12_menu (d + 9) (NT, NT, 0) ((.inl (some (.int r.1))), (NT, r.2, J, P)) 59 [some (.ref 205), some (.int x1), some (.int x2), some (.int x3), some (.int x4), none] [] (NT, I, J, P) := by
  refine L_X12_menu_59.partial_correctness x1 (fun x2 x3 x4 I r => M g mX12_menu (d + 9) (NT, NT, 0) ((.inl (some (.int r.1))), (NT, r.2, J, P)) 59 [some (.ref 205), some (.int x1), some (.int x2), some (.int x3), some (.int x4), none] [] (NT, I, J, P)) ?_
  intro f ih x2 x3 x4 I r h
  refine M_iload (pc := 59) dX12_menu_59 rfl ?_
  refine M_aload_n (pc := 61) dX12_menu_61 rfl ?_
  refine M_getI (pc := 62) dX12_menu_62 f_X12_84 at_11 ?_
  refine M_icmp_ge (pc := 65) (tgt := 116) dX12_menu_65 (by decide) (fun hc17 => ?_) (fun hc17 => ?_)
  · have h := (if_pos hc17).symm.trans h
    refine M_iload_n (pc := 116) dX12_menu_116 rfl ?_
    refine M_if_ne (pc := 117) (tgt := 129) dX12_menu_117 (by decide) (fun hc18 => ?_) (fun hc18 => ?_)
    · have h := (if_neg hc18).symm.trans h
      refine M_iload_n (pc := 129) dX12_menu_129 rfl ?_
      refine M_iconst (pc := 130) (v := 1) dX12_menu_130 (by decide) ?_
      refine M_icmp_ne (pc := 131) (tgt := 143) dX12_menu_131 (by decide) (fun hc19 => ?_) (fun hc19 => ?_)
      · have h := (if_neg hc19).symm.trans h
        refine M_iload_n (pc := 143) dX12_menu_143 rfl ?_
        refine M_iconst (pc := 144) (v := 2) dX12_menu_144 (by decide) ?_
        refine M_icmp_ne (pc := 145) (tgt := 152) dX12_menu_145 (by decide) (fun hc20 => ?_) (fun hc20 => ?_)
        · have h := (if_neg hc20).symm.trans h
          refine M_iload_n (pc := 152) dX12_menu_152 rfl ?_
          refine M_istore (pc := 153) (ls' := [some (.ref 205), some (.int x1), some (.int x2), some (.int x3), some (.int x3), none]) dX12_menu_153 (by decide) rfl ?_
          refine M_aload_n (pc := 155) dX12_menu_155 rfl ?_
          obtain ⟨r21, hr22, h⟩ := bnd h
          refine M_callVv (pc := 156) dX12_menu_156 v_X12_326 rfl rfl at_11 (Nat.le_of_ble_eq_true rfl) (C_X12_bringsBack (d := d + 8) hp hr22) (Nat.le_refl _) ?_
          refine M_iload (pc := 159) dX12_menu_159 rfl ?_
          obtain rfl := Option.some.inj h
          exact M_iret (pc := 161) dX12_menu_161 rfl rfl rfl rfl
        · have h := (if_pos hc20).symm.trans h
          refine M_iload_n (pc := 148) dX12_menu_148 rfl ?_
          refine M_goto (pc := 149) (tgt := 153) dX12_menu_149 (by decide) ?_
          refine M_istore (pc := 153) (ls' := [some (.ref 205), some (.int x1), some (.int x2), some (.int x3), some (.int x2), none]) dX12_menu_153 (by decide) rfl ?_
          refine M_aload_n (pc := 155) dX12_menu_155 rfl ?_
          obtain ⟨r23, hr24, h⟩ := bnd h
          refine M_callVv (pc := 156) dX12_menu_156 v_X12_326 rfl rfl at_11 (Nat.le_of_ble_eq_true rfl) (C_X12_bringsBack (d := d + 8) hp hr24) (Nat.le_refl _) ?_
          refine M_iload (pc := 159) dX12_menu_159 rfl ?_
          obtain rfl := Option.some.inj h
          exact M_iret (pc := 161) dX12_menu_161 rfl rfl rfl rfl
      · have h := (if_pos hc19).symm.trans h
        refine M_aload_n (pc := 134) dX12_menu_134 rfl ?_
        refine M_getR (pc := 135) dX12_menu_135 f_X12_13 at_11 (gc_205_1 hp).1 ?_
        refine M_iconst (pc := 138) (v := 5) dX12_menu_138 (by decide) ?_
        refine M_ildc (pc := 139) (j := 5) dX12_menu_139 (gc_205_1 hp).2 (by decide) (by decide) ?_
        refine M_goto (pc := 140) (tgt := 153) dX12_menu_140 (by decide) ?_
        refine M_istore (pc := 153) (ls' := [some (.ref 205), some (.int x1), some (.int x2), some (.int x3), some (.int (I 206 5)), none]) dX12_menu_153 (by decide) rfl ?_
        refine M_aload_n (pc := 155) dX12_menu_155 rfl ?_
        obtain ⟨r25, hr26, h⟩ := bnd h
        refine M_callVv (pc := 156) dX12_menu_156 v_X12_326 rfl rfl at_11 (Nat.le_of_ble_eq_true rfl) (C_X12_bringsBack (d := d + 8) hp hr26) (Nat.le_refl _) ?_
        refine M_iload (pc := 159) dX12_menu_159 rfl ?_
        obtain rfl := Option.some.inj h
        exact M_iret (pc := 161) dX12_menu_161 rfl rfl rfl rfl
    · have h := (if_pos hc18).symm.trans h
      refine M_aload_n (pc := 120) dX12_menu_120 rfl ?_
      refine M_getR (pc := 121) dX12_menu_121 f_X12_13 at_11 (gc_205_1 hp).1 ?_
      refine M_iconst (pc := 124) (v := 4) dX12_menu_124 (by decide) ?_
      refine M_ildc (pc := 125) (j := 4) dX12_menu_125 (gc_205_1 hp).2 (by decide) (by decide) ?_
      refine M_goto (pc := 126) (tgt := 153) dX12_menu_126 (by decide) ?_
      refine M_istore (pc := 153) (ls' := [some (.ref 205), some (.int x1), some (.int x2), some (.int x3), some (.int (I 206 4)), none]) dX12_menu_153 (by decide) rfl ?_
      refine M_aload_n (pc := 155) dX12_menu_155 rfl ?_
      obtain ⟨r27, hr28, h⟩ := bnd h
      refine M_callVv (pc := 156) dX12_menu_156 v_X12_326 rfl rfl at_11 (Nat.le_of_ble_eq_true rfl) (C_X12_bringsBack (d := d + 8) hp hr28) (Nat.le_refl _) ?_
      refine M_iload (pc := 159) dX12_menu_159 rfl ?_
      obtain rfl := Option.some.inj h
      exact M_iret (pc := 161) dX12_menu_161 rfl rfl rfl rfl
  · have h := (if_neg hc17).symm.trans h
    refine M_aload_n (pc := 68) dX12_menu_68 rfl ?_
    refine M_aload_n (pc := 69) dX12_menu_69 rfl ?_
    refine M_getR (pc := 70) dX12_menu_70 f_X12_29 at_11 (gc_205_8 hp).1 ?_
    refine M_iload (pc := 73) dX12_menu_73 rfl ?_
    obtain ⟨v29, hv30, h⟩ := bnd h
    refine M_aldB (pc := 75) dX12_menu_75 (gc_205_8 hp).2 hv30 ?_
    obtain ⟨r31, hr32, h⟩ := bnd h
    refine M_callVi (pc := 76) dX12_menu_76 v_X12_302 rfl rfl at_11 (Nat.le_of_ble_eq_true rfl) (C_X12_takes (d := d + 0) hp hr32) (Nat.le_refl _) ?_
    refine M_istore (pc := 79) (ls' := [some (.ref 205), some (.int x1), some (.int x2), some (.int x3), some (.int x4), some (.int r31.1)]) dX12_menu_79 (by decide) rfl ?_
    refine M_iload_n (pc := 81) dX12_menu_81 rfl ?_
    refine M_iload (pc := 82) dX12_menu_82 rfl ?_
    refine M_iconst (pc := 84) (v := -1) dX12_menu_84 (by decide) ?_
    refine M_icmp_ne (pc := 85) (tgt := 92) dX12_menu_85 (by decide) (fun hc33 => ?_) (fun hc33 => ?_)
    · have h := (if_neg hc33).symm.trans h
      refine M_iconst (pc := 92) (v := 1) dX12_menu_92 (by decide) ?_
      refine M_iadd (pc := 93) dX12_menu_93 ?_
      refine M_istore_n (pc := 94) (ls' := [some (.ref 205), some (.int x1), some (.int (x2 + (1 : Int32))), some (.int x3), some (.int x4), some (.int r31.1)]) dX12_menu_94 (by decide) rfl ?_
      refine M_iload_n (pc := 95) dX12_menu_95 rfl ?_
      refine M_iload (pc := 96) dX12_menu_96 rfl ?_
      refine M_iconst (pc := 98) (v := -1) dX12_menu_98 (by decide) ?_
      refine M_icmp_ne (pc := 99) (tgt := 106) dX12_menu_99 (by decide) (fun hc34 => ?_) (fun hc34 => ?_)
      · have h := (if_neg hc34).symm.trans h
        refine M_iload (pc := 106) dX12_menu_106 rfl ?_
        refine M_iadd (pc := 108) dX12_menu_108 ?_
        refine M_istore_n (pc := 109) (ls' := [some (.ref 205), some (.int x1), some (.int (x2 + (1 : Int32))), some (.int (x3 + r31.1)), some (.int x4), some (.int r31.1)]) dX12_menu_109 (by decide) rfl ?_
        refine M_iinc (pc := 110) (v := (x4 + (1 : Int32))) (ls' := [some (.ref 205), some (.int x1), some (.int (x2 + (1 : Int32))), some (.int (x3 + r31.1)), some (.int (x4 + (1 : Int32))), some (.int r31.1)]) dX12_menu_110 rfl rfl (by decide) rfl ?_
        refine M_goto (pc := 113) (tgt := 59) dX12_menu_113 (by decide) ?_
        refine M_mask (pc := 59) [true, true, true, true, true, false] rfl ?_
        exact ih (x2 + (1 : Int32)) (x3 + r31.1) (x4 + (1 : Int32)) r31.2 _ h
      · have h := (if_pos hc34).symm.trans h
        refine M_iconst (pc := 102) (v := 0) dX12_menu_102 (by decide) ?_
        refine M_goto (pc := 103) (tgt := 108) dX12_menu_103 (by decide) ?_
        refine M_iadd (pc := 108) dX12_menu_108 ?_
        refine M_istore_n (pc := 109) (ls' := [some (.ref 205), some (.int x1), some (.int (x2 + (1 : Int32))), some (.int (x3 + (0 : Int32))), some (.int x4), some (.int r31.1)]) dX12_menu_109 (by decide) rfl ?_
        refine M_iinc (pc := 110) (v := (x4 + (1 : Int32))) (ls' := [some (.ref 205), some (.int x1), some (.int (x2 + (1 : Int32))), some (.int (x3 + (0 : Int32))), some (.int (x4 + (1 : Int32))), some (.int r31.1)]) dX12_menu_110 rfl rfl (by decide) rfl ?_
        refine M_goto (pc := 113) (tgt := 59) dX12_menu_113 (by decide) ?_
        refine M_mask (pc := 59) [true, true, true, true, true, false] rfl ?_
        exact ih (x2 + (1 : Int32)) (x3 + (0 : Int32)) (x4 + (1 : Int32)) r31.2 _ h
    · have h := (if_pos hc33).symm.trans h
      refine M_iconst (pc := 88) (v := 0) dX12_menu_88 (by decide) ?_
      refine M_goto (pc := 89) (tgt := 93) dX12_menu_89 (by decide) ?_
      refine M_iadd (pc := 93) dX12_menu_93 ?_
      refine M_istore_n (pc := 94) (ls' := [some (.ref 205), some (.int x1), some (.int (x2 + (0 : Int32))), some (.int x3), some (.int x4), some (.int r31.1)]) dX12_menu_94 (by decide) rfl ?_
      refine M_iload_n (pc := 95) dX12_menu_95 rfl ?_
      refine M_iload (pc := 96) dX12_menu_96 rfl ?_
      refine M_iconst (pc := 98) (v := -1) dX12_menu_98 (by decide) ?_
      refine M_icmp_ne (pc := 99) (tgt := 106) dX12_menu_99 (by decide) (fun hc35 => ?_) (fun hc35 => ?_)
      · have h := (if_neg hc35).symm.trans h
        refine M_iload (pc := 106) dX12_menu_106 rfl ?_
        refine M_iadd (pc := 108) dX12_menu_108 ?_
        refine M_istore_n (pc := 109) (ls' := [some (.ref 205), some (.int x1), some (.int (x2 + (0 : Int32))), some (.int (x3 + r31.1)), some (.int x4), some (.int r31.1)]) dX12_menu_109 (by decide) rfl ?_
        refine M_iinc (pc := 110) (v := (x4 + (1 : Int32))) (ls' := [some (.ref 205), some (.int x1), some (.int (x2 + (0 : Int32))), some (.int (x3 + r31.1)), some (.int (x4 + (1 : Int32))), some (.int r31.1)]) dX12_menu_110 rfl rfl (by decide) rfl ?_
        refine M_goto (pc := 113) (tgt := 59) dX12_menu_113 (by decide) ?_
        refine M_mask (pc := 59) [true, true, true, true, true, false] rfl ?_
        exact ih (x2 + (0 : Int32)) (x3 + r31.1) (x4 + (1 : Int32)) r31.2 _ h
      · have h := (if_pos hc35).symm.trans h
        refine M_iconst (pc := 102) (v := 0) dX12_menu_102 (by decide) ?_
        refine M_goto (pc := 103) (tgt := 108) dX12_menu_103 (by decide) ?_
        refine M_iadd (pc := 108) dX12_menu_108 ?_
        refine M_istore_n (pc := 109) (ls' := [some (.ref 205), some (.int x1), some (.int (x2 + (0 : Int32))), some (.int (x3 + (0 : Int32))), some (.int x4), some (.int r31.1)]) dX12_menu_109 (by decide) rfl ?_
        refine M_iinc (pc := 110) (v := (x4 + (1 : Int32))) (ls' := [some (.ref 205), some (.int x1), some (.int (x2 + (0 : Int32))), some (.int (x3 + (0 : Int32))), some (.int (x4 + (1 : Int32))), some (.int r31.1)]) dX12_menu_110 rfl rfl (by decide) rfl ?_
        refine M_goto (pc := 113) (tgt := 59) dX12_menu_113 (by decide) ?_
        refine M_mask (pc := 59) [true, true, true, true, true, false] rfl ?_
        exact ih (x2 + (0 : Int32)) (x3 + (0 : Int32)) (x4 + (1 : Int32)) r31.2 _ h
set_option maxRecDepth 4000 in
set_option maxHeartbeats 4000000 in
theorem C_X12_menu {g : gX} {d : Nat} {P : Nat → Nat → Option Nat} {I : HI} {x1 : Int32} {J : HJ} (hp : Wp P) {r : Int32 × HI} (h : F_X12_menu I x1 = some r) : Cm g mX12_menu (d + 9) [.ref 205, .int x1] (NT, I, J, P) (some (.int r.1)) (NT, r.2, J, P) := by
  unfold F_X12_menu at h
  refine Cm.of (by decide) (by simp [Value.category]) (Nat.le_of_ble_eq_true rfl) (Nat.le_refl _) (ls := [some (.ref 205), some (.int x1), none, none, none, none]) rfl ?_
  refine M_aload_n (pc := 0) dX12_menu_0 rfl ?_
  obtain ⟨r1, hr2, h⟩ := bnd h
  refine M_callVv (pc := 1) dX12_menu_1 v_X12_232 rfl rfl at_11 (Nat.le_of_ble_eq_true rfl) (C_X12_uses (d := d + 8) hp hr2) (Nat.le_refl _) ?_
  refine M_aload_n (pc := 4) dX12_menu_4 rfl ?_
  refine M_aload_n (pc := 5) dX12_menu_5 rfl ?_
  obtain ⟨r3, hr4, h⟩ := bnd h
  refine M_callVi (pc := 6) dX12_menu_6 v_X12_320 rfl rfl at_11 (Nat.le_of_ble_eq_true rfl) (C_X12_isMenu (d := d + 6) hp hr4) (Nat.le_refl _) ?_
  refine M_if_ne (pc := 9) (tgt := 16) dX12_menu_9 (by decide) (fun hc5 => ?_) (fun hc5 => ?_)
  · have h := (if_neg hc5).symm.trans h
    refine M_iconst (pc := 16) (v := 0) dX12_menu_16 (by decide) ?_
    refine M_iconst (pc := 17) (v := 1) dX12_menu_17 (by decide) ?_
    obtain ⟨r6, hr7, h⟩ := bnd h
    refine M_callVi (pc := 18) dX12_menu_18 v_X12_243 rfl rfl at_11 (Nat.le_of_ble_eq_true rfl) (C_X12_throwsIf (d := d + 8) hp hr7) (Nat.le_refl _) ?_
    refine M_if_ne (pc := 21) (tgt := 46) dX12_menu_21 (by decide) (fun hc8 => ?_) (fun hc8 => ?_)
    · have h := (if_neg hc8).symm.trans h
      refine M_iconst (pc := 46) (v := 0) dX12_menu_46 (by decide) ?_
      obtain rfl := Option.some.inj h
      exact M_iret (pc := 47) dX12_menu_47 rfl rfl rfl rfl
    · have h := (if_pos hc8).symm.trans h
      refine M_aload_n (pc := 24) dX12_menu_24 rfl ?_
      refine M_iload_n (pc := 25) dX12_menu_25 rfl ?_
      refine M_iconst (pc := 26) (v := 0) dX12_menu_26 (by decide) ?_
      refine M_iconst (pc := 27) (v := 3) dX12_menu_27 (by decide) ?_
      obtain ⟨r9, hr10, h⟩ := bnd h
      refine M_callSi (pc := 28) dX12_menu_28 s_X12_73 rfl rfl (Nat.le_of_ble_eq_true rfl) (C_X12_in (d := d + 8) hp hr10) (Nat.le_refl _) ?_
      refine M_if_ne (pc := 31) (tgt := 38) dX12_menu_31 (by decide) (fun hc11 => ?_) (fun hc11 => ?_)
      · have h := (if_neg hc11).symm.trans h
        refine M_iconst (pc := 38) (v := 0) dX12_menu_38 (by decide) ?_
        refine M_iconst (pc := 39) (v := 2) dX12_menu_39 (by decide) ?_
        obtain ⟨r12, hr13, h⟩ := bnd h
        refine M_callVi (pc := 40) dX12_menu_40 v_X12_243 rfl rfl at_11 (Nat.le_of_ble_eq_true rfl) (C_X12_throwsIf (d := d + 8) hp hr13) (Nat.le_refl _) ?_
        refine M_if_eq (pc := 43) (tgt := 48) dX12_menu_43 (by decide) (fun hc14 => ?_) (fun hc14 => ?_)
        · have h := (if_pos hc14).symm.trans h
          refine M_iconst (pc := 48) (v := 0) dX12_menu_48 (by decide) ?_
          refine M_istore_n (pc := 49) (ls' := [some (.ref 205), some (.int x1), some (.int (0 : Int32)), none, none, none]) dX12_menu_49 (by decide) rfl ?_
          refine M_iconst (pc := 50) (v := 0) dX12_menu_50 (by decide) ?_
          refine M_istore_n (pc := 51) (ls' := [some (.ref 205), some (.int x1), some (.int (0 : Int32)), some (.int (0 : Int32)), none, none]) dX12_menu_51 (by decide) rfl ?_
          refine M_aload_n (pc := 52) dX12_menu_52 rfl ?_
          obtain ⟨r15, hr16, h⟩ := bnd h
          refine M_callVv (pc := 53) dX12_menu_53 v_X12_323 rfl rfl at_11 (Nat.le_of_ble_eq_true rfl) (C_X12_keepsAll (d := d + 8) hp hr16) (Nat.le_refl _) ?_
          refine M_iconst (pc := 56) (v := 0) dX12_menu_56 (by decide) ?_
          refine M_istore (pc := 57) (ls' := [some (.ref 205), some (.int x1), some (.int (0 : Int32)), some (.int (0 : Int32)), some (.int (0 : Int32)), none]) dX12_menu_57 (by decide) rfl ?_
          exact LC_X12_menu_59 (P := P) hp (0 : Int32) (0 : Int32) (0 : Int32) r15 _ h
        · have h := (if_neg hc14).symm.trans h
          refine M_iconst (pc := 46) (v := 0) dX12_menu_46 (by decide) ?_
          obtain rfl := Option.some.inj h
          exact M_iret (pc := 47) dX12_menu_47 rfl rfl rfl rfl
      · have h := (if_pos hc11).symm.trans h
        refine M_iconst (pc := 34) (v := 1) dX12_menu_34 (by decide) ?_
        refine M_goto (pc := 35) (tgt := 39) dX12_menu_35 (by decide) ?_
        refine M_iconst (pc := 39) (v := 2) dX12_menu_39 (by decide) ?_
        obtain ⟨r36, hr37, h⟩ := bnd h
        refine M_callVi (pc := 40) dX12_menu_40 v_X12_243 rfl rfl at_11 (Nat.le_of_ble_eq_true rfl) (C_X12_throwsIf (d := d + 8) hp hr37) (Nat.le_refl _) ?_
        refine M_if_eq (pc := 43) (tgt := 48) dX12_menu_43 (by decide) (fun hc38 => ?_) (fun hc38 => ?_)
        · have h := (if_pos hc38).symm.trans h
          refine M_iconst (pc := 48) (v := 0) dX12_menu_48 (by decide) ?_
          refine M_istore_n (pc := 49) (ls' := [some (.ref 205), some (.int x1), some (.int (0 : Int32)), none, none, none]) dX12_menu_49 (by decide) rfl ?_
          refine M_iconst (pc := 50) (v := 0) dX12_menu_50 (by decide) ?_
          refine M_istore_n (pc := 51) (ls' := [some (.ref 205), some (.int x1), some (.int (0 : Int32)), some (.int (0 : Int32)), none, none]) dX12_menu_51 (by decide) rfl ?_
          refine M_aload_n (pc := 52) dX12_menu_52 rfl ?_
          obtain ⟨r39, hr40, h⟩ := bnd h
          refine M_callVv (pc := 53) dX12_menu_53 v_X12_323 rfl rfl at_11 (Nat.le_of_ble_eq_true rfl) (C_X12_keepsAll (d := d + 8) hp hr40) (Nat.le_refl _) ?_
          refine M_iconst (pc := 56) (v := 0) dX12_menu_56 (by decide) ?_
          refine M_istore (pc := 57) (ls' := [some (.ref 205), some (.int x1), some (.int (0 : Int32)), some (.int (0 : Int32)), some (.int (0 : Int32)), none]) dX12_menu_57 (by decide) rfl ?_
          exact LC_X12_menu_59 (P := P) hp (0 : Int32) (0 : Int32) (0 : Int32) r39 _ h
        · have h := (if_neg hc38).symm.trans h
          refine M_iconst (pc := 46) (v := 0) dX12_menu_46 (by decide) ?_
          obtain rfl := Option.some.inj h
          exact M_iret (pc := 47) dX12_menu_47 rfl rfl rfl rfl
  · have h := (if_pos hc5).symm.trans h
    refine M_iconst (pc := 12) (v := 1) dX12_menu_12 (by decide) ?_
    refine M_goto (pc := 13) (tgt := 17) dX12_menu_13 (by decide) ?_
    refine M_iconst (pc := 17) (v := 1) dX12_menu_17 (by decide) ?_
    obtain ⟨r41, hr42, h⟩ := bnd h
    refine M_callVi (pc := 18) dX12_menu_18 v_X12_243 rfl rfl at_11 (Nat.le_of_ble_eq_true rfl) (C_X12_throwsIf (d := d + 8) hp hr42) (Nat.le_refl _) ?_
    refine M_if_ne (pc := 21) (tgt := 46) dX12_menu_21 (by decide) (fun hc43 => ?_) (fun hc43 => ?_)
    · have h := (if_neg hc43).symm.trans h
      refine M_iconst (pc := 46) (v := 0) dX12_menu_46 (by decide) ?_
      obtain rfl := Option.some.inj h
      exact M_iret (pc := 47) dX12_menu_47 rfl rfl rfl rfl
    · have h := (if_pos hc43).symm.trans h
      refine M_aload_n (pc := 24) dX12_menu_24 rfl ?_
      refine M_iload_n (pc := 25) dX12_menu_25 rfl ?_
      refine M_iconst (pc := 26) (v := 0) dX12_menu_26 (by decide) ?_
      refine M_iconst (pc := 27) (v := 3) dX12_menu_27 (by decide) ?_
      obtain ⟨r44, hr45, h⟩ := bnd h
      refine M_callSi (pc := 28) dX12_menu_28 s_X12_73 rfl rfl (Nat.le_of_ble_eq_true rfl) (C_X12_in (d := d + 8) hp hr45) (Nat.le_refl _) ?_
      refine M_if_ne (pc := 31) (tgt := 38) dX12_menu_31 (by decide) (fun hc46 => ?_) (fun hc46 => ?_)
      · have h := (if_neg hc46).symm.trans h
        refine M_iconst (pc := 38) (v := 0) dX12_menu_38 (by decide) ?_
        refine M_iconst (pc := 39) (v := 2) dX12_menu_39 (by decide) ?_
        obtain ⟨r47, hr48, h⟩ := bnd h
        refine M_callVi (pc := 40) dX12_menu_40 v_X12_243 rfl rfl at_11 (Nat.le_of_ble_eq_true rfl) (C_X12_throwsIf (d := d + 8) hp hr48) (Nat.le_refl _) ?_
        refine M_if_eq (pc := 43) (tgt := 48) dX12_menu_43 (by decide) (fun hc49 => ?_) (fun hc49 => ?_)
        · have h := (if_pos hc49).symm.trans h
          refine M_iconst (pc := 48) (v := 0) dX12_menu_48 (by decide) ?_
          refine M_istore_n (pc := 49) (ls' := [some (.ref 205), some (.int x1), some (.int (0 : Int32)), none, none, none]) dX12_menu_49 (by decide) rfl ?_
          refine M_iconst (pc := 50) (v := 0) dX12_menu_50 (by decide) ?_
          refine M_istore_n (pc := 51) (ls' := [some (.ref 205), some (.int x1), some (.int (0 : Int32)), some (.int (0 : Int32)), none, none]) dX12_menu_51 (by decide) rfl ?_
          refine M_aload_n (pc := 52) dX12_menu_52 rfl ?_
          obtain ⟨r50, hr51, h⟩ := bnd h
          refine M_callVv (pc := 53) dX12_menu_53 v_X12_323 rfl rfl at_11 (Nat.le_of_ble_eq_true rfl) (C_X12_keepsAll (d := d + 8) hp hr51) (Nat.le_refl _) ?_
          refine M_iconst (pc := 56) (v := 0) dX12_menu_56 (by decide) ?_
          refine M_istore (pc := 57) (ls' := [some (.ref 205), some (.int x1), some (.int (0 : Int32)), some (.int (0 : Int32)), some (.int (0 : Int32)), none]) dX12_menu_57 (by decide) rfl ?_
          exact LC_X12_menu_59 (P := P) hp (0 : Int32) (0 : Int32) (0 : Int32) r50 _ h
        · have h := (if_neg hc49).symm.trans h
          refine M_iconst (pc := 46) (v := 0) dX12_menu_46 (by decide) ?_
          obtain rfl := Option.some.inj h
          exact M_iret (pc := 47) dX12_menu_47 rfl rfl rfl rfl
      · have h := (if_pos hc46).symm.trans h
        refine M_iconst (pc := 34) (v := 1) dX12_menu_34 (by decide) ?_
        refine M_goto (pc := 35) (tgt := 39) dX12_menu_35 (by decide) ?_
        refine M_iconst (pc := 39) (v := 2) dX12_menu_39 (by decide) ?_
        obtain ⟨r52, hr53, h⟩ := bnd h
        refine M_callVi (pc := 40) dX12_menu_40 v_X12_243 rfl rfl at_11 (Nat.le_of_ble_eq_true rfl) (C_X12_throwsIf (d := d + 8) hp hr53) (Nat.le_refl _) ?_
        refine M_if_eq (pc := 43) (tgt := 48) dX12_menu_43 (by decide) (fun hc54 => ?_) (fun hc54 => ?_)
        · have h := (if_pos hc54).symm.trans h
          refine M_iconst (pc := 48) (v := 0) dX12_menu_48 (by decide) ?_
          refine M_istore_n (pc := 49) (ls' := [some (.ref 205), some (.int x1), some (.int (0 : Int32)), none, none, none]) dX12_menu_49 (by decide) rfl ?_
          refine M_iconst (pc := 50) (v := 0) dX12_menu_50 (by decide) ?_
          refine M_istore_n (pc := 51) (ls' := [some (.ref 205), some (.int x1), some (.int (0 : Int32)), some (.int (0 : Int32)), none, none]) dX12_menu_51 (by decide) rfl ?_
          refine M_aload_n (pc := 52) dX12_menu_52 rfl ?_
          obtain ⟨r55, hr56, h⟩ := bnd h
          refine M_callVv (pc := 53) dX12_menu_53 v_X12_323 rfl rfl at_11 (Nat.le_of_ble_eq_true rfl) (C_X12_keepsAll (d := d + 8) hp hr56) (Nat.le_refl _) ?_
          refine M_iconst (pc := 56) (v := 0) dX12_menu_56 (by decide) ?_
          refine M_istore (pc := 57) (ls' := [some (.ref 205), some (.int x1), some (.int (0 : Int32)), some (.int (0 : Int32)), some (.int (0 : Int32)), none]) dX12_menu_57 (by decide) rfl ?_
          exact LC_X12_menu_59 (P := P) hp (0 : Int32) (0 : Int32) (0 : Int32) r55 _ h
        · have h := (if_neg hc54).symm.trans h
          refine M_iconst (pc := 46) (v := 0) dX12_menu_46 (by decide) ?_
          obtain rfl := Option.some.inj h
          exact M_iret (pc := 47) dX12_menu_47 rfl rfl rfl rfl
