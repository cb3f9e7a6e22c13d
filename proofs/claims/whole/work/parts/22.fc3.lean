def F_X12_trial (I : HI) (x1 : Int32) (x2 : Int32) : Option (Int32 × HI) :=
  (F_X12_in (up2 I 205 0 (0 : Int32)) x1 (0 : Int32) (60 : Int32)) >>= fun r1 => if r1 = 0 then (F_X12_throwsIf (up2 I 205 0 (0 : Int32)) (1 : Int32) (1 : Int32)) >>= fun r16 => if r16.1 = 0 then (F_X12_keepsAll r16.2) >>= fun r19 => (F_X12_goesOn r19 x1) >>= fun r21 => if x2 = 0 then (F_X12_bringsBack r21.2) >>= fun r24 => some ((r21.2 206 5), r24) else (F_X12_bringsBack r21.2) >>= fun r26 => some ((r21.2 206 14), r26) else some ((0 : Int32), r16.2) else (F_X12_throwsIf (up2 I 205 0 (0 : Int32)) (0 : Int32) (1 : Int32)) >>= fun r4 => if r4.1 = 0 then (F_X12_keepsAll r4.2) >>= fun r7 => (F_X12_goesOn r7 x1) >>= fun r9 => if x2 = 0 then (F_X12_bringsBack r9.2) >>= fun r12 => some ((r9.2 206 5), r12) else (F_X12_bringsBack r9.2) >>= fun r14 => some ((r9.2 206 14), r14) else some ((0 : Int32), r4.2)
set_option maxRecDepth 4000 in
set_option maxHeartbeats 4000000 in
theorem C_X12_trial {g : gX} {d : Nat} {P : Nat → Nat → Option Nat} {I : HI} {x1 : Int32} {x2 : Int32} {J : HJ} (hp : Wp P) {r : Int32 × HI} (h : F_X12_trial I x1 x2 = some r) : Cm g mX12_trial (d + 11) [.ref 205, .int x1, .int x2] (NT, I, J, P) (some (.int r.1)) (NT, r.2, J, P) := by
  unfold F_X12_trial at h
  refine Cm.of (by decide) (by simp [Value.category]) (Nat.le_of_ble_eq_true rfl) (Nat.le_refl _) (ls := [some (.ref 205), some (.int x1), some (.int x2), none]) rfl ?_
  refine M_aload_n (pc := 0) dX12_trial_0 rfl ?_
  refine M_iconst (pc := 1) (v := 0) dX12_trial_1 (by decide) ?_
  refine M_putI (pc := 2) dX12_trial_2 f_X12_3 at_11 rfl ⟨rfl, rfl⟩ ?_
  refine M_aload_n (pc := 5) dX12_trial_5 rfl ?_
  refine M_iload_n (pc := 6) dX12_trial_6 rfl ?_
  refine M_iconst (pc := 7) (v := 0) dX12_trial_7 (by decide) ?_
  refine M_bipush (pc := 8) (v := 60) dX12_trial_8 (by decide) ?_
  obtain ⟨r1, hr2, h⟩ := bnd h
  refine M_callSi (pc := 10) dX12_trial_10 s_X12_73 rfl rfl (Nat.le_of_ble_eq_true rfl) (C_X12_in (d := d + 10) hp hr2) (Nat.le_refl _) ?_
  refine M_if_ne (pc := 13) (tgt := 20) dX12_trial_13 (by decide) (fun hc3 => ?_) (fun hc3 => ?_)
  · have h := (if_neg hc3).symm.trans h
    refine M_iconst (pc := 20) (v := 0) dX12_trial_20 (by decide) ?_
    refine M_iconst (pc := 21) (v := 1) dX12_trial_21 (by decide) ?_
    obtain ⟨r4, hr5, h⟩ := bnd h
    refine M_callVi (pc := 22) dX12_trial_22 v_X12_243 rfl rfl at_11 (Nat.le_of_ble_eq_true rfl) (C_X12_throwsIf (d := d + 10) hp hr5) (Nat.le_refl _) ?_
    refine M_if_eq (pc := 25) (tgt := 30) dX12_trial_25 (by decide) (fun hc6 => ?_) (fun hc6 => ?_)
    · have h := (if_pos hc6).symm.trans h
      refine M_aload_n (pc := 30) dX12_trial_30 rfl ?_
      obtain ⟨r7, hr8, h⟩ := bnd h
      refine M_callVv (pc := 31) dX12_trial_31 v_X12_323 rfl rfl at_11 (Nat.le_of_ble_eq_true rfl) (C_X12_keepsAll (d := d + 10) hp hr8) (Nat.le_refl _) ?_
      refine M_aload_n (pc := 34) dX12_trial_34 rfl ?_
      refine M_iload_n (pc := 35) dX12_trial_35 rfl ?_
      obtain ⟨r9, hr10, h⟩ := bnd h
      refine M_callVi (pc := 36) dX12_trial_36 v_X12_317 rfl rfl at_11 (Nat.le_of_ble_eq_true rfl) (C_X12_goesOn (d := d + 0) hp hr10) (Nat.le_refl _) ?_
      refine M_pop (pc := 39) dX12_trial_39 rfl ?_
      refine M_iload_n (pc := 40) dX12_trial_40 rfl ?_
      refine M_if_eq (pc := 41) (tgt := 54) dX12_trial_41 (by decide) (fun hc11 => ?_) (fun hc11 => ?_)
      · have h := (if_pos hc11).symm.trans h
        refine M_aload_n (pc := 54) dX12_trial_54 rfl ?_
        refine M_getR (pc := 55) dX12_trial_55 f_X12_13 at_11 (gc_205_1 hp).1 ?_
        refine M_iconst (pc := 58) (v := 5) dX12_trial_58 (by decide) ?_
        refine M_ildc (pc := 59) (j := 5) dX12_trial_59 (gc_205_1 hp).2 (by decide) (by decide) ?_
        refine M_istore_n (pc := 60) (ls' := [some (.ref 205), some (.int x1), some (.int x2), some (.int (r9.2 206 5))]) dX12_trial_60 (by decide) rfl ?_
        refine M_aload_n (pc := 61) dX12_trial_61 rfl ?_
        obtain ⟨r12, hr13, h⟩ := bnd h
        refine M_callVv (pc := 62) dX12_trial_62 v_X12_326 rfl rfl at_11 (Nat.le_of_ble_eq_true rfl) (C_X12_bringsBack (d := d + 10) hp hr13) (Nat.le_refl _) ?_
        refine M_iload_n (pc := 65) dX12_trial_65 rfl ?_
        obtain rfl := Option.some.inj h
        exact M_iret (pc := 66) dX12_trial_66 rfl rfl rfl rfl
      · have h := (if_neg hc11).symm.trans h
        refine M_aload_n (pc := 44) dX12_trial_44 rfl ?_
        refine M_getR (pc := 45) dX12_trial_45 f_X12_13 at_11 (gc_205_1 hp).1 ?_
        refine M_bipush (pc := 48) (v := 14) dX12_trial_48 (by decide) ?_
        refine M_ildc (pc := 50) (j := 14) dX12_trial_50 (gc_205_1 hp).2 (by decide) (by decide) ?_
        refine M_goto (pc := 51) (tgt := 60) dX12_trial_51 (by decide) ?_
        refine M_istore_n (pc := 60) (ls' := [some (.ref 205), some (.int x1), some (.int x2), some (.int (r9.2 206 14))]) dX12_trial_60 (by decide) rfl ?_
        refine M_aload_n (pc := 61) dX12_trial_61 rfl ?_
        obtain ⟨r14, hr15, h⟩ := bnd h
        refine M_callVv (pc := 62) dX12_trial_62 v_X12_326 rfl rfl at_11 (Nat.le_of_ble_eq_true rfl) (C_X12_bringsBack (d := d + 10) hp hr15) (Nat.le_refl _) ?_
        refine M_iload_n (pc := 65) dX12_trial_65 rfl ?_
        obtain rfl := Option.some.inj h
        exact M_iret (pc := 66) dX12_trial_66 rfl rfl rfl rfl
    · have h := (if_neg hc6).symm.trans h
      refine M_iconst (pc := 28) (v := 0) dX12_trial_28 (by decide) ?_
      obtain rfl := Option.some.inj h
      exact M_iret (pc := 29) dX12_trial_29 rfl rfl rfl rfl
  · have h := (if_pos hc3).symm.trans h
    refine M_iconst (pc := 16) (v := 1) dX12_trial_16 (by decide) ?_
    refine M_goto (pc := 17) (tgt := 21) dX12_trial_17 (by decide) ?_
    refine M_iconst (pc := 21) (v := 1) dX12_trial_21 (by decide) ?_
    obtain ⟨r16, hr17, h⟩ := bnd h
    refine M_callVi (pc := 22) dX12_trial_22 v_X12_243 rfl rfl at_11 (Nat.le_of_ble_eq_true rfl) (C_X12_throwsIf (d := d + 10) hp hr17) (Nat.le_refl _) ?_
    refine M_if_eq (pc := 25) (tgt := 30) dX12_trial_25 (by decide) (fun hc18 => ?_) (fun hc18 => ?_)
    · have h := (if_pos hc18).symm.trans h
      refine M_aload_n (pc := 30) dX12_trial_30 rfl ?_
      obtain ⟨r19, hr20, h⟩ := bnd h
      refine M_callVv (pc := 31) dX12_trial_31 v_X12_323 rfl rfl at_11 (Nat.le_of_ble_eq_true rfl) (C_X12_keepsAll (d := d + 10) hp hr20) (Nat.le_refl _) ?_
      refine M_aload_n (pc := 34) dX12_trial_34 rfl ?_
      refine M_iload_n (pc := 35) dX12_trial_35 rfl ?_
      obtain ⟨r21, hr22, h⟩ := bnd h
      refine M_callVi (pc := 36) dX12_trial_36 v_X12_317 rfl rfl at_11 (Nat.le_of_ble_eq_true rfl) (C_X12_goesOn (d := d + 0) hp hr22) (Nat.le_refl _) ?_
      refine M_pop (pc := 39) dX12_trial_39 rfl ?_
      refine M_iload_n (pc := 40) dX12_trial_40 rfl ?_
      refine M_if_eq (pc := 41) (tgt := 54) dX12_trial_41 (by decide) (fun hc23 => ?_) (fun hc23 => ?_)
      · have h := (if_pos hc23).symm.trans h
        refine M_aload_n (pc := 54) dX12_trial_54 rfl ?_
        refine M_getR (pc := 55) dX12_trial_55 f_X12_13 at_11 (gc_205_1 hp).1 ?_
        refine M_iconst (pc := 58) (v := 5) dX12_trial_58 (by decide) ?_
        refine M_ildc (pc := 59) (j := 5) dX12_trial_59 (gc_205_1 hp).2 (by decide) (by decide) ?_
        refine M_istore_n (pc := 60) (ls' := [some (.ref 205), some (.int x1), some (.int x2), some (.int (r21.2 206 5))]) dX12_trial_60 (by decide) rfl ?_
        refine M_aload_n (pc := 61) dX12_trial_61 rfl ?_
        obtain ⟨r24, hr25, h⟩ := bnd h
        refine M_callVv (pc := 62) dX12_trial_62 v_X12_326 rfl rfl at_11 (Nat.le_of_ble_eq_true rfl) (C_X12_bringsBack (d := d + 10) hp hr25) (Nat.le_refl _) ?_
        refine M_iload_n (pc := 65) dX12_trial_65 rfl ?_
        obtain rfl := Option.some.inj h
        exact M_iret (pc := 66) dX12_trial_66 rfl rfl rfl rfl
      · have h := (if_neg hc23).symm.trans h
        refine M_aload_n (pc := 44) dX12_trial_44 rfl ?_
        refine M_getR (pc := 45) dX12_trial_45 f_X12_13 at_11 (gc_205_1 hp).1 ?_
        refine M_bipush (pc := 48) (v := 14) dX12_trial_48 (by decide) ?_
        refine M_ildc (pc := 50) (j := 14) dX12_trial_50 (gc_205_1 hp).2 (by decide) (by decide) ?_
        refine M_goto (pc := 51) (tgt := 60) dX12_trial_51 (by decide) ?_
        refine M_istore_n (pc := 60) (ls' := [some (.ref 205), some (.int x1), some (.int x2), some (.int (r21.2 206 14))]) dX12_trial_60 (by decide) rfl ?_
        refine M_aload_n (pc := 61) dX12_trial_61 rfl ?_
        obtain ⟨r26, hr27, h⟩ := bnd h
        refine M_callVv (pc := 62) dX12_trial_62 v_X12_326 rfl rfl at_11 (Nat.le_of_ble_eq_true rfl) (C_X12_bringsBack (d := d + 10) hp hr27) (Nat.le_refl _) ?_
        refine M_iload_n (pc := 65) dX12_trial_65 rfl ?_
        obtain rfl := Option.some.inj h
        exact M_iret (pc := 66) dX12_trial_66 rfl rfl rfl rfl
    · have h := (if_neg hc18).symm.trans h
      refine M_iconst (pc := 28) (v := 0) dX12_trial_28 (by decide) ?_
      obtain rfl := Option.some.inj h
      exact M_iret (pc := 29) dX12_trial_29 rfl rfl rfl rfl
def L_X12_span_39 (x1 : Int32) (x2 : Int32) (x3 : Int32) (x4 : Int32) (I : HI) : Option (Int32 × HI) :=
  if (6 : Int32) < x4 then some (x3, I) else (F_X12_goesOn (up2 I 206 16 x4) x1) >>= fun r10 => (F_X12_bringsBack r10.2) >>= fun r12 => if 0 ≤ x3 then if x2 = 0 then L_X12_span_39 x1 x2 (if (r10.2 206 14) < x3 then (r10.2 206 14) else x3) (x4 + (1 : Int32)) r12 else L_X12_span_39 x1 x2 (if x3 < (r10.2 206 14) then (r10.2 206 14) else x3) (x4 + (1 : Int32)) r12 else L_X12_span_39 x1 x2 (r10.2 206 14) (x4 + (1 : Int32)) r12
partial_fixpoint
def F_X12_span (I : HI) (x1 : Int32) (x2 : Int32) : Option (Int32 × HI) :=
  (F_X12_in (up2 I 205 0 (0 : Int32)) x1 (0 : Int32) (60 : Int32)) >>= fun r1 => if r1 = 0 then (F_X12_throwsIf (up2 I 205 0 (0 : Int32)) (1 : Int32) (1 : Int32)) >>= fun r16 => if r16.1 = 0 then (F_X12_keepsAll r16.2) >>= fun r19 => L_X12_span_39 x1 x2 (-1 : Int32) (1 : Int32) r19 else some ((0 : Int32), r16.2) else (F_X12_throwsIf (up2 I 205 0 (0 : Int32)) (0 : Int32) (1 : Int32)) >>= fun r4 => if r4.1 = 0 then (F_X12_keepsAll r4.2) >>= fun r7 => L_X12_span_39 x1 x2 (-1 : Int32) (1 : Int32) r7 else some ((0 : Int32), r4.2)
set_option maxRecDepth 4000 in
set_option maxHeartbeats 4000000 in
theorem LC_X12_span_39 {g : gX} {d : Nat} {P : Nat → Nat → Option Nat} {J : HJ} {x1 : Int32} {x2 : Int32} (hp : Wp P) : ∀ (x3 : Int32) (x4 : Int32) (I : HI) (r : Int32 × HI), L_X12_span_39 x1 x2 x3 x4 I = some r → M g mX12_span (d + 11) (NT, NT, 0) ((.inl (some (.int r.1))), (NT, r.2, J, P)) 39 [some (.ref 205), some (.int x1), some (.int x2), some (.int x3), some (.int x4), none] [] (NT, I, J, P) := by
  refine L_X12_span_39.partial_correctness x1 x2 (fun x3 x4 I r => M g mX12_span (d + 11) (NT, NT, 0) ((.inl (some (.int r.1))), (NT, r.2, J, P)) 39 [some (.ref 205), some (.int x1), some (.int x2), some (.int x3), some (.int x4), none] [] (NT, I, J, P)) ?_
  intro f ih x3 x4 I r h
  refine M_iload (pc := 39) dX12_span_39 rfl ?_
  refine M_bipush (pc := 41) (v := 6) dX12_span_41 (by decide) ?_
  refine M_icmp_gt (pc := 43) (tgt := 109) dX12_span_43 (by decide) (fun hc9 => ?_) (fun hc9 => ?_)
  · have h := (if_pos hc9).symm.trans h
    refine M_iload_n (pc := 109) dX12_span_109 rfl ?_
    obtain rfl := Option.some.inj h
    exact M_iret (pc := 110) dX12_span_110 rfl rfl rfl rfl
  · have h := (if_neg hc9).symm.trans h
    refine M_aload_n (pc := 46) dX12_span_46 rfl ?_
    refine M_getR (pc := 47) dX12_span_47 f_X12_13 at_11 (gc_205_1 hp).1 ?_
    refine M_bipush (pc := 50) (v := 16) dX12_span_50 (by decide) ?_
    refine M_iload (pc := 52) dX12_span_52 rfl ?_
    refine M_istc (pc := 54) (j := 16) dX12_span_54 (gc_205_1 hp).2 (by decide) (by decide) ?_
    refine M_aload_n (pc := 55) dX12_span_55 rfl ?_
    refine M_iload_n (pc := 56) dX12_span_56 rfl ?_
    obtain ⟨r10, hr11, h⟩ := bnd h
    refine M_callVi (pc := 57) dX12_span_57 v_X12_317 rfl rfl at_11 (Nat.le_of_ble_eq_true rfl) (C_X12_goesOn (d := d + 0) hp hr11) (Nat.le_refl _) ?_
    refine M_pop (pc := 60) dX12_span_60 rfl ?_
    refine M_aload_n (pc := 61) dX12_span_61 rfl ?_
    refine M_getR (pc := 62) dX12_span_62 f_X12_13 at_11 (gc_205_1 hp).1 ?_
    refine M_bipush (pc := 65) (v := 14) dX12_span_65 (by decide) ?_
    refine M_ildc (pc := 67) (j := 14) dX12_span_67 (gc_205_1 hp).2 (by decide) (by decide) ?_
    refine M_istore (pc := 68) (ls' := [some (.ref 205), some (.int x1), some (.int x2), some (.int x3), some (.int x4), some (.int (r10.2 206 14))]) dX12_span_68 (by decide) rfl ?_
    refine M_aload_n (pc := 70) dX12_span_70 rfl ?_
    obtain ⟨r12, hr13, h⟩ := bnd h
    refine M_callVv (pc := 71) dX12_span_71 v_X12_326 rfl rfl at_11 (Nat.le_of_ble_eq_true rfl) (C_X12_bringsBack (d := d + 10) hp hr13) (Nat.le_refl _) ?_
    refine M_iload_n (pc := 74) dX12_span_74 rfl ?_
    refine M_if_ge (pc := 75) (tgt := 83) dX12_span_75 (by decide) (fun hc14 => ?_) (fun hc14 => ?_)
    · have h := (if_pos hc14).symm.trans h
      refine M_iload_n (pc := 83) dX12_span_83 rfl ?_
      refine M_if_eq (pc := 84) (tgt := 96) dX12_span_84 (by decide) (fun hc15 => ?_) (fun hc15 => ?_)
      · have h := (if_pos hc15).symm.trans h
        refine M_iload_n (pc := 96) dX12_span_96 rfl ?_
        refine M_iload (pc := 97) dX12_span_97 rfl ?_
        refine M_mmin (pc := 99) dX12_span_99 mm_X12_259.1 mm_X12_259.2.1 mm_X12_259.2.2.1 mm_X12_259.2.2.2 (Nat.le_of_ble_eq_true rfl) ?_
        refine M_istore_n (pc := 102) (ls' := [some (.ref 205), some (.int x1), some (.int x2), some (.int (if (r10.2 206 14) < x3 then (r10.2 206 14) else x3)), some (.int x4), some (.int (r10.2 206 14))]) dX12_span_102 (by decide) rfl ?_
        refine M_iinc (pc := 103) (v := (x4 + (1 : Int32))) (ls' := [some (.ref 205), some (.int x1), some (.int x2), some (.int (if (r10.2 206 14) < x3 then (r10.2 206 14) else x3)), some (.int (x4 + (1 : Int32))), some (.int (r10.2 206 14))]) dX12_span_103 rfl rfl (by decide) rfl ?_
        refine M_goto (pc := 106) (tgt := 39) dX12_span_106 (by decide) ?_
        refine M_mask (pc := 39) [true, true, true, true, true, false] rfl ?_
        exact ih (if (r10.2 206 14) < x3 then (r10.2 206 14) else x3) (x4 + (1 : Int32)) r12 _ h
      · have h := (if_neg hc15).symm.trans h
        refine M_iload_n (pc := 87) dX12_span_87 rfl ?_
        refine M_iload (pc := 88) dX12_span_88 rfl ?_
        refine M_mmax (pc := 90) dX12_span_90 mm_X12_293.1 mm_X12_293.2.1 mm_X12_293.2.2.1 mm_X12_293.2.2.2 (Nat.le_of_ble_eq_true rfl) ?_
        refine M_goto (pc := 93) (tgt := 102) dX12_span_93 (by decide) ?_
        refine M_istore_n (pc := 102) (ls' := [some (.ref 205), some (.int x1), some (.int x2), some (.int (if x3 < (r10.2 206 14) then (r10.2 206 14) else x3)), some (.int x4), some (.int (r10.2 206 14))]) dX12_span_102 (by decide) rfl ?_
        refine M_iinc (pc := 103) (v := (x4 + (1 : Int32))) (ls' := [some (.ref 205), some (.int x1), some (.int x2), some (.int (if x3 < (r10.2 206 14) then (r10.2 206 14) else x3)), some (.int (x4 + (1 : Int32))), some (.int (r10.2 206 14))]) dX12_span_103 rfl rfl (by decide) rfl ?_
        refine M_goto (pc := 106) (tgt := 39) dX12_span_106 (by decide) ?_
        refine M_mask (pc := 39) [true, true, true, true, true, false] rfl ?_
        exact ih (if x3 < (r10.2 206 14) then (r10.2 206 14) else x3) (x4 + (1 : Int32)) r12 _ h
    · have h := (if_neg hc14).symm.trans h
      refine M_iload (pc := 78) dX12_span_78 rfl ?_
      refine M_goto (pc := 80) (tgt := 102) dX12_span_80 (by decide) ?_
      refine M_istore_n (pc := 102) (ls' := [some (.ref 205), some (.int x1), some (.int x2), some (.int (r10.2 206 14)), some (.int x4), some (.int (r10.2 206 14))]) dX12_span_102 (by decide) rfl ?_
      refine M_iinc (pc := 103) (v := (x4 + (1 : Int32))) (ls' := [some (.ref 205), some (.int x1), some (.int x2), some (.int (r10.2 206 14)), some (.int (x4 + (1 : Int32))), some (.int (r10.2 206 14))]) dX12_span_103 rfl rfl (by decide) rfl ?_
      refine M_goto (pc := 106) (tgt := 39) dX12_span_106 (by decide) ?_
      refine M_mask (pc := 39) [true, true, true, true, true, false] rfl ?_
      exact ih (r10.2 206 14) (x4 + (1 : Int32)) r12 _ h
set_option maxRecDepth 4000 in
set_option maxHeartbeats 4000000 in
theorem C_X12_span {g : gX} {d : Nat} {P : Nat → Nat → Option Nat} {I : HI} {x1 : Int32} {x2 : Int32} {J : HJ} (hp : Wp P) {r : Int32 × HI} (h : F_X12_span I x1 x2 = some r) : Cm g mX12_span (d + 11) [.ref 205, .int x1, .int x2] (NT, I, J, P) (some (.int r.1)) (NT, r.2, J, P) := by
  unfold F_X12_span at h
  refine Cm.of (by decide) (by simp [Value.category]) (Nat.le_of_ble_eq_true rfl) (Nat.le_refl _) (ls := [some (.ref 205), some (.int x1), some (.int x2), none, none, none]) rfl ?_
  refine M_aload_n (pc := 0) dX12_span_0 rfl ?_
  refine M_iconst (pc := 1) (v := 0) dX12_span_1 (by decide) ?_
  refine M_putI (pc := 2) dX12_span_2 f_X12_3 at_11 rfl ⟨rfl, rfl⟩ ?_
  refine M_aload_n (pc := 5) dX12_span_5 rfl ?_
  refine M_iload_n (pc := 6) dX12_span_6 rfl ?_
  refine M_iconst (pc := 7) (v := 0) dX12_span_7 (by decide) ?_
  refine M_bipush (pc := 8) (v := 60) dX12_span_8 (by decide) ?_
  obtain ⟨r1, hr2, h⟩ := bnd h
  refine M_callSi (pc := 10) dX12_span_10 s_X12_73 rfl rfl (Nat.le_of_ble_eq_true rfl) (C_X12_in (d := d + 10) hp hr2) (Nat.le_refl _) ?_
  refine M_if_ne (pc := 13) (tgt := 20) dX12_span_13 (by decide) (fun hc3 => ?_) (fun hc3 => ?_)
  · have h := (if_neg hc3).symm.trans h
    refine M_iconst (pc := 20) (v := 0) dX12_span_20 (by decide) ?_
    refine M_iconst (pc := 21) (v := 1) dX12_span_21 (by decide) ?_
    obtain ⟨r4, hr5, h⟩ := bnd h
    refine M_callVi (pc := 22) dX12_span_22 v_X12_243 rfl rfl at_11 (Nat.le_of_ble_eq_true rfl) (C_X12_throwsIf (d := d + 10) hp hr5) (Nat.le_refl _) ?_
    refine M_if_eq (pc := 25) (tgt := 30) dX12_span_25 (by decide) (fun hc6 => ?_) (fun hc6 => ?_)
    · have h := (if_pos hc6).symm.trans h
      refine M_aload_n (pc := 30) dX12_span_30 rfl ?_
      obtain ⟨r7, hr8, h⟩ := bnd h
      refine M_callVv (pc := 31) dX12_span_31 v_X12_323 rfl rfl at_11 (Nat.le_of_ble_eq_true rfl) (C_X12_keepsAll (d := d + 10) hp hr8) (Nat.le_refl _) ?_
      refine M_iconst (pc := 34) (v := -1) dX12_span_34 (by decide) ?_
      refine M_istore_n (pc := 35) (ls' := [some (.ref 205), some (.int x1), some (.int x2), some (.int (-1 : Int32)), none, none]) dX12_span_35 (by decide) rfl ?_
      refine M_iconst (pc := 36) (v := 1) dX12_span_36 (by decide) ?_
      refine M_istore (pc := 37) (ls' := [some (.ref 205), some (.int x1), some (.int x2), some (.int (-1 : Int32)), some (.int (1 : Int32)), none]) dX12_span_37 (by decide) rfl ?_
      exact LC_X12_span_39 (P := P) hp (-1 : Int32) (1 : Int32) r7 _ h
    · have h := (if_neg hc6).symm.trans h
      refine M_iconst (pc := 28) (v := 0) dX12_span_28 (by decide) ?_
      obtain rfl := Option.some.inj h
      exact M_iret (pc := 29) dX12_span_29 rfl rfl rfl rfl
  · have h := (if_pos hc3).symm.trans h
    refine M_iconst (pc := 16) (v := 1) dX12_span_16 (by decide) ?_
    refine M_goto (pc := 17) (tgt := 21) dX12_span_17 (by decide) ?_
    refine M_iconst (pc := 21) (v := 1) dX12_span_21 (by decide) ?_
    obtain ⟨r16, hr17, h⟩ := bnd h
    refine M_callVi (pc := 22) dX12_span_22 v_X12_243 rfl rfl at_11 (Nat.le_of_ble_eq_true rfl) (C_X12_throwsIf (d := d + 10) hp hr17) (Nat.le_refl _) ?_
    refine M_if_eq (pc := 25) (tgt := 30) dX12_span_25 (by decide) (fun hc18 => ?_) (fun hc18 => ?_)
    · have h := (if_pos hc18).symm.trans h
      refine M_aload_n (pc := 30) dX12_span_30 rfl ?_
      obtain ⟨r19, hr20, h⟩ := bnd h
      refine M_callVv (pc := 31) dX12_span_31 v_X12_323 rfl rfl at_11 (Nat.le_of_ble_eq_true rfl) (C_X12_keepsAll (d := d + 10) hp hr20) (Nat.le_refl _) ?_
      refine M_iconst (pc := 34) (v := -1) dX12_span_34 (by decide) ?_
      refine M_istore_n (pc := 35) (ls' := [some (.ref 205), some (.int x1), some (.int x2), some (.int (-1 : Int32)), none, none]) dX12_span_35 (by decide) rfl ?_
      refine M_iconst (pc := 36) (v := 1) dX12_span_36 (by decide) ?_
      refine M_istore (pc := 37) (ls' := [some (.ref 205), some (.int x1), some (.int x2), some (.int (-1 : Int32)), some (.int (1 : Int32)), none]) dX12_span_37 (by decide) rfl ?_
      exact LC_X12_span_39 (P := P) hp (-1 : Int32) (1 : Int32) r19 _ h
    · have h := (if_neg hc18).symm.trans h
      refine M_iconst (pc := 28) (v := 0) dX12_span_28 (by decide) ?_
      obtain rfl := Option.some.inj h
      exact M_iret (pc := 29) dX12_span_29 rfl rfl rfl rfl
def F_X12_ofLog (I : HI) (x1 : Int32) (x2 : Int32) : Option (Int32) :=
  (ald 2051 (I 206) (((113 : Int32) + ((4 : Int32) * x1)) + x2)) >>= fun v1 => some v1
set_option maxRecDepth 4000 in
set_option maxHeartbeats 4000000 in
theorem C_X12_ofLog {g : gX} {d : Nat} {P : Nat → Nat → Option Nat} {I : HI} {x1 : Int32} {x2 : Int32} {J : HJ} (hp : Wp P) {r : Int32} (h : F_X12_ofLog I x1 x2 = some r) : Cm g mX12_ofLog (d + 0) [.ref 205, .int x1, .int x2] (NT, I, J, P) (some (.int r)) (NT, I, J, P) := by
  unfold F_X12_ofLog at h
  refine Cm.of (by decide) (by simp [Value.category]) (Nat.le_of_ble_eq_true rfl) (Nat.le_refl _) (ls := [some (.ref 205), some (.int x1), some (.int x2)]) rfl ?_
  refine M_aload_n (pc := 0) dX12_ofLog_0 rfl ?_
  refine M_getR (pc := 1) dX12_ofLog_1 f_X12_13 at_11 (gc_205_1 hp).1 ?_
  refine M_bipush (pc := 4) (v := 113) dX12_ofLog_4 (by decide) ?_
  refine M_iconst (pc := 6) (v := 4) dX12_ofLog_6 (by decide) ?_
  refine M_iload_n (pc := 7) dX12_ofLog_7 rfl ?_
  refine M_imul (pc := 8) dX12_ofLog_8 ?_
  refine M_iadd (pc := 9) dX12_ofLog_9 ?_
  refine M_iload_n (pc := 10) dX12_ofLog_10 rfl ?_
  refine M_iadd (pc := 11) dX12_ofLog_11 ?_
  obtain ⟨v1, hv2, h⟩ := bnd h
  refine M_aldI (pc := 12) dX12_ofLog_12 (gc_205_1 hp).2 hv2 ?_
  obtain rfl := Option.some.inj h
  exact M_iret (pc := 13) dX12_ofLog_13 rfl rfl rfl rfl
def L_X12_led_36 (I : HI) (x1 : Int32) (x2 : Int32) (x3 : Int32) (x4 : Int32) (x5 : Int32) : Option (Int32 × HI) :=
  if x5 < 0 then if x2 = 0 then some (x3, I) else some (x4, I) else (F_X12_ofLog I x5 (1 : Int32)) >>= fun r8 => if r8 = x1 then (F_X12_ofLog I x5 (0 : Int32)) >>= fun r11 => L_X12_led_36 I x1 x2 (x3 + (1 : Int32)) r11 (x5 + (-1 : Int32)) else L_X12_led_36 I x1 x2 x3 x4 (x5 + (-1 : Int32))
partial_fixpoint
def F_X12_led (I : HI) (x1 : Int32) (x2 : Int32) : Option (Int32 × HI) :=
  (F_X12_noDish (up2 I 205 0 (0 : Int32)) x1) >>= fun r1 => (F_X12_throwsIf (up2 I 205 0 (0 : Int32)) r1 (1 : Int32)) >>= fun r3 => if r3.1 = 0 then L_X12_led_36 r3.2 x1 x2 (0 : Int32) (-1 : Int32) ((r3.2 206 15) - (1 : Int32)) else some ((0 : Int32), r3.2)
set_option maxRecDepth 4000 in
set_option maxHeartbeats 4000000 in
theorem LC_X12_led_36 {g : gX} {d : Nat} {P : Nat → Nat → Option Nat} {J : HJ} {I : HI} {x1 : Int32} {x2 : Int32} (hp : Wp P) : ∀ (x3 : Int32) (x4 : Int32) (x5 : Int32) (r : Int32 × HI), L_X12_led_36 I x1 x2 x3 x4 x5 = some r → M g mX12_led (d + 2) (NT, NT, 0) ((.inl (some (.int r.1))), (NT, r.2, J, P)) 36 [some (.ref 205), some (.int x1), some (.int x2), some (.int x3), some (.int x4), some (.int x5)] [] (NT, I, J, P) := by
  refine L_X12_led_36.partial_correctness I x1 x2 (fun x3 x4 x5 r => M g mX12_led (d + 2) (NT, NT, 0) ((.inl (some (.int r.1))), (NT, r.2, J, P)) 36 [some (.ref 205), some (.int x1), some (.int x2), some (.int x3), some (.int x4), some (.int x5)] [] (NT, I, J, P)) ?_
  intro f ih x3 x4 x5 r h
  refine M_iload (pc := 36) dX12_led_36 rfl ?_
  refine M_if_lt (pc := 38) (tgt := 73) dX12_led_38 (by decide) (fun hc6 => ?_) (fun hc6 => ?_)
  · have h := (if_pos hc6).symm.trans h
    refine M_iload_n (pc := 73) dX12_led_73 rfl ?_
    refine M_if_eq (pc := 74) (tgt := 82) dX12_led_74 (by decide) (fun hc7 => ?_) (fun hc7 => ?_)
    · have h := (if_pos hc7).symm.trans h
      refine M_iload_n (pc := 82) dX12_led_82 rfl ?_
      obtain rfl := Option.some.inj h
      exact M_iret (pc := 83) dX12_led_83 rfl rfl rfl rfl
    · have h := (if_neg hc7).symm.trans h
      refine M_iload (pc := 77) dX12_led_77 rfl ?_
      refine M_goto (pc := 79) (tgt := 83) dX12_led_79 (by decide) ?_
      obtain rfl := Option.some.inj h
      exact M_iret (pc := 83) dX12_led_83 rfl rfl rfl rfl
  · have h := (if_neg hc6).symm.trans h
    refine M_aload_n (pc := 41) dX12_led_41 rfl ?_
    refine M_iload (pc := 42) dX12_led_42 rfl ?_
    refine M_iconst (pc := 44) (v := 1) dX12_led_44 (by decide) ?_
    obtain ⟨r8, hr9, h⟩ := bnd h
    refine M_callVi (pc := 45) dX12_led_45 v_X12_396 rfl rfl at_11 (Nat.le_of_ble_eq_true rfl) (C_X12_ofLog (d := d + 1) hp hr9) (Nat.le_refl _) ?_
    refine M_iload_n (pc := 48) dX12_led_48 rfl ?_
    refine M_icmp_eq (pc := 49) (tgt := 55) dX12_led_49 (by decide) (fun hc10 => ?_) (fun hc10 => ?_)
    · have h := (if_pos hc10).symm.trans h
      refine M_iinc (pc := 55) (v := (x3 + (1 : Int32))) (ls' := [some (.ref 205), some (.int x1), some (.int x2), some (.int (x3 + (1 : Int32))), some (.int x4), some (.int x5)]) dX12_led_55 rfl rfl (by decide) rfl ?_
      refine M_aload_n (pc := 58) dX12_led_58 rfl ?_
      refine M_iload (pc := 59) dX12_led_59 rfl ?_
      refine M_iconst (pc := 61) (v := 0) dX12_led_61 (by decide) ?_
      obtain ⟨r11, hr12, h⟩ := bnd h
      refine M_callVi (pc := 62) dX12_led_62 v_X12_396 rfl rfl at_11 (Nat.le_of_ble_eq_true rfl) (C_X12_ofLog (d := d + 1) hp hr12) (Nat.le_refl _) ?_
      refine M_istore (pc := 65) (ls' := [some (.ref 205), some (.int x1), some (.int x2), some (.int (x3 + (1 : Int32))), some (.int r11), some (.int x5)]) dX12_led_65 (by decide) rfl ?_
      refine M_iinc (pc := 67) (v := (x5 + (-1 : Int32))) (ls' := [some (.ref 205), some (.int x1), some (.int x2), some (.int (x3 + (1 : Int32))), some (.int r11), some (.int (x5 + (-1 : Int32)))]) dX12_led_67 rfl rfl (by decide) rfl ?_
      refine M_goto (pc := 70) (tgt := 36) dX12_led_70 (by decide) ?_
      exact ih (x3 + (1 : Int32)) r11 (x5 + (-1 : Int32)) _ h
    · have h := (if_neg hc10).symm.trans h
      refine M_goto (pc := 52) (tgt := 67) dX12_led_52 (by decide) ?_
      refine M_iinc (pc := 67) (v := (x5 + (-1 : Int32))) (ls' := [some (.ref 205), some (.int x1), some (.int x2), some (.int x3), some (.int x4), some (.int (x5 + (-1 : Int32)))]) dX12_led_67 rfl rfl (by decide) rfl ?_
      refine M_goto (pc := 70) (tgt := 36) dX12_led_70 (by decide) ?_
      exact ih x3 x4 (x5 + (-1 : Int32)) _ h
set_option maxRecDepth 4000 in
set_option maxHeartbeats 4000000 in
theorem C_X12_led {g : gX} {d : Nat} {P : Nat → Nat → Option Nat} {I : HI} {x1 : Int32} {x2 : Int32} {J : HJ} (hp : Wp P) {r : Int32 × HI} (h : F_X12_led I x1 x2 = some r) : Cm g mX12_led (d + 2) [.ref 205, .int x1, .int x2] (NT, I, J, P) (some (.int r.1)) (NT, r.2, J, P) := by
  unfold F_X12_led at h
  refine Cm.of (by decide) (by simp [Value.category]) (Nat.le_of_ble_eq_true rfl) (Nat.le_refl _) (ls := [some (.ref 205), some (.int x1), some (.int x2), none, none, none]) rfl ?_
  refine M_aload_n (pc := 0) dX12_led_0 rfl ?_
  refine M_iconst (pc := 1) (v := 0) dX12_led_1 (by decide) ?_
  refine M_putI (pc := 2) dX12_led_2 f_X12_3 at_11 rfl ⟨rfl, rfl⟩ ?_
  refine M_aload_n (pc := 5) dX12_led_5 rfl ?_
  refine M_aload_n (pc := 6) dX12_led_6 rfl ?_
  refine M_iload_n (pc := 7) dX12_led_7 rfl ?_
  obtain ⟨r1, hr2, h⟩ := bnd h
  refine M_callVi (pc := 8) dX12_led_8 v_X12_278 rfl rfl at_11 (Nat.le_of_ble_eq_true rfl) (C_X12_noDish (d := d + 0) hp hr2) (Nat.le_refl _) ?_
  refine M_iconst (pc := 11) (v := 1) dX12_led_11 (by decide) ?_
  obtain ⟨r3, hr4, h⟩ := bnd h
  refine M_callVi (pc := 12) dX12_led_12 v_X12_243 rfl rfl at_11 (Nat.le_of_ble_eq_true rfl) (C_X12_throwsIf (d := d + 1) hp hr4) (Nat.le_refl _) ?_
  refine M_if_eq (pc := 15) (tgt := 20) dX12_led_15 (by decide) (fun hc5 => ?_) (fun hc5 => ?_)
  · have h := (if_pos hc5).symm.trans h
    refine M_iconst (pc := 20) (v := 0) dX12_led_20 (by decide) ?_
    refine M_istore_n (pc := 21) (ls' := [some (.ref 205), some (.int x1), some (.int x2), some (.int (0 : Int32)), none, none]) dX12_led_21 (by decide) rfl ?_
    refine M_iconst (pc := 22) (v := -1) dX12_led_22 (by decide) ?_
    refine M_istore (pc := 23) (ls' := [some (.ref 205), some (.int x1), some (.int x2), some (.int (0 : Int32)), some (.int (-1 : Int32)), none]) dX12_led_23 (by decide) rfl ?_
    refine M_aload_n (pc := 25) dX12_led_25 rfl ?_
    refine M_getR (pc := 26) dX12_led_26 f_X12_13 at_11 (gc_205_1 hp).1 ?_
    refine M_bipush (pc := 29) (v := 15) dX12_led_29 (by decide) ?_
    refine M_ildc (pc := 31) (j := 15) dX12_led_31 (gc_205_1 hp).2 (by decide) (by decide) ?_
    refine M_iconst (pc := 32) (v := 1) dX12_led_32 (by decide) ?_
    refine M_isub (pc := 33) dX12_led_33 ?_
    refine M_istore (pc := 34) (ls' := [some (.ref 205), some (.int x1), some (.int x2), some (.int (0 : Int32)), some (.int (-1 : Int32)), some (.int ((r3.2 206 15) - (1 : Int32)))]) dX12_led_34 (by decide) rfl ?_
    exact LC_X12_led_36 (P := P) hp (0 : Int32) (-1 : Int32) ((r3.2 206 15) - (1 : Int32)) _ h
  · have h := (if_neg hc5).symm.trans h
    refine M_iconst (pc := 18) (v := 0) dX12_led_18 (by decide) ?_
    obtain rfl := Option.some.inj h
    exact M_iret (pc := 19) dX12_led_19 rfl rfl rfl rfl
def F_X12_log (I : HI) (x1 : Int32) (x2 : Int32) : Option (Int32 × HI) :=
  (F_X12_in (up2 I 205 0 (0 : Int32)) x2 (0 : Int32) (3 : Int32)) >>= fun r1 => if r1 = 0 then (F_X12_throwsIf (up2 I 205 0 (0 : Int32)) (1 : Int32) (1 : Int32)) >>= fun r12 => if r12.1 = 0 then (F_X12_in r12.2 x1 (0 : Int32) ((r12.2 206 15) - (1 : Int32))) >>= fun r15 => if r15 = 0 then some ((-2 : Int32), r12.2) else (F_X12_ofLog r12.2 x1 x2) >>= fun r18 => some (r18, r12.2) else some ((0 : Int32), r12.2) else (F_X12_throwsIf (up2 I 205 0 (0 : Int32)) (0 : Int32) (1 : Int32)) >>= fun r4 => if r4.1 = 0 then (F_X12_in r4.2 x1 (0 : Int32) ((r4.2 206 15) - (1 : Int32))) >>= fun r7 => if r7 = 0 then some ((-2 : Int32), r4.2) else (F_X12_ofLog r4.2 x1 x2) >>= fun r10 => some (r10, r4.2) else some ((0 : Int32), r4.2)
set_option maxRecDepth 4000 in
set_option maxHeartbeats 4000000 in
theorem C_X12_log {g : gX} {d : Nat} {P : Nat → Nat → Option Nat} {I : HI} {x1 : Int32} {x2 : Int32} {J : HJ} (hp : Wp P) {r : Int32 × HI} (h : F_X12_log I x1 x2 = some r) : Cm g mX12_log (d + 1) [.ref 205, .int x1, .int x2] (NT, I, J, P) (some (.int r.1)) (NT, r.2, J, P) := by
  unfold F_X12_log at h
  refine Cm.of (by decide) (by simp [Value.category]) (Nat.le_of_ble_eq_true rfl) (Nat.le_refl _) (ls := [some (.ref 205), some (.int x1), some (.int x2)]) rfl ?_
  refine M_aload_n (pc := 0) dX12_log_0 rfl ?_
  refine M_iconst (pc := 1) (v := 0) dX12_log_1 (by decide) ?_
  refine M_putI (pc := 2) dX12_log_2 f_X12_3 at_11 rfl ⟨rfl, rfl⟩ ?_
  refine M_aload_n (pc := 5) dX12_log_5 rfl ?_
  refine M_iload_n (pc := 6) dX12_log_6 rfl ?_
  refine M_iconst (pc := 7) (v := 0) dX12_log_7 (by decide) ?_
  refine M_iconst (pc := 8) (v := 3) dX12_log_8 (by decide) ?_
  obtain ⟨r1, hr2, h⟩ := bnd h
  refine M_callSi (pc := 9) dX12_log_9 s_X12_73 rfl rfl (Nat.le_of_ble_eq_true rfl) (C_X12_in (d := d + 0) hp hr2) (Nat.le_refl _) ?_
  refine M_if_ne (pc := 12) (tgt := 19) dX12_log_12 (by decide) (fun hc3 => ?_) (fun hc3 => ?_)
  · have h := (if_neg hc3).symm.trans h
    refine M_iconst (pc := 19) (v := 0) dX12_log_19 (by decide) ?_
    refine M_iconst (pc := 20) (v := 1) dX12_log_20 (by decide) ?_
    obtain ⟨r4, hr5, h⟩ := bnd h
    refine M_callVi (pc := 21) dX12_log_21 v_X12_243 rfl rfl at_11 (Nat.le_of_ble_eq_true rfl) (C_X12_throwsIf (d := d + 0) hp hr5) (Nat.le_refl _) ?_
    refine M_if_eq (pc := 24) (tgt := 29) dX12_log_24 (by decide) (fun hc6 => ?_) (fun hc6 => ?_)
    · have h := (if_pos hc6).symm.trans h
      refine M_iload_n (pc := 29) dX12_log_29 rfl ?_
      refine M_iconst (pc := 30) (v := 0) dX12_log_30 (by decide) ?_
      refine M_aload_n (pc := 31) dX12_log_31 rfl ?_
      refine M_getR (pc := 32) dX12_log_32 f_X12_13 at_11 (gc_205_1 hp).1 ?_
      refine M_bipush (pc := 35) (v := 15) dX12_log_35 (by decide) ?_
      refine M_ildc (pc := 37) (j := 15) dX12_log_37 (gc_205_1 hp).2 (by decide) (by decide) ?_
      refine M_iconst (pc := 38) (v := 1) dX12_log_38 (by decide) ?_
      refine M_isub (pc := 39) dX12_log_39 ?_
      obtain ⟨r7, hr8, h⟩ := bnd h
      refine M_callSi (pc := 40) dX12_log_40 s_X12_73 rfl rfl (Nat.le_of_ble_eq_true rfl) (C_X12_in (d := d + 0) hp hr8) (Nat.le_refl _) ?_
      refine M_if_eq (pc := 43) (tgt := 55) dX12_log_43 (by decide) (fun hc9 => ?_) (fun hc9 => ?_)
      · have h := (if_pos hc9).symm.trans h
        refine M_bipush (pc := 55) (v := -2) dX12_log_55 (by decide) ?_
        obtain rfl := Option.some.inj h
        exact M_iret (pc := 57) dX12_log_57 rfl rfl rfl rfl
      · have h := (if_neg hc9).symm.trans h
        refine M_aload_n (pc := 46) dX12_log_46 rfl ?_
        refine M_iload_n (pc := 47) dX12_log_47 rfl ?_
        refine M_iload_n (pc := 48) dX12_log_48 rfl ?_
        obtain ⟨r10, hr11, h⟩ := bnd h
        refine M_callVi (pc := 49) dX12_log_49 v_X12_396 rfl rfl at_11 (Nat.le_of_ble_eq_true rfl) (C_X12_ofLog (d := d + 0) hp hr11) (Nat.le_refl _) ?_
        refine M_goto (pc := 52) (tgt := 57) dX12_log_52 (by decide) ?_
        obtain rfl := Option.some.inj h
        exact M_iret (pc := 57) dX12_log_57 rfl rfl rfl rfl
    · have h := (if_neg hc6).symm.trans h
      refine M_iconst (pc := 27) (v := 0) dX12_log_27 (by decide) ?_
      obtain rfl := Option.some.inj h
      exact M_iret (pc := 28) dX12_log_28 rfl rfl rfl rfl
  · have h := (if_pos hc3).symm.trans h
    refine M_iconst (pc := 15) (v := 1) dX12_log_15 (by decide) ?_
    refine M_goto (pc := 16) (tgt := 20) dX12_log_16 (by decide) ?_
    refine M_iconst (pc := 20) (v := 1) dX12_log_20 (by decide) ?_
    obtain ⟨r12, hr13, h⟩ := bnd h
    refine M_callVi (pc := 21) dX12_log_21 v_X12_243 rfl rfl at_11 (Nat.le_of_ble_eq_true rfl) (C_X12_throwsIf (d := d + 0) hp hr13) (Nat.le_refl _) ?_
    refine M_if_eq (pc := 24) (tgt := 29) dX12_log_24 (by decide) (fun hc14 => ?_) (fun hc14 => ?_)
    · have h := (if_pos hc14).symm.trans h
      refine M_iload_n (pc := 29) dX12_log_29 rfl ?_
      refine M_iconst (pc := 30) (v := 0) dX12_log_30 (by decide) ?_
      refine M_aload_n (pc := 31) dX12_log_31 rfl ?_
      refine M_getR (pc := 32) dX12_log_32 f_X12_13 at_11 (gc_205_1 hp).1 ?_
      refine M_bipush (pc := 35) (v := 15) dX12_log_35 (by decide) ?_
      refine M_ildc (pc := 37) (j := 15) dX12_log_37 (gc_205_1 hp).2 (by decide) (by decide) ?_
      refine M_iconst (pc := 38) (v := 1) dX12_log_38 (by decide) ?_
      refine M_isub (pc := 39) dX12_log_39 ?_
      obtain ⟨r15, hr16, h⟩ := bnd h
      refine M_callSi (pc := 40) dX12_log_40 s_X12_73 rfl rfl (Nat.le_of_ble_eq_true rfl) (C_X12_in (d := d + 0) hp hr16) (Nat.le_refl _) ?_
      refine M_if_eq (pc := 43) (tgt := 55) dX12_log_43 (by decide) (fun hc17 => ?_) (fun hc17 => ?_)
      · have h := (if_pos hc17).symm.trans h
        refine M_bipush (pc := 55) (v := -2) dX12_log_55 (by decide) ?_
        obtain rfl := Option.some.inj h
        exact M_iret (pc := 57) dX12_log_57 rfl rfl rfl rfl
      · have h := (if_neg hc17).symm.trans h
        refine M_aload_n (pc := 46) dX12_log_46 rfl ?_
        refine M_iload_n (pc := 47) dX12_log_47 rfl ?_
        refine M_iload_n (pc := 48) dX12_log_48 rfl ?_
        obtain ⟨r18, hr19, h⟩ := bnd h
        refine M_callVi (pc := 49) dX12_log_49 v_X12_396 rfl rfl at_11 (Nat.le_of_ble_eq_true rfl) (C_X12_ofLog (d := d + 0) hp hr19) (Nat.le_refl _) ?_
        refine M_goto (pc := 52) (tgt := 57) dX12_log_52 (by decide) ?_
        obtain rfl := Option.some.inj h
        exact M_iret (pc := 57) dX12_log_57 rfl rfl rfl rfl
    · have h := (if_neg hc14).symm.trans h
      refine M_iconst (pc := 27) (v := 0) dX12_log_27 (by decide) ?_
      obtain rfl := Option.some.inj h
      exact M_iret (pc := 28) dX12_log_28 rfl rfl rfl rfl
def F_X12_seed (I : HI) (x1 : Int32) : Option (Int32 × HI) :=
  some ((I 206 16), (up2 (up2 I 205 0 (0 : Int32)) 206 16 x1))
set_option maxRecDepth 4000 in
set_option maxHeartbeats 4000000 in
theorem C_X12_seed {g : gX} {d : Nat} {P : Nat → Nat → Option Nat} {I : HI} {x1 : Int32} {J : HJ} (hp : Wp P) {r : Int32 × HI} (h : F_X12_seed I x1 = some r) : Cm g mX12_seed (d + 0) [.ref 205, .int x1] (NT, I, J, P) (some (.int r.1)) (NT, r.2, J, P) := by
  unfold F_X12_seed at h
  refine Cm.of (by decide) (by simp [Value.category]) (Nat.le_of_ble_eq_true rfl) (Nat.le_refl _) (ls := [some (.ref 205), some (.int x1), none]) rfl ?_
  refine M_aload_n (pc := 0) dX12_seed_0 rfl ?_
  refine M_iconst (pc := 1) (v := 0) dX12_seed_1 (by decide) ?_
  refine M_putI (pc := 2) dX12_seed_2 f_X12_3 at_11 rfl ⟨rfl, rfl⟩ ?_
  refine M_aload_n (pc := 5) dX12_seed_5 rfl ?_
  refine M_getR (pc := 6) dX12_seed_6 f_X12_13 at_11 (gc_205_1 hp).1 ?_
  refine M_bipush (pc := 9) (v := 16) dX12_seed_9 (by decide) ?_
  refine M_ildcs (pc := 11) (j := 16) (x := (I 206 16)) dX12_seed_11 (gc_205_1 hp).2 (by decide) (by decide) (rd_ne (Or.inr (by decide))) ?_
  refine M_istore_n (pc := 12) (ls' := [some (.ref 205), some (.int x1), some (.int (I 206 16))]) dX12_seed_12 (by decide) rfl ?_
  refine M_aload_n (pc := 13) dX12_seed_13 rfl ?_
  refine M_getR (pc := 14) dX12_seed_14 f_X12_13 at_11 (gc_205_1 hp).1 ?_
  refine M_bipush (pc := 17) (v := 16) dX12_seed_17 (by decide) ?_
  refine M_iload_n (pc := 19) dX12_seed_19 rfl ?_
  refine M_istc (pc := 20) (j := 16) dX12_seed_20 (gc_205_1 hp).2 (by decide) (by decide) ?_
  refine M_iload_n (pc := 21) dX12_seed_21 rfl ?_
  obtain rfl := Option.some.inj h
  exact M_iret (pc := 22) dX12_seed_22 rfl rfl rfl rfl
def F_X12_count (I : HI) (x1 : Int32) : Option (Int32 × HI) :=
  if x1 = (2 : Int32) then if (I 206 2) = (1 : Int32) then some ((I 206 353), (up2 I 205 0 (0 : Int32))) else some ((-1 : Int32), (up2 I 205 0 (0 : Int32))) else if x1 = (15 : Int32) then some ((I 206 15), (up2 I 205 0 (0 : Int32))) else if x1 = (16 : Int32) then some ((I 205 7), (up2 I 205 0 (0 : Int32))) else (F_X12_in (up2 I 205 0 (0 : Int32)) x1 (0 : Int32) (14 : Int32)) >>= fun r5 => if r5 = 0 then some ((-1 : Int32), (up2 I 205 0 (0 : Int32))) else (ald 2051 ((up2 I 205 0 (0 : Int32)) 206) x1) >>= fun v8 => some (v8, (up2 I 205 0 (0 : Int32)))
set_option maxRecDepth 4000 in
set_option maxHeartbeats 4000000 in
theorem C_X12_count {g : gX} {d : Nat} {P : Nat → Nat → Option Nat} {I : HI} {x1 : Int32} {J : HJ} (hp : Wp P) {r : Int32 × HI} (h : F_X12_count I x1 = some r) : Cm g mX12_count (d + 1) [.ref 205, .int x1] (NT, I, J, P) (some (.int r.1)) (NT, r.2, J, P) := by
  unfold F_X12_count at h
  refine Cm.of (by decide) (by simp [Value.category]) (Nat.le_of_ble_eq_true rfl) (Nat.le_refl _) (ls := [some (.ref 205), some (.int x1)]) rfl ?_
  refine M_aload_n (pc := 0) dX12_count_0 rfl ?_
  refine M_iconst (pc := 1) (v := 0) dX12_count_1 (by decide) ?_
  refine M_putI (pc := 2) dX12_count_2 f_X12_3 at_11 rfl ⟨rfl, rfl⟩ ?_
  refine M_iload_n (pc := 5) dX12_count_5 rfl ?_
  by_cases hc1 : x1 = (2 : Int32)
  · have h := (if_pos hc1).symm.trans h
    refine M_lookup (pc := 6) (x := x1) (tgt := 40) dX12_count_6 (by decide) (by rw [hc1]) (by decide) ?_
    refine M_aload_n (pc := 40) dX12_count_40 rfl ?_
    refine M_getR (pc := 41) dX12_count_41 f_X12_13 at_11 (gc_205_1 hp).1 ?_
    refine M_iconst (pc := 44) (v := 2) dX12_count_44 (by decide) ?_
    refine M_ildcs (pc := 45) (j := 2) (x := (I 206 2)) dX12_count_45 (gc_205_1 hp).2 (by decide) (by decide) (rd_ne (Or.inr (by decide))) ?_
    refine M_iconst (pc := 46) (v := 1) dX12_count_46 (by decide) ?_
    refine M_icmp_ne (pc := 47) (tgt := 61) dX12_count_47 (by decide) (fun hc2 => ?_) (fun hc2 => ?_)
    · have h := (if_neg hc2).symm.trans h
      refine M_iconst (pc := 61) (v := -1) dX12_count_61 (by decide) ?_
      obtain rfl := Option.some.inj h
      exact M_iret (pc := 62) dX12_count_62 rfl rfl rfl rfl
    · have h := (if_pos hc2).symm.trans h
      refine M_aload_n (pc := 50) dX12_count_50 rfl ?_
      refine M_getR (pc := 51) dX12_count_51 f_X12_13 at_11 (gc_205_1 hp).1 ?_
      refine M_sipush (pc := 54) (v := 353) dX12_count_54 (by decide) ?_
      refine M_ildcs (pc := 57) (j := 353) (x := (I 206 353)) dX12_count_57 (gc_205_1 hp).2 (by decide) (by decide) (rd_ne (Or.inr (by decide))) ?_
      refine M_goto (pc := 58) (tgt := 62) dX12_count_58 (by decide) ?_
      obtain rfl := Option.some.inj h
      exact M_iret (pc := 62) dX12_count_62 rfl rfl rfl rfl
  have h := (if_neg hc1).symm.trans h
  by_cases hc3 : x1 = (15 : Int32)
  · have h := (if_pos hc3).symm.trans h
    refine M_lookup (pc := 6) (x := x1) (tgt := 63) dX12_count_6 (by decide) (by rw [hc3]) (by decide) ?_
    refine M_aload_n (pc := 63) dX12_count_63 rfl ?_
    refine M_getR (pc := 64) dX12_count_64 f_X12_13 at_11 (gc_205_1 hp).1 ?_
    refine M_bipush (pc := 67) (v := 15) dX12_count_67 (by decide) ?_
    refine M_ildcs (pc := 69) (j := 15) (x := (I 206 15)) dX12_count_69 (gc_205_1 hp).2 (by decide) (by decide) (rd_ne (Or.inr (by decide))) ?_
    obtain rfl := Option.some.inj h
    exact M_iret (pc := 70) dX12_count_70 rfl rfl rfl rfl
  have h := (if_neg hc3).symm.trans h
  by_cases hc4 : x1 = (16 : Int32)
  · have h := (if_pos hc4).symm.trans h
    refine M_lookup (pc := 6) (x := x1) (tgt := 71) dX12_count_6 (by decide) (by rw [hc4]) (by decide) ?_
    refine M_aload_n (pc := 71) dX12_count_71 rfl ?_
    refine M_getIs (pc := 72) (x := (I 205 7)) dX12_count_72 f_X12_59 at_11 (rd_ne (Or.inr (by decide))) ?_
    obtain rfl := Option.some.inj h
    exact M_iret (pc := 75) dX12_count_75 rfl rfl rfl rfl
  have h := (if_neg hc4).symm.trans h
  refine M_lookup (pc := 6) (x := x1) (off := 70) (tgt := 76) dX12_count_6 (by decide) ((lv_osw hc1 rfl).trans ((lv_osw hc3 rfl).trans ((lv_osw hc4 rfl).trans rfl))) (by decide) ?_
  refine M_iload_n (pc := 76) dX12_count_76 rfl ?_
  refine M_iconst (pc := 77) (v := 0) dX12_count_77 (by decide) ?_
  refine M_bipush (pc := 78) (v := 14) dX12_count_78 (by decide) ?_
  obtain ⟨r5, hr6, h⟩ := bnd h
  refine M_callSi (pc := 80) dX12_count_80 s_X12_73 rfl rfl (Nat.le_of_ble_eq_true rfl) (C_X12_in (d := d + 0) hp hr6) (Nat.le_refl _) ?_
  refine M_if_eq (pc := 83) (tgt := 95) dX12_count_83 (by decide) (fun hc7 => ?_) (fun hc7 => ?_)
  · have h := (if_pos hc7).symm.trans h
    refine M_iconst (pc := 95) (v := -1) dX12_count_95 (by decide) ?_
    obtain rfl := Option.some.inj h
    exact M_iret (pc := 96) dX12_count_96 rfl rfl rfl rfl
  · have h := (if_neg hc7).symm.trans h
    refine M_aload_n (pc := 86) dX12_count_86 rfl ?_
    refine M_getR (pc := 87) dX12_count_87 f_X12_13 at_11 (gc_205_1 hp).1 ?_
    refine M_iload_n (pc := 90) dX12_count_90 rfl ?_
    obtain ⟨v8, hv9, h⟩ := bnd h
    refine M_aldI (pc := 91) dX12_count_91 (gc_205_1 hp).2 hv9 ?_
    refine M_goto (pc := 92) (tgt := 96) dX12_count_92 (by decide) ?_
    obtain rfl := Option.some.inj h
    exact M_iret (pc := 96) dX12_count_96 rfl rfl rfl rfl
def F_X12_readAtom : Nat → HI → Option (Int32 × HI)
  | 0, _ => none
  | q + 1, I => (F_X12_sign I (40 : Int32)) >>= fun r1 => if r1.1 = 0 then (F_X12_passes r1.2 68) >>= fun r4 => if r4.1 = 0 then (F_X12_readTag r4.2) >>= fun r7 => if r7.1 = 0 then (F_X12_readSum r7.2) >>= fun r10 => if r10.1 = 0 then some ((0 : Int32), r10.2) else (F_X12_sign r10.2 (60 : Int32)) >>= fun r13 => if r13.1 = 0 then (F_X12_sign r13.2 (62 : Int32)) >>= fun r24 => if r24.1 = 0 then some ((0 : Int32), r24.2) else (F_X12_readSum r24.2) >>= fun r27 => if r27.1 = 0 then some ((0 : Int32), r27.2) else if r13.1 = 0 then (F_X12_emits r27.2 (12 : Int32) (0 : Int32)) >>= fun r31 => some ((1 : Int32), r31) else (F_X12_emits r27.2 (11 : Int32) (0 : Int32)) >>= fun r33 => some ((1 : Int32), r33) else (F_X12_readSum r13.2) >>= fun r16 => if r16.1 = 0 then some ((0 : Int32), r16.2) else if r13.1 = 0 then (F_X12_emits r16.2 (12 : Int32) (0 : Int32)) >>= fun r20 => some ((1 : Int32), r20) else (F_X12_emits r16.2 (11 : Int32) (0 : Int32)) >>= fun r22 => some ((1 : Int32), r22) else some ((1 : Int32), r7.2) else if (r4.2 205 13) = (6 : Int32) then some ((0 : Int32), r4.2) else ((F_X12_readAtom q) (up2 r4.2 205 13 ((r4.2 205 13) + (1 : Int32)))) >>= fun r36 => if r36.1 = 0 then some ((0 : Int32), r36.2) else (F_X12_emits (up2 r36.2 205 13 ((r36.2 205 13) - (1 : Int32))) (13 : Int32) (0 : Int32)) >>= fun r39 => some ((1 : Int32), r39) else if (r1.2 205 13) = (6 : Int32) then some ((0 : Int32), r1.2) else (F_X12_readCond (F_X12_readAtom q) (up2 r1.2 205 13 ((r1.2 205 13) + (1 : Int32)))) >>= fun r42 => if r42.1 = 0 then some ((0 : Int32), r42.2) else (F_X12_sign (up2 r42.2 205 13 ((r42.2 205 13) - (1 : Int32))) (41 : Int32)) >>= fun r45 => if r45.1 = 0 ∨ r45.1 = 1 then some (r45.1, r45.2) else none
set_option maxRecDepth 4000 in
set_option maxHeartbeats 4000000 in
theorem C_X12_readAtom {g : gX} {P : Nat → Nat → Option Nat} (hp : Wp P) : ∀ (q : Nat) {d : Nat} {J : HJ} (I : HI)  (r : Int32 × HI), F_X12_readAtom q I = some r → Cm g mX12_readAtom (d + 3 * q + 8) [.ref 205] (NT, I, J, P) (some (.int r.1)) (NT, r.2, J, P) := by
  intro q
  induction q with
  | zero => intro d J I  r h; cases h
  | succ q ih =>
  intro d0 J I  r h
  obtain ⟨d, hd⟩ : ∃ d, d = d0 + 3 * q := ⟨_, rfl⟩
  rw [show d0 + 3 * (q + 1) + 8 = d + 11 by omega]
  have hrc : ∀ (e : Nat) {J : HJ} (I : HI)  (r : Int32 × HI), F_X12_readAtom q I = some r → _ := fun e {J} I  r h9 => ih (d := d0 + e) (J := J) I  r h9
  simp only [show ∀ e, d0 + e + 3 * q + 8 = d + e + 8 from fun e => by omega] at hrc
  unfold F_X12_readAtom at h
  refine Cm.of (by decide) (by simp [Value.category]) (Nat.le_of_ble_eq_true rfl) (Nat.le_refl _) (ls := [some (.ref 205), none]) rfl ?_
  refine M_aload_n (pc := 0) dX12_readAtom_0 rfl ?_
  refine M_bipush (pc := 1) (v := 40) dX12_readAtom_1 (by decide) ?_
  obtain ⟨r1, hr2, h⟩ := bnd h
  refine M_callVi (pc := 3) dX12_readAtom_3 v_X12_187 rfl rfl at_11 (Nat.le_of_ble_eq_true rfl) (C_X12_sign (d := d + 8) hp hr2) (Nat.le_refl _) ?_
  refine M_if_eq (pc := 6) (tgt := 56) dX12_readAtom_6 (by decide) (fun hc3 => ?_) (fun hc3 => ?_)
  · have h := (if_pos hc3).symm.trans h
    refine M_aload_n (pc := 56) dX12_readAtom_56 rfl ?_
    refine M_ldcS (pc := 57) (j := 68) dX12_readAtom_57 (by decide) str_X12_200 ?_
    obtain ⟨r4, hr5, h⟩ := bnd h
    refine M_callVi (pc := 59) dX12_readAtom_59 v_X12_118 rfl rfl at_11 (Nat.le_of_ble_eq_true rfl) (C_X12_passes (d := d + 5) hp (by decide) hr5) (Nat.le_refl _) ?_
    refine M_if_eq (pc := 62) (tgt := 114) dX12_readAtom_62 (by decide) (fun hc6 => ?_) (fun hc6 => ?_)
    · have h := (if_pos hc6).symm.trans h
      refine M_aload_n (pc := 114) dX12_readAtom_114 rfl ?_
      obtain ⟨r7, hr8, h⟩ := bnd h
      refine M_callVi (pc := 115) dX12_readAtom_115 v_X12_205 rfl rfl at_11 (Nat.le_of_ble_eq_true rfl) (C_X12_readTag (d := d + 5) hp hr8) (Nat.le_refl _) ?_
      refine M_if_eq (pc := 118) (tgt := 123) dX12_readAtom_118 (by decide) (fun hc9 => ?_) (fun hc9 => ?_)
      · have h := (if_pos hc9).symm.trans h
        refine M_aload_n (pc := 123) dX12_readAtom_123 rfl ?_
        obtain ⟨r10, hr11, h⟩ := bnd h
        refine M_callVi (pc := 124) dX12_readAtom_124 v_X12_208 rfl rfl at_11 (Nat.le_of_ble_eq_true rfl) (C_X12_readSum (d := d + 3) hp hr11) (Nat.le_refl _) ?_
        refine M_if_ne (pc := 127) (tgt := 132) dX12_readAtom_127 (by decide) (fun hc12 => ?_) (fun hc12 => ?_)
        · have h := (if_neg hc12).symm.trans h
          refine M_aload_n (pc := 132) dX12_readAtom_132 rfl ?_
          refine M_bipush (pc := 133) (v := 60) dX12_readAtom_133 (by decide) ?_
          obtain ⟨r13, hr14, h⟩ := bnd h
          refine M_callVi (pc := 135) dX12_readAtom_135 v_X12_187 rfl rfl at_11 (Nat.le_of_ble_eq_true rfl) (C_X12_sign (d := d + 8) hp hr14) (Nat.le_refl _) ?_
          refine M_istore_n (pc := 138) (ls' := [some (.ref 205), some (.int r13.1)]) dX12_readAtom_138 (by decide) rfl ?_
          refine M_iload_n (pc := 139) dX12_readAtom_139 rfl ?_
          refine M_if_ne (pc := 140) (tgt := 152) dX12_readAtom_140 (by decide) (fun hc15 => ?_) (fun hc15 => ?_)
          · have h := (if_neg hc15).symm.trans h
            refine M_aload_n (pc := 152) dX12_readAtom_152 rfl ?_
            obtain ⟨r16, hr17, h⟩ := bnd h
            refine M_callVi (pc := 153) dX12_readAtom_153 v_X12_208 rfl rfl at_11 (Nat.le_of_ble_eq_true rfl) (C_X12_readSum (d := d + 3) hp hr17) (Nat.le_refl _) ?_
            refine M_if_ne (pc := 156) (tgt := 161) dX12_readAtom_156 (by decide) (fun hc18 => ?_) (fun hc18 => ?_)
            · have h := (if_neg hc18).symm.trans h
              refine M_aload_n (pc := 161) dX12_readAtom_161 rfl ?_
              refine M_iload_n (pc := 162) dX12_readAtom_162 rfl ?_
              refine M_if_eq (pc := 163) (tgt := 171) dX12_readAtom_163 (by decide) (fun hc19 => ?_) (fun hc19 => ?_)
              · have h := (if_pos hc19).symm.trans h
                refine M_bipush (pc := 171) (v := 12) dX12_readAtom_171 (by decide) ?_
                refine M_iconst (pc := 173) (v := 0) dX12_readAtom_173 (by decide) ?_
                obtain ⟨r20, hr21, h⟩ := bnd h
                refine M_callVv (pc := 174) dX12_readAtom_174 v_X12_180 rfl rfl at_11 (Nat.le_of_ble_eq_true rfl) (C_X12_emits (d := d + 10) hp hr21) (Nat.le_refl _) ?_
                refine M_iconst (pc := 177) (v := 1) dX12_readAtom_177 (by decide) ?_
                obtain rfl := Option.some.inj h
                exact M_iret (pc := 178) dX12_readAtom_178 rfl rfl rfl rfl
              · have h := (if_neg hc19).symm.trans h
                refine M_bipush (pc := 166) (v := 11) dX12_readAtom_166 (by decide) ?_
                refine M_goto (pc := 168) (tgt := 173) dX12_readAtom_168 (by decide) ?_
                refine M_iconst (pc := 173) (v := 0) dX12_readAtom_173 (by decide) ?_
                obtain ⟨r22, hr23, h⟩ := bnd h
                refine M_callVv (pc := 174) dX12_readAtom_174 v_X12_180 rfl rfl at_11 (Nat.le_of_ble_eq_true rfl) (C_X12_emits (d := d + 10) hp hr23) (Nat.le_refl _) ?_
                refine M_iconst (pc := 177) (v := 1) dX12_readAtom_177 (by decide) ?_
                obtain rfl := Option.some.inj h
                exact M_iret (pc := 178) dX12_readAtom_178 rfl rfl rfl rfl
            · have h := (if_pos hc18).symm.trans h
              refine M_iconst (pc := 159) (v := 0) dX12_readAtom_159 (by decide) ?_
              obtain rfl := Option.some.inj h
              exact M_iret (pc := 160) dX12_readAtom_160 rfl rfl rfl rfl
          · have h := (if_pos hc15).symm.trans h
            refine M_aload_n (pc := 143) dX12_readAtom_143 rfl ?_
            refine M_bipush (pc := 144) (v := 62) dX12_readAtom_144 (by decide) ?_
            obtain ⟨r24, hr25, h⟩ := bnd h
            refine M_callVi (pc := 146) dX12_readAtom_146 v_X12_187 rfl rfl at_11 (Nat.le_of_ble_eq_true rfl) (C_X12_sign (d := d + 8) hp hr25) (Nat.le_refl _) ?_
            refine M_if_eq (pc := 149) (tgt := 159) dX12_readAtom_149 (by decide) (fun hc26 => ?_) (fun hc26 => ?_)
            · have h := (if_pos hc26).symm.trans h
              refine M_iconst (pc := 159) (v := 0) dX12_readAtom_159 (by decide) ?_
              obtain rfl := Option.some.inj h
              exact M_iret (pc := 160) dX12_readAtom_160 rfl rfl rfl rfl
            · have h := (if_neg hc26).symm.trans h
              refine M_aload_n (pc := 152) dX12_readAtom_152 rfl ?_
              obtain ⟨r27, hr28, h⟩ := bnd h
              refine M_callVi (pc := 153) dX12_readAtom_153 v_X12_208 rfl rfl at_11 (Nat.le_of_ble_eq_true rfl) (C_X12_readSum (d := d + 3) hp hr28) (Nat.le_refl _) ?_
              refine M_if_ne (pc := 156) (tgt := 161) dX12_readAtom_156 (by decide) (fun hc29 => ?_) (fun hc29 => ?_)
              · have h := (if_neg hc29).symm.trans h
                refine M_aload_n (pc := 161) dX12_readAtom_161 rfl ?_
                refine M_iload_n (pc := 162) dX12_readAtom_162 rfl ?_
                refine M_if_eq (pc := 163) (tgt := 171) dX12_readAtom_163 (by decide) (fun hc30 => ?_) (fun hc30 => ?_)
                · have h := (if_pos hc30).symm.trans h
                  refine M_bipush (pc := 171) (v := 12) dX12_readAtom_171 (by decide) ?_
                  refine M_iconst (pc := 173) (v := 0) dX12_readAtom_173 (by decide) ?_
                  obtain ⟨r31, hr32, h⟩ := bnd h
                  refine M_callVv (pc := 174) dX12_readAtom_174 v_X12_180 rfl rfl at_11 (Nat.le_of_ble_eq_true rfl) (C_X12_emits (d := d + 10) hp hr32) (Nat.le_refl _) ?_
                  refine M_iconst (pc := 177) (v := 1) dX12_readAtom_177 (by decide) ?_
                  obtain rfl := Option.some.inj h
                  exact M_iret (pc := 178) dX12_readAtom_178 rfl rfl rfl rfl
                · have h := (if_neg hc30).symm.trans h
                  refine M_bipush (pc := 166) (v := 11) dX12_readAtom_166 (by decide) ?_
                  refine M_goto (pc := 168) (tgt := 173) dX12_readAtom_168 (by decide) ?_
                  refine M_iconst (pc := 173) (v := 0) dX12_readAtom_173 (by decide) ?_
                  obtain ⟨r33, hr34, h⟩ := bnd h
                  refine M_callVv (pc := 174) dX12_readAtom_174 v_X12_180 rfl rfl at_11 (Nat.le_of_ble_eq_true rfl) (C_X12_emits (d := d + 10) hp hr34) (Nat.le_refl _) ?_
                  refine M_iconst (pc := 177) (v := 1) dX12_readAtom_177 (by decide) ?_
                  obtain rfl := Option.some.inj h
                  exact M_iret (pc := 178) dX12_readAtom_178 rfl rfl rfl rfl
              · have h := (if_pos hc29).symm.trans h
                refine M_iconst (pc := 159) (v := 0) dX12_readAtom_159 (by decide) ?_
                obtain rfl := Option.some.inj h
                exact M_iret (pc := 160) dX12_readAtom_160 rfl rfl rfl rfl
        · have h := (if_pos hc12).symm.trans h
          refine M_iconst (pc := 130) (v := 0) dX12_readAtom_130 (by decide) ?_
          obtain rfl := Option.some.inj h
          exact M_iret (pc := 131) dX12_readAtom_131 rfl rfl rfl rfl
      · have h := (if_neg hc9).symm.trans h
        refine M_iconst (pc := 121) (v := 1) dX12_readAtom_121 (by decide) ?_
        obtain rfl := Option.some.inj h
        exact M_iret (pc := 122) dX12_readAtom_122 rfl rfl rfl rfl
    · have h := (if_neg hc6).symm.trans h
      refine M_aload_n (pc := 65) dX12_readAtom_65 rfl ?_
      refine M_getI (pc := 66) dX12_readAtom_66 f_X12_194 at_11 ?_
      refine M_bipush (pc := 69) (v := 6) dX12_readAtom_69 (by decide) ?_
      refine M_icmp_ne (pc := 71) (tgt := 76) dX12_readAtom_71 (by decide) (fun hc35 => ?_) (fun hc35 => ?_)
      · have h := (if_neg hc35).symm.trans h
        refine M_aload_n (pc := 76) dX12_readAtom_76 rfl ?_
        refine M_dup (pc := 77) dX12_readAtom_77 rfl ?_
        refine M_getI (pc := 78) dX12_readAtom_78 f_X12_194 at_11 ?_
        refine M_iconst (pc := 81) (v := 1) dX12_readAtom_81 (by decide) ?_
        refine M_iadd (pc := 82) dX12_readAtom_82 ?_
        refine M_putI (pc := 83) dX12_readAtom_83 f_X12_194 at_11 rfl ⟨rfl, rfl⟩ ?_
        refine M_aload_n (pc := 86) dX12_readAtom_86 rfl ?_
        obtain ⟨r36, hr37, h⟩ := bnd h
        refine M_callVi (pc := 87) dX12_readAtom_87 v_X12_202 rfl rfl at_11 (Nat.le_of_ble_eq_true rfl) (hrc 2 _  _ hr37) (Nat.le_refl _) ?_
        refine M_if_ne (pc := 90) (tgt := 95) dX12_readAtom_90 (by decide) (fun hc38 => ?_) (fun hc38 => ?_)
        · have h := (if_neg hc38).symm.trans h
          refine M_aload_n (pc := 95) dX12_readAtom_95 rfl ?_
          refine M_dup (pc := 96) dX12_readAtom_96 rfl ?_
          refine M_getI (pc := 97) dX12_readAtom_97 f_X12_194 at_11 ?_
          refine M_iconst (pc := 100) (v := 1) dX12_readAtom_100 (by decide) ?_
          refine M_isub (pc := 101) dX12_readAtom_101 ?_
          refine M_putI (pc := 102) dX12_readAtom_102 f_X12_194 at_11 rfl ⟨rfl, rfl⟩ ?_
          refine M_aload_n (pc := 105) dX12_readAtom_105 rfl ?_
          refine M_bipush (pc := 106) (v := 13) dX12_readAtom_106 (by decide) ?_
          refine M_iconst (pc := 108) (v := 0) dX12_readAtom_108 (by decide) ?_
          obtain ⟨r39, hr40, h⟩ := bnd h
          refine M_callVv (pc := 109) dX12_readAtom_109 v_X12_180 rfl rfl at_11 (Nat.le_of_ble_eq_true rfl) (C_X12_emits (d := d + 10) hp hr40) (Nat.le_refl _) ?_
          refine M_iconst (pc := 112) (v := 1) dX12_readAtom_112 (by decide) ?_
          obtain rfl := Option.some.inj h
          exact M_iret (pc := 113) dX12_readAtom_113 rfl rfl rfl rfl
        · have h := (if_pos hc38).symm.trans h
          refine M_iconst (pc := 93) (v := 0) dX12_readAtom_93 (by decide) ?_
          obtain rfl := Option.some.inj h
          exact M_iret (pc := 94) dX12_readAtom_94 rfl rfl rfl rfl
      · have h := (if_pos hc35).symm.trans h
        refine M_iconst (pc := 74) (v := 0) dX12_readAtom_74 (by decide) ?_
        obtain rfl := Option.some.inj h
        exact M_iret (pc := 75) dX12_readAtom_75 rfl rfl rfl rfl
  · have h := (if_neg hc3).symm.trans h
    refine M_aload_n (pc := 9) dX12_readAtom_9 rfl ?_
    refine M_getI (pc := 10) dX12_readAtom_10 f_X12_194 at_11 ?_
    refine M_bipush (pc := 13) (v := 6) dX12_readAtom_13 (by decide) ?_
    refine M_icmp_ne (pc := 15) (tgt := 20) dX12_readAtom_15 (by decide) (fun hc41 => ?_) (fun hc41 => ?_)
    · have h := (if_neg hc41).symm.trans h
      refine M_aload_n (pc := 20) dX12_readAtom_20 rfl ?_
      refine M_dup (pc := 21) dX12_readAtom_21 rfl ?_
      refine M_getI (pc := 22) dX12_readAtom_22 f_X12_194 at_11 ?_
      refine M_iconst (pc := 25) (v := 1) dX12_readAtom_25 (by decide) ?_
      refine M_iadd (pc := 26) dX12_readAtom_26 ?_
      refine M_putI (pc := 27) dX12_readAtom_27 f_X12_194 at_11 rfl ⟨rfl, rfl⟩ ?_
      refine M_aload_n (pc := 30) dX12_readAtom_30 rfl ?_
      obtain ⟨r42, hr43, h⟩ := bnd h
      refine M_callVi (pc := 31) dX12_readAtom_31 v_X12_197 rfl rfl at_11 (Nat.le_of_ble_eq_true rfl) (C_X12_readCond (d := d + 0) hp (fun e {J} I r h9 => by have q := hrc (e + 0) (J := J) I r h9; rw [show d + (e + 0) + 8 = d + 0 + e + 8 by omega] at q; exact q) hr43) (Nat.le_refl _) ?_
      refine M_if_ne (pc := 34) (tgt := 39) dX12_readAtom_34 (by decide) (fun hc44 => ?_) (fun hc44 => ?_)
      · have h := (if_neg hc44).symm.trans h
        refine M_aload_n (pc := 39) dX12_readAtom_39 rfl ?_
        refine M_dup (pc := 40) dX12_readAtom_40 rfl ?_
        refine M_getI (pc := 41) dX12_readAtom_41 f_X12_194 at_11 ?_
        refine M_iconst (pc := 44) (v := 1) dX12_readAtom_44 (by decide) ?_
        refine M_isub (pc := 45) dX12_readAtom_45 ?_
        refine M_putI (pc := 46) dX12_readAtom_46 f_X12_194 at_11 rfl ⟨rfl, rfl⟩ ?_
        refine M_aload_n (pc := 49) dX12_readAtom_49 rfl ?_
        refine M_bipush (pc := 50) (v := 41) dX12_readAtom_50 (by decide) ?_
        obtain ⟨r45, hr46, h⟩ := bnd h
        refine M_callVi (pc := 52) dX12_readAtom_52 v_X12_187 rfl rfl at_11 (Nat.le_of_ble_eq_true rfl) (C_X12_sign (d := d + 8) hp hr46) (Nat.le_refl _) ?_
        obtain ⟨hq47, h⟩ := chk h
        obtain rfl := Option.some.inj h
        exact M_iret (pc := 55) dX12_readAtom_55 rfl (by rcases hq47 with q | q <;> rw [q] <;> rfl) rfl rfl
      · have h := (if_pos hc44).symm.trans h
        refine M_iconst (pc := 37) (v := 0) dX12_readAtom_37 (by decide) ?_
        obtain rfl := Option.some.inj h
        exact M_iret (pc := 38) dX12_readAtom_38 rfl rfl rfl rfl
    · have h := (if_pos hc41).symm.trans h
      refine M_iconst (pc := 18) (v := 0) dX12_readAtom_18 (by decide) ?_
      obtain rfl := Option.some.inj h
      exact M_iret (pc := 19) dX12_readAtom_19 rfl rfl rfl rfl
def F_X12_readLawLine (I : HI) (x1 : Int32) : Option (Int32 × HI) :=
  (F_X12_isWord I 71) >>= fun r1 => if r1 = 0 then (F_X12_isWord I 72) >>= fun r4 => if r4 = 0 then (F_X12_isWord I 73) >>= fun r7 => if r7 = 0 then if inB ((1203 : Int32) + ((4 : Int32) * x1)) 2051 = true then (ald 2051 ((up2 I 206 (((1203 : Int32) + ((4 : Int32) * x1))).toNatClampNeg (-1 : Int32)) 206) ((1203 : Int32) + ((4 : Int32) * x1))) >>= fun v11 => if 0 ≤ v11 then (F_X12_number (up2 I 206 (((1203 : Int32) + ((4 : Int32) * x1))).toNatClampNeg (-1 : Int32)) (0 : Int32) (60 : Int32)) >>= fun r14 => if inB (((1203 : Int32) + ((4 : Int32) * x1)) + (1 : Int32)) 2051 = true then (ald 2051 ((up2 r14.2 206 ((((1203 : Int32) + ((4 : Int32) * x1)) + (1 : Int32))).toNatClampNeg r14.1) 206) (((1203 : Int32) + ((4 : Int32) * x1)) + (1 : Int32))) >>= fun v17 => if 0 ≤ v17 then if inB (((1203 : Int32) + ((4 : Int32) * x1)) + (2 : Int32)) 2051 = true then (F_X12_passes (up2 (up2 (up2 r14.2 206 ((((1203 : Int32) + ((4 : Int32) * x1)) + (1 : Int32))).toNatClampNeg r14.1) 206 ((((1203 : Int32) + ((4 : Int32) * x1)) + (2 : Int32))).toNatClampNeg ((up2 r14.2 206 ((((1203 : Int32) + ((4 : Int32) * x1)) + (1 : Int32))).toNatClampNeg r14.1) 205 16)) 205 13 (0 : Int32)) 74) >>= fun r21 => if r21.1 = 0 then if inB (((1203 : Int32) + ((4 : Int32) * x1)) + (3 : Int32)) 2051 = true then some ((1 : Int32), (up2 r21.2 206 ((((1203 : Int32) + ((4 : Int32) * x1)) + (3 : Int32))).toNatClampNeg (r21.2 205 16))) else none else (F_X12_readCond (F_X12_readAtom 32) r21.2) >>= fun r25 => if r25.1 = 0 then some ((0 : Int32), r25.2) else if inB (((1203 : Int32) + ((4 : Int32) * x1)) + (3 : Int32)) 2051 = true then some ((1 : Int32), (up2 r25.2 206 ((((1203 : Int32) + ((4 : Int32) * x1)) + (3 : Int32))).toNatClampNeg (r25.2 205 16))) else none else none else some ((0 : Int32), (up2 r14.2 206 ((((1203 : Int32) + ((4 : Int32) * x1)) + (1 : Int32))).toNatClampNeg r14.1)) else none else some ((0 : Int32), (up2 I 206 (((1203 : Int32) + ((4 : Int32) * x1))).toNatClampNeg (-1 : Int32))) else none else if inB ((1203 : Int32) + ((4 : Int32) * x1)) 2051 = true then (ald 2051 ((up2 I 206 (((1203 : Int32) + ((4 : Int32) * x1))).toNatClampNeg (2 : Int32)) 206) ((1203 : Int32) + ((4 : Int32) * x1))) >>= fun v30 => if 0 ≤ v30 then (F_X12_number (up2 I 206 (((1203 : Int32) + ((4 : Int32) * x1))).toNatClampNeg (2 : Int32)) (0 : Int32) (60 : Int32)) >>= fun r33 => if inB (((1203 : Int32) + ((4 : Int32) * x1)) + (1 : Int32)) 2051 = true then (ald 2051 ((up2 r33.2 206 ((((1203 : Int32) + ((4 : Int32) * x1)) + (1 : Int32))).toNatClampNeg r33.1) 206) (((1203 : Int32) + ((4 : Int32) * x1)) + (1 : Int32))) >>= fun v36 => if 0 ≤ v36 then if inB (((1203 : Int32) + ((4 : Int32) * x1)) + (2 : Int32)) 2051 = true then (F_X12_passes (up2 (up2 (up2 r33.2 206 ((((1203 : Int32) + ((4 : Int32) * x1)) + (1 : Int32))).toNatClampNeg r33.1) 206 ((((1203 : Int32) + ((4 : Int32) * x1)) + (2 : Int32))).toNatClampNeg ((up2 r33.2 206 ((((1203 : Int32) + ((4 : Int32) * x1)) + (1 : Int32))).toNatClampNeg r33.1) 205 16)) 205 13 (0 : Int32)) 74) >>= fun r40 => if r40.1 = 0 then if inB (((1203 : Int32) + ((4 : Int32) * x1)) + (3 : Int32)) 2051 = true then some ((1 : Int32), (up2 r40.2 206 ((((1203 : Int32) + ((4 : Int32) * x1)) + (3 : Int32))).toNatClampNeg (r40.2 205 16))) else none else (F_X12_readCond (F_X12_readAtom 32) r40.2) >>= fun r44 => if r44.1 = 0 then some ((0 : Int32), r44.2) else if inB (((1203 : Int32) + ((4 : Int32) * x1)) + (3 : Int32)) 2051 = true then some ((1 : Int32), (up2 r44.2 206 ((((1203 : Int32) + ((4 : Int32) * x1)) + (3 : Int32))).toNatClampNeg (r44.2 205 16))) else none else none else some ((0 : Int32), (up2 r33.2 206 ((((1203 : Int32) + ((4 : Int32) * x1)) + (1 : Int32))).toNatClampNeg r33.1)) else none else some ((0 : Int32), (up2 I 206 (((1203 : Int32) + ((4 : Int32) * x1))).toNatClampNeg (2 : Int32))) else none else if inB ((1203 : Int32) + ((4 : Int32) * x1)) 2051 = true then (ald 2051 ((up2 I 206 (((1203 : Int32) + ((4 : Int32) * x1))).toNatClampNeg (1 : Int32)) 206) ((1203 : Int32) + ((4 : Int32) * x1))) >>= fun v49 => if 0 ≤ v49 then (F_X12_number (up2 I 206 (((1203 : Int32) + ((4 : Int32) * x1))).toNatClampNeg (1 : Int32)) (0 : Int32) (60 : Int32)) >>= fun r52 => if inB (((1203 : Int32) + ((4 : Int32) * x1)) + (1 : Int32)) 2051 = true then (ald 2051 ((up2 r52.2 206 ((((1203 : Int32) + ((4 : Int32) * x1)) + (1 : Int32))).toNatClampNeg r52.1) 206) (((1203 : Int32) + ((4 : Int32) * x1)) + (1 : Int32))) >>= fun v55 => if 0 ≤ v55 then if inB (((1203 : Int32) + ((4 : Int32) * x1)) + (2 : Int32)) 2051 = true then (F_X12_passes (up2 (up2 (up2 r52.2 206 ((((1203 : Int32) + ((4 : Int32) * x1)) + (1 : Int32))).toNatClampNeg r52.1) 206 ((((1203 : Int32) + ((4 : Int32) * x1)) + (2 : Int32))).toNatClampNeg ((up2 r52.2 206 ((((1203 : Int32) + ((4 : Int32) * x1)) + (1 : Int32))).toNatClampNeg r52.1) 205 16)) 205 13 (0 : Int32)) 74) >>= fun r59 => if r59.1 = 0 then if inB (((1203 : Int32) + ((4 : Int32) * x1)) + (3 : Int32)) 2051 = true then some ((1 : Int32), (up2 r59.2 206 ((((1203 : Int32) + ((4 : Int32) * x1)) + (3 : Int32))).toNatClampNeg (r59.2 205 16))) else none else (F_X12_readCond (F_X12_readAtom 32) r59.2) >>= fun r63 => if r63.1 = 0 then some ((0 : Int32), r63.2) else if inB (((1203 : Int32) + ((4 : Int32) * x1)) + (3 : Int32)) 2051 = true then some ((1 : Int32), (up2 r63.2 206 ((((1203 : Int32) + ((4 : Int32) * x1)) + (3 : Int32))).toNatClampNeg (r63.2 205 16))) else none else none else some ((0 : Int32), (up2 r52.2 206 ((((1203 : Int32) + ((4 : Int32) * x1)) + (1 : Int32))).toNatClampNeg r52.1)) else none else some ((0 : Int32), (up2 I 206 (((1203 : Int32) + ((4 : Int32) * x1))).toNatClampNeg (1 : Int32))) else none else if inB ((1203 : Int32) + ((4 : Int32) * x1)) 2051 = true then (ald 2051 ((up2 I 206 (((1203 : Int32) + ((4 : Int32) * x1))).toNatClampNeg (0 : Int32)) 206) ((1203 : Int32) + ((4 : Int32) * x1))) >>= fun v68 => if 0 ≤ v68 then (F_X12_number (up2 I 206 (((1203 : Int32) + ((4 : Int32) * x1))).toNatClampNeg (0 : Int32)) (0 : Int32) (60 : Int32)) >>= fun r71 => if inB (((1203 : Int32) + ((4 : Int32) * x1)) + (1 : Int32)) 2051 = true then (ald 2051 ((up2 r71.2 206 ((((1203 : Int32) + ((4 : Int32) * x1)) + (1 : Int32))).toNatClampNeg r71.1) 206) (((1203 : Int32) + ((4 : Int32) * x1)) + (1 : Int32))) >>= fun v74 => if 0 ≤ v74 then if inB (((1203 : Int32) + ((4 : Int32) * x1)) + (2 : Int32)) 2051 = true then (F_X12_passes (up2 (up2 (up2 r71.2 206 ((((1203 : Int32) + ((4 : Int32) * x1)) + (1 : Int32))).toNatClampNeg r71.1) 206 ((((1203 : Int32) + ((4 : Int32) * x1)) + (2 : Int32))).toNatClampNeg ((up2 r71.2 206 ((((1203 : Int32) + ((4 : Int32) * x1)) + (1 : Int32))).toNatClampNeg r71.1) 205 16)) 205 13 (0 : Int32)) 74) >>= fun r78 => if r78.1 = 0 then if inB (((1203 : Int32) + ((4 : Int32) * x1)) + (3 : Int32)) 2051 = true then some ((1 : Int32), (up2 r78.2 206 ((((1203 : Int32) + ((4 : Int32) * x1)) + (3 : Int32))).toNatClampNeg (r78.2 205 16))) else none else (F_X12_readCond (F_X12_readAtom 32) r78.2) >>= fun r82 => if r82.1 = 0 then some ((0 : Int32), r82.2) else if inB (((1203 : Int32) + ((4 : Int32) * x1)) + (3 : Int32)) 2051 = true then some ((1 : Int32), (up2 r82.2 206 ((((1203 : Int32) + ((4 : Int32) * x1)) + (3 : Int32))).toNatClampNeg (r82.2 205 16))) else none else none else some ((0 : Int32), (up2 r71.2 206 ((((1203 : Int32) + ((4 : Int32) * x1)) + (1 : Int32))).toNatClampNeg r71.1)) else none else some ((0 : Int32), (up2 I 206 (((1203 : Int32) + ((4 : Int32) * x1))).toNatClampNeg (0 : Int32))) else none
set_option maxRecDepth 4000 in
set_option maxHeartbeats 4000000 in
theorem C_X12_readLawLine {g : gX} {d : Nat} {P : Nat → Nat → Option Nat} {I : HI} {x1 : Int32} {J : HJ} (hp : Wp P) {r : Int32 × HI} (h : F_X12_readLawLine I x1 = some r) : Cm g mX12_readLawLine (d + 107) [.ref 205, .int x1] (NT, I, J, P) (some (.int r.1)) (NT, r.2, J, P) := by
  unfold F_X12_readLawLine at h
  refine Cm.of (by decide) (by simp [Value.category]) (Nat.le_of_ble_eq_true rfl) (Nat.le_refl _) (ls := [some (.ref 205), some (.int x1), none]) rfl ?_
  refine M_sipush (pc := 0) (v := 1203) dX12_readLawLine_0 (by decide) ?_
  refine M_iconst (pc := 3) (v := 4) dX12_readLawLine_3 (by decide) ?_
  refine M_iload_n (pc := 4) dX12_readLawLine_4 rfl ?_
  refine M_imul (pc := 5) dX12_readLawLine_5 ?_
  refine M_iadd (pc := 6) dX12_readLawLine_6 ?_
  refine M_istore_n (pc := 7) (ls' := [some (.ref 205), some (.int x1), some (.int ((1203 : Int32) + ((4 : Int32) * x1)))]) dX12_readLawLine_7 (by decide) rfl ?_
  refine M_aload_n (pc := 8) dX12_readLawLine_8 rfl ?_
  refine M_getR (pc := 9) dX12_readLawLine_9 f_X12_13 at_11 (gc_205_1 hp).1 ?_
  refine M_iload_n (pc := 12) dX12_readLawLine_12 rfl ?_
  refine M_aload_n (pc := 13) dX12_readLawLine_13 rfl ?_
  refine M_ldcS (pc := 14) (j := 71) dX12_readLawLine_14 (by decide) str_X12_218 ?_
  obtain ⟨r1, hr2, h⟩ := bnd h
  refine M_callVi (pc := 16) dX12_readLawLine_16 v_X12_109 rfl rfl at_11 (Nat.le_of_ble_eq_true rfl) (C_X12_isWord (d := d + 102) hp (by decide) hr2) (Nat.le_refl _) ?_
  refine M_if_eq (pc := 19) (tgt := 26) dX12_readLawLine_19 (by decide) (fun hc3 => ?_) (fun hc3 => ?_)
  · have h := (if_pos hc3).symm.trans h
    refine M_aload_n (pc := 26) dX12_readLawLine_26 rfl ?_
    refine M_ldcS (pc := 27) (j := 72) dX12_readLawLine_27 (by decide) str_X12_220 ?_
    obtain ⟨r4, hr5, h⟩ := bnd h
    refine M_callVi (pc := 29) dX12_readLawLine_29 v_X12_109 rfl rfl at_11 (Nat.le_of_ble_eq_true rfl) (C_X12_isWord (d := d + 102) hp (by decide) hr5) (Nat.le_refl _) ?_
    refine M_if_eq (pc := 32) (tgt := 39) dX12_readLawLine_32 (by decide) (fun hc6 => ?_) (fun hc6 => ?_)
    · have h := (if_pos hc6).symm.trans h
      refine M_aload_n (pc := 39) dX12_readLawLine_39 rfl ?_
      refine M_ldcS (pc := 40) (j := 73) dX12_readLawLine_40 (by decide) str_X12_222 ?_
      obtain ⟨r7, hr8, h⟩ := bnd h
      refine M_callVi (pc := 42) dX12_readLawLine_42 v_X12_109 rfl rfl at_11 (Nat.le_of_ble_eq_true rfl) (C_X12_isWord (d := d + 102) hp (by decide) hr8) (Nat.le_refl _) ?_
      refine M_if_eq (pc := 45) (tgt := 52) dX12_readLawLine_45 (by decide) (fun hc9 => ?_) (fun hc9 => ?_)
      · have h := (if_pos hc9).symm.trans h
        refine M_iconst (pc := 52) (v := -1) dX12_readLawLine_52 (by decide) ?_
        obtain ⟨hq10, h⟩ := chk h
        refine M_iast (pc := 53) dX12_readLawLine_53 (gc_205_1 hp).2 (inB_in hq10) ?_
        refine M_aload_n (pc := 54) dX12_readLawLine_54 rfl ?_
        refine M_getR (pc := 55) dX12_readLawLine_55 f_X12_13 at_11 (gc_205_1 hp).1 ?_
        refine M_iload_n (pc := 58) dX12_readLawLine_58 rfl ?_
        obtain ⟨v11, hv12, h⟩ := bnd h
        refine M_aldI (pc := 59) dX12_readLawLine_59 (gc_205_1 hp).2 hv12 ?_
        refine M_if_ge (pc := 60) (tgt := 65) dX12_readLawLine_60 (by decide) (fun hc13 => ?_) (fun hc13 => ?_)
        · have h := (if_pos hc13).symm.trans h
          refine M_aload_n (pc := 65) dX12_readLawLine_65 rfl ?_
          refine M_getR (pc := 66) dX12_readLawLine_66 f_X12_13 at_11 (gc_205_1 hp).1 ?_
          refine M_iload_n (pc := 69) dX12_readLawLine_69 rfl ?_
          refine M_iconst (pc := 70) (v := 1) dX12_readLawLine_70 (by decide) ?_
          refine M_iadd (pc := 71) dX12_readLawLine_71 ?_
          refine M_aload_n (pc := 72) dX12_readLawLine_72 rfl ?_
          refine M_iconst (pc := 73) (v := 0) dX12_readLawLine_73 (by decide) ?_
          refine M_bipush (pc := 74) (v := 60) dX12_readLawLine_74 (by decide) ?_
          obtain ⟨r14, hr15, h⟩ := bnd h
          refine M_callVi (pc := 76) dX12_readLawLine_76 v_X12_113 rfl rfl at_11 (Nat.le_of_ble_eq_true rfl) (C_X12_number (d := d + 104) hp hr15) (Nat.le_refl _) ?_
          obtain ⟨hq16, h⟩ := chk h
          refine M_iast (pc := 79) dX12_readLawLine_79 (gc_205_1 hp).2 (inB_in hq16) ?_
          refine M_aload_n (pc := 80) dX12_readLawLine_80 rfl ?_
          refine M_getR (pc := 81) dX12_readLawLine_81 f_X12_13 at_11 (gc_205_1 hp).1 ?_
          refine M_iload_n (pc := 84) dX12_readLawLine_84 rfl ?_
          refine M_iconst (pc := 85) (v := 1) dX12_readLawLine_85 (by decide) ?_
          refine M_iadd (pc := 86) dX12_readLawLine_86 ?_
          obtain ⟨v17, hv18, h⟩ := bnd h
          refine M_aldI (pc := 87) dX12_readLawLine_87 (gc_205_1 hp).2 hv18 ?_
          refine M_if_ge (pc := 88) (tgt := 93) dX12_readLawLine_88 (by decide) (fun hc19 => ?_) (fun hc19 => ?_)
          · have h := (if_pos hc19).symm.trans h
            refine M_aload_n (pc := 93) dX12_readLawLine_93 rfl ?_
            refine M_getR (pc := 94) dX12_readLawLine_94 f_X12_13 at_11 (gc_205_1 hp).1 ?_
            refine M_iload_n (pc := 97) dX12_readLawLine_97 rfl ?_
            refine M_iconst (pc := 98) (v := 2) dX12_readLawLine_98 (by decide) ?_
            refine M_iadd (pc := 99) dX12_readLawLine_99 ?_
            refine M_aload_n (pc := 100) dX12_readLawLine_100 rfl ?_
            refine M_getI (pc := 101) dX12_readLawLine_101 f_X12_164 at_11 ?_
            obtain ⟨hq20, h⟩ := chk h
            refine M_iast (pc := 104) dX12_readLawLine_104 (gc_205_1 hp).2 (inB_in hq20) ?_
            refine M_aload_n (pc := 105) dX12_readLawLine_105 rfl ?_
            refine M_iconst (pc := 106) (v := 0) dX12_readLawLine_106 (by decide) ?_
            refine M_putI (pc := 107) dX12_readLawLine_107 f_X12_194 at_11 rfl ⟨rfl, rfl⟩ ?_
            refine M_aload_n (pc := 110) dX12_readLawLine_110 rfl ?_
            refine M_ldcS (pc := 111) (j := 74) dX12_readLawLine_111 (by decide) str_X12_224 ?_
            obtain ⟨r21, hr22, h⟩ := bnd h
            refine M_callVi (pc := 113) dX12_readLawLine_113 v_X12_118 rfl rfl at_11 (Nat.le_of_ble_eq_true rfl) (C_X12_passes (d := d + 101) hp (by decide) hr22) (Nat.le_refl _) ?_
            refine M_if_eq (pc := 116) (tgt := 128) dX12_readLawLine_116 (by decide) (fun hc23 => ?_) (fun hc23 => ?_)
            · have h := (if_pos hc23).symm.trans h
              refine M_aload_n (pc := 128) dX12_readLawLine_128 rfl ?_
              refine M_getR (pc := 129) dX12_readLawLine_129 f_X12_13 at_11 (gc_205_1 hp).1 ?_
              refine M_iload_n (pc := 132) dX12_readLawLine_132 rfl ?_
              refine M_iconst (pc := 133) (v := 3) dX12_readLawLine_133 (by decide) ?_
              refine M_iadd (pc := 134) dX12_readLawLine_134 ?_
              refine M_aload_n (pc := 135) dX12_readLawLine_135 rfl ?_
              refine M_getI (pc := 136) dX12_readLawLine_136 f_X12_164 at_11 ?_
              obtain ⟨hq24, h⟩ := chk h
              refine M_iast (pc := 139) dX12_readLawLine_139 (gc_205_1 hp).2 (inB_in hq24) ?_
              refine M_iconst (pc := 140) (v := 1) dX12_readLawLine_140 (by decide) ?_
              obtain rfl := Option.some.inj h
              exact M_iret (pc := 141) dX12_readLawLine_141 rfl rfl rfl rfl
            · have h := (if_neg hc23).symm.trans h
              refine M_aload_n (pc := 119) dX12_readLawLine_119 rfl ?_
              obtain ⟨r25, hr26, h⟩ := bnd h
              refine M_callVi (pc := 120) dX12_readLawLine_120 v_X12_197 rfl rfl at_11 (Nat.le_of_ble_eq_true rfl) (C_X12_readCond (d := d + 96) hp (fun e {J} I r hr9 => by have q := C_X12_readAtom (g := g) hp 32 (d := d + 0 + e) (J := J) I r hr9; rw [show d + 0 + e + 3 * 32 + 8 = d + 96 + e + 8 by omega] at q; exact q) hr26) (Nat.le_refl _) ?_
              refine M_if_ne (pc := 123) (tgt := 128) dX12_readLawLine_123 (by decide) (fun hc27 => ?_) (fun hc27 => ?_)
              · have h := (if_neg hc27).symm.trans h
                refine M_aload_n (pc := 128) dX12_readLawLine_128 rfl ?_
                refine M_getR (pc := 129) dX12_readLawLine_129 f_X12_13 at_11 (gc_205_1 hp).1 ?_
                refine M_iload_n (pc := 132) dX12_readLawLine_132 rfl ?_
                refine M_iconst (pc := 133) (v := 3) dX12_readLawLine_133 (by decide) ?_
                refine M_iadd (pc := 134) dX12_readLawLine_134 ?_
                refine M_aload_n (pc := 135) dX12_readLawLine_135 rfl ?_
                refine M_getI (pc := 136) dX12_readLawLine_136 f_X12_164 at_11 ?_
                obtain ⟨hq28, h⟩ := chk h
                refine M_iast (pc := 139) dX12_readLawLine_139 (gc_205_1 hp).2 (inB_in hq28) ?_
                refine M_iconst (pc := 140) (v := 1) dX12_readLawLine_140 (by decide) ?_
                obtain rfl := Option.some.inj h
                exact M_iret (pc := 141) dX12_readLawLine_141 rfl rfl rfl rfl
              · have h := (if_pos hc27).symm.trans h
                refine M_iconst (pc := 126) (v := 0) dX12_readLawLine_126 (by decide) ?_
                obtain rfl := Option.some.inj h
                exact M_iret (pc := 127) dX12_readLawLine_127 rfl rfl rfl rfl
          · have h := (if_neg hc19).symm.trans h
            refine M_iconst (pc := 91) (v := 0) dX12_readLawLine_91 (by decide) ?_
            obtain rfl := Option.some.inj h
            exact M_iret (pc := 92) dX12_readLawLine_92 rfl rfl rfl rfl
        · have h := (if_neg hc13).symm.trans h
          refine M_iconst (pc := 63) (v := 0) dX12_readLawLine_63 (by decide) ?_
          obtain rfl := Option.some.inj h
          exact M_iret (pc := 64) dX12_readLawLine_64 rfl rfl rfl rfl
      · have h := (if_neg hc9).symm.trans h
        refine M_iconst (pc := 48) (v := 2) dX12_readLawLine_48 (by decide) ?_
        refine M_goto (pc := 49) (tgt := 53) dX12_readLawLine_49 (by decide) ?_
        obtain ⟨hq29, h⟩ := chk h
        refine M_iast (pc := 53) dX12_readLawLine_53 (gc_205_1 hp).2 (inB_in hq29) ?_
        refine M_aload_n (pc := 54) dX12_readLawLine_54 rfl ?_
        refine M_getR (pc := 55) dX12_readLawLine_55 f_X12_13 at_11 (gc_205_1 hp).1 ?_
        refine M_iload_n (pc := 58) dX12_readLawLine_58 rfl ?_
        obtain ⟨v30, hv31, h⟩ := bnd h
        refine M_aldI (pc := 59) dX12_readLawLine_59 (gc_205_1 hp).2 hv31 ?_
        refine M_if_ge (pc := 60) (tgt := 65) dX12_readLawLine_60 (by decide) (fun hc32 => ?_) (fun hc32 => ?_)
        · have h := (if_pos hc32).symm.trans h
          refine M_aload_n (pc := 65) dX12_readLawLine_65 rfl ?_
          refine M_getR (pc := 66) dX12_readLawLine_66 f_X12_13 at_11 (gc_205_1 hp).1 ?_
          refine M_iload_n (pc := 69) dX12_readLawLine_69 rfl ?_
          refine M_iconst (pc := 70) (v := 1) dX12_readLawLine_70 (by decide) ?_
          refine M_iadd (pc := 71) dX12_readLawLine_71 ?_
          refine M_aload_n (pc := 72) dX12_readLawLine_72 rfl ?_
          refine M_iconst (pc := 73) (v := 0) dX12_readLawLine_73 (by decide) ?_
          refine M_bipush (pc := 74) (v := 60) dX12_readLawLine_74 (by decide) ?_
          obtain ⟨r33, hr34, h⟩ := bnd h
          refine M_callVi (pc := 76) dX12_readLawLine_76 v_X12_113 rfl rfl at_11 (Nat.le_of_ble_eq_true rfl) (C_X12_number (d := d + 104) hp hr34) (Nat.le_refl _) ?_
          obtain ⟨hq35, h⟩ := chk h
          refine M_iast (pc := 79) dX12_readLawLine_79 (gc_205_1 hp).2 (inB_in hq35) ?_
          refine M_aload_n (pc := 80) dX12_readLawLine_80 rfl ?_
          refine M_getR (pc := 81) dX12_readLawLine_81 f_X12_13 at_11 (gc_205_1 hp).1 ?_
          refine M_iload_n (pc := 84) dX12_readLawLine_84 rfl ?_
          refine M_iconst (pc := 85) (v := 1) dX12_readLawLine_85 (by decide) ?_
          refine M_iadd (pc := 86) dX12_readLawLine_86 ?_
          obtain ⟨v36, hv37, h⟩ := bnd h
          refine M_aldI (pc := 87) dX12_readLawLine_87 (gc_205_1 hp).2 hv37 ?_
          refine M_if_ge (pc := 88) (tgt := 93) dX12_readLawLine_88 (by decide) (fun hc38 => ?_) (fun hc38 => ?_)
          · have h := (if_pos hc38).symm.trans h
            refine M_aload_n (pc := 93) dX12_readLawLine_93 rfl ?_
            refine M_getR (pc := 94) dX12_readLawLine_94 f_X12_13 at_11 (gc_205_1 hp).1 ?_
            refine M_iload_n (pc := 97) dX12_readLawLine_97 rfl ?_
            refine M_iconst (pc := 98) (v := 2) dX12_readLawLine_98 (by decide) ?_
            refine M_iadd (pc := 99) dX12_readLawLine_99 ?_
            refine M_aload_n (pc := 100) dX12_readLawLine_100 rfl ?_
            refine M_getI (pc := 101) dX12_readLawLine_101 f_X12_164 at_11 ?_
            obtain ⟨hq39, h⟩ := chk h
            refine M_iast (pc := 104) dX12_readLawLine_104 (gc_205_1 hp).2 (inB_in hq39) ?_
            refine M_aload_n (pc := 105) dX12_readLawLine_105 rfl ?_
            refine M_iconst (pc := 106) (v := 0) dX12_readLawLine_106 (by decide) ?_
            refine M_putI (pc := 107) dX12_readLawLine_107 f_X12_194 at_11 rfl ⟨rfl, rfl⟩ ?_
            refine M_aload_n (pc := 110) dX12_readLawLine_110 rfl ?_
            refine M_ldcS (pc := 111) (j := 74) dX12_readLawLine_111 (by decide) str_X12_224 ?_
            obtain ⟨r40, hr41, h⟩ := bnd h
            refine M_callVi (pc := 113) dX12_readLawLine_113 v_X12_118 rfl rfl at_11 (Nat.le_of_ble_eq_true rfl) (C_X12_passes (d := d + 101) hp (by decide) hr41) (Nat.le_refl _) ?_
            refine M_if_eq (pc := 116) (tgt := 128) dX12_readLawLine_116 (by decide) (fun hc42 => ?_) (fun hc42 => ?_)
            · have h := (if_pos hc42).symm.trans h
              refine M_aload_n (pc := 128) dX12_readLawLine_128 rfl ?_
              refine M_getR (pc := 129) dX12_readLawLine_129 f_X12_13 at_11 (gc_205_1 hp).1 ?_
              refine M_iload_n (pc := 132) dX12_readLawLine_132 rfl ?_
              refine M_iconst (pc := 133) (v := 3) dX12_readLawLine_133 (by decide) ?_
              refine M_iadd (pc := 134) dX12_readLawLine_134 ?_
              refine M_aload_n (pc := 135) dX12_readLawLine_135 rfl ?_
              refine M_getI (pc := 136) dX12_readLawLine_136 f_X12_164 at_11 ?_
              obtain ⟨hq43, h⟩ := chk h
              refine M_iast (pc := 139) dX12_readLawLine_139 (gc_205_1 hp).2 (inB_in hq43) ?_
              refine M_iconst (pc := 140) (v := 1) dX12_readLawLine_140 (by decide) ?_
              obtain rfl := Option.some.inj h
              exact M_iret (pc := 141) dX12_readLawLine_141 rfl rfl rfl rfl
            · have h := (if_neg hc42).symm.trans h
              refine M_aload_n (pc := 119) dX12_readLawLine_119 rfl ?_
              obtain ⟨r44, hr45, h⟩ := bnd h
              refine M_callVi (pc := 120) dX12_readLawLine_120 v_X12_197 rfl rfl at_11 (Nat.le_of_ble_eq_true rfl) (C_X12_readCond (d := d + 96) hp (fun e {J} I r hr9 => by have q := C_X12_readAtom (g := g) hp 32 (d := d + 0 + e) (J := J) I r hr9; rw [show d + 0 + e + 3 * 32 + 8 = d + 96 + e + 8 by omega] at q; exact q) hr45) (Nat.le_refl _) ?_
              refine M_if_ne (pc := 123) (tgt := 128) dX12_readLawLine_123 (by decide) (fun hc46 => ?_) (fun hc46 => ?_)
              · have h := (if_neg hc46).symm.trans h
                refine M_aload_n (pc := 128) dX12_readLawLine_128 rfl ?_
                refine M_getR (pc := 129) dX12_readLawLine_129 f_X12_13 at_11 (gc_205_1 hp).1 ?_
                refine M_iload_n (pc := 132) dX12_readLawLine_132 rfl ?_
                refine M_iconst (pc := 133) (v := 3) dX12_readLawLine_133 (by decide) ?_
                refine M_iadd (pc := 134) dX12_readLawLine_134 ?_
                refine M_aload_n (pc := 135) dX12_readLawLine_135 rfl ?_
                refine M_getI (pc := 136) dX12_readLawLine_136 f_X12_164 at_11 ?_
                obtain ⟨hq47, h⟩ := chk h
                refine M_iast (pc := 139) dX12_readLawLine_139 (gc_205_1 hp).2 (inB_in hq47) ?_
                refine M_iconst (pc := 140) (v := 1) dX12_readLawLine_140 (by decide) ?_
                obtain rfl := Option.some.inj h
                exact M_iret (pc := 141) dX12_readLawLine_141 rfl rfl rfl rfl
              · have h := (if_pos hc46).symm.trans h
                refine M_iconst (pc := 126) (v := 0) dX12_readLawLine_126 (by decide) ?_
                obtain rfl := Option.some.inj h
                exact M_iret (pc := 127) dX12_readLawLine_127 rfl rfl rfl rfl
          · have h := (if_neg hc38).symm.trans h
            refine M_iconst (pc := 91) (v := 0) dX12_readLawLine_91 (by decide) ?_
            obtain rfl := Option.some.inj h
            exact M_iret (pc := 92) dX12_readLawLine_92 rfl rfl rfl rfl
        · have h := (if_neg hc32).symm.trans h
          refine M_iconst (pc := 63) (v := 0) dX12_readLawLine_63 (by decide) ?_
          obtain rfl := Option.some.inj h
          exact M_iret (pc := 64) dX12_readLawLine_64 rfl rfl rfl rfl
    · have h := (if_neg hc6).symm.trans h
      refine M_iconst (pc := 35) (v := 1) dX12_readLawLine_35 (by decide) ?_
      refine M_goto (pc := 36) (tgt := 53) dX12_readLawLine_36 (by decide) ?_
      obtain ⟨hq48, h⟩ := chk h
      refine M_iast (pc := 53) dX12_readLawLine_53 (gc_205_1 hp).2 (inB_in hq48) ?_
      refine M_aload_n (pc := 54) dX12_readLawLine_54 rfl ?_
      refine M_getR (pc := 55) dX12_readLawLine_55 f_X12_13 at_11 (gc_205_1 hp).1 ?_
      refine M_iload_n (pc := 58) dX12_readLawLine_58 rfl ?_
      obtain ⟨v49, hv50, h⟩ := bnd h
      refine M_aldI (pc := 59) dX12_readLawLine_59 (gc_205_1 hp).2 hv50 ?_
      refine M_if_ge (pc := 60) (tgt := 65) dX12_readLawLine_60 (by decide) (fun hc51 => ?_) (fun hc51 => ?_)
      · have h := (if_pos hc51).symm.trans h
        refine M_aload_n (pc := 65) dX12_readLawLine_65 rfl ?_
        refine M_getR (pc := 66) dX12_readLawLine_66 f_X12_13 at_11 (gc_205_1 hp).1 ?_
        refine M_iload_n (pc := 69) dX12_readLawLine_69 rfl ?_
        refine M_iconst (pc := 70) (v := 1) dX12_readLawLine_70 (by decide) ?_
        refine M_iadd (pc := 71) dX12_readLawLine_71 ?_
        refine M_aload_n (pc := 72) dX12_readLawLine_72 rfl ?_
        refine M_iconst (pc := 73) (v := 0) dX12_readLawLine_73 (by decide) ?_
        refine M_bipush (pc := 74) (v := 60) dX12_readLawLine_74 (by decide) ?_
        obtain ⟨r52, hr53, h⟩ := bnd h
        refine M_callVi (pc := 76) dX12_readLawLine_76 v_X12_113 rfl rfl at_11 (Nat.le_of_ble_eq_true rfl) (C_X12_number (d := d + 104) hp hr53) (Nat.le_refl _) ?_
        obtain ⟨hq54, h⟩ := chk h
        refine M_iast (pc := 79) dX12_readLawLine_79 (gc_205_1 hp).2 (inB_in hq54) ?_
        refine M_aload_n (pc := 80) dX12_readLawLine_80 rfl ?_
        refine M_getR (pc := 81) dX12_readLawLine_81 f_X12_13 at_11 (gc_205_1 hp).1 ?_
        refine M_iload_n (pc := 84) dX12_readLawLine_84 rfl ?_
        refine M_iconst (pc := 85) (v := 1) dX12_readLawLine_85 (by decide) ?_
        refine M_iadd (pc := 86) dX12_readLawLine_86 ?_
        obtain ⟨v55, hv56, h⟩ := bnd h
        refine M_aldI (pc := 87) dX12_readLawLine_87 (gc_205_1 hp).2 hv56 ?_
        refine M_if_ge (pc := 88) (tgt := 93) dX12_readLawLine_88 (by decide) (fun hc57 => ?_) (fun hc57 => ?_)
        · have h := (if_pos hc57).symm.trans h
          refine M_aload_n (pc := 93) dX12_readLawLine_93 rfl ?_
          refine M_getR (pc := 94) dX12_readLawLine_94 f_X12_13 at_11 (gc_205_1 hp).1 ?_
          refine M_iload_n (pc := 97) dX12_readLawLine_97 rfl ?_
          refine M_iconst (pc := 98) (v := 2) dX12_readLawLine_98 (by decide) ?_
          refine M_iadd (pc := 99) dX12_readLawLine_99 ?_
          refine M_aload_n (pc := 100) dX12_readLawLine_100 rfl ?_
          refine M_getI (pc := 101) dX12_readLawLine_101 f_X12_164 at_11 ?_
          obtain ⟨hq58, h⟩ := chk h
          refine M_iast (pc := 104) dX12_readLawLine_104 (gc_205_1 hp).2 (inB_in hq58) ?_
          refine M_aload_n (pc := 105) dX12_readLawLine_105 rfl ?_
          refine M_iconst (pc := 106) (v := 0) dX12_readLawLine_106 (by decide) ?_
          refine M_putI (pc := 107) dX12_readLawLine_107 f_X12_194 at_11 rfl ⟨rfl, rfl⟩ ?_
          refine M_aload_n (pc := 110) dX12_readLawLine_110 rfl ?_
          refine M_ldcS (pc := 111) (j := 74) dX12_readLawLine_111 (by decide) str_X12_224 ?_
          obtain ⟨r59, hr60, h⟩ := bnd h
          refine M_callVi (pc := 113) dX12_readLawLine_113 v_X12_118 rfl rfl at_11 (Nat.le_of_ble_eq_true rfl) (C_X12_passes (d := d + 101) hp (by decide) hr60) (Nat.le_refl _) ?_
          refine M_if_eq (pc := 116) (tgt := 128) dX12_readLawLine_116 (by decide) (fun hc61 => ?_) (fun hc61 => ?_)
          · have h := (if_pos hc61).symm.trans h
            refine M_aload_n (pc := 128) dX12_readLawLine_128 rfl ?_
            refine M_getR (pc := 129) dX12_readLawLine_129 f_X12_13 at_11 (gc_205_1 hp).1 ?_
            refine M_iload_n (pc := 132) dX12_readLawLine_132 rfl ?_
            refine M_iconst (pc := 133) (v := 3) dX12_readLawLine_133 (by decide) ?_
            refine M_iadd (pc := 134) dX12_readLawLine_134 ?_
            refine M_aload_n (pc := 135) dX12_readLawLine_135 rfl ?_
            refine M_getI (pc := 136) dX12_readLawLine_136 f_X12_164 at_11 ?_
            obtain ⟨hq62, h⟩ := chk h
            refine M_iast (pc := 139) dX12_readLawLine_139 (gc_205_1 hp).2 (inB_in hq62) ?_
            refine M_iconst (pc := 140) (v := 1) dX12_readLawLine_140 (by decide) ?_
            obtain rfl := Option.some.inj h
            exact M_iret (pc := 141) dX12_readLawLine_141 rfl rfl rfl rfl
          · have h := (if_neg hc61).symm.trans h
            refine M_aload_n (pc := 119) dX12_readLawLine_119 rfl ?_
            obtain ⟨r63, hr64, h⟩ := bnd h
            refine M_callVi (pc := 120) dX12_readLawLine_120 v_X12_197 rfl rfl at_11 (Nat.le_of_ble_eq_true rfl) (C_X12_readCond (d := d + 96) hp (fun e {J} I r hr9 => by have q := C_X12_readAtom (g := g) hp 32 (d := d + 0 + e) (J := J) I r hr9; rw [show d + 0 + e + 3 * 32 + 8 = d + 96 + e + 8 by omega] at q; exact q) hr64) (Nat.le_refl _) ?_
            refine M_if_ne (pc := 123) (tgt := 128) dX12_readLawLine_123 (by decide) (fun hc65 => ?_) (fun hc65 => ?_)
            · have h := (if_neg hc65).symm.trans h
              refine M_aload_n (pc := 128) dX12_readLawLine_128 rfl ?_
              refine M_getR (pc := 129) dX12_readLawLine_129 f_X12_13 at_11 (gc_205_1 hp).1 ?_
              refine M_iload_n (pc := 132) dX12_readLawLine_132 rfl ?_
              refine M_iconst (pc := 133) (v := 3) dX12_readLawLine_133 (by decide) ?_
              refine M_iadd (pc := 134) dX12_readLawLine_134 ?_
              refine M_aload_n (pc := 135) dX12_readLawLine_135 rfl ?_
              refine M_getI (pc := 136) dX12_readLawLine_136 f_X12_164 at_11 ?_
              obtain ⟨hq66, h⟩ := chk h
              refine M_iast (pc := 139) dX12_readLawLine_139 (gc_205_1 hp).2 (inB_in hq66) ?_
              refine M_iconst (pc := 140) (v := 1) dX12_readLawLine_140 (by decide) ?_
              obtain rfl := Option.some.inj h
              exact M_iret (pc := 141) dX12_readLawLine_141 rfl rfl rfl rfl
            · have h := (if_pos hc65).symm.trans h
              refine M_iconst (pc := 126) (v := 0) dX12_readLawLine_126 (by decide) ?_
              obtain rfl := Option.some.inj h
              exact M_iret (pc := 127) dX12_readLawLine_127 rfl rfl rfl rfl
        · have h := (if_neg hc57).symm.trans h
          refine M_iconst (pc := 91) (v := 0) dX12_readLawLine_91 (by decide) ?_
          obtain rfl := Option.some.inj h
          exact M_iret (pc := 92) dX12_readLawLine_92 rfl rfl rfl rfl
      · have h := (if_neg hc51).symm.trans h
        refine M_iconst (pc := 63) (v := 0) dX12_readLawLine_63 (by decide) ?_
        obtain rfl := Option.some.inj h
        exact M_iret (pc := 64) dX12_readLawLine_64 rfl rfl rfl rfl
  · have h := (if_neg hc3).symm.trans h
    refine M_iconst (pc := 22) (v := 0) dX12_readLawLine_22 (by decide) ?_
    refine M_goto (pc := 23) (tgt := 53) dX12_readLawLine_23 (by decide) ?_
    obtain ⟨hq67, h⟩ := chk h
    refine M_iast (pc := 53) dX12_readLawLine_53 (gc_205_1 hp).2 (inB_in hq67) ?_
    refine M_aload_n (pc := 54) dX12_readLawLine_54 rfl ?_
    refine M_getR (pc := 55) dX12_readLawLine_55 f_X12_13 at_11 (gc_205_1 hp).1 ?_
    refine M_iload_n (pc := 58) dX12_readLawLine_58 rfl ?_
    obtain ⟨v68, hv69, h⟩ := bnd h
    refine M_aldI (pc := 59) dX12_readLawLine_59 (gc_205_1 hp).2 hv69 ?_
    refine M_if_ge (pc := 60) (tgt := 65) dX12_readLawLine_60 (by decide) (fun hc70 => ?_) (fun hc70 => ?_)
    · have h := (if_pos hc70).symm.trans h
      refine M_aload_n (pc := 65) dX12_readLawLine_65 rfl ?_
      refine M_getR (pc := 66) dX12_readLawLine_66 f_X12_13 at_11 (gc_205_1 hp).1 ?_
      refine M_iload_n (pc := 69) dX12_readLawLine_69 rfl ?_
      refine M_iconst (pc := 70) (v := 1) dX12_readLawLine_70 (by decide) ?_
      refine M_iadd (pc := 71) dX12_readLawLine_71 ?_
      refine M_aload_n (pc := 72) dX12_readLawLine_72 rfl ?_
      refine M_iconst (pc := 73) (v := 0) dX12_readLawLine_73 (by decide) ?_
      refine M_bipush (pc := 74) (v := 60) dX12_readLawLine_74 (by decide) ?_
      obtain ⟨r71, hr72, h⟩ := bnd h
      refine M_callVi (pc := 76) dX12_readLawLine_76 v_X12_113 rfl rfl at_11 (Nat.le_of_ble_eq_true rfl) (C_X12_number (d := d + 104) hp hr72) (Nat.le_refl _) ?_
      obtain ⟨hq73, h⟩ := chk h
      refine M_iast (pc := 79) dX12_readLawLine_79 (gc_205_1 hp).2 (inB_in hq73) ?_
      refine M_aload_n (pc := 80) dX12_readLawLine_80 rfl ?_
      refine M_getR (pc := 81) dX12_readLawLine_81 f_X12_13 at_11 (gc_205_1 hp).1 ?_
      refine M_iload_n (pc := 84) dX12_readLawLine_84 rfl ?_
      refine M_iconst (pc := 85) (v := 1) dX12_readLawLine_85 (by decide) ?_
      refine M_iadd (pc := 86) dX12_readLawLine_86 ?_
      obtain ⟨v74, hv75, h⟩ := bnd h
      refine M_aldI (pc := 87) dX12_readLawLine_87 (gc_205_1 hp).2 hv75 ?_
      refine M_if_ge (pc := 88) (tgt := 93) dX12_readLawLine_88 (by decide) (fun hc76 => ?_) (fun hc76 => ?_)
      · have h := (if_pos hc76).symm.trans h
        refine M_aload_n (pc := 93) dX12_readLawLine_93 rfl ?_
        refine M_getR (pc := 94) dX12_readLawLine_94 f_X12_13 at_11 (gc_205_1 hp).1 ?_
        refine M_iload_n (pc := 97) dX12_readLawLine_97 rfl ?_
        refine M_iconst (pc := 98) (v := 2) dX12_readLawLine_98 (by decide) ?_
        refine M_iadd (pc := 99) dX12_readLawLine_99 ?_
        refine M_aload_n (pc := 100) dX12_readLawLine_100 rfl ?_
        refine M_getI (pc := 101) dX12_readLawLine_101 f_X12_164 at_11 ?_
        obtain ⟨hq77, h⟩ := chk h
        refine M_iast (pc := 104) dX12_readLawLine_104 (gc_205_1 hp).2 (inB_in hq77) ?_
        refine M_aload_n (pc := 105) dX12_readLawLine_105 rfl ?_
        refine M_iconst (pc := 106) (v := 0) dX12_readLawLine_106 (by decide) ?_
        refine M_putI (pc := 107) dX12_readLawLine_107 f_X12_194 at_11 rfl ⟨rfl, rfl⟩ ?_
        refine M_aload_n (pc := 110) dX12_readLawLine_110 rfl ?_
        refine M_ldcS (pc := 111) (j := 74) dX12_readLawLine_111 (by decide) str_X12_224 ?_
        obtain ⟨r78, hr79, h⟩ := bnd h
        refine M_callVi (pc := 113) dX12_readLawLine_113 v_X12_118 rfl rfl at_11 (Nat.le_of_ble_eq_true rfl) (C_X12_passes (d := d + 101) hp (by decide) hr79) (Nat.le_refl _) ?_
        refine M_if_eq (pc := 116) (tgt := 128) dX12_readLawLine_116 (by decide) (fun hc80 => ?_) (fun hc80 => ?_)
        · have h := (if_pos hc80).symm.trans h
          refine M_aload_n (pc := 128) dX12_readLawLine_128 rfl ?_
          refine M_getR (pc := 129) dX12_readLawLine_129 f_X12_13 at_11 (gc_205_1 hp).1 ?_
          refine M_iload_n (pc := 132) dX12_readLawLine_132 rfl ?_
          refine M_iconst (pc := 133) (v := 3) dX12_readLawLine_133 (by decide) ?_
          refine M_iadd (pc := 134) dX12_readLawLine_134 ?_
          refine M_aload_n (pc := 135) dX12_readLawLine_135 rfl ?_
          refine M_getI (pc := 136) dX12_readLawLine_136 f_X12_164 at_11 ?_
          obtain ⟨hq81, h⟩ := chk h
          refine M_iast (pc := 139) dX12_readLawLine_139 (gc_205_1 hp).2 (inB_in hq81) ?_
          refine M_iconst (pc := 140) (v := 1) dX12_readLawLine_140 (by decide) ?_
          obtain rfl := Option.some.inj h
          exact M_iret (pc := 141) dX12_readLawLine_141 rfl rfl rfl rfl
        · have h := (if_neg hc80).symm.trans h
          refine M_aload_n (pc := 119) dX12_readLawLine_119 rfl ?_
          obtain ⟨r82, hr83, h⟩ := bnd h
          refine M_callVi (pc := 120) dX12_readLawLine_120 v_X12_197 rfl rfl at_11 (Nat.le_of_ble_eq_true rfl) (C_X12_readCond (d := d + 96) hp (fun e {J} I r hr9 => by have q := C_X12_readAtom (g := g) hp 32 (d := d + 0 + e) (J := J) I r hr9; rw [show d + 0 + e + 3 * 32 + 8 = d + 96 + e + 8 by omega] at q; exact q) hr83) (Nat.le_refl _) ?_
          refine M_if_ne (pc := 123) (tgt := 128) dX12_readLawLine_123 (by decide) (fun hc84 => ?_) (fun hc84 => ?_)
          · have h := (if_neg hc84).symm.trans h
            refine M_aload_n (pc := 128) dX12_readLawLine_128 rfl ?_
            refine M_getR (pc := 129) dX12_readLawLine_129 f_X12_13 at_11 (gc_205_1 hp).1 ?_
            refine M_iload_n (pc := 132) dX12_readLawLine_132 rfl ?_
            refine M_iconst (pc := 133) (v := 3) dX12_readLawLine_133 (by decide) ?_
            refine M_iadd (pc := 134) dX12_readLawLine_134 ?_
            refine M_aload_n (pc := 135) dX12_readLawLine_135 rfl ?_
            refine M_getI (pc := 136) dX12_readLawLine_136 f_X12_164 at_11 ?_
            obtain ⟨hq85, h⟩ := chk h
            refine M_iast (pc := 139) dX12_readLawLine_139 (gc_205_1 hp).2 (inB_in hq85) ?_
            refine M_iconst (pc := 140) (v := 1) dX12_readLawLine_140 (by decide) ?_
            obtain rfl := Option.some.inj h
            exact M_iret (pc := 141) dX12_readLawLine_141 rfl rfl rfl rfl
          · have h := (if_pos hc84).symm.trans h
            refine M_iconst (pc := 126) (v := 0) dX12_readLawLine_126 (by decide) ?_
            obtain rfl := Option.some.inj h
            exact M_iret (pc := 127) dX12_readLawLine_127 rfl rfl rfl rfl
      · have h := (if_neg hc76).symm.trans h
        refine M_iconst (pc := 91) (v := 0) dX12_readLawLine_91 (by decide) ?_
        obtain rfl := Option.some.inj h
        exact M_iret (pc := 92) dX12_readLawLine_92 rfl rfl rfl rfl
    · have h := (if_neg hc70).symm.trans h
      refine M_iconst (pc := 63) (v := 0) dX12_readLawLine_63 (by decide) ?_
      obtain rfl := Option.some.inj h
      exact M_iret (pc := 64) dX12_readLawLine_64 rfl rfl rfl rfl
def F_X12_readLine (I : HI) (x1 : Int32) (x2 : Int32) : Option (Int32 × HI) :=
  (F_X12_letters I) >>= fun r1 => if x1 = 0 then if (12 : Int32) ≤ x2 then some ((0 : Int32), r1) else (F_X12_readLawLine r1 x2) >>= fun r5 => if r5.1 = 0 then some ((0 : Int32), r5.2) else some ((1 : Int32), r5.2) else if (14 : Int32) ≤ x2 then some ((0 : Int32), r1) else (F_X12_readLifeLine r1) >>= fun r9 => if r9.1 = 0 then some ((0 : Int32), r9.2) else some ((1 : Int32), r9.2)
set_option maxRecDepth 4000 in
set_option maxHeartbeats 4000000 in
theorem C_X12_readLine {g : gX} {d : Nat} {P : Nat → Nat → Option Nat} {I : HI} {x1 : Int32} {x2 : Int32} {J : HJ} (hp : Wp P) {r : Int32 × HI} (h : F_X12_readLine I x1 x2 = some r) : Cm g mX12_readLine (d + 108) [.ref 205, .int x1, .int x2] (NT, I, J, P) (some (.int r.1)) (NT, r.2, J, P) := by
  unfold F_X12_readLine at h
  refine Cm.of (by decide) (by simp [Value.category]) (Nat.le_of_ble_eq_true rfl) (Nat.le_refl _) (ls := [some (.ref 205), some (.int x1), some (.int x2)]) rfl ?_
  refine M_aload_n (pc := 0) dX12_readLine_0 rfl ?_
  obtain ⟨r1, hr2, h⟩ := bnd h
  refine M_callVv (pc := 1) dX12_readLine_1 v_X12_106 rfl rfl at_11 (Nat.le_of_ble_eq_true rfl) (C_X12_letters (d := d + 105) hp hr2) (Nat.le_refl _) ?_
  refine M_iload_n (pc := 4) dX12_readLine_4 rfl ?_
  refine M_iload_n (pc := 5) dX12_readLine_5 rfl ?_
  refine M_if_eq (pc := 6) (tgt := 14) dX12_readLine_6 (by decide) (fun hc3 => ?_) (fun hc3 => ?_)
  · have h := (if_pos hc3).symm.trans h
    refine M_bipush (pc := 14) (v := 12) dX12_readLine_14 (by decide) ?_
    refine M_icmp_ge (pc := 16) (tgt := 45) dX12_readLine_16 (by decide) (fun hc4 => ?_) (fun hc4 => ?_)
    · have h := (if_pos hc4).symm.trans h
      refine M_iconst (pc := 45) (v := 0) dX12_readLine_45 (by decide) ?_
      obtain rfl := Option.some.inj h
      exact M_iret (pc := 46) dX12_readLine_46 rfl rfl rfl rfl
    · have h := (if_neg hc4).symm.trans h
      refine M_iload_n (pc := 19) dX12_readLine_19 rfl ?_
      refine M_if_eq (pc := 20) (tgt := 33) dX12_readLine_20 (by decide) (fun _ => ?_) (fun q => absurd hc3 q)
      refine M_aload_n (pc := 33) dX12_readLine_33 rfl ?_
      refine M_iload_n (pc := 34) dX12_readLine_34 rfl ?_
      obtain ⟨r5, hr6, h⟩ := bnd h
      refine M_callVi (pc := 35) dX12_readLine_35 v_X12_229 rfl rfl at_11 (Nat.le_of_ble_eq_true rfl) (C_X12_readLawLine (d := d + 0) hp hr6) (Nat.le_refl _) ?_
      refine M_if_eq (pc := 38) (tgt := 45) dX12_readLine_38 (by decide) (fun hc7 => ?_) (fun hc7 => ?_)
      · have h := (if_pos hc7).symm.trans h
        refine M_iconst (pc := 45) (v := 0) dX12_readLine_45 (by decide) ?_
        obtain rfl := Option.some.inj h
        exact M_iret (pc := 46) dX12_readLine_46 rfl rfl rfl rfl
      · have h := (if_neg hc7).symm.trans h
        refine M_iconst (pc := 41) (v := 1) dX12_readLine_41 (by decide) ?_
        refine M_goto (pc := 42) (tgt := 46) dX12_readLine_42 (by decide) ?_
        obtain rfl := Option.some.inj h
        exact M_iret (pc := 46) dX12_readLine_46 rfl rfl rfl rfl
  · have h := (if_neg hc3).symm.trans h
    refine M_bipush (pc := 9) (v := 14) dX12_readLine_9 (by decide) ?_
    refine M_goto (pc := 11) (tgt := 16) dX12_readLine_11 (by decide) ?_
    refine M_icmp_ge (pc := 16) (tgt := 45) dX12_readLine_16 (by decide) (fun hc8 => ?_) (fun hc8 => ?_)
    · have h := (if_pos hc8).symm.trans h
      refine M_iconst (pc := 45) (v := 0) dX12_readLine_45 (by decide) ?_
      obtain rfl := Option.some.inj h
      exact M_iret (pc := 46) dX12_readLine_46 rfl rfl rfl rfl
    · have h := (if_neg hc8).symm.trans h
      refine M_iload_n (pc := 19) dX12_readLine_19 rfl ?_
      refine M_if_eq (pc := 20) (tgt := 33) dX12_readLine_20 (by decide) (fun q => absurd q hc3) (fun _ => ?_)
      refine M_aload_n (pc := 23) dX12_readLine_23 rfl ?_
      obtain ⟨r9, hr10, h⟩ := bnd h
      refine M_callVi (pc := 24) dX12_readLine_24 v_X12_226 rfl rfl at_11 (Nat.le_of_ble_eq_true rfl) (C_X12_readLifeLine (d := d + 99) hp hr10) (Nat.le_refl _) ?_
      refine M_if_eq (pc := 27) (tgt := 45) dX12_readLine_27 (by decide) (fun hc11 => ?_) (fun hc11 => ?_)
      · have h := (if_pos hc11).symm.trans h
        refine M_iconst (pc := 45) (v := 0) dX12_readLine_45 (by decide) ?_
        obtain rfl := Option.some.inj h
        exact M_iret (pc := 46) dX12_readLine_46 rfl rfl rfl rfl
      · have h := (if_neg hc11).symm.trans h
        refine M_goto (pc := 30) (tgt := 41) dX12_readLine_30 (by decide) ?_
        refine M_iconst (pc := 41) (v := 1) dX12_readLine_41 (by decide) ?_
        refine M_goto (pc := 42) (tgt := 46) dX12_readLine_42 (by decide) ?_
        obtain rfl := Option.some.inj h
        exact M_iret (pc := 46) dX12_readLine_46 rfl rfl rfl rfl
def L_X12_readAll_28 (x1 : Int32) (x2 : Int32) (I : HI) : Option (Int32 × HI) :=
  (F_X12_readLine I x1 x2) >>= fun r6 => if r6.1 = 0 then some ((-1 : Int32), r6.2) else (F_X12_blanks r6.2) >>= fun r9 => if (r9 205 10) = (r9 205 11) then some ((x2 + (1 : Int32)), r9) else (F_X12_isAt r9 (59 : Int32) (59 : Int32)) >>= fun r12 => if r12 = 0 then some ((-1 : Int32), r9) else L_X12_readAll_28 x1 (x2 + (1 : Int32)) (up2 r9 205 10 ((r9 205 10) + (1 : Int32)))
partial_fixpoint
def F_X12_readAll (I : HI) (x1 : Int32) : Option (Int32 × HI) :=
  (F_X12_uses I) >>= fun r1 => (F_X12_blanks (up2 r1 205 16 (0 : Int32))) >>= fun r3 => if (r3 205 10) = (r3 205 11) then some ((0 : Int32), r3) else L_X12_readAll_28 x1 (0 : Int32) r3
set_option maxRecDepth 4000 in
set_option maxHeartbeats 4000000 in
theorem LC_X12_readAll_28 {g : gX} {d : Nat} {P : Nat → Nat → Option Nat} {J : HJ} {x1 : Int32} (hp : Wp P) : ∀ (x2 : Int32) (I : HI) (r : Int32 × HI), L_X12_readAll_28 x1 x2 I = some r → M g mX12_readAll (d + 109) (NT, NT, 0) ((.inl (some (.int r.1))), (NT, r.2, J, P)) 28 [some (.ref 205), some (.int x1), some (.int x2)] [] (NT, I, J, P) := by
  refine L_X12_readAll_28.partial_correctness x1 (fun x2 I r => M g mX12_readAll (d + 109) (NT, NT, 0) ((.inl (some (.int r.1))), (NT, r.2, J, P)) 28 [some (.ref 205), some (.int x1), some (.int x2)] [] (NT, I, J, P)) ?_
  intro f ih x2 I r h
  refine M_aload_n (pc := 28) dX12_readAll_28 rfl ?_
  refine M_iload_n (pc := 29) dX12_readAll_29 rfl ?_
  refine M_iload_n (pc := 30) dX12_readAll_30 rfl ?_
  obtain ⟨r6, hr7, h⟩ := bnd h
  refine M_callVi (pc := 31) dX12_readAll_31 v_X12_235 rfl rfl at_11 (Nat.le_of_ble_eq_true rfl) (C_X12_readLine (d := d + 0) hp hr7) (Nat.le_refl _) ?_
  refine M_if_ne (pc := 34) (tgt := 39) dX12_readAll_34 (by decide) (fun hc8 => ?_) (fun hc8 => ?_)
  · have h := (if_neg hc8).symm.trans h
    refine M_aload_n (pc := 39) dX12_readAll_39 rfl ?_
    obtain ⟨r9, hr10, h⟩ := bnd h
    refine M_callVv (pc := 40) dX12_readAll_40 v_X12_94 rfl rfl at_11 (Nat.le_of_ble_eq_true rfl) (C_X12_blanks (d := d + 107) hp hr10) (Nat.le_refl _) ?_
    refine M_aload_n (pc := 43) dX12_readAll_43 rfl ?_
    refine M_getI (pc := 44) dX12_readAll_44 f_X12_81 at_11 ?_
    refine M_aload_n (pc := 47) dX12_readAll_47 rfl ?_
    refine M_getI (pc := 48) dX12_readAll_48 f_X12_84 at_11 ?_
    refine M_icmp_ne (pc := 51) (tgt := 58) dX12_readAll_51 (by decide) (fun hc11 => ?_) (fun hc11 => ?_)
    · have h := (if_neg hc11).symm.trans h
      refine M_aload_n (pc := 58) dX12_readAll_58 rfl ?_
      refine M_bipush (pc := 59) (v := 59) dX12_readAll_59 (by decide) ?_
      refine M_bipush (pc := 61) (v := 59) dX12_readAll_61 (by decide) ?_
      obtain ⟨r12, hr13, h⟩ := bnd h
      refine M_callVi (pc := 63) dX12_readAll_63 v_X12_87 rfl rfl at_11 (Nat.le_of_ble_eq_true rfl) (C_X12_isAt (d := d + 108) hp hr13) (Nat.le_refl _) ?_
      refine M_if_ne (pc := 66) (tgt := 71) dX12_readAll_66 (by decide) (fun hc14 => ?_) (fun hc14 => ?_)
      · have h := (if_neg hc14).symm.trans h
        refine M_aload_n (pc := 71) dX12_readAll_71 rfl ?_
        refine M_dup (pc := 72) dX12_readAll_72 rfl ?_
        refine M_getI (pc := 73) dX12_readAll_73 f_X12_81 at_11 ?_
        refine M_iconst (pc := 76) (v := 1) dX12_readAll_76 (by decide) ?_
        refine M_iadd (pc := 77) dX12_readAll_77 ?_
        refine M_putI (pc := 78) dX12_readAll_78 f_X12_81 at_11 rfl ⟨rfl, rfl⟩ ?_
        refine M_iinc (pc := 81) (v := (x2 + (1 : Int32))) (ls' := [some (.ref 205), some (.int x1), some (.int (x2 + (1 : Int32)))]) dX12_readAll_81 rfl rfl (by decide) rfl ?_
        refine M_goto (pc := 84) (tgt := 28) dX12_readAll_84 (by decide) ?_
        exact ih (x2 + (1 : Int32)) (up2 r9 205 10 ((r9 205 10) + (1 : Int32))) _ h
      · have h := (if_pos hc14).symm.trans h
        refine M_iconst (pc := 69) (v := -1) dX12_readAll_69 (by decide) ?_
        obtain rfl := Option.some.inj h
        exact M_iret (pc := 70) dX12_readAll_70 rfl rfl rfl rfl
    · have h := (if_pos hc11).symm.trans h
      refine M_iload_n (pc := 54) dX12_readAll_54 rfl ?_
      refine M_iconst (pc := 55) (v := 1) dX12_readAll_55 (by decide) ?_
      refine M_iadd (pc := 56) dX12_readAll_56 ?_
      obtain rfl := Option.some.inj h
      exact M_iret (pc := 57) dX12_readAll_57 rfl rfl rfl rfl
  · have h := (if_pos hc8).symm.trans h
    refine M_iconst (pc := 37) (v := -1) dX12_readAll_37 (by decide) ?_
    obtain rfl := Option.some.inj h
    exact M_iret (pc := 38) dX12_readAll_38 rfl rfl rfl rfl
set_option maxRecDepth 4000 in
set_option maxHeartbeats 4000000 in
theorem C_X12_readAll {g : gX} {d : Nat} {P : Nat → Nat → Option Nat} {I : HI} {x1 : Int32} {J : HJ} (hp : Wp P) {r : Int32 × HI} (h : F_X12_readAll I x1 = some r) : Cm g mX12_readAll (d + 109) [.ref 205, .int x1] (NT, I, J, P) (some (.int r.1)) (NT, r.2, J, P) := by
  unfold F_X12_readAll at h
  refine Cm.of (by decide) (by simp [Value.category]) (Nat.le_of_ble_eq_true rfl) (Nat.le_refl _) (ls := [some (.ref 205), some (.int x1), none]) rfl ?_
  refine M_aload_n (pc := 0) dX12_readAll_0 rfl ?_
  obtain ⟨r1, hr2, h⟩ := bnd h
  refine M_callVv (pc := 1) dX12_readAll_1 v_X12_232 rfl rfl at_11 (Nat.le_of_ble_eq_true rfl) (C_X12_uses (d := d + 108) hp hr2) (Nat.le_refl _) ?_
  refine M_aload_n (pc := 4) dX12_readAll_4 rfl ?_
  refine M_iconst (pc := 5) (v := 0) dX12_readAll_5 (by decide) ?_
  refine M_putI (pc := 6) dX12_readAll_6 f_X12_164 at_11 rfl ⟨rfl, rfl⟩ ?_
  refine M_aload_n (pc := 9) dX12_readAll_9 rfl ?_
  obtain ⟨r3, hr4, h⟩ := bnd h
  refine M_callVv (pc := 10) dX12_readAll_10 v_X12_94 rfl rfl at_11 (Nat.le_of_ble_eq_true rfl) (C_X12_blanks (d := d + 107) hp hr4) (Nat.le_refl _) ?_
  refine M_aload_n (pc := 13) dX12_readAll_13 rfl ?_
  refine M_getI (pc := 14) dX12_readAll_14 f_X12_81 at_11 ?_
  refine M_aload_n (pc := 17) dX12_readAll_17 rfl ?_
  refine M_getI (pc := 18) dX12_readAll_18 f_X12_84 at_11 ?_
  refine M_icmp_ne (pc := 21) (tgt := 26) dX12_readAll_21 (by decide) (fun hc5 => ?_) (fun hc5 => ?_)
  · have h := (if_neg hc5).symm.trans h
    refine M_iconst (pc := 26) (v := 0) dX12_readAll_26 (by decide) ?_
    refine M_istore_n (pc := 27) (ls' := [some (.ref 205), some (.int x1), some (.int (0 : Int32))]) dX12_readAll_27 (by decide) rfl ?_
    exact LC_X12_readAll_28 (P := P) hp (0 : Int32) r3 _ h
  · have h := (if_pos hc5).symm.trans h
    refine M_iconst (pc := 24) (v := 0) dX12_readAll_24 (by decide) ?_
    obtain rfl := Option.some.inj h
    exact M_iret (pc := 25) dX12_readAll_25 rfl rfl rfl rfl
def L_X12_life_92 (x2 : Int32) (I : HI) : Option (Int32 × HI) :=
  if (1202 : Int32) ≤ x2 then some ((0 : Int32), I) else (ald 1202 (I 208) x2) >>= fun v9 => if inB x2 2051 = true then L_X12_life_92 (x2 + (1 : Int32)) (up2 I 206 (x2).toNatClampNeg v9) else none
partial_fixpoint
def L_X12_life_2 (x1 : Int32) (I : HI) : Option (Int32 × HI) :=
  if (1202 : Int32) ≤ x1 then (F_X12_readAll I (1 : Int32)) >>= fun r2 => if 0 ≤ r2.1 then (F_X12_throwsIf (up2 r2.2 205 14 (-1 : Int32)) (0 : Int32) (1 : Int32)) >>= fun r5 => if r5.1 = 0 then if (r5.2 206 1) = (12 : Int32) then (F_X12_throwsIf r5.2 (1 : Int32) (2 : Int32)) >>= fun r16 => if r16.1 = 0 then some (((r16.2 206 1) + (1 : Int32)), (up2 (up2 r16.2 206 1 ((r16.2 206 1) + (1 : Int32))) 205 7 (0 : Int32))) else L_X12_life_92 (0 : Int32) r16.2 else (F_X12_throwsIf r5.2 (0 : Int32) (2 : Int32)) >>= fun r13 => if r13.1 = 0 then some (((r13.2 206 1) + (1 : Int32)), (up2 (up2 r13.2 206 1 ((r13.2 206 1) + (1 : Int32))) 205 7 (0 : Int32))) else L_X12_life_92 (0 : Int32) r13.2 else L_X12_life_92 (0 : Int32) r5.2 else (F_X12_throwsIf (up2 r2.2 205 14 (r2.2 205 12)) (1 : Int32) (1 : Int32)) >>= fun r19 => if r19.1 = 0 then if (r19.2 206 1) = (12 : Int32) then (F_X12_throwsIf r19.2 (1 : Int32) (2 : Int32)) >>= fun r26 => if r26.1 = 0 then some (((r26.2 206 1) + (1 : Int32)), (up2 (up2 r26.2 206 1 ((r26.2 206 1) + (1 : Int32))) 205 7 (0 : Int32))) else L_X12_life_92 (0 : Int32) r26.2 else (F_X12_throwsIf r19.2 (0 : Int32) (2 : Int32)) >>= fun r23 => if r23.1 = 0 then some (((r23.2 206 1) + (1 : Int32)), (up2 (up2 r23.2 206 1 ((r23.2 206 1) + (1 : Int32))) 205 7 (0 : Int32))) else L_X12_life_92 (0 : Int32) r23.2 else L_X12_life_92 (0 : Int32) r19.2 else (ald 2051 (I 206) x1) >>= fun v29 => if inB x1 1202 = true then L_X12_life_2 (x1 + (1 : Int32)) (up2 I 208 (x1).toNatClampNeg v29) else none
partial_fixpoint
def F_X12_life (I : HI) : Option (Int32 × HI) :=
  L_X12_life_2 (0 : Int32) I
set_option maxRecDepth 4000 in
set_option maxHeartbeats 4000000 in
theorem LC_X12_life_92 {g : gX} {d : Nat} {P : Nat → Nat → Option Nat} {J : HJ}  (hp : Wp P) : ∀ (x2 : Int32) (I : HI) (r : Int32 × HI), L_X12_life_92  x2 I = some r → M g mX12_life (d + 110) (NT, NT, 0) ((.inl (some (.int r.1))), (NT, r.2, J, P)) 92 [some (.ref 205), none, some (.int x2)] [] (NT, I, J, P) := by
  refine L_X12_life_92.partial_correctness  (fun x2 I r => M g mX12_life (d + 110) (NT, NT, 0) ((.inl (some (.int r.1))), (NT, r.2, J, P)) 92 [some (.ref 205), none, some (.int x2)] [] (NT, I, J, P)) ?_
  intro f ih x2 I r h
  refine M_iload_n (pc := 92) dX12_life_92 rfl ?_
  refine M_sipush (pc := 93) (v := 1202) dX12_life_93 (by decide) ?_
  refine M_icmp_ge (pc := 96) (tgt := 117) dX12_life_96 (by decide) (fun hc8 => ?_) (fun hc8 => ?_)
  · have h := (if_pos hc8).symm.trans h
    refine M_iconst (pc := 117) (v := 0) dX12_life_117 (by decide) ?_
    obtain rfl := Option.some.inj h
    exact M_iret (pc := 118) dX12_life_118 rfl rfl rfl rfl
  · have h := (if_neg hc8).symm.trans h
    refine M_aload_n (pc := 99) dX12_life_99 rfl ?_
    refine M_getR (pc := 100) dX12_life_100 f_X12_13 at_11 (gc_205_1 hp).1 ?_
    refine M_iload_n (pc := 103) dX12_life_103 rfl ?_
    refine M_aload_n (pc := 104) dX12_life_104 rfl ?_
    refine M_getR (pc := 105) dX12_life_105 f_X12_20 at_11 (gc_205_3 hp).1 ?_
    refine M_iload_n (pc := 108) dX12_life_108 rfl ?_
    obtain ⟨v9, hv10, h⟩ := bnd h
    refine M_aldI (pc := 109) dX12_life_109 (gc_205_3 hp).2 hv10 ?_
    obtain ⟨hq11, h⟩ := chk h
    refine M_iast (pc := 110) dX12_life_110 (gc_205_1 hp).2 (inB_in hq11) ?_
    refine M_iinc (pc := 111) (v := (x2 + (1 : Int32))) (ls' := [some (.ref 205), none, some (.int (x2 + (1 : Int32)))]) dX12_life_111 rfl rfl (by decide) rfl ?_
    refine M_goto (pc := 114) (tgt := 92) dX12_life_114 (by decide) ?_
    exact ih (x2 + (1 : Int32)) (up2 I 206 (x2).toNatClampNeg v9) _ h
set_option maxRecDepth 4000 in
set_option maxHeartbeats 4000000 in
theorem LC_X12_life_2 {g : gX} {d : Nat} {P : Nat → Nat → Option Nat} {J : HJ}  (hp : Wp P) : ∀ (x1 : Int32) (I : HI) (r : Int32 × HI), L_X12_life_2  x1 I = some r → M g mX12_life (d + 110) (NT, NT, 0) ((.inl (some (.int r.1))), (NT, r.2, J, P)) 2 [some (.ref 205), some (.int x1), none] [] (NT, I, J, P) := by
  refine L_X12_life_2.partial_correctness  (fun x1 I r => M g mX12_life (d + 110) (NT, NT, 0) ((.inl (some (.int r.1))), (NT, r.2, J, P)) 2 [some (.ref 205), some (.int x1), none] [] (NT, I, J, P)) ?_
  intro f ih x1 I r h
  refine M_iload_n (pc := 2) dX12_life_2 rfl ?_
  refine M_sipush (pc := 3) (v := 1202) dX12_life_3 (by decide) ?_
  refine M_icmp_ge (pc := 6) (tgt := 27) dX12_life_6 (by decide) (fun hc1 => ?_) (fun hc1 => ?_)
  · have h := (if_pos hc1).symm.trans h
    refine M_aload_n (pc := 27) dX12_life_27 rfl ?_
    refine M_iconst (pc := 28) (v := 1) dX12_life_28 (by decide) ?_
    obtain ⟨r2, hr3, h⟩ := bnd h
    refine M_callVi (pc := 29) dX12_life_29 v_X12_239 rfl rfl at_11 (Nat.le_of_ble_eq_true rfl) (C_X12_readAll (d := d + 0) hp hr3) (Nat.le_refl _) ?_
    refine M_istore_n (pc := 32) (ls' := [some (.ref 205), some (.int r2.1), none]) dX12_life_32 (by decide) rfl ?_
    refine M_aload_n (pc := 33) dX12_life_33 rfl ?_
    refine M_iload_n (pc := 34) dX12_life_34 rfl ?_
    refine M_if_ge (pc := 35) (tgt := 45) dX12_life_35 (by decide) (fun hc4 => ?_) (fun hc4 => ?_)
    · have h := (if_pos hc4).symm.trans h
      refine M_iconst (pc := 45) (v := -1) dX12_life_45 (by decide) ?_
      refine M_putI (pc := 46) dX12_life_46 f_X12_33 at_11 rfl ⟨rfl, rfl⟩ ?_
      refine M_aload_n (pc := 49) dX12_life_49 rfl ?_
      refine M_iload_n (pc := 50) dX12_life_50 rfl ?_
      refine M_if_ge (pc := 51) (tgt := 58) dX12_life_51 (by decide) (fun _ => ?_) (fun q => absurd hc4 q)
      refine M_iconst (pc := 58) (v := 0) dX12_life_58 (by decide) ?_
      refine M_iconst (pc := 59) (v := 1) dX12_life_59 (by decide) ?_
      obtain ⟨r5, hr6, h⟩ := bnd h
      refine M_callVi (pc := 60) dX12_life_60 v_X12_243 rfl rfl at_11 (Nat.le_of_ble_eq_true rfl) (C_X12_throwsIf (d := d + 109) hp hr6) (Nat.le_refl _) ?_
      refine M_if_ne (pc := 63) (tgt := 90) dX12_life_63 (by decide) (fun hc7 => ?_) (fun hc7 => ?_)
      · have h := (if_neg hc7).symm.trans h
        refine M_iconst (pc := 90) (v := 0) dX12_life_90 (by decide) ?_
        refine M_istore_n (pc := 91) (ls' := [some (.ref 205), some (.int r2.1), some (.int (0 : Int32))]) dX12_life_91 (by decide) rfl ?_
        refine M_mask (pc := 92) [true, false, true] rfl ?_
        exact LC_X12_life_92 (P := P) hp (0 : Int32) r5.2 _ h
      · have h := (if_pos hc7).symm.trans h
        refine M_aload_n (pc := 66) dX12_life_66 rfl ?_
        refine M_aload_n (pc := 67) dX12_life_67 rfl ?_
        refine M_getR (pc := 68) dX12_life_68 f_X12_13 at_11 (gc_205_1 hp).1 ?_
        refine M_iconst (pc := 71) (v := 1) dX12_life_71 (by decide) ?_
        refine M_ildc (pc := 72) (j := 1) dX12_life_72 (gc_205_1 hp).2 (by decide) (by decide) ?_
        refine M_bipush (pc := 73) (v := 12) dX12_life_73 (by decide) ?_
        refine M_icmp_ne (pc := 75) (tgt := 82) dX12_life_75 (by decide) (fun hc12 => ?_) (fun hc12 => ?_)
        · have h := (if_neg hc12).symm.trans h
          refine M_iconst (pc := 82) (v := 0) dX12_life_82 (by decide) ?_
          refine M_iconst (pc := 83) (v := 2) dX12_life_83 (by decide) ?_
          obtain ⟨r13, hr14, h⟩ := bnd h
          refine M_callVi (pc := 84) dX12_life_84 v_X12_243 rfl rfl at_11 (Nat.le_of_ble_eq_true rfl) (C_X12_throwsIf (d := d + 109) hp hr14) (Nat.le_refl _) ?_
          refine M_if_eq (pc := 87) (tgt := 119) dX12_life_87 (by decide) (fun hc15 => ?_) (fun hc15 => ?_)
          · have h := (if_pos hc15).symm.trans h
            refine M_aload_n (pc := 119) dX12_life_119 rfl ?_
            refine M_getR (pc := 120) dX12_life_120 f_X12_13 at_11 (gc_205_1 hp).1 ?_
            refine M_iconst (pc := 123) (v := 1) dX12_life_123 (by decide) ?_
            refine M_dup2 (pc := 124) dX12_life_124 rfl rfl ?_
            refine M_ildc (pc := 125) (j := 1) dX12_life_125 (gc_205_1 hp).2 (by decide) (by decide) ?_
            refine M_iconst (pc := 126) (v := 1) dX12_life_126 (by decide) ?_
            refine M_iadd (pc := 127) dX12_life_127 ?_
            refine M_istc (pc := 128) (j := 1) dX12_life_128 (gc_205_1 hp).2 (by decide) (by decide) ?_
            refine M_aload_n (pc := 129) dX12_life_129 rfl ?_
            refine M_iconst (pc := 130) (v := 0) dX12_life_130 (by decide) ?_
            refine M_putI (pc := 131) dX12_life_131 f_X12_59 at_11 rfl ⟨rfl, rfl⟩ ?_
            refine M_aload_n (pc := 134) dX12_life_134 rfl ?_
            refine M_getR (pc := 135) dX12_life_135 f_X12_13 at_11 (gc_205_1 hp).1 ?_
            refine M_iconst (pc := 138) (v := 1) dX12_life_138 (by decide) ?_
            refine M_ildcs (pc := 139) (j := 1) (x := ((r13.2 206 1) + (1 : Int32))) dX12_life_139 (gc_205_1 hp).2 (by decide) (by decide) ((rd_ne (Or.inr (by decide))).trans rd_eq) ?_
            obtain rfl := Option.some.inj h
            exact M_iret (pc := 140) dX12_life_140 rfl rfl rfl rfl
          · have h := (if_neg hc15).symm.trans h
            refine M_iconst (pc := 90) (v := 0) dX12_life_90 (by decide) ?_
            refine M_istore_n (pc := 91) (ls' := [some (.ref 205), some (.int r2.1), some (.int (0 : Int32))]) dX12_life_91 (by decide) rfl ?_
            refine M_mask (pc := 92) [true, false, true] rfl ?_
            exact LC_X12_life_92 (P := P) hp (0 : Int32) r13.2 _ h
        · have h := (if_pos hc12).symm.trans h
          refine M_iconst (pc := 78) (v := 1) dX12_life_78 (by decide) ?_
          refine M_goto (pc := 79) (tgt := 83) dX12_life_79 (by decide) ?_
          refine M_iconst (pc := 83) (v := 2) dX12_life_83 (by decide) ?_
          obtain ⟨r16, hr17, h⟩ := bnd h
          refine M_callVi (pc := 84) dX12_life_84 v_X12_243 rfl rfl at_11 (Nat.le_of_ble_eq_true rfl) (C_X12_throwsIf (d := d + 109) hp hr17) (Nat.le_refl _) ?_
          refine M_if_eq (pc := 87) (tgt := 119) dX12_life_87 (by decide) (fun hc18 => ?_) (fun hc18 => ?_)
          · have h := (if_pos hc18).symm.trans h
            refine M_aload_n (pc := 119) dX12_life_119 rfl ?_
            refine M_getR (pc := 120) dX12_life_120 f_X12_13 at_11 (gc_205_1 hp).1 ?_
            refine M_iconst (pc := 123) (v := 1) dX12_life_123 (by decide) ?_
            refine M_dup2 (pc := 124) dX12_life_124 rfl rfl ?_
            refine M_ildc (pc := 125) (j := 1) dX12_life_125 (gc_205_1 hp).2 (by decide) (by decide) ?_
            refine M_iconst (pc := 126) (v := 1) dX12_life_126 (by decide) ?_
            refine M_iadd (pc := 127) dX12_life_127 ?_
            refine M_istc (pc := 128) (j := 1) dX12_life_128 (gc_205_1 hp).2 (by decide) (by decide) ?_
            refine M_aload_n (pc := 129) dX12_life_129 rfl ?_
            refine M_iconst (pc := 130) (v := 0) dX12_life_130 (by decide) ?_
            refine M_putI (pc := 131) dX12_life_131 f_X12_59 at_11 rfl ⟨rfl, rfl⟩ ?_
            refine M_aload_n (pc := 134) dX12_life_134 rfl ?_
            refine M_getR (pc := 135) dX12_life_135 f_X12_13 at_11 (gc_205_1 hp).1 ?_
            refine M_iconst (pc := 138) (v := 1) dX12_life_138 (by decide) ?_
            refine M_ildcs (pc := 139) (j := 1) (x := ((r16.2 206 1) + (1 : Int32))) dX12_life_139 (gc_205_1 hp).2 (by decide) (by decide) ((rd_ne (Or.inr (by decide))).trans rd_eq) ?_
            obtain rfl := Option.some.inj h
            exact M_iret (pc := 140) dX12_life_140 rfl rfl rfl rfl
          · have h := (if_neg hc18).symm.trans h
            refine M_iconst (pc := 90) (v := 0) dX12_life_90 (by decide) ?_
            refine M_istore_n (pc := 91) (ls' := [some (.ref 205), some (.int r2.1), some (.int (0 : Int32))]) dX12_life_91 (by decide) rfl ?_
            refine M_mask (pc := 92) [true, false, true] rfl ?_
            exact LC_X12_life_92 (P := P) hp (0 : Int32) r16.2 _ h
    · have h := (if_neg hc4).symm.trans h
      refine M_aload_n (pc := 38) dX12_life_38 rfl ?_
      refine M_getI (pc := 39) dX12_life_39 f_X12_91 at_11 ?_
      refine M_goto (pc := 42) (tgt := 46) dX12_life_42 (by decide) ?_
      refine M_putI (pc := 46) dX12_life_46 f_X12_33 at_11 rfl ⟨rfl, rfl⟩ ?_
      refine M_aload_n (pc := 49) dX12_life_49 rfl ?_
      refine M_iload_n (pc := 50) dX12_life_50 rfl ?_
      refine M_if_ge (pc := 51) (tgt := 58) dX12_life_51 (by decide) (fun q => absurd q hc4) (fun _ => ?_)
      refine M_iconst (pc := 54) (v := 1) dX12_life_54 (by decide) ?_
      refine M_goto (pc := 55) (tgt := 59) dX12_life_55 (by decide) ?_
      refine M_iconst (pc := 59) (v := 1) dX12_life_59 (by decide) ?_
      obtain ⟨r19, hr20, h⟩ := bnd h
      refine M_callVi (pc := 60) dX12_life_60 v_X12_243 rfl rfl at_11 (Nat.le_of_ble_eq_true rfl) (C_X12_throwsIf (d := d + 109) hp hr20) (Nat.le_refl _) ?_
      refine M_if_ne (pc := 63) (tgt := 90) dX12_life_63 (by decide) (fun hc21 => ?_) (fun hc21 => ?_)
      · have h := (if_neg hc21).symm.trans h
        refine M_iconst (pc := 90) (v := 0) dX12_life_90 (by decide) ?_
        refine M_istore_n (pc := 91) (ls' := [some (.ref 205), some (.int r2.1), some (.int (0 : Int32))]) dX12_life_91 (by decide) rfl ?_
        refine M_mask (pc := 92) [true, false, true] rfl ?_
        exact LC_X12_life_92 (P := P) hp (0 : Int32) r19.2 _ h
      · have h := (if_pos hc21).symm.trans h
        refine M_aload_n (pc := 66) dX12_life_66 rfl ?_
        refine M_aload_n (pc := 67) dX12_life_67 rfl ?_
        refine M_getR (pc := 68) dX12_life_68 f_X12_13 at_11 (gc_205_1 hp).1 ?_
        refine M_iconst (pc := 71) (v := 1) dX12_life_71 (by decide) ?_
        refine M_ildc (pc := 72) (j := 1) dX12_life_72 (gc_205_1 hp).2 (by decide) (by decide) ?_
        refine M_bipush (pc := 73) (v := 12) dX12_life_73 (by decide) ?_
        refine M_icmp_ne (pc := 75) (tgt := 82) dX12_life_75 (by decide) (fun hc22 => ?_) (fun hc22 => ?_)
        · have h := (if_neg hc22).symm.trans h
          refine M_iconst (pc := 82) (v := 0) dX12_life_82 (by decide) ?_
          refine M_iconst (pc := 83) (v := 2) dX12_life_83 (by decide) ?_
          obtain ⟨r23, hr24, h⟩ := bnd h
          refine M_callVi (pc := 84) dX12_life_84 v_X12_243 rfl rfl at_11 (Nat.le_of_ble_eq_true rfl) (C_X12_throwsIf (d := d + 109) hp hr24) (Nat.le_refl _) ?_
          refine M_if_eq (pc := 87) (tgt := 119) dX12_life_87 (by decide) (fun hc25 => ?_) (fun hc25 => ?_)
          · have h := (if_pos hc25).symm.trans h
            refine M_aload_n (pc := 119) dX12_life_119 rfl ?_
            refine M_getR (pc := 120) dX12_life_120 f_X12_13 at_11 (gc_205_1 hp).1 ?_
            refine M_iconst (pc := 123) (v := 1) dX12_life_123 (by decide) ?_
            refine M_dup2 (pc := 124) dX12_life_124 rfl rfl ?_
            refine M_ildc (pc := 125) (j := 1) dX12_life_125 (gc_205_1 hp).2 (by decide) (by decide) ?_
            refine M_iconst (pc := 126) (v := 1) dX12_life_126 (by decide) ?_
            refine M_iadd (pc := 127) dX12_life_127 ?_
            refine M_istc (pc := 128) (j := 1) dX12_life_128 (gc_205_1 hp).2 (by decide) (by decide) ?_
            refine M_aload_n (pc := 129) dX12_life_129 rfl ?_
            refine M_iconst (pc := 130) (v := 0) dX12_life_130 (by decide) ?_
            refine M_putI (pc := 131) dX12_life_131 f_X12_59 at_11 rfl ⟨rfl, rfl⟩ ?_
            refine M_aload_n (pc := 134) dX12_life_134 rfl ?_
            refine M_getR (pc := 135) dX12_life_135 f_X12_13 at_11 (gc_205_1 hp).1 ?_
            refine M_iconst (pc := 138) (v := 1) dX12_life_138 (by decide) ?_
            refine M_ildcs (pc := 139) (j := 1) (x := ((r23.2 206 1) + (1 : Int32))) dX12_life_139 (gc_205_1 hp).2 (by decide) (by decide) ((rd_ne (Or.inr (by decide))).trans rd_eq) ?_
            obtain rfl := Option.some.inj h
            exact M_iret (pc := 140) dX12_life_140 rfl rfl rfl rfl
          · have h := (if_neg hc25).symm.trans h
            refine M_iconst (pc := 90) (v := 0) dX12_life_90 (by decide) ?_
            refine M_istore_n (pc := 91) (ls' := [some (.ref 205), some (.int r2.1), some (.int (0 : Int32))]) dX12_life_91 (by decide) rfl ?_
            refine M_mask (pc := 92) [true, false, true] rfl ?_
            exact LC_X12_life_92 (P := P) hp (0 : Int32) r23.2 _ h
        · have h := (if_pos hc22).symm.trans h
          refine M_iconst (pc := 78) (v := 1) dX12_life_78 (by decide) ?_
          refine M_goto (pc := 79) (tgt := 83) dX12_life_79 (by decide) ?_
          refine M_iconst (pc := 83) (v := 2) dX12_life_83 (by decide) ?_
          obtain ⟨r26, hr27, h⟩ := bnd h
          refine M_callVi (pc := 84) dX12_life_84 v_X12_243 rfl rfl at_11 (Nat.le_of_ble_eq_true rfl) (C_X12_throwsIf (d := d + 109) hp hr27) (Nat.le_refl _) ?_
          refine M_if_eq (pc := 87) (tgt := 119) dX12_life_87 (by decide) (fun hc28 => ?_) (fun hc28 => ?_)
          · have h := (if_pos hc28).symm.trans h
            refine M_aload_n (pc := 119) dX12_life_119 rfl ?_
            refine M_getR (pc := 120) dX12_life_120 f_X12_13 at_11 (gc_205_1 hp).1 ?_
            refine M_iconst (pc := 123) (v := 1) dX12_life_123 (by decide) ?_
            refine M_dup2 (pc := 124) dX12_life_124 rfl rfl ?_
            refine M_ildc (pc := 125) (j := 1) dX12_life_125 (gc_205_1 hp).2 (by decide) (by decide) ?_
            refine M_iconst (pc := 126) (v := 1) dX12_life_126 (by decide) ?_
            refine M_iadd (pc := 127) dX12_life_127 ?_
            refine M_istc (pc := 128) (j := 1) dX12_life_128 (gc_205_1 hp).2 (by decide) (by decide) ?_
            refine M_aload_n (pc := 129) dX12_life_129 rfl ?_
            refine M_iconst (pc := 130) (v := 0) dX12_life_130 (by decide) ?_
            refine M_putI (pc := 131) dX12_life_131 f_X12_59 at_11 rfl ⟨rfl, rfl⟩ ?_
            refine M_aload_n (pc := 134) dX12_life_134 rfl ?_
            refine M_getR (pc := 135) dX12_life_135 f_X12_13 at_11 (gc_205_1 hp).1 ?_
            refine M_iconst (pc := 138) (v := 1) dX12_life_138 (by decide) ?_
            refine M_ildcs (pc := 139) (j := 1) (x := ((r26.2 206 1) + (1 : Int32))) dX12_life_139 (gc_205_1 hp).2 (by decide) (by decide) ((rd_ne (Or.inr (by decide))).trans rd_eq) ?_
            obtain rfl := Option.some.inj h
            exact M_iret (pc := 140) dX12_life_140 rfl rfl rfl rfl
          · have h := (if_neg hc28).symm.trans h
            refine M_iconst (pc := 90) (v := 0) dX12_life_90 (by decide) ?_
            refine M_istore_n (pc := 91) (ls' := [some (.ref 205), some (.int r2.1), some (.int (0 : Int32))]) dX12_life_91 (by decide) rfl ?_
            refine M_mask (pc := 92) [true, false, true] rfl ?_
            exact LC_X12_life_92 (P := P) hp (0 : Int32) r26.2 _ h
  · have h := (if_neg hc1).symm.trans h
    refine M_aload_n (pc := 9) dX12_life_9 rfl ?_
    refine M_getR (pc := 10) dX12_life_10 f_X12_20 at_11 (gc_205_3 hp).1 ?_
    refine M_iload_n (pc := 13) dX12_life_13 rfl ?_
    refine M_aload_n (pc := 14) dX12_life_14 rfl ?_
    refine M_getR (pc := 15) dX12_life_15 f_X12_13 at_11 (gc_205_1 hp).1 ?_
    refine M_iload_n (pc := 18) dX12_life_18 rfl ?_
    obtain ⟨v29, hv30, h⟩ := bnd h
    refine M_aldI (pc := 19) dX12_life_19 (gc_205_1 hp).2 hv30 ?_
    obtain ⟨hq31, h⟩ := chk h
    refine M_iast (pc := 20) dX12_life_20 (gc_205_3 hp).2 (inB_in hq31) ?_
    refine M_iinc (pc := 21) (v := (x1 + (1 : Int32))) (ls' := [some (.ref 205), some (.int (x1 + (1 : Int32))), none]) dX12_life_21 rfl rfl (by decide) rfl ?_
    refine M_goto (pc := 24) (tgt := 2) dX12_life_24 (by decide) ?_
    exact ih (x1 + (1 : Int32)) (up2 I 208 (x1).toNatClampNeg v29) _ h
set_option maxRecDepth 4000 in
set_option maxHeartbeats 4000000 in
theorem C_X12_life {g : gX} {d : Nat} {P : Nat → Nat → Option Nat} {I : HI} {J : HJ} (hp : Wp P) {r : Int32 × HI} (h : F_X12_life I = some r) : Cm g mX12_life (d + 110) [.ref 205] (NT, I, J, P) (some (.int r.1)) (NT, r.2, J, P) := by
  unfold F_X12_life at h
  refine Cm.of (by decide) (by simp [Value.category]) (Nat.le_of_ble_eq_true rfl) (Nat.le_refl _) (ls := [some (.ref 205), none, none]) rfl ?_
  refine M_iconst (pc := 0) (v := 0) dX12_life_0 (by decide) ?_
  refine M_istore_n (pc := 1) (ls' := [some (.ref 205), some (.int (0 : Int32)), none]) dX12_life_1 (by decide) rfl ?_
  exact LC_X12_life_2 (P := P) hp (0 : Int32) I _ h
def L_X12_law_52 (x1 : Int32) (x2 : Int32) (I : HI) : Option (Int32 × HI) :=
  if (849 : Int32) ≤ x2 then some (x1, (up2 (up2 I 206 2 (1 : Int32)) 205 7 (0 : Int32))) else (ald 2051 (I 206) ((1202 : Int32) + x2)) >>= fun v8 => if inB ((353 : Int32) + x2) 2051 = true then L_X12_law_52 x1 (x2 + (1 : Int32)) (up2 I 206 (((353 : Int32) + x2)).toNatClampNeg v8) else none
partial_fixpoint
def F_X12_law (I : HI) : Option (Int32 × HI) :=
  (F_X12_readAll I (0 : Int32)) >>= fun r1 => if 0 ≤ r1.1 then (F_X12_throwsIf (up2 r1.2 205 14 (-1 : Int32)) (0 : Int32) (1 : Int32)) >>= fun r4 => if r4.1 = 0 then L_X12_law_52 r1.1 (0 : Int32) (up2 r4.2 206 1202 r1.1) else some ((0 : Int32), r4.2) else (F_X12_throwsIf (up2 r1.2 205 14 (r1.2 205 12)) (1 : Int32) (1 : Int32)) >>= fun r11 => if r11.1 = 0 then L_X12_law_52 r1.1 (0 : Int32) (up2 r11.2 206 1202 r1.1) else some ((0 : Int32), r11.2)
set_option maxRecDepth 4000 in
set_option maxHeartbeats 4000000 in
theorem LC_X12_law_52 {g : gX} {d : Nat} {P : Nat → Nat → Option Nat} {J : HJ} {x1 : Int32} (hp : Wp P) : ∀ (x2 : Int32) (I : HI) (r : Int32 × HI), L_X12_law_52 x1 x2 I = some r → M g mX12_law (d + 110) (NT, NT, 0) ((.inl (some (.int r.1))), (NT, r.2, J, P)) 52 [some (.ref 205), some (.int x1), some (.int x2)] [] (NT, I, J, P) := by
  refine L_X12_law_52.partial_correctness x1 (fun x2 I r => M g mX12_law (d + 110) (NT, NT, 0) ((.inl (some (.int r.1))), (NT, r.2, J, P)) 52 [some (.ref 205), some (.int x1), some (.int x2)] [] (NT, I, J, P)) ?_
  intro f ih x2 I r h
  refine M_iload_n (pc := 52) dX12_law_52 rfl ?_
  refine M_sipush (pc := 53) (v := 849) dX12_law_53 (by decide) ?_
  refine M_icmp_ge (pc := 56) (tgt := 85) dX12_law_56 (by decide) (fun hc7 => ?_) (fun hc7 => ?_)
  · have h := (if_pos hc7).symm.trans h
    refine M_aload_n (pc := 85) dX12_law_85 rfl ?_
    refine M_getR (pc := 86) dX12_law_86 f_X12_13 at_11 (gc_205_1 hp).1 ?_
    refine M_iconst (pc := 89) (v := 2) dX12_law_89 (by decide) ?_
    refine M_iconst (pc := 90) (v := 1) dX12_law_90 (by decide) ?_
    refine M_istc (pc := 91) (j := 2) dX12_law_91 (gc_205_1 hp).2 (by decide) (by decide) ?_
    refine M_aload_n (pc := 92) dX12_law_92 rfl ?_
    refine M_iconst (pc := 93) (v := 0) dX12_law_93 (by decide) ?_
    refine M_putI (pc := 94) dX12_law_94 f_X12_59 at_11 rfl ⟨rfl, rfl⟩ ?_
    refine M_iload_n (pc := 97) dX12_law_97 rfl ?_
    obtain rfl := Option.some.inj h
    exact M_iret (pc := 98) dX12_law_98 rfl rfl rfl rfl
  · have h := (if_neg hc7).symm.trans h
    refine M_aload_n (pc := 59) dX12_law_59 rfl ?_
    refine M_getR (pc := 60) dX12_law_60 f_X12_13 at_11 (gc_205_1 hp).1 ?_
    refine M_sipush (pc := 63) (v := 353) dX12_law_63 (by decide) ?_
    refine M_iload_n (pc := 66) dX12_law_66 rfl ?_
    refine M_iadd (pc := 67) dX12_law_67 ?_
    refine M_aload_n (pc := 68) dX12_law_68 rfl ?_
    refine M_getR (pc := 69) dX12_law_69 f_X12_13 at_11 (gc_205_1 hp).1 ?_
    refine M_sipush (pc := 72) (v := 1202) dX12_law_72 (by decide) ?_
    refine M_iload_n (pc := 75) dX12_law_75 rfl ?_
    refine M_iadd (pc := 76) dX12_law_76 ?_
    obtain ⟨v8, hv9, h⟩ := bnd h
    refine M_aldI (pc := 77) dX12_law_77 (gc_205_1 hp).2 hv9 ?_
    obtain ⟨hq10, h⟩ := chk h
    refine M_iast (pc := 78) dX12_law_78 (gc_205_1 hp).2 (inB_in hq10) ?_
    refine M_iinc (pc := 79) (v := (x2 + (1 : Int32))) (ls' := [some (.ref 205), some (.int x1), some (.int (x2 + (1 : Int32)))]) dX12_law_79 rfl rfl (by decide) rfl ?_
    refine M_goto (pc := 82) (tgt := 52) dX12_law_82 (by decide) ?_
    exact ih (x2 + (1 : Int32)) (up2 I 206 (((353 : Int32) + x2)).toNatClampNeg v8) _ h
set_option maxRecDepth 4000 in
set_option maxHeartbeats 4000000 in
theorem C_X12_law {g : gX} {d : Nat} {P : Nat → Nat → Option Nat} {I : HI} {J : HJ} (hp : Wp P) {r : Int32 × HI} (h : F_X12_law I = some r) : Cm g mX12_law (d + 110) [.ref 205] (NT, I, J, P) (some (.int r.1)) (NT, r.2, J, P) := by
  unfold F_X12_law at h
  refine Cm.of (by decide) (by simp [Value.category]) (Nat.le_of_ble_eq_true rfl) (Nat.le_refl _) (ls := [some (.ref 205), none, none]) rfl ?_
  refine M_aload_n (pc := 0) dX12_law_0 rfl ?_
  refine M_iconst (pc := 1) (v := 0) dX12_law_1 (by decide) ?_
  obtain ⟨r1, hr2, h⟩ := bnd h
  refine M_callVi (pc := 2) dX12_law_2 v_X12_239 rfl rfl at_11 (Nat.le_of_ble_eq_true rfl) (C_X12_readAll (d := d + 0) hp hr2) (Nat.le_refl _) ?_
  refine M_istore_n (pc := 5) (ls' := [some (.ref 205), some (.int r1.1), none]) dX12_law_5 (by decide) rfl ?_
  refine M_aload_n (pc := 6) dX12_law_6 rfl ?_
  refine M_iload_n (pc := 7) dX12_law_7 rfl ?_
  refine M_if_ge (pc := 8) (tgt := 18) dX12_law_8 (by decide) (fun hc3 => ?_) (fun hc3 => ?_)
  · have h := (if_pos hc3).symm.trans h
    refine M_iconst (pc := 18) (v := -1) dX12_law_18 (by decide) ?_
    refine M_putI (pc := 19) dX12_law_19 f_X12_33 at_11 rfl ⟨rfl, rfl⟩ ?_
    refine M_aload_n (pc := 22) dX12_law_22 rfl ?_
    refine M_iload_n (pc := 23) dX12_law_23 rfl ?_
    refine M_if_ge (pc := 24) (tgt := 31) dX12_law_24 (by decide) (fun _ => ?_) (fun q => absurd hc3 q)
    refine M_iconst (pc := 31) (v := 0) dX12_law_31 (by decide) ?_
    refine M_iconst (pc := 32) (v := 1) dX12_law_32 (by decide) ?_
    obtain ⟨r4, hr5, h⟩ := bnd h
    refine M_callVi (pc := 33) dX12_law_33 v_X12_243 rfl rfl at_11 (Nat.le_of_ble_eq_true rfl) (C_X12_throwsIf (d := d + 109) hp hr5) (Nat.le_refl _) ?_
    refine M_if_eq (pc := 36) (tgt := 41) dX12_law_36 (by decide) (fun hc6 => ?_) (fun hc6 => ?_)
    · have h := (if_pos hc6).symm.trans h
      refine M_aload_n (pc := 41) dX12_law_41 rfl ?_
      refine M_getR (pc := 42) dX12_law_42 f_X12_13 at_11 (gc_205_1 hp).1 ?_
      refine M_sipush (pc := 45) (v := 1202) dX12_law_45 (by decide) ?_
      refine M_iload_n (pc := 48) dX12_law_48 rfl ?_
      refine M_istc (pc := 49) (j := 1202) dX12_law_49 (gc_205_1 hp).2 (by decide) (by decide) ?_
      refine M_iconst (pc := 50) (v := 0) dX12_law_50 (by decide) ?_
      refine M_istore_n (pc := 51) (ls' := [some (.ref 205), some (.int r1.1), some (.int (0 : Int32))]) dX12_law_51 (by decide) rfl ?_
      exact LC_X12_law_52 (P := P) hp (0 : Int32) (up2 r4.2 206 1202 r1.1) _ h
    · have h := (if_neg hc6).symm.trans h
      refine M_iconst (pc := 39) (v := 0) dX12_law_39 (by decide) ?_
      obtain rfl := Option.some.inj h
      exact M_iret (pc := 40) dX12_law_40 rfl rfl rfl rfl
  · have h := (if_neg hc3).symm.trans h
    refine M_aload_n (pc := 11) dX12_law_11 rfl ?_
    refine M_getI (pc := 12) dX12_law_12 f_X12_91 at_11 ?_
    refine M_goto (pc := 15) (tgt := 19) dX12_law_15 (by decide) ?_
    refine M_putI (pc := 19) dX12_law_19 f_X12_33 at_11 rfl ⟨rfl, rfl⟩ ?_
    refine M_aload_n (pc := 22) dX12_law_22 rfl ?_
    refine M_iload_n (pc := 23) dX12_law_23 rfl ?_
    refine M_if_ge (pc := 24) (tgt := 31) dX12_law_24 (by decide) (fun q => absurd q hc3) (fun _ => ?_)
    refine M_iconst (pc := 27) (v := 1) dX12_law_27 (by decide) ?_
    refine M_goto (pc := 28) (tgt := 32) dX12_law_28 (by decide) ?_
    refine M_iconst (pc := 32) (v := 1) dX12_law_32 (by decide) ?_
    obtain ⟨r11, hr12, h⟩ := bnd h
    refine M_callVi (pc := 33) dX12_law_33 v_X12_243 rfl rfl at_11 (Nat.le_of_ble_eq_true rfl) (C_X12_throwsIf (d := d + 109) hp hr12) (Nat.le_refl _) ?_
    refine M_if_eq (pc := 36) (tgt := 41) dX12_law_36 (by decide) (fun hc13 => ?_) (fun hc13 => ?_)
    · have h := (if_pos hc13).symm.trans h
      refine M_aload_n (pc := 41) dX12_law_41 rfl ?_
      refine M_getR (pc := 42) dX12_law_42 f_X12_13 at_11 (gc_205_1 hp).1 ?_
      refine M_sipush (pc := 45) (v := 1202) dX12_law_45 (by decide) ?_
      refine M_iload_n (pc := 48) dX12_law_48 rfl ?_
      refine M_istc (pc := 49) (j := 1202) dX12_law_49 (gc_205_1 hp).2 (by decide) (by decide) ?_
      refine M_iconst (pc := 50) (v := 0) dX12_law_50 (by decide) ?_
      refine M_istore_n (pc := 51) (ls' := [some (.ref 205), some (.int r1.1), some (.int (0 : Int32))]) dX12_law_51 (by decide) rfl ?_
      exact LC_X12_law_52 (P := P) hp (0 : Int32) (up2 r11.2 206 1202 r1.1) _ h
    · have h := (if_neg hc13).symm.trans h
      refine M_iconst (pc := 39) (v := 0) dX12_law_39 (by decide) ?_
      obtain rfl := Option.some.inj h
      exact M_iret (pc := 40) dX12_law_40 rfl rfl rfl rfl
def L_X12_laysRow_43 (I : HI) (x3 : Int32) (x4 : Int32) (x5 : Int32) (x6 : Int32) (x7 : Int32) (x8 : Int32) (x9 : Int32) : Option (Int32 × Int32) :=
  (F_X12_has I x3 x9) >>= fun r7 => if r7 = 0 then (F_X12_has I x3 x9) >>= fun r10 => if r10 = 0 then L_X12_laysRow_43 I x3 x4 x5 x6 x7 (x8 - (0 : Int32)) (x9 + (1 : Int32)) else L_X12_laysRow_43 I x3 x4 x5 x6 x7 (x8 - (1 : Int32)) (x9 + (1 : Int32)) else if x8 ≤ 0 then some (x8, x9) else (F_X12_has I x3 x9) >>= fun r14 => if r14 = 0 then L_X12_laysRow_43 I x3 x4 x5 x6 x7 (x8 - (0 : Int32)) (x9 + (1 : Int32)) else L_X12_laysRow_43 I x3 x4 x5 x6 x7 (x8 - (1 : Int32)) (x9 + (1 : Int32))
partial_fixpoint
def L_X12_laysRow_14 (x4 : Int32) (x3 : Int32) (x5 : Int32) (x6 : Int32) (I : HI) : Option (HI) :=
  if x4 ≤ x6 then some I else (F_X12_ordersOf I ((x4 - (1 : Int32)) - x6)) >>= fun r4 => if ¬ r4 = 0 then (L_X12_laysRow_43 I x3 x4 x5 x6 r4 (x5 / r4) (0 : Int32)) >>= fun r17 => if inB x6 6 = true then if ¬ r4 = 0 then L_X12_laysRow_14 x4 (x3 &&& (((1 : Int32) <<< (r17.2 &&& 31)) ^^^ (-1 : Int32))) (x5 - x5 / r4 * r4) (x6 + (1 : Int32)) (up2 I 214 (x6).toNatClampNeg r17.2) else none else none else none
partial_fixpoint
def F_X12_laysRow (I : HI) (x1 : Int32) (x2 : Int32) : Option (HI) :=
  (F_J6_bitCount_0f7a4 I x1) >>= fun r1 => L_X12_laysRow_14 r1 x1 x2 (0 : Int32) I
set_option maxRecDepth 4000 in
set_option maxHeartbeats 4000000 in
theorem LC_X12_laysRow_43 {g : gX} {d : Nat} {R : rX} {P : Nat → Nat → Option Nat} {J : HJ} {I : HI} {x3 : Int32} {x4 : Int32} {x5 : Int32} {x6 : Int32} {x7 : Int32} (hp : Wp P) : ∀ (x8 : Int32) (x9 : Int32) (r : Int32 × Int32), L_X12_laysRow_43 I x3 x4 x5 x6 x7 x8 x9 = some r → M g mX12_laysRow (d + 1) (NT, NT, 0) R 82 [some (.ref 205), none, none, some (.int x3), some (.int x4), some (.int x5), some (.int x6), some (.int x7), some (.int r.1), some (.int r.2)] [] (NT, I, J, P) → M g mX12_laysRow (d + 1) (NT, NT, 0) R 43 [some (.ref 205), none, none, some (.int x3), some (.int x4), some (.int x5), some (.int x6), some (.int x7), some (.int x8), some (.int x9)] [] (NT, I, J, P) := by
  refine L_X12_laysRow_43.partial_correctness I x3 x4 x5 x6 x7 (fun x8 x9 r => M g mX12_laysRow (d + 1) (NT, NT, 0) R 82 [some (.ref 205), none, none, some (.int x3), some (.int x4), some (.int x5), some (.int x6), some (.int x7), some (.int r.1), some (.int r.2)] [] (NT, I, J, P) → M g mX12_laysRow (d + 1) (NT, NT, 0) R 43 [some (.ref 205), none, none, some (.int x3), some (.int x4), some (.int x5), some (.int x6), some (.int x7), some (.int x8), some (.int x9)] [] (NT, I, J, P)) ?_
  intro f ih x8 x9 r h hk
  refine M_iload_n (pc := 43) dX12_laysRow_43 rfl ?_
  refine M_iload (pc := 44) dX12_laysRow_44 rfl ?_
  obtain ⟨r7, hr8, h⟩ := bnd h
  refine M_callSi (pc := 46) dX12_laysRow_46 s_X12_337 rfl rfl (Nat.le_of_ble_eq_true rfl) (C_X12_has (d := d + 0) hp hr8) (Nat.le_refl _) ?_
  refine M_if_eq (pc := 49) (tgt := 57) dX12_laysRow_49 (by decide) (fun hc9 => ?_) (fun hc9 => ?_)
  · have h := (if_pos hc9).symm.trans h
    refine M_iload (pc := 57) dX12_laysRow_57 rfl ?_
    refine M_iload_n (pc := 59) dX12_laysRow_59 rfl ?_
    refine M_iload (pc := 60) dX12_laysRow_60 rfl ?_
    obtain ⟨r10, hr11, h⟩ := bnd h
    refine M_callSi (pc := 62) dX12_laysRow_62 s_X12_337 rfl rfl (Nat.le_of_ble_eq_true rfl) (C_X12_has (d := d + 0) hp hr11) (Nat.le_refl _) ?_
    refine M_if_eq (pc := 65) (tgt := 72) dX12_laysRow_65 (by decide) (fun hc12 => ?_) (fun hc12 => ?_)
    · have h := (if_pos hc12).symm.trans h
      refine M_iconst (pc := 72) (v := 0) dX12_laysRow_72 (by decide) ?_
      refine M_isub (pc := 73) dX12_laysRow_73 ?_
      refine M_istore (pc := 74) (ls' := [some (.ref 205), none, none, some (.int x3), some (.int x4), some (.int x5), some (.int x6), some (.int x7), some (.int (x8 - (0 : Int32))), some (.int x9)]) dX12_laysRow_74 (by decide) rfl ?_
      refine M_iinc (pc := 76) (v := (x9 + (1 : Int32))) (ls' := [some (.ref 205), none, none, some (.int x3), some (.int x4), some (.int x5), some (.int x6), some (.int x7), some (.int (x8 - (0 : Int32))), some (.int (x9 + (1 : Int32)))]) dX12_laysRow_76 rfl rfl (by decide) rfl ?_
      refine M_goto (pc := 79) (tgt := 43) dX12_laysRow_79 (by decide) ?_
      exact ih (x8 - (0 : Int32)) (x9 + (1 : Int32)) _ h hk
    · have h := (if_neg hc12).symm.trans h
      refine M_iconst (pc := 68) (v := 1) dX12_laysRow_68 (by decide) ?_
      refine M_goto (pc := 69) (tgt := 73) dX12_laysRow_69 (by decide) ?_
      refine M_isub (pc := 73) dX12_laysRow_73 ?_
      refine M_istore (pc := 74) (ls' := [some (.ref 205), none, none, some (.int x3), some (.int x4), some (.int x5), some (.int x6), some (.int x7), some (.int (x8 - (1 : Int32))), some (.int x9)]) dX12_laysRow_74 (by decide) rfl ?_
      refine M_iinc (pc := 76) (v := (x9 + (1 : Int32))) (ls' := [some (.ref 205), none, none, some (.int x3), some (.int x4), some (.int x5), some (.int x6), some (.int x7), some (.int (x8 - (1 : Int32))), some (.int (x9 + (1 : Int32)))]) dX12_laysRow_76 rfl rfl (by decide) rfl ?_
      refine M_goto (pc := 79) (tgt := 43) dX12_laysRow_79 (by decide) ?_
      exact ih (x8 - (1 : Int32)) (x9 + (1 : Int32)) _ h hk
  · have h := (if_neg hc9).symm.trans h
    refine M_iload (pc := 52) dX12_laysRow_52 rfl ?_
    refine M_if_le (pc := 54) (tgt := 82) dX12_laysRow_54 (by decide) (fun hc13 => ?_) (fun hc13 => ?_)
    · have h := (if_pos hc13).symm.trans h
      obtain rfl := Option.some.inj h
      exact hk
    · have h := (if_neg hc13).symm.trans h
      refine M_iload (pc := 57) dX12_laysRow_57 rfl ?_
      refine M_iload_n (pc := 59) dX12_laysRow_59 rfl ?_
      refine M_iload (pc := 60) dX12_laysRow_60 rfl ?_
      obtain ⟨r14, hr15, h⟩ := bnd h
      refine M_callSi (pc := 62) dX12_laysRow_62 s_X12_337 rfl rfl (Nat.le_of_ble_eq_true rfl) (C_X12_has (d := d + 0) hp hr15) (Nat.le_refl _) ?_
      refine M_if_eq (pc := 65) (tgt := 72) dX12_laysRow_65 (by decide) (fun hc16 => ?_) (fun hc16 => ?_)
      · have h := (if_pos hc16).symm.trans h
        refine M_iconst (pc := 72) (v := 0) dX12_laysRow_72 (by decide) ?_
        refine M_isub (pc := 73) dX12_laysRow_73 ?_
        refine M_istore (pc := 74) (ls' := [some (.ref 205), none, none, some (.int x3), some (.int x4), some (.int x5), some (.int x6), some (.int x7), some (.int (x8 - (0 : Int32))), some (.int x9)]) dX12_laysRow_74 (by decide) rfl ?_
        refine M_iinc (pc := 76) (v := (x9 + (1 : Int32))) (ls' := [some (.ref 205), none, none, some (.int x3), some (.int x4), some (.int x5), some (.int x6), some (.int x7), some (.int (x8 - (0 : Int32))), some (.int (x9 + (1 : Int32)))]) dX12_laysRow_76 rfl rfl (by decide) rfl ?_
        refine M_goto (pc := 79) (tgt := 43) dX12_laysRow_79 (by decide) ?_
        exact ih (x8 - (0 : Int32)) (x9 + (1 : Int32)) _ h hk
      · have h := (if_neg hc16).symm.trans h
        refine M_iconst (pc := 68) (v := 1) dX12_laysRow_68 (by decide) ?_
        refine M_goto (pc := 69) (tgt := 73) dX12_laysRow_69 (by decide) ?_
        refine M_isub (pc := 73) dX12_laysRow_73 ?_
        refine M_istore (pc := 74) (ls' := [some (.ref 205), none, none, some (.int x3), some (.int x4), some (.int x5), some (.int x6), some (.int x7), some (.int (x8 - (1 : Int32))), some (.int x9)]) dX12_laysRow_74 (by decide) rfl ?_
        refine M_iinc (pc := 76) (v := (x9 + (1 : Int32))) (ls' := [some (.ref 205), none, none, some (.int x3), some (.int x4), some (.int x5), some (.int x6), some (.int x7), some (.int (x8 - (1 : Int32))), some (.int (x9 + (1 : Int32)))]) dX12_laysRow_76 rfl rfl (by decide) rfl ?_
        refine M_goto (pc := 79) (tgt := 43) dX12_laysRow_79 (by decide) ?_
        exact ih (x8 - (1 : Int32)) (x9 + (1 : Int32)) _ h hk
set_option maxRecDepth 4000 in
set_option maxHeartbeats 4000000 in
theorem LC_X12_laysRow_14 {g : gX} {d : Nat} {P : Nat → Nat → Option Nat} {J : HJ} {x4 : Int32} (hp : Wp P) : ∀ (x3 : Int32) (x5 : Int32) (x6 : Int32) (I : HI) (r : HI), L_X12_laysRow_14 x4 x3 x5 x6 I = some r → M g mX12_laysRow (d + 1) (NT, NT, 0) ((.inl none), (NT, r, J, P)) 14 [some (.ref 205), none, none, some (.int x3), some (.int x4), some (.int x5), some (.int x6), none, none, none] [] (NT, I, J, P) := by
  refine L_X12_laysRow_14.partial_correctness x4 (fun x3 x5 x6 I r => M g mX12_laysRow (d + 1) (NT, NT, 0) ((.inl none), (NT, r, J, P)) 14 [some (.ref 205), none, none, some (.int x3), some (.int x4), some (.int x5), some (.int x6), none, none, none] [] (NT, I, J, P)) ?_
  intro f ih x3 x5 x6 I r h
  refine M_iload (pc := 14) dX12_laysRow_14 rfl ?_
  refine M_iload (pc := 16) dX12_laysRow_16 rfl ?_
  refine M_icmp_ge (pc := 18) (tgt := 113) dX12_laysRow_18 (by decide) (fun hc3 => ?_) (fun hc3 => ?_)
  · have h := (if_pos hc3).symm.trans h
    obtain rfl := Option.some.inj h
    exact M_vret (pc := 113) dX12_laysRow_113 rfl rfl rfl
  · have h := (if_neg hc3).symm.trans h
    refine M_iload (pc := 21) dX12_laysRow_21 rfl ?_
    refine M_iconst (pc := 23) (v := 1) dX12_laysRow_23 (by decide) ?_
    refine M_isub (pc := 24) dX12_laysRow_24 ?_
    refine M_iload (pc := 25) dX12_laysRow_25 rfl ?_
    refine M_isub (pc := 27) dX12_laysRow_27 ?_
    obtain ⟨r4, hr5, h⟩ := bnd h
    refine M_callSi (pc := 28) dX12_laysRow_28 s_X12_334 rfl rfl (Nat.le_of_ble_eq_true rfl) (C_X12_ordersOf (d := d + 0) hp hr5) (Nat.le_refl _) ?_
    refine M_istore (pc := 31) (ls' := [some (.ref 205), none, none, some (.int x3), some (.int x4), some (.int x5), some (.int x6), some (.int r4), none, none]) dX12_laysRow_31 (by decide) rfl ?_
    refine M_iload (pc := 33) dX12_laysRow_33 rfl ?_
    refine M_iload (pc := 35) dX12_laysRow_35 rfl ?_
    obtain ⟨hz6, h⟩ := chk h
    refine M_idiv (pc := 37) dX12_laysRow_37 hz6 ?_
    refine M_istore (pc := 38) (ls' := [some (.ref 205), none, none, some (.int x3), some (.int x4), some (.int x5), some (.int x6), some (.int r4), some (.int (x5 / r4)), none]) dX12_laysRow_38 (by decide) rfl ?_
    refine M_iconst (pc := 40) (v := 0) dX12_laysRow_40 (by decide) ?_
    refine M_istore (pc := 41) (ls' := [some (.ref 205), none, none, some (.int x3), some (.int x4), some (.int x5), some (.int x6), some (.int r4), some (.int (x5 / r4)), some (.int (0 : Int32))]) dX12_laysRow_41 (by decide) rfl ?_
    obtain ⟨r17, hr18, h⟩ := bnd h
    refine LC_X12_laysRow_43 (P := P) hp (x5 / r4) (0 : Int32) _ hr18 ?_
    refine M_aload_n (pc := 82) dX12_laysRow_82 rfl ?_
    refine M_getR (pc := 83) dX12_laysRow_83 f_X12_42 at_11 (gc_205_18 hp).1 ?_
    refine M_iload (pc := 86) dX12_laysRow_86 rfl ?_
    refine M_iload (pc := 88) dX12_laysRow_88 rfl ?_
    obtain ⟨hq19, h⟩ := chk h
    refine M_iast (pc := 90) dX12_laysRow_90 (gc_205_18 hp).2 (inB_in hq19) ?_
    refine M_iload_n (pc := 91) dX12_laysRow_91 rfl ?_
    refine M_iconst (pc := 92) (v := 1) dX12_laysRow_92 (by decide) ?_
    refine M_iload (pc := 93) dX12_laysRow_93 rfl ?_
    refine M_ishl (pc := 95) dX12_laysRow_95 ?_
    refine M_iconst (pc := 96) (v := -1) dX12_laysRow_96 (by decide) ?_
    refine M_ixor (pc := 97) dX12_laysRow_97 ?_
    refine M_iand (pc := 98) dX12_laysRow_98 ?_
    refine M_istore_n (pc := 99) (ls' := [some (.ref 205), none, none, some (.int (x3 &&& (((1 : Int32) <<< (r17.2 &&& 31)) ^^^ (-1 : Int32)))), some (.int x4), some (.int x5), some (.int x6), some (.int r4), some (.int r17.1), some (.int r17.2)]) dX12_laysRow_99 (by decide) rfl ?_
    refine M_iload (pc := 100) dX12_laysRow_100 rfl ?_
    refine M_iload (pc := 102) dX12_laysRow_102 rfl ?_
    obtain ⟨hz20, h⟩ := chk h
    refine M_irem (pc := 104) dX12_laysRow_104 hz20 ?_
    refine M_istore (pc := 105) (ls' := [some (.ref 205), none, none, some (.int (x3 &&& (((1 : Int32) <<< (r17.2 &&& 31)) ^^^ (-1 : Int32)))), some (.int x4), some (.int (x5 - x5 / r4 * r4)), some (.int x6), some (.int r4), some (.int r17.1), some (.int r17.2)]) dX12_laysRow_105 (by decide) rfl ?_
    refine M_iinc (pc := 107) (v := (x6 + (1 : Int32))) (ls' := [some (.ref 205), none, none, some (.int (x3 &&& (((1 : Int32) <<< (r17.2 &&& 31)) ^^^ (-1 : Int32)))), some (.int x4), some (.int (x5 - x5 / r4 * r4)), some (.int (x6 + (1 : Int32))), some (.int r4), some (.int r17.1), some (.int r17.2)]) dX12_laysRow_107 rfl rfl (by decide) rfl ?_
    refine M_goto (pc := 110) (tgt := 14) dX12_laysRow_110 (by decide) ?_
    refine M_mask (pc := 14) [true, false, false, true, true, true, true, false, false, false] rfl ?_
    exact ih (x3 &&& (((1 : Int32) <<< (r17.2 &&& 31)) ^^^ (-1 : Int32))) (x5 - x5 / r4 * r4) (x6 + (1 : Int32)) (up2 I 214 (x6).toNatClampNeg r17.2) _ h
set_option maxRecDepth 4000 in
set_option maxHeartbeats 4000000 in
theorem C_X12_laysRow {g : gX} {d : Nat} {P : Nat → Nat → Option Nat} {I : HI} {x1 : Int32} {x2 : Int32} {J : HJ} (hp : Wp P) {r : HI} (h : F_X12_laysRow I x1 x2 = some r) : Cm g mX12_laysRow (d + 1) [.ref 205, .int x1, .int x2] (NT, I, J, P) none (NT, r, J, P) := by
  unfold F_X12_laysRow at h
  refine Cm.of (by decide) (by simp [Value.category]) (Nat.le_of_ble_eq_true rfl) (Nat.le_refl _) (ls := [some (.ref 205), some (.int x1), some (.int x2), none, none, none, none, none, none, none]) rfl ?_
  refine M_iload_n (pc := 0) dX12_laysRow_0 rfl ?_
  refine M_istore_n (pc := 1) (ls' := [some (.ref 205), some (.int x1), some (.int x2), some (.int x1), none, none, none, none, none, none]) dX12_laysRow_1 (by decide) rfl ?_
  refine M_iload_n (pc := 2) dX12_laysRow_2 rfl ?_
  obtain ⟨r1, hr2, h⟩ := bnd h
  refine M_callSi (pc := 3) dX12_laysRow_3 s_X12_329 rfl rfl (Nat.le_of_ble_eq_true rfl) (C_J6_bitCount_0f7a4 (d := d + 0) hp hr2) (Nat.le_refl _) ?_
  refine M_istore (pc := 6) (ls' := [some (.ref 205), some (.int x1), some (.int x2), some (.int x1), some (.int r1), none, none, none, none, none]) dX12_laysRow_6 (by decide) rfl ?_
  refine M_iload_n (pc := 8) dX12_laysRow_8 rfl ?_
  refine M_istore (pc := 9) (ls' := [some (.ref 205), some (.int x1), some (.int x2), some (.int x1), some (.int r1), some (.int x2), none, none, none, none]) dX12_laysRow_9 (by decide) rfl ?_
  refine M_iconst (pc := 11) (v := 0) dX12_laysRow_11 (by decide) ?_
  refine M_istore (pc := 12) (ls' := [some (.ref 205), some (.int x1), some (.int x2), some (.int x1), some (.int r1), some (.int x2), some (.int (0 : Int32)), none, none, none]) dX12_laysRow_12 (by decide) rfl ?_
  refine M_mask (pc := 14) [true, false, false, true, true, true, true, false, false, false] rfl ?_
  exact LC_X12_laysRow_14 (P := P) hp x1 x2 (0 : Int32) I _ h
def L_X12_order_75 (x2 : Int32) (x3 : Int32) (x4 : Int32) (x5 : Int32) (x6 : Int32) (x7 : Int32) (x8 : Int32) (I : HI) : Option (Int32 × HI) :=
  if x4 ≤ x8 then some (x8, I) else if x5 ≤ x7 then some (x8, I) else (ald 6 (I 214) x8) >>= fun v24 => if inB x8 6 = true then L_X12_order_75 x2 x3 x4 x5 x6 x7 (x8 + (1 : Int32)) (up2 I 215 (x8).toNatClampNeg v24) else none
partial_fixpoint
def L_X12_order_47 (x2 : Int32) (x3 : Int32) (x4 : Int32) (x5 : Int32) (x6 : Int32) (I : HI) : Option (Int32 × HI) :=
  (F_X12_ordersOf I x4) >>= fun r9 => if r9 ≤ x6 then if x2 = (-1 : Int32) then some (x5, I) else (F_X12_in I x2 (0 : Int32) (x4 - (1 : Int32))) >>= fun r13 => if r13 = 0 then some ((-1 : Int32), I) else (ald 6 (I 215) x2) >>= fun v16 => some (v16, I) else (F_X12_laysRow I x3 x6) >>= fun r18 => (F_X12_saddest r18 x4) >>= fun r20 => (L_X12_order_75 x2 x3 x4 x5 x6 r20.1 (0 : Int32) r20.2) >>= fun r27 => L_X12_order_47 x2 x3 x4 (if r20.1 < x5 then r20.1 else x5) (x6 + (1 : Int32)) r27.2
partial_fixpoint
def F_X12_order (I : HI) (x1 : Int32) (x2 : Int32) : Option (Int32 × HI) :=
  (F_X12_allDishes (up2 I 205 0 (0 : Int32))) >>= fun r1 => (F_J6_bitCount_0f7a4 (up2 I 205 0 (0 : Int32)) (x1 &&& r1)) >>= fun r3 => if r3 ≤ (6 : Int32) then (F_X12_throwsIf (up2 I 205 0 (0 : Int32)) (0 : Int32) (1 : Int32)) >>= fun r6 => if r6.1 = 0 then L_X12_order_47 x2 (x1 &&& r1) r3 (1000000 : Int32) (0 : Int32) r6.2 else some ((0 : Int32), r6.2) else (F_X12_throwsIf (up2 I 205 0 (0 : Int32)) (1 : Int32) (1 : Int32)) >>= fun r29 => if r29.1 = 0 then L_X12_order_47 x2 (x1 &&& r1) r3 (1000000 : Int32) (0 : Int32) r29.2 else some ((0 : Int32), r29.2)
set_option maxRecDepth 4000 in
set_option maxHeartbeats 4000000 in
theorem LC_X12_order_75 {g : gX} {d : Nat} {R : rX} {P : Nat → Nat → Option Nat} {J : HJ} {x2 : Int32} {x3 : Int32} {x4 : Int32} {x5 : Int32} {x6 : Int32} {x7 : Int32} (hp : Wp P) : ∀ (x8 : Int32) (I : HI) (r : Int32 × HI), L_X12_order_75 x2 x3 x4 x5 x6 x7 x8 I = some r → M g mX12_order (d + 10) (NT, NT, 0) R 109 [some (.ref 205), none, some (.int x2), some (.int x3), some (.int x4), some (.int x5), some (.int x6), some (.int x7), some (.int r.1)] [] (NT, r.2, J, P) → M g mX12_order (d + 10) (NT, NT, 0) R 75 [some (.ref 205), none, some (.int x2), some (.int x3), some (.int x4), some (.int x5), some (.int x6), some (.int x7), some (.int x8)] [] (NT, I, J, P) := by
  refine L_X12_order_75.partial_correctness x2 x3 x4 x5 x6 x7 (fun x8 I r => M g mX12_order (d + 10) (NT, NT, 0) R 109 [some (.ref 205), none, some (.int x2), some (.int x3), some (.int x4), some (.int x5), some (.int x6), some (.int x7), some (.int r.1)] [] (NT, r.2, J, P) → M g mX12_order (d + 10) (NT, NT, 0) R 75 [some (.ref 205), none, some (.int x2), some (.int x3), some (.int x4), some (.int x5), some (.int x6), some (.int x7), some (.int x8)] [] (NT, I, J, P)) ?_
  intro f ih x8 I r h hk
  refine M_iload (pc := 75) dX12_order_75 rfl ?_
  refine M_iload (pc := 77) dX12_order_77 rfl ?_
  refine M_icmp_ge (pc := 79) (tgt := 109) dX12_order_79 (by decide) (fun hc22 => ?_) (fun hc22 => ?_)
  · have h := (if_pos hc22).symm.trans h
    obtain rfl := Option.some.inj h
    exact hk
  · have h := (if_neg hc22).symm.trans h
    refine M_iload (pc := 82) dX12_order_82 rfl ?_
    refine M_iload (pc := 84) dX12_order_84 rfl ?_
    refine M_icmp_ge (pc := 86) (tgt := 109) dX12_order_86 (by decide) (fun hc23 => ?_) (fun hc23 => ?_)
    · have h := (if_pos hc23).symm.trans h
      obtain rfl := Option.some.inj h
      exact hk
    · have h := (if_neg hc23).symm.trans h
      refine M_aload_n (pc := 89) dX12_order_89 rfl ?_
      refine M_getR (pc := 90) dX12_order_90 f_X12_45 at_11 (gc_205_19 hp).1 ?_
      refine M_iload (pc := 93) dX12_order_93 rfl ?_
      refine M_aload_n (pc := 95) dX12_order_95 rfl ?_
      refine M_getR (pc := 96) dX12_order_96 f_X12_42 at_11 (gc_205_18 hp).1 ?_
      refine M_iload (pc := 99) dX12_order_99 rfl ?_
      obtain ⟨v24, hv25, h⟩ := bnd h
      refine M_aldI (pc := 101) dX12_order_101 (gc_205_18 hp).2 hv25 ?_
      obtain ⟨hq26, h⟩ := chk h
      refine M_iast (pc := 102) dX12_order_102 (gc_205_19 hp).2 (inB_in hq26) ?_
      refine M_iinc (pc := 103) (v := (x8 + (1 : Int32))) (ls' := [some (.ref 205), none, some (.int x2), some (.int x3), some (.int x4), some (.int x5), some (.int x6), some (.int x7), some (.int (x8 + (1 : Int32)))]) dX12_order_103 rfl rfl (by decide) rfl ?_
      refine M_goto (pc := 106) (tgt := 75) dX12_order_106 (by decide) ?_
      exact ih (x8 + (1 : Int32)) (up2 I 215 (x8).toNatClampNeg v24) _ h hk
set_option maxRecDepth 4000 in
set_option maxHeartbeats 4000000 in
theorem LC_X12_order_47 {g : gX} {d : Nat} {P : Nat → Nat → Option Nat} {J : HJ} {x2 : Int32} {x3 : Int32} {x4 : Int32} (hp : Wp P) : ∀ (x5 : Int32) (x6 : Int32) (I : HI) (r : Int32 × HI), L_X12_order_47 x2 x3 x4 x5 x6 I = some r → M g mX12_order (d + 10) (NT, NT, 0) ((.inl (some (.int r.1))), (NT, r.2, J, P)) 47 [some (.ref 205), none, some (.int x2), some (.int x3), some (.int x4), some (.int x5), some (.int x6), none, none] [] (NT, I, J, P) := by
  refine L_X12_order_47.partial_correctness x2 x3 x4 (fun x5 x6 I r => M g mX12_order (d + 10) (NT, NT, 0) ((.inl (some (.int r.1))), (NT, r.2, J, P)) 47 [some (.ref 205), none, some (.int x2), some (.int x3), some (.int x4), some (.int x5), some (.int x6), none, none] [] (NT, I, J, P)) ?_
  intro f ih x5 x6 I r h
  refine M_iload (pc := 47) dX12_order_47 rfl ?_
  refine M_iload (pc := 49) dX12_order_49 rfl ?_
  obtain ⟨r9, hr10, h⟩ := bnd h
  refine M_callSi (pc := 51) dX12_order_51 s_X12_334 rfl rfl (Nat.le_of_ble_eq_true rfl) (C_X12_ordersOf (d := d + 9) hp hr10) (Nat.le_refl _) ?_
  refine M_icmp_ge (pc := 54) (tgt := 124) dX12_order_54 (by decide) (fun hc11 => ?_) (fun hc11 => ?_)
  · have h := (if_pos hc11).symm.trans h
    refine M_iload_n (pc := 124) dX12_order_124 rfl ?_
    refine M_iconst (pc := 125) (v := -1) dX12_order_125 (by decide) ?_
    refine M_icmp_ne (pc := 126) (tgt := 134) dX12_order_126 (by decide) (fun hc12 => ?_) (fun hc12 => ?_)
    · have h := (if_neg hc12).symm.trans h
      refine M_iload_n (pc := 134) dX12_order_134 rfl ?_
      refine M_iconst (pc := 135) (v := 0) dX12_order_135 (by decide) ?_
      refine M_iload (pc := 136) dX12_order_136 rfl ?_
      refine M_iconst (pc := 138) (v := 1) dX12_order_138 (by decide) ?_
      refine M_isub (pc := 139) dX12_order_139 ?_
      obtain ⟨r13, hr14, h⟩ := bnd h
      refine M_callSi (pc := 140) dX12_order_140 s_X12_73 rfl rfl (Nat.le_of_ble_eq_true rfl) (C_X12_in (d := d + 9) hp hr14) (Nat.le_refl _) ?_
      refine M_if_eq (pc := 143) (tgt := 155) dX12_order_143 (by decide) (fun hc15 => ?_) (fun hc15 => ?_)
      · have h := (if_pos hc15).symm.trans h
        refine M_iconst (pc := 155) (v := -1) dX12_order_155 (by decide) ?_
        obtain rfl := Option.some.inj h
        exact M_iret (pc := 156) dX12_order_156 rfl rfl rfl rfl
      · have h := (if_neg hc15).symm.trans h
        refine M_aload_n (pc := 146) dX12_order_146 rfl ?_
        refine M_getR (pc := 147) dX12_order_147 f_X12_45 at_11 (gc_205_19 hp).1 ?_
        refine M_iload_n (pc := 150) dX12_order_150 rfl ?_
        obtain ⟨v16, hv17, h⟩ := bnd h
        refine M_aldI (pc := 151) dX12_order_151 (gc_205_19 hp).2 hv17 ?_
        refine M_goto (pc := 152) (tgt := 156) dX12_order_152 (by decide) ?_
        obtain rfl := Option.some.inj h
        exact M_iret (pc := 156) dX12_order_156 rfl rfl rfl rfl
    · have h := (if_pos hc12).symm.trans h
      refine M_iload (pc := 129) dX12_order_129 rfl ?_
      refine M_goto (pc := 131) (tgt := 156) dX12_order_131 (by decide) ?_
      obtain rfl := Option.some.inj h
      exact M_iret (pc := 156) dX12_order_156 rfl rfl rfl rfl
  · have h := (if_neg hc11).symm.trans h
    refine M_aload_n (pc := 57) dX12_order_57 rfl ?_
    refine M_iload_n (pc := 58) dX12_order_58 rfl ?_
    refine M_iload (pc := 59) dX12_order_59 rfl ?_
    obtain ⟨r18, hr19, h⟩ := bnd h
    refine M_callVv (pc := 61) dX12_order_61 v_X12_343 rfl rfl at_11 (Nat.le_of_ble_eq_true rfl) (C_X12_laysRow (d := d + 8) hp hr19) (Nat.le_refl _) ?_
    refine M_aload_n (pc := 64) dX12_order_64 rfl ?_
    refine M_iload (pc := 65) dX12_order_65 rfl ?_
    obtain ⟨r20, hr21, h⟩ := bnd h
    refine M_callVi (pc := 67) dX12_order_67 v_X12_346 rfl rfl at_11 (Nat.le_of_ble_eq_true rfl) (C_X12_saddest (d := d + 0) hp hr21) (Nat.le_refl _) ?_
    refine M_istore (pc := 70) (ls' := [some (.ref 205), none, some (.int x2), some (.int x3), some (.int x4), some (.int x5), some (.int x6), some (.int r20.1), none]) dX12_order_70 (by decide) rfl ?_
    refine M_iconst (pc := 72) (v := 0) dX12_order_72 (by decide) ?_
    refine M_istore (pc := 73) (ls' := [some (.ref 205), none, some (.int x2), some (.int x3), some (.int x4), some (.int x5), some (.int x6), some (.int r20.1), some (.int (0 : Int32))]) dX12_order_73 (by decide) rfl ?_
    obtain ⟨r27, hr28, h⟩ := bnd h
    refine LC_X12_order_75 (P := P) hp (0 : Int32) r20.2 _ hr28 ?_
    refine M_iload (pc := 109) dX12_order_109 rfl ?_
    refine M_iload (pc := 111) dX12_order_111 rfl ?_
    refine M_mmin (pc := 113) dX12_order_113 mm_X12_259.1 mm_X12_259.2.1 mm_X12_259.2.2.1 mm_X12_259.2.2.2 (Nat.le_of_ble_eq_true rfl) ?_
    refine M_istore (pc := 116) (ls' := [some (.ref 205), none, some (.int x2), some (.int x3), some (.int x4), some (.int (if r20.1 < x5 then r20.1 else x5)), some (.int x6), some (.int r20.1), some (.int r27.1)]) dX12_order_116 (by decide) rfl ?_
    refine M_iinc (pc := 118) (v := (x6 + (1 : Int32))) (ls' := [some (.ref 205), none, some (.int x2), some (.int x3), some (.int x4), some (.int (if r20.1 < x5 then r20.1 else x5)), some (.int (x6 + (1 : Int32))), some (.int r20.1), some (.int r27.1)]) dX12_order_118 rfl rfl (by decide) rfl ?_
    refine M_goto (pc := 121) (tgt := 47) dX12_order_121 (by decide) ?_
    refine M_mask (pc := 47) [true, false, true, true, true, true, true, false, false] rfl ?_
    exact ih (if r20.1 < x5 then r20.1 else x5) (x6 + (1 : Int32)) r27.2 _ h
set_option maxRecDepth 4000 in
set_option maxHeartbeats 4000000 in
theorem C_X12_order {g : gX} {d : Nat} {P : Nat → Nat → Option Nat} {I : HI} {x1 : Int32} {x2 : Int32} {J : HJ} (hp : Wp P) {r : Int32 × HI} (h : F_X12_order I x1 x2 = some r) : Cm g mX12_order (d + 10) [.ref 205, .int x1, .int x2] (NT, I, J, P) (some (.int r.1)) (NT, r.2, J, P) := by
  unfold F_X12_order at h
  refine Cm.of (by decide) (by simp [Value.category]) (Nat.le_of_ble_eq_true rfl) (Nat.le_refl _) (ls := [some (.ref 205), some (.int x1), some (.int x2), none, none, none, none, none, none]) rfl ?_
  refine M_aload_n (pc := 0) dX12_order_0 rfl ?_
  refine M_iconst (pc := 1) (v := 0) dX12_order_1 (by decide) ?_
  refine M_putI (pc := 2) dX12_order_2 f_X12_3 at_11 rfl ⟨rfl, rfl⟩ ?_
  refine M_iload_n (pc := 5) dX12_order_5 rfl ?_
  refine M_aload_n (pc := 6) dX12_order_6 rfl ?_
  obtain ⟨r1, hr2, h⟩ := bnd h
  refine M_callVi (pc := 7) dX12_order_7 v_X12_340 rfl rfl at_11 (Nat.le_of_ble_eq_true rfl) (C_X12_allDishes (d := d + 8) hp hr2) (Nat.le_refl _) ?_
  refine M_iand (pc := 10) dX12_order_10 ?_
  refine M_istore_n (pc := 11) (ls' := [some (.ref 205), some (.int x1), some (.int x2), some (.int (x1 &&& r1)), none, none, none, none, none]) dX12_order_11 (by decide) rfl ?_
  refine M_iload_n (pc := 12) dX12_order_12 rfl ?_
  obtain ⟨r3, hr4, h⟩ := bnd h
  refine M_callSi (pc := 13) dX12_order_13 s_X12_329 rfl rfl (Nat.le_of_ble_eq_true rfl) (C_J6_bitCount_0f7a4 (d := d + 9) hp hr4) (Nat.le_refl _) ?_
  refine M_istore (pc := 16) (ls' := [some (.ref 205), some (.int x1), some (.int x2), some (.int (x1 &&& r1)), some (.int r3), none, none, none, none]) dX12_order_16 (by decide) rfl ?_
  refine M_aload_n (pc := 18) dX12_order_18 rfl ?_
  refine M_iload (pc := 19) dX12_order_19 rfl ?_
  refine M_bipush (pc := 21) (v := 6) dX12_order_21 (by decide) ?_
  refine M_icmp_le (pc := 23) (tgt := 30) dX12_order_23 (by decide) (fun hc5 => ?_) (fun hc5 => ?_)
  · have h := (if_pos hc5).symm.trans h
    refine M_iconst (pc := 30) (v := 0) dX12_order_30 (by decide) ?_
    refine M_iconst (pc := 31) (v := 1) dX12_order_31 (by decide) ?_
    obtain ⟨r6, hr7, h⟩ := bnd h
    refine M_callVi (pc := 32) dX12_order_32 v_X12_243 rfl rfl at_11 (Nat.le_of_ble_eq_true rfl) (C_X12_throwsIf (d := d + 9) hp hr7) (Nat.le_refl _) ?_
    refine M_if_eq (pc := 35) (tgt := 40) dX12_order_35 (by decide) (fun hc8 => ?_) (fun hc8 => ?_)
    · have h := (if_pos hc8).symm.trans h
      refine M_ldc (pc := 40) (v := 1000000) dX12_order_40 w_1645 ?_
      refine M_istore (pc := 42) (ls' := [some (.ref 205), some (.int x1), some (.int x2), some (.int (x1 &&& r1)), some (.int r3), some (.int (1000000 : Int32)), none, none, none]) dX12_order_42 (by decide) rfl ?_
      refine M_iconst (pc := 44) (v := 0) dX12_order_44 (by decide) ?_
      refine M_istore (pc := 45) (ls' := [some (.ref 205), some (.int x1), some (.int x2), some (.int (x1 &&& r1)), some (.int r3), some (.int (1000000 : Int32)), some (.int (0 : Int32)), none, none]) dX12_order_45 (by decide) rfl ?_
      refine M_mask (pc := 47) [true, false, true, true, true, true, true, false, false] rfl ?_
      exact LC_X12_order_47 (P := P) hp (1000000 : Int32) (0 : Int32) r6.2 _ h
    · have h := (if_neg hc8).symm.trans h
      refine M_iconst (pc := 38) (v := 0) dX12_order_38 (by decide) ?_
      obtain rfl := Option.some.inj h
      exact M_iret (pc := 39) dX12_order_39 rfl rfl rfl rfl
  · have h := (if_neg hc5).symm.trans h
    refine M_iconst (pc := 26) (v := 1) dX12_order_26 (by decide) ?_
    refine M_goto (pc := 27) (tgt := 31) dX12_order_27 (by decide) ?_
    refine M_iconst (pc := 31) (v := 1) dX12_order_31 (by decide) ?_
    obtain ⟨r29, hr30, h⟩ := bnd h
    refine M_callVi (pc := 32) dX12_order_32 v_X12_243 rfl rfl at_11 (Nat.le_of_ble_eq_true rfl) (C_X12_throwsIf (d := d + 9) hp hr30) (Nat.le_refl _) ?_
    refine M_if_eq (pc := 35) (tgt := 40) dX12_order_35 (by decide) (fun hc31 => ?_) (fun hc31 => ?_)
    · have h := (if_pos hc31).symm.trans h
      refine M_ldc (pc := 40) (v := 1000000) dX12_order_40 w_1645 ?_
      refine M_istore (pc := 42) (ls' := [some (.ref 205), some (.int x1), some (.int x2), some (.int (x1 &&& r1)), some (.int r3), some (.int (1000000 : Int32)), none, none, none]) dX12_order_42 (by decide) rfl ?_
      refine M_iconst (pc := 44) (v := 0) dX12_order_44 (by decide) ?_
      refine M_istore (pc := 45) (ls' := [some (.ref 205), some (.int x1), some (.int x2), some (.int (x1 &&& r1)), some (.int r3), some (.int (1000000 : Int32)), some (.int (0 : Int32)), none, none]) dX12_order_45 (by decide) rfl ?_
      refine M_mask (pc := 47) [true, false, true, true, true, true, true, false, false] rfl ?_
      exact LC_X12_order_47 (P := P) hp (1000000 : Int32) (0 : Int32) r29.2 _ h
    · have h := (if_neg hc31).symm.trans h
      refine M_iconst (pc := 38) (v := 0) dX12_order_38 (by decide) ?_
      obtain rfl := Option.some.inj h
      exact M_iret (pc := 39) dX12_order_39 rfl rfl rfl rfl
def L_X12_fewest_43 (I : HI) (x1 : Int32) (x2 : Int32) (x3 : Int32) (x4 : Int32) (x5 : Int32) : Option (Int32 × HI) :=
  (F_X12_allDishes I) >>= fun r7 => if r7 < x5 then some (x3, I) else (F_J6_bitCount_0f7a4 I x5) >>= fun r10 => if r10 < x4 then (F_X12_agesOf I x5) >>= fun r13 => if r13 = (-1 : Int32) then L_X12_fewest_43 I x1 x2 x3 x4 (x5 + (1 : Int32)) else if (x1 &&& (r13 ^^^ (-1 : Int32))) = 0 then if (r13 &&& x2) = 0 then (F_J6_bitCount_0f7a4 I x5) >>= fun r18 => L_X12_fewest_43 I x1 x2 x5 r18 (x5 + (1 : Int32)) else L_X12_fewest_43 I x1 x2 x3 x4 (x5 + (1 : Int32)) else L_X12_fewest_43 I x1 x2 x3 x4 (x5 + (1 : Int32)) else L_X12_fewest_43 I x1 x2 x3 x4 (x5 + (1 : Int32))
partial_fixpoint
def F_X12_fewest (I : HI) (x1 : Int32) (x2 : Int32) : Option (Int32 × HI) :=
  (F_X12_noAges (up2 I 205 0 (0 : Int32)) x1) >>= fun r1 => if r1 = 0 then (F_X12_noAges (up2 I 205 0 (0 : Int32)) x2) >>= fun r20 => if r20 = 0 then (F_X12_throwsIf (up2 I 205 0 (0 : Int32)) (0 : Int32) (1 : Int32)) >>= fun r23 => if r23.1 = 0 then L_X12_fewest_43 r23.2 x1 x2 (-1 : Int32) (1000000 : Int32) (0 : Int32) else some ((0 : Int32), r23.2) else (F_X12_throwsIf (up2 I 205 0 (0 : Int32)) (1 : Int32) (1 : Int32)) >>= fun r26 => if r26.1 = 0 then L_X12_fewest_43 r26.2 x1 x2 (-1 : Int32) (1000000 : Int32) (0 : Int32) else some ((0 : Int32), r26.2) else (F_X12_throwsIf (up2 I 205 0 (0 : Int32)) (1 : Int32) (1 : Int32)) >>= fun r4 => if r4.1 = 0 then L_X12_fewest_43 r4.2 x1 x2 (-1 : Int32) (1000000 : Int32) (0 : Int32) else some ((0 : Int32), r4.2)
set_option maxRecDepth 4000 in
set_option maxHeartbeats 4000000 in
theorem LC_X12_fewest_43 {g : gX} {d : Nat} {P : Nat → Nat → Option Nat} {J : HJ} {I : HI} {x1 : Int32} {x2 : Int32} (hp : Wp P) : ∀ (x3 : Int32) (x4 : Int32) (x5 : Int32) (r : Int32 × HI), L_X12_fewest_43 I x1 x2 x3 x4 x5 = some r → M g mX12_fewest (d + 4) (NT, NT, 0) ((.inl (some (.int r.1))), (NT, r.2, J, P)) 43 [some (.ref 205), some (.int x1), some (.int x2), some (.int x3), some (.int x4), some (.int x5), none] [] (NT, I, J, P) := by
  refine L_X12_fewest_43.partial_correctness I x1 x2 (fun x3 x4 x5 r => M g mX12_fewest (d + 4) (NT, NT, 0) ((.inl (some (.int r.1))), (NT, r.2, J, P)) 43 [some (.ref 205), some (.int x1), some (.int x2), some (.int x3), some (.int x4), some (.int x5), none] [] (NT, I, J, P)) ?_
  intro f ih x3 x4 x5 r h
  refine M_iload (pc := 43) dX12_fewest_43 rfl ?_
  refine M_aload_n (pc := 45) dX12_fewest_45 rfl ?_
  obtain ⟨r7, hr8, h⟩ := bnd h
  refine M_callVi (pc := 46) dX12_fewest_46 v_X12_340 rfl rfl at_11 (Nat.le_of_ble_eq_true rfl) (C_X12_allDishes (d := d + 2) hp hr8) (Nat.le_refl _) ?_
  refine M_icmp_gt (pc := 49) (tgt := 114) dX12_fewest_49 (by decide) (fun hc9 => ?_) (fun hc9 => ?_)
  · have h := (if_pos hc9).symm.trans h
    refine M_iload_n (pc := 114) dX12_fewest_114 rfl ?_
    obtain rfl := Option.some.inj h
    exact M_iret (pc := 115) dX12_fewest_115 rfl rfl rfl rfl
  · have h := (if_neg hc9).symm.trans h
    refine M_iload (pc := 52) dX12_fewest_52 rfl ?_
    obtain ⟨r10, hr11, h⟩ := bnd h
    refine M_callSi (pc := 54) dX12_fewest_54 s_X12_329 rfl rfl (Nat.le_of_ble_eq_true rfl) (C_J6_bitCount_0f7a4 (d := d + 3) hp hr11) (Nat.le_refl _) ?_
    refine M_iload (pc := 57) dX12_fewest_57 rfl ?_
    refine M_icmp_lt (pc := 59) (tgt := 65) dX12_fewest_59 (by decide) (fun hc12 => ?_) (fun hc12 => ?_)
    · have h := (if_pos hc12).symm.trans h
      refine M_aload_n (pc := 65) dX12_fewest_65 rfl ?_
      refine M_iload (pc := 66) dX12_fewest_66 rfl ?_
      obtain ⟨r13, hr14, h⟩ := bnd h
      refine M_callVi (pc := 68) dX12_fewest_68 v_X12_355 rfl rfl at_11 (Nat.le_of_ble_eq_true rfl) (C_X12_agesOf (d := d + 0) hp hr14) (Nat.le_refl _) ?_
      refine M_istore (pc := 71) (ls' := [some (.ref 205), some (.int x1), some (.int x2), some (.int x3), some (.int x4), some (.int x5), some (.int r13)]) dX12_fewest_71 (by decide) rfl ?_
      refine M_iload (pc := 73) dX12_fewest_73 rfl ?_
      refine M_iconst (pc := 75) (v := -1) dX12_fewest_75 (by decide) ?_
      refine M_icmp_eq (pc := 76) (tgt := 108) dX12_fewest_76 (by decide) (fun hc15 => ?_) (fun hc15 => ?_)
      · have h := (if_pos hc15).symm.trans h
        refine M_iinc (pc := 108) (v := (x5 + (1 : Int32))) (ls' := [some (.ref 205), some (.int x1), some (.int x2), some (.int x3), some (.int x4), some (.int (x5 + (1 : Int32))), some (.int r13)]) dX12_fewest_108 rfl rfl (by decide) rfl ?_
        refine M_goto (pc := 111) (tgt := 43) dX12_fewest_111 (by decide) ?_
        refine M_mask (pc := 43) [true, true, true, true, true, true, false] rfl ?_
        exact ih x3 x4 (x5 + (1 : Int32)) _ h
      · have h := (if_neg hc15).symm.trans h
        refine M_iload_n (pc := 79) dX12_fewest_79 rfl ?_
        refine M_iload (pc := 80) dX12_fewest_80 rfl ?_
        refine M_iconst (pc := 82) (v := -1) dX12_fewest_82 (by decide) ?_
        refine M_ixor (pc := 83) dX12_fewest_83 ?_
        refine M_iand (pc := 84) dX12_fewest_84 ?_
        refine M_if_ne (pc := 85) (tgt := 108) dX12_fewest_85 (by decide) (fun hc16 => ?_) (fun hc16 => ?_)
        · have h := (if_neg hc16).symm.trans h
          refine M_iinc (pc := 108) (v := (x5 + (1 : Int32))) (ls' := [some (.ref 205), some (.int x1), some (.int x2), some (.int x3), some (.int x4), some (.int (x5 + (1 : Int32))), some (.int r13)]) dX12_fewest_108 rfl rfl (by decide) rfl ?_
          refine M_goto (pc := 111) (tgt := 43) dX12_fewest_111 (by decide) ?_
          refine M_mask (pc := 43) [true, true, true, true, true, true, false] rfl ?_
          exact ih x3 x4 (x5 + (1 : Int32)) _ h
        · have h := (if_pos hc16).symm.trans h
          refine M_iload (pc := 88) dX12_fewest_88 rfl ?_
          refine M_iload_n (pc := 90) dX12_fewest_90 rfl ?_
          refine M_iand (pc := 91) dX12_fewest_91 ?_
          refine M_if_eq (pc := 92) (tgt := 98) dX12_fewest_92 (by decide) (fun hc17 => ?_) (fun hc17 => ?_)
          · have h := (if_pos hc17).symm.trans h
            refine M_iload (pc := 98) dX12_fewest_98 rfl ?_
            refine M_istore_n (pc := 100) (ls' := [some (.ref 205), some (.int x1), some (.int x2), some (.int x5), some (.int x4), some (.int x5), some (.int r13)]) dX12_fewest_100 (by decide) rfl ?_
            refine M_iload (pc := 101) dX12_fewest_101 rfl ?_
            obtain ⟨r18, hr19, h⟩ := bnd h
            refine M_callSi (pc := 103) dX12_fewest_103 s_X12_329 rfl rfl (Nat.le_of_ble_eq_true rfl) (C_J6_bitCount_0f7a4 (d := d + 3) hp hr19) (Nat.le_refl _) ?_
            refine M_istore (pc := 106) (ls' := [some (.ref 205), some (.int x1), some (.int x2), some (.int x5), some (.int r18), some (.int x5), some (.int r13)]) dX12_fewest_106 (by decide) rfl ?_
            refine M_iinc (pc := 108) (v := (x5 + (1 : Int32))) (ls' := [some (.ref 205), some (.int x1), some (.int x2), some (.int x5), some (.int r18), some (.int (x5 + (1 : Int32))), some (.int r13)]) dX12_fewest_108 rfl rfl (by decide) rfl ?_
            refine M_goto (pc := 111) (tgt := 43) dX12_fewest_111 (by decide) ?_
            refine M_mask (pc := 43) [true, true, true, true, true, true, false] rfl ?_
            exact ih x5 r18 (x5 + (1 : Int32)) _ h
          · have h := (if_neg hc17).symm.trans h
            refine M_goto (pc := 95) (tgt := 108) dX12_fewest_95 (by decide) ?_
            refine M_iinc (pc := 108) (v := (x5 + (1 : Int32))) (ls' := [some (.ref 205), some (.int x1), some (.int x2), some (.int x3), some (.int x4), some (.int (x5 + (1 : Int32))), some (.int r13)]) dX12_fewest_108 rfl rfl (by decide) rfl ?_
            refine M_goto (pc := 111) (tgt := 43) dX12_fewest_111 (by decide) ?_
            refine M_mask (pc := 43) [true, true, true, true, true, true, false] rfl ?_
            exact ih x3 x4 (x5 + (1 : Int32)) _ h
    · have h := (if_neg hc12).symm.trans h
      refine M_goto (pc := 62) (tgt := 108) dX12_fewest_62 (by decide) ?_
      refine M_iinc (pc := 108) (v := (x5 + (1 : Int32))) (ls' := [some (.ref 205), some (.int x1), some (.int x2), some (.int x3), some (.int x4), some (.int (x5 + (1 : Int32))), none]) dX12_fewest_108 rfl rfl (by decide) rfl ?_
      refine M_goto (pc := 111) (tgt := 43) dX12_fewest_111 (by decide) ?_
      exact ih x3 x4 (x5 + (1 : Int32)) _ h
set_option maxRecDepth 4000 in
set_option maxHeartbeats 4000000 in
theorem C_X12_fewest {g : gX} {d : Nat} {P : Nat → Nat → Option Nat} {I : HI} {x1 : Int32} {x2 : Int32} {J : HJ} (hp : Wp P) {r : Int32 × HI} (h : F_X12_fewest I x1 x2 = some r) : Cm g mX12_fewest (d + 4) [.ref 205, .int x1, .int x2] (NT, I, J, P) (some (.int r.1)) (NT, r.2, J, P) := by
  unfold F_X12_fewest at h
  refine Cm.of (by decide) (by simp [Value.category]) (Nat.le_of_ble_eq_true rfl) (Nat.le_refl _) (ls := [some (.ref 205), some (.int x1), some (.int x2), none, none, none, none]) rfl ?_
  refine M_aload_n (pc := 0) dX12_fewest_0 rfl ?_
  refine M_iconst (pc := 1) (v := 0) dX12_fewest_1 (by decide) ?_
  refine M_putI (pc := 2) dX12_fewest_2 f_X12_3 at_11 rfl ⟨rfl, rfl⟩ ?_
  refine M_aload_n (pc := 5) dX12_fewest_5 rfl ?_
  refine M_iload_n (pc := 6) dX12_fewest_6 rfl ?_
  obtain ⟨r1, hr2, h⟩ := bnd h
  refine M_callSi (pc := 7) dX12_fewest_7 s_X12_352 rfl rfl (Nat.le_of_ble_eq_true rfl) (C_X12_noAges (d := d + 2) hp hr2) (Nat.le_refl _) ?_
  refine M_if_ne (pc := 10) (tgt := 20) dX12_fewest_10 (by decide) (fun hc3 => ?_) (fun hc3 => ?_)
  · have h := (if_neg hc3).symm.trans h
    refine M_iconst (pc := 20) (v := 1) dX12_fewest_20 (by decide) ?_
    refine M_goto (pc := 21) (tgt := 25) dX12_fewest_21 (by decide) ?_
    refine M_iconst (pc := 25) (v := 1) dX12_fewest_25 (by decide) ?_
    obtain ⟨r4, hr5, h⟩ := bnd h
    refine M_callVi (pc := 26) dX12_fewest_26 v_X12_243 rfl rfl at_11 (Nat.le_of_ble_eq_true rfl) (C_X12_throwsIf (d := d + 3) hp hr5) (Nat.le_refl _) ?_
    refine M_if_eq (pc := 29) (tgt := 34) dX12_fewest_29 (by decide) (fun hc6 => ?_) (fun hc6 => ?_)
    · have h := (if_pos hc6).symm.trans h
      refine M_iconst (pc := 34) (v := -1) dX12_fewest_34 (by decide) ?_
      refine M_istore_n (pc := 35) (ls' := [some (.ref 205), some (.int x1), some (.int x2), some (.int (-1 : Int32)), none, none, none]) dX12_fewest_35 (by decide) rfl ?_
      refine M_ldc (pc := 36) (v := 1000000) dX12_fewest_36 w_1645 ?_
      refine M_istore (pc := 38) (ls' := [some (.ref 205), some (.int x1), some (.int x2), some (.int (-1 : Int32)), some (.int (1000000 : Int32)), none, none]) dX12_fewest_38 (by decide) rfl ?_
      refine M_iconst (pc := 40) (v := 0) dX12_fewest_40 (by decide) ?_
      refine M_istore (pc := 41) (ls' := [some (.ref 205), some (.int x1), some (.int x2), some (.int (-1 : Int32)), some (.int (1000000 : Int32)), some (.int (0 : Int32)), none]) dX12_fewest_41 (by decide) rfl ?_
      exact LC_X12_fewest_43 (P := P) hp (-1 : Int32) (1000000 : Int32) (0 : Int32) _ h
    · have h := (if_neg hc6).symm.trans h
      refine M_iconst (pc := 32) (v := 0) dX12_fewest_32 (by decide) ?_
      obtain rfl := Option.some.inj h
      exact M_iret (pc := 33) dX12_fewest_33 rfl rfl rfl rfl
  · have h := (if_pos hc3).symm.trans h
    refine M_iload_n (pc := 13) dX12_fewest_13 rfl ?_
    obtain ⟨r20, hr21, h⟩ := bnd h
    refine M_callSi (pc := 14) dX12_fewest_14 s_X12_352 rfl rfl (Nat.le_of_ble_eq_true rfl) (C_X12_noAges (d := d + 2) hp hr21) (Nat.le_refl _) ?_
    refine M_if_eq (pc := 17) (tgt := 24) dX12_fewest_17 (by decide) (fun hc22 => ?_) (fun hc22 => ?_)
    · have h := (if_pos hc22).symm.trans h
      refine M_iconst (pc := 24) (v := 0) dX12_fewest_24 (by decide) ?_
      refine M_iconst (pc := 25) (v := 1) dX12_fewest_25 (by decide) ?_
      obtain ⟨r23, hr24, h⟩ := bnd h
      refine M_callVi (pc := 26) dX12_fewest_26 v_X12_243 rfl rfl at_11 (Nat.le_of_ble_eq_true rfl) (C_X12_throwsIf (d := d + 3) hp hr24) (Nat.le_refl _) ?_
      refine M_if_eq (pc := 29) (tgt := 34) dX12_fewest_29 (by decide) (fun hc25 => ?_) (fun hc25 => ?_)
      · have h := (if_pos hc25).symm.trans h
        refine M_iconst (pc := 34) (v := -1) dX12_fewest_34 (by decide) ?_
        refine M_istore_n (pc := 35) (ls' := [some (.ref 205), some (.int x1), some (.int x2), some (.int (-1 : Int32)), none, none, none]) dX12_fewest_35 (by decide) rfl ?_
        refine M_ldc (pc := 36) (v := 1000000) dX12_fewest_36 w_1645 ?_
        refine M_istore (pc := 38) (ls' := [some (.ref 205), some (.int x1), some (.int x2), some (.int (-1 : Int32)), some (.int (1000000 : Int32)), none, none]) dX12_fewest_38 (by decide) rfl ?_
        refine M_iconst (pc := 40) (v := 0) dX12_fewest_40 (by decide) ?_
        refine M_istore (pc := 41) (ls' := [some (.ref 205), some (.int x1), some (.int x2), some (.int (-1 : Int32)), some (.int (1000000 : Int32)), some (.int (0 : Int32)), none]) dX12_fewest_41 (by decide) rfl ?_
        exact LC_X12_fewest_43 (P := P) hp (-1 : Int32) (1000000 : Int32) (0 : Int32) _ h
      · have h := (if_neg hc25).symm.trans h
        refine M_iconst (pc := 32) (v := 0) dX12_fewest_32 (by decide) ?_
        obtain rfl := Option.some.inj h
        exact M_iret (pc := 33) dX12_fewest_33 rfl rfl rfl rfl
    · have h := (if_neg hc22).symm.trans h
      refine M_iconst (pc := 20) (v := 1) dX12_fewest_20 (by decide) ?_
      refine M_goto (pc := 21) (tgt := 25) dX12_fewest_21 (by decide) ?_
      refine M_iconst (pc := 25) (v := 1) dX12_fewest_25 (by decide) ?_
      obtain ⟨r26, hr27, h⟩ := bnd h
      refine M_callVi (pc := 26) dX12_fewest_26 v_X12_243 rfl rfl at_11 (Nat.le_of_ble_eq_true rfl) (C_X12_throwsIf (d := d + 3) hp hr27) (Nat.le_refl _) ?_
      refine M_if_eq (pc := 29) (tgt := 34) dX12_fewest_29 (by decide) (fun hc28 => ?_) (fun hc28 => ?_)
      · have h := (if_pos hc28).symm.trans h
        refine M_iconst (pc := 34) (v := -1) dX12_fewest_34 (by decide) ?_
        refine M_istore_n (pc := 35) (ls' := [some (.ref 205), some (.int x1), some (.int x2), some (.int (-1 : Int32)), none, none, none]) dX12_fewest_35 (by decide) rfl ?_
        refine M_ldc (pc := 36) (v := 1000000) dX12_fewest_36 w_1645 ?_
        refine M_istore (pc := 38) (ls' := [some (.ref 205), some (.int x1), some (.int x2), some (.int (-1 : Int32)), some (.int (1000000 : Int32)), none, none]) dX12_fewest_38 (by decide) rfl ?_
        refine M_iconst (pc := 40) (v := 0) dX12_fewest_40 (by decide) ?_
        refine M_istore (pc := 41) (ls' := [some (.ref 205), some (.int x1), some (.int x2), some (.int (-1 : Int32)), some (.int (1000000 : Int32)), some (.int (0 : Int32)), none]) dX12_fewest_41 (by decide) rfl ?_
        exact LC_X12_fewest_43 (P := P) hp (-1 : Int32) (1000000 : Int32) (0 : Int32) _ h
      · have h := (if_neg hc28).symm.trans h
        refine M_iconst (pc := 32) (v := 0) dX12_fewest_32 (by decide) ?_
        obtain rfl := Option.some.inj h
        exact M_iret (pc := 33) dX12_fewest_33 rfl rfl rfl rfl
def L_X12_serve_79 (I : HI) (x1 : Int32) (x2 : Int32) (x3 : Int32) (x4 : Int32) (x5 : Int32) (x6 : Int32) (x7 : Int32) : Option (Int32 × Int32) :=
  (F_X12_dishes I) >>= fun r18 => if r18 ≤ x7 then some (x6, x7) else (F_X12_has I x1 x7) >>= fun r21 => if r21 = 0 then L_X12_serve_79 I x1 x2 x3 x4 x5 (x6 + (0 : Int32)) (x7 + (1 : Int32)) else (F_X12_of I x7 (5 : Int32)) >>= fun r24 => (F_X12_of I x5 (5 : Int32)) >>= fun r26 => if r26 < r24 then L_X12_serve_79 I x1 x2 x3 x4 x5 (x6 + (0 : Int32)) (x7 + (1 : Int32)) else L_X12_serve_79 I x1 x2 x3 x4 x5 (x6 + (1 : Int32)) (x7 + (1 : Int32))
partial_fixpoint
def L_X12_serve_47 (I : HI) (x1 : Int32) (x2 : Int32) (x3 : Int32) (x4 : Int32) (x5 : Int32) : Option (Int32 × HI) :=
  (F_X12_dishes I) >>= fun r11 => if r11 ≤ x5 then some (x3, I) else if x2 ≤ (1 : Int32) then some (x3, I) else (F_X12_isNew I x5) >>= fun r15 => if r15 = 0 then (L_X12_serve_79 I x1 x2 x3 x4 x5 (0 : Int32) (0 : Int32)) >>= fun r29 => if x4 ≤ (if r29.1 < (x2 - r29.1) then (x2 - r29.1) else r29.1) then L_X12_serve_47 I x1 x2 x3 (if (if r29.1 < (x2 - r29.1) then (x2 - r29.1) else r29.1) < x4 then (if r29.1 < (x2 - r29.1) then (x2 - r29.1) else r29.1) else x4) (x5 + (1 : Int32)) else L_X12_serve_47 I x1 x2 x5 (if (if r29.1 < (x2 - r29.1) then (x2 - r29.1) else r29.1) < x4 then (if r29.1 < (x2 - r29.1) then (x2 - r29.1) else r29.1) else x4) (x5 + (1 : Int32)) else L_X12_serve_47 I x1 x2 x3 x4 (x5 + (1 : Int32))
partial_fixpoint
def F_X12_serve (I : HI) : Option (Int32 × HI) :=
  (F_X12_uses I) >>= fun r1 => if (r1 205 11) ≤ (20 : Int32) then (F_X12_throwsIf r1 (0 : Int32) (1 : Int32)) >>= fun r4 => if r4.1 = 0 then (F_X12_allThatFit r4.2) >>= fun r7 => (F_J6_bitCount_0f7a4 r4.2 r7) >>= fun r9 => L_X12_serve_47 r4.2 r7 r9 (-1 : Int32) (1000000 : Int32) (0 : Int32) else some ((0 : Int32), r4.2) else (F_X12_throwsIf r1 (1 : Int32) (1 : Int32)) >>= fun r32 => if r32.1 = 0 then (F_X12_allThatFit r32.2) >>= fun r35 => (F_J6_bitCount_0f7a4 r32.2 r35) >>= fun r37 => L_X12_serve_47 r32.2 r35 r37 (-1 : Int32) (1000000 : Int32) (0 : Int32) else some ((0 : Int32), r32.2)
set_option maxRecDepth 4000 in
set_option maxHeartbeats 4000000 in
theorem LC_X12_serve_79 {g : gX} {d : Nat} {R : rX} {P : Nat → Nat → Option Nat} {J : HJ} {I : HI} {x1 : Int32} {x2 : Int32} {x3 : Int32} {x4 : Int32} {x5 : Int32} (hp : Wp P) : ∀ (x6 : Int32) (x7 : Int32) (r : Int32 × Int32), L_X12_serve_79 I x1 x2 x3 x4 x5 x6 x7 = some r → M g mX12_serve (d + 5) (NT, NT, 0) R 130 [some (.ref 205), some (.int x1), some (.int x2), some (.int x3), some (.int x4), some (.int x5), some (.int r.1), some (.int r.2)] [] (NT, I, J, P) → M g mX12_serve (d + 5) (NT, NT, 0) R 79 [some (.ref 205), some (.int x1), some (.int x2), some (.int x3), some (.int x4), some (.int x5), some (.int x6), some (.int x7)] [] (NT, I, J, P) := by
  refine L_X12_serve_79.partial_correctness I x1 x2 x3 x4 x5 (fun x6 x7 r => M g mX12_serve (d + 5) (NT, NT, 0) R 130 [some (.ref 205), some (.int x1), some (.int x2), some (.int x3), some (.int x4), some (.int x5), some (.int r.1), some (.int r.2)] [] (NT, I, J, P) → M g mX12_serve (d + 5) (NT, NT, 0) R 79 [some (.ref 205), some (.int x1), some (.int x2), some (.int x3), some (.int x4), some (.int x5), some (.int x6), some (.int x7)] [] (NT, I, J, P)) ?_
  intro f ih x6 x7 r h hk
  refine M_iload (pc := 79) dX12_serve_79 rfl ?_
  refine M_aload_n (pc := 81) dX12_serve_81 rfl ?_
  obtain ⟨r18, hr19, h⟩ := bnd h
  refine M_callVi (pc := 82) dX12_serve_82 v_X12_62 rfl rfl at_11 (Nat.le_of_ble_eq_true rfl) (C_X12_dishes (d := d + 4) hp hr19) (Nat.le_refl _) ?_
  refine M_icmp_ge (pc := 85) (tgt := 130) dX12_serve_85 (by decide) (fun hc20 => ?_) (fun hc20 => ?_)
  · have h := (if_pos hc20).symm.trans h
    obtain rfl := Option.some.inj h
    exact hk
  · have h := (if_neg hc20).symm.trans h
    refine M_iload (pc := 88) dX12_serve_88 rfl ?_
    refine M_iload_n (pc := 90) dX12_serve_90 rfl ?_
    refine M_iload (pc := 91) dX12_serve_91 rfl ?_
    obtain ⟨r21, hr22, h⟩ := bnd h
    refine M_callSi (pc := 93) dX12_serve_93 s_X12_337 rfl rfl (Nat.le_of_ble_eq_true rfl) (C_X12_has (d := d + 4) hp hr22) (Nat.le_refl _) ?_
    refine M_if_eq (pc := 96) (tgt := 120) dX12_serve_96 (by decide) (fun hc23 => ?_) (fun hc23 => ?_)
    · have h := (if_pos hc23).symm.trans h
      refine M_iconst (pc := 120) (v := 0) dX12_serve_120 (by decide) ?_
      refine M_iadd (pc := 121) dX12_serve_121 ?_
      refine M_istore (pc := 122) (ls' := [some (.ref 205), some (.int x1), some (.int x2), some (.int x3), some (.int x4), some (.int x5), some (.int (x6 + (0 : Int32))), some (.int x7)]) dX12_serve_122 (by decide) rfl ?_
      refine M_iinc (pc := 124) (v := (x7 + (1 : Int32))) (ls' := [some (.ref 205), some (.int x1), some (.int x2), some (.int x3), some (.int x4), some (.int x5), some (.int (x6 + (0 : Int32))), some (.int (x7 + (1 : Int32)))]) dX12_serve_124 rfl rfl (by decide) rfl ?_
      refine M_goto (pc := 127) (tgt := 79) dX12_serve_127 (by decide) ?_
      exact ih (x6 + (0 : Int32)) (x7 + (1 : Int32)) _ h hk
    · have h := (if_neg hc23).symm.trans h
      refine M_aload_n (pc := 99) dX12_serve_99 rfl ?_
      refine M_iload (pc := 100) dX12_serve_100 rfl ?_
      refine M_iconst (pc := 102) (v := 5) dX12_serve_102 (by decide) ?_
      obtain ⟨r24, hr25, h⟩ := bnd h
      refine M_callVi (pc := 103) dX12_serve_103 v_X12_70 rfl rfl at_11 (Nat.le_of_ble_eq_true rfl) (C_X12_of (d := d + 3) hp hr25) (Nat.le_refl _) ?_
      refine M_aload_n (pc := 106) dX12_serve_106 rfl ?_
      refine M_iload (pc := 107) dX12_serve_107 rfl ?_
      refine M_iconst (pc := 109) (v := 5) dX12_serve_109 (by decide) ?_
      obtain ⟨r26, hr27, h⟩ := bnd h
      refine M_callVi (pc := 110) dX12_serve_110 v_X12_70 rfl rfl at_11 (Nat.le_of_ble_eq_true rfl) (C_X12_of (d := d + 3) hp hr27) (Nat.le_refl _) ?_
      refine M_icmp_gt (pc := 113) (tgt := 120) dX12_serve_113 (by decide) (fun hc28 => ?_) (fun hc28 => ?_)
      · have h := (if_pos hc28).symm.trans h
        refine M_iconst (pc := 120) (v := 0) dX12_serve_120 (by decide) ?_
        refine M_iadd (pc := 121) dX12_serve_121 ?_
        refine M_istore (pc := 122) (ls' := [some (.ref 205), some (.int x1), some (.int x2), some (.int x3), some (.int x4), some (.int x5), some (.int (x6 + (0 : Int32))), some (.int x7)]) dX12_serve_122 (by decide) rfl ?_
        refine M_iinc (pc := 124) (v := (x7 + (1 : Int32))) (ls' := [some (.ref 205), some (.int x1), some (.int x2), some (.int x3), some (.int x4), some (.int x5), some (.int (x6 + (0 : Int32))), some (.int (x7 + (1 : Int32)))]) dX12_serve_124 rfl rfl (by decide) rfl ?_
        refine M_goto (pc := 127) (tgt := 79) dX12_serve_127 (by decide) ?_
        exact ih (x6 + (0 : Int32)) (x7 + (1 : Int32)) _ h hk
      · have h := (if_neg hc28).symm.trans h
        refine M_iconst (pc := 116) (v := 1) dX12_serve_116 (by decide) ?_
        refine M_goto (pc := 117) (tgt := 121) dX12_serve_117 (by decide) ?_
        refine M_iadd (pc := 121) dX12_serve_121 ?_
        refine M_istore (pc := 122) (ls' := [some (.ref 205), some (.int x1), some (.int x2), some (.int x3), some (.int x4), some (.int x5), some (.int (x6 + (1 : Int32))), some (.int x7)]) dX12_serve_122 (by decide) rfl ?_
        refine M_iinc (pc := 124) (v := (x7 + (1 : Int32))) (ls' := [some (.ref 205), some (.int x1), some (.int x2), some (.int x3), some (.int x4), some (.int x5), some (.int (x6 + (1 : Int32))), some (.int (x7 + (1 : Int32)))]) dX12_serve_124 rfl rfl (by decide) rfl ?_
        refine M_goto (pc := 127) (tgt := 79) dX12_serve_127 (by decide) ?_
        exact ih (x6 + (1 : Int32)) (x7 + (1 : Int32)) _ h hk
set_option maxRecDepth 4000 in
set_option maxHeartbeats 4000000 in
theorem LC_X12_serve_47 {g : gX} {d : Nat} {P : Nat → Nat → Option Nat} {J : HJ} {I : HI} {x1 : Int32} {x2 : Int32} (hp : Wp P) : ∀ (x3 : Int32) (x4 : Int32) (x5 : Int32) (r : Int32 × HI), L_X12_serve_47 I x1 x2 x3 x4 x5 = some r → M g mX12_serve (d + 5) (NT, NT, 0) ((.inl (some (.int r.1))), (NT, r.2, J, P)) 47 [some (.ref 205), some (.int x1), some (.int x2), some (.int x3), some (.int x4), some (.int x5), none, none] [] (NT, I, J, P) := by
  refine L_X12_serve_47.partial_correctness I x1 x2 (fun x3 x4 x5 r => M g mX12_serve (d + 5) (NT, NT, 0) ((.inl (some (.int r.1))), (NT, r.2, J, P)) 47 [some (.ref 205), some (.int x1), some (.int x2), some (.int x3), some (.int x4), some (.int x5), none, none] [] (NT, I, J, P)) ?_
  intro f ih x3 x4 x5 r h
  refine M_iload (pc := 47) dX12_serve_47 rfl ?_
  refine M_aload_n (pc := 49) dX12_serve_49 rfl ?_
  obtain ⟨r11, hr12, h⟩ := bnd h
  refine M_callVi (pc := 50) dX12_serve_50 v_X12_62 rfl rfl at_11 (Nat.le_of_ble_eq_true rfl) (C_X12_dishes (d := d + 4) hp hr12) (Nat.le_refl _) ?_
  refine M_icmp_ge (pc := 53) (tgt := 170) dX12_serve_53 (by decide) (fun hc13 => ?_) (fun hc13 => ?_)
  · have h := (if_pos hc13).symm.trans h
    refine M_iload_n (pc := 170) dX12_serve_170 rfl ?_
    obtain rfl := Option.some.inj h
    exact M_iret (pc := 171) dX12_serve_171 rfl rfl rfl rfl
  · have h := (if_neg hc13).symm.trans h
    refine M_iload_n (pc := 56) dX12_serve_56 rfl ?_
    refine M_iconst (pc := 57) (v := 1) dX12_serve_57 (by decide) ?_
    refine M_icmp_le (pc := 58) (tgt := 170) dX12_serve_58 (by decide) (fun hc14 => ?_) (fun hc14 => ?_)
    · have h := (if_pos hc14).symm.trans h
      refine M_iload_n (pc := 170) dX12_serve_170 rfl ?_
      obtain rfl := Option.some.inj h
      exact M_iret (pc := 171) dX12_serve_171 rfl rfl rfl rfl
    · have h := (if_neg hc14).symm.trans h
      refine M_aload_n (pc := 61) dX12_serve_61 rfl ?_
      refine M_iload (pc := 62) dX12_serve_62 rfl ?_
      obtain ⟨r15, hr16, h⟩ := bnd h
      refine M_callVi (pc := 64) dX12_serve_64 v_X12_252 rfl rfl at_11 (Nat.le_of_ble_eq_true rfl) (C_X12_isNew (d := d + 2) hp hr16) (Nat.le_refl _) ?_
      refine M_if_eq (pc := 67) (tgt := 73) dX12_serve_67 (by decide) (fun hc17 => ?_) (fun hc17 => ?_)
      · have h := (if_pos hc17).symm.trans h
        refine M_iconst (pc := 73) (v := 0) dX12_serve_73 (by decide) ?_
        refine M_istore (pc := 74) (ls' := [some (.ref 205), some (.int x1), some (.int x2), some (.int x3), some (.int x4), some (.int x5), some (.int (0 : Int32)), none]) dX12_serve_74 (by decide) rfl ?_
        refine M_iconst (pc := 76) (v := 0) dX12_serve_76 (by decide) ?_
        refine M_istore (pc := 77) (ls' := [some (.ref 205), some (.int x1), some (.int x2), some (.int x3), some (.int x4), some (.int x5), some (.int (0 : Int32)), some (.int (0 : Int32))]) dX12_serve_77 (by decide) rfl ?_
        obtain ⟨r29, hr30, h⟩ := bnd h
        refine LC_X12_serve_79 (P := P) hp (0 : Int32) (0 : Int32) _ hr30 ?_
        refine M_iload (pc := 130) dX12_serve_130 rfl ?_
        refine M_iload_n (pc := 132) dX12_serve_132 rfl ?_
        refine M_iload (pc := 133) dX12_serve_133 rfl ?_
        refine M_isub (pc := 135) dX12_serve_135 ?_
        refine M_mmax (pc := 136) dX12_serve_136 mm_X12_293.1 mm_X12_293.2.1 mm_X12_293.2.2.1 mm_X12_293.2.2.2 (Nat.le_of_ble_eq_true rfl) ?_
        refine M_istore (pc := 139) (ls' := [some (.ref 205), some (.int x1), some (.int x2), some (.int x3), some (.int x4), some (.int x5), some (.int r29.1), some (.int (if r29.1 < (x2 - r29.1) then (x2 - r29.1) else r29.1))]) dX12_serve_139 (by decide) rfl ?_
        refine M_iload (pc := 141) dX12_serve_141 rfl ?_
        refine M_iload (pc := 143) dX12_serve_143 rfl ?_
        refine M_icmp_ge (pc := 145) (tgt := 153) dX12_serve_145 (by decide) (fun hc31 => ?_) (fun hc31 => ?_)
        · have h := (if_pos hc31).symm.trans h
          refine M_iload_n (pc := 153) dX12_serve_153 rfl ?_
          refine M_istore_n (pc := 154) (ls' := [some (.ref 205), some (.int x1), some (.int x2), some (.int x3), some (.int x4), some (.int x5), some (.int r29.1), some (.int (if r29.1 < (x2 - r29.1) then (x2 - r29.1) else r29.1))]) dX12_serve_154 (by decide) rfl ?_
          refine M_iload (pc := 155) dX12_serve_155 rfl ?_
          refine M_iload (pc := 157) dX12_serve_157 rfl ?_
          refine M_mmin (pc := 159) dX12_serve_159 mm_X12_259.1 mm_X12_259.2.1 mm_X12_259.2.2.1 mm_X12_259.2.2.2 (Nat.le_of_ble_eq_true rfl) ?_
          refine M_istore (pc := 162) (ls' := [some (.ref 205), some (.int x1), some (.int x2), some (.int x3), some (.int (if (if r29.1 < (x2 - r29.1) then (x2 - r29.1) else r29.1) < x4 then (if r29.1 < (x2 - r29.1) then (x2 - r29.1) else r29.1) else x4)), some (.int x5), some (.int r29.1), some (.int (if r29.1 < (x2 - r29.1) then (x2 - r29.1) else r29.1))]) dX12_serve_162 (by decide) rfl ?_
          refine M_iinc (pc := 164) (v := (x5 + (1 : Int32))) (ls' := [some (.ref 205), some (.int x1), some (.int x2), some (.int x3), some (.int (if (if r29.1 < (x2 - r29.1) then (x2 - r29.1) else r29.1) < x4 then (if r29.1 < (x2 - r29.1) then (x2 - r29.1) else r29.1) else x4)), some (.int (x5 + (1 : Int32))), some (.int r29.1), some (.int (if r29.1 < (x2 - r29.1) then (x2 - r29.1) else r29.1))]) dX12_serve_164 rfl rfl (by decide) rfl ?_
          refine M_goto (pc := 167) (tgt := 47) dX12_serve_167 (by decide) ?_
          refine M_mask (pc := 47) [true, true, true, true, true, true, false, false] rfl ?_
          exact ih x3 (if (if r29.1 < (x2 - r29.1) then (x2 - r29.1) else r29.1) < x4 then (if r29.1 < (x2 - r29.1) then (x2 - r29.1) else r29.1) else x4) (x5 + (1 : Int32)) _ h
        · have h := (if_neg hc31).symm.trans h
          refine M_iload (pc := 148) dX12_serve_148 rfl ?_
          refine M_goto (pc := 150) (tgt := 154) dX12_serve_150 (by decide) ?_
          refine M_istore_n (pc := 154) (ls' := [some (.ref 205), some (.int x1), some (.int x2), some (.int x5), some (.int x4), some (.int x5), some (.int r29.1), some (.int (if r29.1 < (x2 - r29.1) then (x2 - r29.1) else r29.1))]) dX12_serve_154 (by decide) rfl ?_
          refine M_iload (pc := 155) dX12_serve_155 rfl ?_
          refine M_iload (pc := 157) dX12_serve_157 rfl ?_
          refine M_mmin (pc := 159) dX12_serve_159 mm_X12_259.1 mm_X12_259.2.1 mm_X12_259.2.2.1 mm_X12_259.2.2.2 (Nat.le_of_ble_eq_true rfl) ?_
          refine M_istore (pc := 162) (ls' := [some (.ref 205), some (.int x1), some (.int x2), some (.int x5), some (.int (if (if r29.1 < (x2 - r29.1) then (x2 - r29.1) else r29.1) < x4 then (if r29.1 < (x2 - r29.1) then (x2 - r29.1) else r29.1) else x4)), some (.int x5), some (.int r29.1), some (.int (if r29.1 < (x2 - r29.1) then (x2 - r29.1) else r29.1))]) dX12_serve_162 (by decide) rfl ?_
          refine M_iinc (pc := 164) (v := (x5 + (1 : Int32))) (ls' := [some (.ref 205), some (.int x1), some (.int x2), some (.int x5), some (.int (if (if r29.1 < (x2 - r29.1) then (x2 - r29.1) else r29.1) < x4 then (if r29.1 < (x2 - r29.1) then (x2 - r29.1) else r29.1) else x4)), some (.int (x5 + (1 : Int32))), some (.int r29.1), some (.int (if r29.1 < (x2 - r29.1) then (x2 - r29.1) else r29.1))]) dX12_serve_164 rfl rfl (by decide) rfl ?_
          refine M_goto (pc := 167) (tgt := 47) dX12_serve_167 (by decide) ?_
          refine M_mask (pc := 47) [true, true, true, true, true, true, false, false] rfl ?_
          exact ih x5 (if (if r29.1 < (x2 - r29.1) then (x2 - r29.1) else r29.1) < x4 then (if r29.1 < (x2 - r29.1) then (x2 - r29.1) else r29.1) else x4) (x5 + (1 : Int32)) _ h
      · have h := (if_neg hc17).symm.trans h
        refine M_goto (pc := 70) (tgt := 164) dX12_serve_70 (by decide) ?_
        refine M_iinc (pc := 164) (v := (x5 + (1 : Int32))) (ls' := [some (.ref 205), some (.int x1), some (.int x2), some (.int x3), some (.int x4), some (.int (x5 + (1 : Int32))), none, none]) dX12_serve_164 rfl rfl (by decide) rfl ?_
        refine M_goto (pc := 167) (tgt := 47) dX12_serve_167 (by decide) ?_
        exact ih x3 x4 (x5 + (1 : Int32)) _ h
set_option maxRecDepth 4000 in
set_option maxHeartbeats 4000000 in
theorem C_X12_serve {g : gX} {d : Nat} {P : Nat → Nat → Option Nat} {I : HI} {J : HJ} (hp : Wp P) {r : Int32 × HI} (h : F_X12_serve I = some r) : Cm g mX12_serve (d + 5) [.ref 205] (NT, I, J, P) (some (.int r.1)) (NT, r.2, J, P) := by
  unfold F_X12_serve at h
  refine Cm.of (by decide) (by simp [Value.category]) (Nat.le_of_ble_eq_true rfl) (Nat.le_refl _) (ls := [some (.ref 205), none, none, none, none, none, none, none]) rfl ?_
  refine M_aload_n (pc := 0) dX12_serve_0 rfl ?_
  obtain ⟨r1, hr2, h⟩ := bnd h
  refine M_callVv (pc := 1) dX12_serve_1 v_X12_232 rfl rfl at_11 (Nat.le_of_ble_eq_true rfl) (C_X12_uses (d := d + 4) hp hr2) (Nat.le_refl _) ?_
  refine M_aload_n (pc := 4) dX12_serve_4 rfl ?_
  refine M_aload_n (pc := 5) dX12_serve_5 rfl ?_
  refine M_getI (pc := 6) dX12_serve_6 f_X12_84 at_11 ?_
  refine M_bipush (pc := 9) (v := 20) dX12_serve_9 (by decide) ?_
  refine M_icmp_le (pc := 11) (tgt := 18) dX12_serve_11 (by decide) (fun hc3 => ?_) (fun hc3 => ?_)
  · have h := (if_pos hc3).symm.trans h
    refine M_iconst (pc := 18) (v := 0) dX12_serve_18 (by decide) ?_
    refine M_iconst (pc := 19) (v := 1) dX12_serve_19 (by decide) ?_
    obtain ⟨r4, hr5, h⟩ := bnd h
    refine M_callVi (pc := 20) dX12_serve_20 v_X12_243 rfl rfl at_11 (Nat.le_of_ble_eq_true rfl) (C_X12_throwsIf (d := d + 4) hp hr5) (Nat.le_refl _) ?_
    refine M_if_eq (pc := 23) (tgt := 28) dX12_serve_23 (by decide) (fun hc6 => ?_) (fun hc6 => ?_)
    · have h := (if_pos hc6).symm.trans h
      refine M_aload_n (pc := 28) dX12_serve_28 rfl ?_
      obtain ⟨r7, hr8, h⟩ := bnd h
      refine M_callVi (pc := 29) dX12_serve_29 v_X12_365 rfl rfl at_11 (Nat.le_of_ble_eq_true rfl) (C_X12_allThatFit (d := d + 0) hp hr8) (Nat.le_refl _) ?_
      refine M_istore_n (pc := 32) (ls' := [some (.ref 205), some (.int r7), none, none, none, none, none, none]) dX12_serve_32 (by decide) rfl ?_
      refine M_iload_n (pc := 33) dX12_serve_33 rfl ?_
      obtain ⟨r9, hr10, h⟩ := bnd h
      refine M_callSi (pc := 34) dX12_serve_34 s_X12_329 rfl rfl (Nat.le_of_ble_eq_true rfl) (C_J6_bitCount_0f7a4 (d := d + 4) hp hr10) (Nat.le_refl _) ?_
      refine M_istore_n (pc := 37) (ls' := [some (.ref 205), some (.int r7), some (.int r9), none, none, none, none, none]) dX12_serve_37 (by decide) rfl ?_
      refine M_iconst (pc := 38) (v := -1) dX12_serve_38 (by decide) ?_
      refine M_istore_n (pc := 39) (ls' := [some (.ref 205), some (.int r7), some (.int r9), some (.int (-1 : Int32)), none, none, none, none]) dX12_serve_39 (by decide) rfl ?_
      refine M_ldc (pc := 40) (v := 1000000) dX12_serve_40 w_1645 ?_
      refine M_istore (pc := 42) (ls' := [some (.ref 205), some (.int r7), some (.int r9), some (.int (-1 : Int32)), some (.int (1000000 : Int32)), none, none, none]) dX12_serve_42 (by decide) rfl ?_
      refine M_iconst (pc := 44) (v := 0) dX12_serve_44 (by decide) ?_
      refine M_istore (pc := 45) (ls' := [some (.ref 205), some (.int r7), some (.int r9), some (.int (-1 : Int32)), some (.int (1000000 : Int32)), some (.int (0 : Int32)), none, none]) dX12_serve_45 (by decide) rfl ?_
      exact LC_X12_serve_47 (P := P) hp (-1 : Int32) (1000000 : Int32) (0 : Int32) _ h
    · have h := (if_neg hc6).symm.trans h
      refine M_iconst (pc := 26) (v := 0) dX12_serve_26 (by decide) ?_
      obtain rfl := Option.some.inj h
      exact M_iret (pc := 27) dX12_serve_27 rfl rfl rfl rfl
  · have h := (if_neg hc3).symm.trans h
    refine M_iconst (pc := 14) (v := 1) dX12_serve_14 (by decide) ?_
    refine M_goto (pc := 15) (tgt := 19) dX12_serve_15 (by decide) ?_
    refine M_iconst (pc := 19) (v := 1) dX12_serve_19 (by decide) ?_
    obtain ⟨r32, hr33, h⟩ := bnd h
    refine M_callVi (pc := 20) dX12_serve_20 v_X12_243 rfl rfl at_11 (Nat.le_of_ble_eq_true rfl) (C_X12_throwsIf (d := d + 4) hp hr33) (Nat.le_refl _) ?_
    refine M_if_eq (pc := 23) (tgt := 28) dX12_serve_23 (by decide) (fun hc34 => ?_) (fun hc34 => ?_)
    · have h := (if_pos hc34).symm.trans h
      refine M_aload_n (pc := 28) dX12_serve_28 rfl ?_
      obtain ⟨r35, hr36, h⟩ := bnd h
      refine M_callVi (pc := 29) dX12_serve_29 v_X12_365 rfl rfl at_11 (Nat.le_of_ble_eq_true rfl) (C_X12_allThatFit (d := d + 0) hp hr36) (Nat.le_refl _) ?_
      refine M_istore_n (pc := 32) (ls' := [some (.ref 205), some (.int r35), none, none, none, none, none, none]) dX12_serve_32 (by decide) rfl ?_
      refine M_iload_n (pc := 33) dX12_serve_33 rfl ?_
      obtain ⟨r37, hr38, h⟩ := bnd h
      refine M_callSi (pc := 34) dX12_serve_34 s_X12_329 rfl rfl (Nat.le_of_ble_eq_true rfl) (C_J6_bitCount_0f7a4 (d := d + 4) hp hr38) (Nat.le_refl _) ?_
      refine M_istore_n (pc := 37) (ls' := [some (.ref 205), some (.int r35), some (.int r37), none, none, none, none, none]) dX12_serve_37 (by decide) rfl ?_
      refine M_iconst (pc := 38) (v := -1) dX12_serve_38 (by decide) ?_
      refine M_istore_n (pc := 39) (ls' := [some (.ref 205), some (.int r35), some (.int r37), some (.int (-1 : Int32)), none, none, none, none]) dX12_serve_39 (by decide) rfl ?_
      refine M_ldc (pc := 40) (v := 1000000) dX12_serve_40 w_1645 ?_
      refine M_istore (pc := 42) (ls' := [some (.ref 205), some (.int r35), some (.int r37), some (.int (-1 : Int32)), some (.int (1000000 : Int32)), none, none, none]) dX12_serve_42 (by decide) rfl ?_
      refine M_iconst (pc := 44) (v := 0) dX12_serve_44 (by decide) ?_
      refine M_istore (pc := 45) (ls' := [some (.ref 205), some (.int r35), some (.int r37), some (.int (-1 : Int32)), some (.int (1000000 : Int32)), some (.int (0 : Int32)), none, none]) dX12_serve_45 (by decide) rfl ?_
      exact LC_X12_serve_47 (P := P) hp (-1 : Int32) (1000000 : Int32) (0 : Int32) _ h
    · have h := (if_neg hc34).symm.trans h
      refine M_iconst (pc := 26) (v := 0) dX12_serve_26 (by decide) ?_
      obtain rfl := Option.some.inj h
      exact M_iret (pc := 27) dX12_serve_27 rfl rfl rfl rfl
