def L_X12_breaks_26 (x1 : Int32) (x2 : Int32) (I : HI) : Option (Int32 × HI) :=
  if (100 : Int32) ≤ x2 then (F_X12_takesNone I) >>= fun r9 => (F_X12_bringsBack I) >>= fun r11 => if r9 = 0 then some ((-1 : Int32), r11) else some (x2, r11) else (F_X12_takesNone I) >>= fun r14 => if r14 = 0 then (F_X12_takes I x1) >>= fun r22 => L_X12_breaks_26 x1 (x2 + (1 : Int32)) r22.2 else (F_X12_takesNone I) >>= fun r17 => (F_X12_bringsBack I) >>= fun r19 => if r17 = 0 then some ((-1 : Int32), r19) else some (x2, r19)
partial_fixpoint
def F_X12_breaks (I : HI) (x1 : Int32) : Option (Int32 × HI) :=
  (F_X12_noDish (up2 I 205 0 (0 : Int32)) x1) >>= fun r1 => (F_X12_throwsIf (up2 I 205 0 (0 : Int32)) r1 (1 : Int32)) >>= fun r3 => if r3.1 = 0 then (F_X12_keepsAll r3.2) >>= fun r6 => L_X12_breaks_26 x1 (0 : Int32) r6 else some ((0 : Int32), r3.2)
set_option maxRecDepth 4000 in
set_option maxHeartbeats 4000000 in
theorem LC_X12_breaks_26 {g : gX} {d : Nat} {P : Nat → Nat → Option Nat} {J : HJ} {x1 : Int32} (hp : Wp P) : ∀ (x2 : Int32) (I : HI) (r : Int32 × HI), L_X12_breaks_26 x1 x2 I = some r → M g mX12_breaks (d + 9) (NT, NT, 0) ((.inl (some (.int r.1))), (NT, r.2, J, P)) 26 [some (.ref 205), some (.int x1), some (.int x2), none] [] (NT, I, J, P) := by
  refine L_X12_breaks_26.partial_correctness x1 (fun x2 I r => M g mX12_breaks (d + 9) (NT, NT, 0) ((.inl (some (.int r.1))), (NT, r.2, J, P)) 26 [some (.ref 205), some (.int x1), some (.int x2), none] [] (NT, I, J, P)) ?_
  intro f ih x2 I r h
  refine M_iload_n (pc := 26) dX12_breaks_26 rfl ?_
  refine M_bipush (pc := 27) (v := 100) dX12_breaks_27 (by decide) ?_
  refine M_icmp_ge (pc := 29) (tgt := 51) dX12_breaks_29 (by decide) (fun hc8 => ?_) (fun hc8 => ?_)
  · have h := (if_pos hc8).symm.trans h
    refine M_aload_n (pc := 51) dX12_breaks_51 rfl ?_
    obtain ⟨r9, hr10, h⟩ := bnd h
    refine M_callVi (pc := 52) dX12_breaks_52 v_X12_290 rfl rfl at_11 (Nat.le_of_ble_eq_true rfl) (C_X12_takesNone (d := d + 8) hp hr10) (Nat.le_refl _) ?_
    refine M_istore_n (pc := 55) (ls' := [some (.ref 205), some (.int x1), some (.int x2), some (.int r9)]) dX12_breaks_55 (by decide) rfl ?_
    refine M_aload_n (pc := 56) dX12_breaks_56 rfl ?_
    obtain ⟨r11, hr12, h⟩ := bnd h
    refine M_callVv (pc := 57) dX12_breaks_57 v_X12_326 rfl rfl at_11 (Nat.le_of_ble_eq_true rfl) (C_X12_bringsBack (d := d + 8) hp hr12) (Nat.le_refl _) ?_
    refine M_iload_n (pc := 60) dX12_breaks_60 rfl ?_
    refine M_if_eq (pc := 61) (tgt := 68) dX12_breaks_61 (by decide) (fun hc13 => ?_) (fun hc13 => ?_)
    · have h := (if_pos hc13).symm.trans h
      refine M_iconst (pc := 68) (v := -1) dX12_breaks_68 (by decide) ?_
      obtain rfl := Option.some.inj h
      exact M_iret (pc := 69) dX12_breaks_69 rfl rfl rfl rfl
    · have h := (if_neg hc13).symm.trans h
      refine M_iload_n (pc := 64) dX12_breaks_64 rfl ?_
      refine M_goto (pc := 65) (tgt := 69) dX12_breaks_65 (by decide) ?_
      obtain rfl := Option.some.inj h
      exact M_iret (pc := 69) dX12_breaks_69 rfl rfl rfl rfl
  · have h := (if_neg hc8).symm.trans h
    refine M_aload_n (pc := 32) dX12_breaks_32 rfl ?_
    obtain ⟨r14, hr15, h⟩ := bnd h
    refine M_callVi (pc := 33) dX12_breaks_33 v_X12_290 rfl rfl at_11 (Nat.le_of_ble_eq_true rfl) (C_X12_takesNone (d := d + 8) hp hr15) (Nat.le_refl _) ?_
    refine M_if_ne (pc := 36) (tgt := 51) dX12_breaks_36 (by decide) (fun hc16 => ?_) (fun hc16 => ?_)
    · have h := (if_neg hc16).symm.trans h
      refine M_aload_n (pc := 51) dX12_breaks_51 rfl ?_
      obtain ⟨r17, hr18, h⟩ := bnd h
      refine M_callVi (pc := 52) dX12_breaks_52 v_X12_290 rfl rfl at_11 (Nat.le_of_ble_eq_true rfl) (C_X12_takesNone (d := d + 8) hp hr18) (Nat.le_refl _) ?_
      refine M_istore_n (pc := 55) (ls' := [some (.ref 205), some (.int x1), some (.int x2), some (.int r17)]) dX12_breaks_55 (by decide) rfl ?_
      refine M_aload_n (pc := 56) dX12_breaks_56 rfl ?_
      obtain ⟨r19, hr20, h⟩ := bnd h
      refine M_callVv (pc := 57) dX12_breaks_57 v_X12_326 rfl rfl at_11 (Nat.le_of_ble_eq_true rfl) (C_X12_bringsBack (d := d + 8) hp hr20) (Nat.le_refl _) ?_
      refine M_iload_n (pc := 60) dX12_breaks_60 rfl ?_
      refine M_if_eq (pc := 61) (tgt := 68) dX12_breaks_61 (by decide) (fun hc21 => ?_) (fun hc21 => ?_)
      · have h := (if_pos hc21).symm.trans h
        refine M_iconst (pc := 68) (v := -1) dX12_breaks_68 (by decide) ?_
        obtain rfl := Option.some.inj h
        exact M_iret (pc := 69) dX12_breaks_69 rfl rfl rfl rfl
      · have h := (if_neg hc21).symm.trans h
        refine M_iload_n (pc := 64) dX12_breaks_64 rfl ?_
        refine M_goto (pc := 65) (tgt := 69) dX12_breaks_65 (by decide) ?_
        obtain rfl := Option.some.inj h
        exact M_iret (pc := 69) dX12_breaks_69 rfl rfl rfl rfl
    · have h := (if_pos hc16).symm.trans h
      refine M_aload_n (pc := 39) dX12_breaks_39 rfl ?_
      refine M_iload_n (pc := 40) dX12_breaks_40 rfl ?_
      obtain ⟨r22, hr23, h⟩ := bnd h
      refine M_callVi (pc := 41) dX12_breaks_41 v_X12_302 rfl rfl at_11 (Nat.le_of_ble_eq_true rfl) (C_X12_takes (d := d + 0) hp hr23) (Nat.le_refl _) ?_
      refine M_pop (pc := 44) dX12_breaks_44 rfl ?_
      refine M_iinc (pc := 45) (v := (x2 + (1 : Int32))) (ls' := [some (.ref 205), some (.int x1), some (.int (x2 + (1 : Int32))), none]) dX12_breaks_45 rfl rfl (by decide) rfl ?_
      refine M_goto (pc := 48) (tgt := 26) dX12_breaks_48 (by decide) ?_
      exact ih (x2 + (1 : Int32)) r22.2 _ h
set_option maxRecDepth 4000 in
set_option maxHeartbeats 4000000 in
theorem C_X12_breaks {g : gX} {d : Nat} {P : Nat → Nat → Option Nat} {I : HI} {x1 : Int32} {J : HJ} (hp : Wp P) {r : Int32 × HI} (h : F_X12_breaks I x1 = some r) : Cm g mX12_breaks (d + 9) [.ref 205, .int x1] (NT, I, J, P) (some (.int r.1)) (NT, r.2, J, P) := by
  unfold F_X12_breaks at h
  refine Cm.of (by decide) (by simp [Value.category]) (Nat.le_of_ble_eq_true rfl) (Nat.le_refl _) (ls := [some (.ref 205), some (.int x1), none, none]) rfl ?_
  refine M_aload_n (pc := 0) dX12_breaks_0 rfl ?_
  refine M_iconst (pc := 1) (v := 0) dX12_breaks_1 (by decide) ?_
  refine M_putI (pc := 2) dX12_breaks_2 f_X12_3 at_11 rfl ⟨rfl, rfl⟩ ?_
  refine M_aload_n (pc := 5) dX12_breaks_5 rfl ?_
  refine M_aload_n (pc := 6) dX12_breaks_6 rfl ?_
  refine M_iload_n (pc := 7) dX12_breaks_7 rfl ?_
  obtain ⟨r1, hr2, h⟩ := bnd h
  refine M_callVi (pc := 8) dX12_breaks_8 v_X12_278 rfl rfl at_11 (Nat.le_of_ble_eq_true rfl) (C_X12_noDish (d := d + 7) hp hr2) (Nat.le_refl _) ?_
  refine M_iconst (pc := 11) (v := 1) dX12_breaks_11 (by decide) ?_
  obtain ⟨r3, hr4, h⟩ := bnd h
  refine M_callVi (pc := 12) dX12_breaks_12 v_X12_243 rfl rfl at_11 (Nat.le_of_ble_eq_true rfl) (C_X12_throwsIf (d := d + 8) hp hr4) (Nat.le_refl _) ?_
  refine M_if_eq (pc := 15) (tgt := 20) dX12_breaks_15 (by decide) (fun hc5 => ?_) (fun hc5 => ?_)
  · have h := (if_pos hc5).symm.trans h
    refine M_iconst (pc := 20) (v := 0) dX12_breaks_20 (by decide) ?_
    refine M_istore_n (pc := 21) (ls' := [some (.ref 205), some (.int x1), some (.int (0 : Int32)), none]) dX12_breaks_21 (by decide) rfl ?_
    refine M_aload_n (pc := 22) dX12_breaks_22 rfl ?_
    obtain ⟨r6, hr7, h⟩ := bnd h
    refine M_callVv (pc := 23) dX12_breaks_23 v_X12_323 rfl rfl at_11 (Nat.le_of_ble_eq_true rfl) (C_X12_keepsAll (d := d + 8) hp hr7) (Nat.le_refl _) ?_
    exact LC_X12_breaks_26 (P := P) hp (0 : Int32) r6 _ h
  · have h := (if_neg hc5).symm.trans h
    refine M_iconst (pc := 18) (v := 0) dX12_breaks_18 (by decide) ?_
    obtain rfl := Option.some.inj h
    exact M_iret (pc := 19) dX12_breaks_19 rfl rfl rfl rfl
def L_X12_ordersOf_4 (I : HI) (x0 : Int32) (x1 : Int32) (x2 : Int32) : Option (Int32) :=
  if x0 < x2 then some x1 else L_X12_ordersOf_4 I x0 (x1 * x2) (x2 + (1 : Int32))
partial_fixpoint
def F_X12_ordersOf (I : HI) (x0 : Int32) : Option (Int32) :=
  L_X12_ordersOf_4 I x0 (1 : Int32) (2 : Int32)
set_option maxRecDepth 4000 in
set_option maxHeartbeats 4000000 in
theorem LC_X12_ordersOf_4 {g : gX} {d : Nat} {P : Nat → Nat → Option Nat} {J : HJ} {I : HI} {x0 : Int32} (hp : Wp P) : ∀ (x1 : Int32) (x2 : Int32) (r : Int32), L_X12_ordersOf_4 I x0 x1 x2 = some r → M g mX12_ordersOf (d + 0) (NT, NT, 0) ((.inl (some (.int r))), (NT, I, J, P)) 4 [some (.int x0), some (.int x1), some (.int x2)] [] (NT, I, J, P) := by
  refine L_X12_ordersOf_4.partial_correctness I x0 (fun x1 x2 r => M g mX12_ordersOf (d + 0) (NT, NT, 0) ((.inl (some (.int r))), (NT, I, J, P)) 4 [some (.int x0), some (.int x1), some (.int x2)] [] (NT, I, J, P)) ?_
  intro f ih x1 x2 r h
  refine M_iload_n (pc := 4) dX12_ordersOf_4 rfl ?_
  refine M_iload_n (pc := 5) dX12_ordersOf_5 rfl ?_
  refine M_icmp_gt (pc := 6) (tgt := 19) dX12_ordersOf_6 (by decide) (fun hc1 => ?_) (fun hc1 => ?_)
  · have h := (if_pos hc1).symm.trans h
    refine M_iload_n (pc := 19) dX12_ordersOf_19 rfl ?_
    obtain rfl := Option.some.inj h
    exact M_iret (pc := 20) dX12_ordersOf_20 rfl rfl rfl rfl
  · have h := (if_neg hc1).symm.trans h
    refine M_iload_n (pc := 9) dX12_ordersOf_9 rfl ?_
    refine M_iload_n (pc := 10) dX12_ordersOf_10 rfl ?_
    refine M_imul (pc := 11) dX12_ordersOf_11 ?_
    refine M_istore_n (pc := 12) (ls' := [some (.int x0), some (.int (x1 * x2)), some (.int x2)]) dX12_ordersOf_12 (by decide) rfl ?_
    refine M_iinc (pc := 13) (v := (x2 + (1 : Int32))) (ls' := [some (.int x0), some (.int (x1 * x2)), some (.int (x2 + (1 : Int32)))]) dX12_ordersOf_13 rfl rfl (by decide) rfl ?_
    refine M_goto (pc := 16) (tgt := 4) dX12_ordersOf_16 (by decide) ?_
    exact ih (x1 * x2) (x2 + (1 : Int32)) _ h
set_option maxRecDepth 4000 in
set_option maxHeartbeats 4000000 in
theorem C_X12_ordersOf {g : gX} {d : Nat} {P : Nat → Nat → Option Nat} {I : HI} {x0 : Int32} {J : HJ} (hp : Wp P) {r : Int32} (h : F_X12_ordersOf I x0 = some r) : Cm g mX12_ordersOf (d + 0) [.int x0] (NT, I, J, P) (some (.int r)) (NT, I, J, P) := by
  unfold F_X12_ordersOf at h
  refine Cm.of (by decide) (by simp [Value.category]) (Nat.le_of_ble_eq_true rfl) (Nat.le_refl _) (ls := [some (.int x0), none, none]) rfl ?_
  refine M_iconst (pc := 0) (v := 1) dX12_ordersOf_0 (by decide) ?_
  refine M_istore_n (pc := 1) (ls' := [some (.int x0), some (.int (1 : Int32)), none]) dX12_ordersOf_1 (by decide) rfl ?_
  refine M_iconst (pc := 2) (v := 2) dX12_ordersOf_2 (by decide) ?_
  refine M_istore_n (pc := 3) (ls' := [some (.int x0), some (.int (1 : Int32)), some (.int (2 : Int32))]) dX12_ordersOf_3 (by decide) rfl ?_
  exact LC_X12_ordersOf_4 (P := P) hp (1 : Int32) (2 : Int32) _ h
def L_X12_saddest_13 (x1 : Int32) (x2 : Int32) (x3 : Int32) (I : HI) : Option (Int32 × HI) :=
  if x1 ≤ x3 then (F_X12_bringsBack I) >>= fun r4 => some (x2, r4) else (ald 6 (I 214) x3) >>= fun v6 => (F_X12_takes I v6) >>= fun r8 => L_X12_saddest_13 x1 (if x2 < (r8.2 206 5) then (r8.2 206 5) else x2) (x3 + (1 : Int32)) r8.2
partial_fixpoint
def F_X12_saddest (I : HI) (x1 : Int32) : Option (Int32 × HI) :=
  (F_X12_keepsAll I) >>= fun r1 => L_X12_saddest_13 x1 (r1 206 5) (0 : Int32) r1
set_option maxRecDepth 4000 in
set_option maxHeartbeats 4000000 in
theorem LC_X12_saddest_13 {g : gX} {d : Nat} {P : Nat → Nat → Option Nat} {J : HJ} {x1 : Int32} (hp : Wp P) : ∀ (x2 : Int32) (x3 : Int32) (I : HI) (r : Int32 × HI), L_X12_saddest_13 x1 x2 x3 I = some r → M g mX12_saddest (d + 9) (NT, NT, 0) ((.inl (some (.int r.1))), (NT, r.2, J, P)) 13 [some (.ref 205), some (.int x1), some (.int x2), some (.int x3)] [] (NT, I, J, P) := by
  refine L_X12_saddest_13.partial_correctness x1 (fun x2 x3 I r => M g mX12_saddest (d + 9) (NT, NT, 0) ((.inl (some (.int r.1))), (NT, r.2, J, P)) 13 [some (.ref 205), some (.int x1), some (.int x2), some (.int x3)] [] (NT, I, J, P)) ?_
  intro f ih x2 x3 I r h
  refine M_iload_n (pc := 13) dX12_saddest_13 rfl ?_
  refine M_iload_n (pc := 14) dX12_saddest_14 rfl ?_
  refine M_icmp_ge (pc := 15) (tgt := 46) dX12_saddest_15 (by decide) (fun hc3 => ?_) (fun hc3 => ?_)
  · have h := (if_pos hc3).symm.trans h
    refine M_aload_n (pc := 46) dX12_saddest_46 rfl ?_
    obtain ⟨r4, hr5, h⟩ := bnd h
    refine M_callVv (pc := 47) dX12_saddest_47 v_X12_326 rfl rfl at_11 (Nat.le_of_ble_eq_true rfl) (C_X12_bringsBack (d := d + 8) hp hr5) (Nat.le_refl _) ?_
    refine M_iload_n (pc := 50) dX12_saddest_50 rfl ?_
    obtain rfl := Option.some.inj h
    exact M_iret (pc := 51) dX12_saddest_51 rfl rfl rfl rfl
  · have h := (if_neg hc3).symm.trans h
    refine M_aload_n (pc := 18) dX12_saddest_18 rfl ?_
    refine M_aload_n (pc := 19) dX12_saddest_19 rfl ?_
    refine M_getR (pc := 20) dX12_saddest_20 f_X12_42 at_11 (gc_205_18 hp).1 ?_
    refine M_iload_n (pc := 23) dX12_saddest_23 rfl ?_
    obtain ⟨v6, hv7, h⟩ := bnd h
    refine M_aldI (pc := 24) dX12_saddest_24 (gc_205_18 hp).2 hv7 ?_
    obtain ⟨r8, hr9, h⟩ := bnd h
    refine M_callVi (pc := 25) dX12_saddest_25 v_X12_302 rfl rfl at_11 (Nat.le_of_ble_eq_true rfl) (C_X12_takes (d := d + 0) hp hr9) (Nat.le_refl _) ?_
    refine M_pop (pc := 28) dX12_saddest_28 rfl ?_
    refine M_iload_n (pc := 29) dX12_saddest_29 rfl ?_
    refine M_aload_n (pc := 30) dX12_saddest_30 rfl ?_
    refine M_getR (pc := 31) dX12_saddest_31 f_X12_13 at_11 (gc_205_1 hp).1 ?_
    refine M_iconst (pc := 34) (v := 5) dX12_saddest_34 (by decide) ?_
    refine M_ildc (pc := 35) (j := 5) dX12_saddest_35 (gc_205_1 hp).2 (by decide) (by decide) ?_
    refine M_mmax (pc := 36) dX12_saddest_36 mm_X12_293.1 mm_X12_293.2.1 mm_X12_293.2.2.1 mm_X12_293.2.2.2 (Nat.le_of_ble_eq_true rfl) ?_
    refine M_istore_n (pc := 39) (ls' := [some (.ref 205), some (.int x1), some (.int (if x2 < (r8.2 206 5) then (r8.2 206 5) else x2)), some (.int x3)]) dX12_saddest_39 (by decide) rfl ?_
    refine M_iinc (pc := 40) (v := (x3 + (1 : Int32))) (ls' := [some (.ref 205), some (.int x1), some (.int (if x2 < (r8.2 206 5) then (r8.2 206 5) else x2)), some (.int (x3 + (1 : Int32)))]) dX12_saddest_40 rfl rfl (by decide) rfl ?_
    refine M_goto (pc := 43) (tgt := 13) dX12_saddest_43 (by decide) ?_
    exact ih (if x2 < (r8.2 206 5) then (r8.2 206 5) else x2) (x3 + (1 : Int32)) r8.2 _ h
set_option maxRecDepth 4000 in
set_option maxHeartbeats 4000000 in
theorem C_X12_saddest {g : gX} {d : Nat} {P : Nat → Nat → Option Nat} {I : HI} {x1 : Int32} {J : HJ} (hp : Wp P) {r : Int32 × HI} (h : F_X12_saddest I x1 = some r) : Cm g mX12_saddest (d + 9) [.ref 205, .int x1] (NT, I, J, P) (some (.int r.1)) (NT, r.2, J, P) := by
  unfold F_X12_saddest at h
  refine Cm.of (by decide) (by simp [Value.category]) (Nat.le_of_ble_eq_true rfl) (Nat.le_refl _) (ls := [some (.ref 205), some (.int x1), none, none]) rfl ?_
  refine M_aload_n (pc := 0) dX12_saddest_0 rfl ?_
  obtain ⟨r1, hr2, h⟩ := bnd h
  refine M_callVv (pc := 1) dX12_saddest_1 v_X12_323 rfl rfl at_11 (Nat.le_of_ble_eq_true rfl) (C_X12_keepsAll (d := d + 8) hp hr2) (Nat.le_refl _) ?_
  refine M_aload_n (pc := 4) dX12_saddest_4 rfl ?_
  refine M_getR (pc := 5) dX12_saddest_5 f_X12_13 at_11 (gc_205_1 hp).1 ?_
  refine M_iconst (pc := 8) (v := 5) dX12_saddest_8 (by decide) ?_
  refine M_ildc (pc := 9) (j := 5) dX12_saddest_9 (gc_205_1 hp).2 (by decide) (by decide) ?_
  refine M_istore_n (pc := 10) (ls' := [some (.ref 205), some (.int x1), some (.int (r1 206 5)), none]) dX12_saddest_10 (by decide) rfl ?_
  refine M_iconst (pc := 11) (v := 0) dX12_saddest_11 (by decide) ?_
  refine M_istore_n (pc := 12) (ls' := [some (.ref 205), some (.int x1), some (.int (r1 206 5)), some (.int (0 : Int32))]) dX12_saddest_12 (by decide) rfl ?_
  exact LC_X12_saddest_13 (P := P) hp (r1 206 5) (0 : Int32) r1 _ h
def F_X12_ageOf (I : HI) (x1 : Int32) : Option (Int32) :=
  (F_X12_of I x1 (5 : Int32)) >>= fun r1 => some (r1 / (100 : Int32))
set_option maxRecDepth 4000 in
set_option maxHeartbeats 4000000 in
theorem C_X12_ageOf {g : gX} {d : Nat} {P : Nat → Nat → Option Nat} {I : HI} {x1 : Int32} {J : HJ} (hp : Wp P) {r : Int32} (h : F_X12_ageOf I x1 = some r) : Cm g mX12_ageOf (d + 2) [.ref 205, .int x1] (NT, I, J, P) (some (.int r)) (NT, I, J, P) := by
  unfold F_X12_ageOf at h
  refine Cm.of (by decide) (by simp [Value.category]) (Nat.le_of_ble_eq_true rfl) (Nat.le_refl _) (ls := [some (.ref 205), some (.int x1)]) rfl ?_
  refine M_aload_n (pc := 0) dX12_ageOf_0 rfl ?_
  refine M_iload_n (pc := 1) dX12_ageOf_1 rfl ?_
  refine M_iconst (pc := 2) (v := 5) dX12_ageOf_2 (by decide) ?_
  obtain ⟨r1, hr2, h⟩ := bnd h
  refine M_callVi (pc := 3) dX12_ageOf_3 v_X12_70 rfl rfl at_11 (Nat.le_of_ble_eq_true rfl) (C_X12_of (d := d + 0) hp hr2) (Nat.le_refl _) ?_
  refine M_bipush (pc := 6) (v := 100) dX12_ageOf_6 (by decide) ?_
  refine M_idiv (pc := 8) dX12_ageOf_8 (by decide) ?_
  obtain rfl := Option.some.inj h
  exact M_iret (pc := 9) dX12_ageOf_9 rfl rfl rfl rfl
def L_X12_agesOf_4 (I : HI) (x1 : Int32) (x2 : Int32) (x3 : Int32) : Option (Int32) :=
  (F_X12_dishes I) >>= fun r1 => if r1 ≤ x3 then some x2 else (F_X12_has I x1 x3) >>= fun r4 => if r4 = 0 then L_X12_agesOf_4 I x1 x2 (x3 + (1 : Int32)) else (F_X12_isNew I x3) >>= fun r7 => if r7 = 0 then (F_X12_ageOf I x3) >>= fun r10 => if (10 : Int32) ≤ r10 then L_X12_agesOf_4 I x1 (x2 ||| (0 : Int32)) (x3 + (1 : Int32)) else (F_X12_ageOf I x3) >>= fun r13 => L_X12_agesOf_4 I x1 (x2 ||| ((1 : Int32) <<< (r13 &&& 31))) (x3 + (1 : Int32)) else some (-1 : Int32)
partial_fixpoint
def F_X12_agesOf (I : HI) (x1 : Int32) : Option (Int32) :=
  L_X12_agesOf_4 I x1 (0 : Int32) (0 : Int32)
set_option maxRecDepth 4000 in
set_option maxHeartbeats 4000000 in
theorem LC_X12_agesOf_4 {g : gX} {d : Nat} {P : Nat → Nat → Option Nat} {J : HJ} {I : HI} {x1 : Int32} (hp : Wp P) : ∀ (x2 : Int32) (x3 : Int32) (r : Int32), L_X12_agesOf_4 I x1 x2 x3 = some r → M g mX12_agesOf (d + 3) (NT, NT, 0) ((.inl (some (.int r))), (NT, I, J, P)) 4 [some (.ref 205), some (.int x1), some (.int x2), some (.int x3)] [] (NT, I, J, P) := by
  refine L_X12_agesOf_4.partial_correctness I x1 (fun x2 x3 r => M g mX12_agesOf (d + 3) (NT, NT, 0) ((.inl (some (.int r))), (NT, I, J, P)) 4 [some (.ref 205), some (.int x1), some (.int x2), some (.int x3)] [] (NT, I, J, P)) ?_
  intro f ih x2 x3 r h
  refine M_iload_n (pc := 4) dX12_agesOf_4 rfl ?_
  refine M_aload_n (pc := 5) dX12_agesOf_5 rfl ?_
  obtain ⟨r1, hr2, h⟩ := bnd h
  refine M_callVi (pc := 6) dX12_agesOf_6 v_X12_62 rfl rfl at_11 (Nat.le_of_ble_eq_true rfl) (C_X12_dishes (d := d + 2) hp hr2) (Nat.le_refl _) ?_
  refine M_icmp_ge (pc := 9) (tgt := 63) dX12_agesOf_9 (by decide) (fun hc3 => ?_) (fun hc3 => ?_)
  · have h := (if_pos hc3).symm.trans h
    refine M_iload_n (pc := 63) dX12_agesOf_63 rfl ?_
    obtain rfl := Option.some.inj h
    exact M_iret (pc := 64) dX12_agesOf_64 rfl rfl rfl rfl
  · have h := (if_neg hc3).symm.trans h
    refine M_iload_n (pc := 12) dX12_agesOf_12 rfl ?_
    refine M_iload_n (pc := 13) dX12_agesOf_13 rfl ?_
    obtain ⟨r4, hr5, h⟩ := bnd h
    refine M_callSi (pc := 14) dX12_agesOf_14 s_X12_337 rfl rfl (Nat.le_of_ble_eq_true rfl) (C_X12_has (d := d + 2) hp hr5) (Nat.le_refl _) ?_
    refine M_if_ne (pc := 17) (tgt := 23) dX12_agesOf_17 (by decide) (fun hc6 => ?_) (fun hc6 => ?_)
    · have h := (if_neg hc6).symm.trans h
      refine M_aload_n (pc := 23) dX12_agesOf_23 rfl ?_
      refine M_iload_n (pc := 24) dX12_agesOf_24 rfl ?_
      obtain ⟨r7, hr8, h⟩ := bnd h
      refine M_callVi (pc := 25) dX12_agesOf_25 v_X12_252 rfl rfl at_11 (Nat.le_of_ble_eq_true rfl) (C_X12_isNew (d := d + 0) hp hr8) (Nat.le_refl _) ?_
      refine M_if_eq (pc := 28) (tgt := 33) dX12_agesOf_28 (by decide) (fun hc9 => ?_) (fun hc9 => ?_)
      · have h := (if_pos hc9).symm.trans h
        refine M_iload_n (pc := 33) dX12_agesOf_33 rfl ?_
        refine M_aload_n (pc := 34) dX12_agesOf_34 rfl ?_
        refine M_iload_n (pc := 35) dX12_agesOf_35 rfl ?_
        obtain ⟨r10, hr11, h⟩ := bnd h
        refine M_callVi (pc := 36) dX12_agesOf_36 v_X12_349 rfl rfl at_11 (Nat.le_of_ble_eq_true rfl) (C_X12_ageOf (d := d + 0) hp hr11) (Nat.le_refl _) ?_
        refine M_bipush (pc := 39) (v := 10) dX12_agesOf_39 (by decide) ?_
        refine M_icmp_ge (pc := 41) (tgt := 54) dX12_agesOf_41 (by decide) (fun hc12 => ?_) (fun hc12 => ?_)
        · have h := (if_pos hc12).symm.trans h
          refine M_iconst (pc := 54) (v := 0) dX12_agesOf_54 (by decide) ?_
          refine M_ior (pc := 55) dX12_agesOf_55 ?_
          refine M_istore_n (pc := 56) (ls' := [some (.ref 205), some (.int x1), some (.int (x2 ||| (0 : Int32))), some (.int x3)]) dX12_agesOf_56 (by decide) rfl ?_
          refine M_iinc (pc := 57) (v := (x3 + (1 : Int32))) (ls' := [some (.ref 205), some (.int x1), some (.int (x2 ||| (0 : Int32))), some (.int (x3 + (1 : Int32)))]) dX12_agesOf_57 rfl rfl (by decide) rfl ?_
          refine M_goto (pc := 60) (tgt := 4) dX12_agesOf_60 (by decide) ?_
          exact ih (x2 ||| (0 : Int32)) (x3 + (1 : Int32)) _ h
        · have h := (if_neg hc12).symm.trans h
          refine M_iconst (pc := 44) (v := 1) dX12_agesOf_44 (by decide) ?_
          refine M_aload_n (pc := 45) dX12_agesOf_45 rfl ?_
          refine M_iload_n (pc := 46) dX12_agesOf_46 rfl ?_
          obtain ⟨r13, hr14, h⟩ := bnd h
          refine M_callVi (pc := 47) dX12_agesOf_47 v_X12_349 rfl rfl at_11 (Nat.le_of_ble_eq_true rfl) (C_X12_ageOf (d := d + 0) hp hr14) (Nat.le_refl _) ?_
          refine M_ishl (pc := 50) dX12_agesOf_50 ?_
          refine M_goto (pc := 51) (tgt := 55) dX12_agesOf_51 (by decide) ?_
          refine M_ior (pc := 55) dX12_agesOf_55 ?_
          refine M_istore_n (pc := 56) (ls' := [some (.ref 205), some (.int x1), some (.int (x2 ||| ((1 : Int32) <<< (r13 &&& 31)))), some (.int x3)]) dX12_agesOf_56 (by decide) rfl ?_
          refine M_iinc (pc := 57) (v := (x3 + (1 : Int32))) (ls' := [some (.ref 205), some (.int x1), some (.int (x2 ||| ((1 : Int32) <<< (r13 &&& 31)))), some (.int (x3 + (1 : Int32)))]) dX12_agesOf_57 rfl rfl (by decide) rfl ?_
          refine M_goto (pc := 60) (tgt := 4) dX12_agesOf_60 (by decide) ?_
          exact ih (x2 ||| ((1 : Int32) <<< (r13 &&& 31))) (x3 + (1 : Int32)) _ h
      · have h := (if_neg hc9).symm.trans h
        refine M_iconst (pc := 31) (v := -1) dX12_agesOf_31 (by decide) ?_
        obtain rfl := Option.some.inj h
        exact M_iret (pc := 32) dX12_agesOf_32 rfl rfl rfl rfl
    · have h := (if_pos hc6).symm.trans h
      refine M_goto (pc := 20) (tgt := 57) dX12_agesOf_20 (by decide) ?_
      refine M_iinc (pc := 57) (v := (x3 + (1 : Int32))) (ls' := [some (.ref 205), some (.int x1), some (.int x2), some (.int (x3 + (1 : Int32)))]) dX12_agesOf_57 rfl rfl (by decide) rfl ?_
      refine M_goto (pc := 60) (tgt := 4) dX12_agesOf_60 (by decide) ?_
      exact ih x2 (x3 + (1 : Int32)) _ h
set_option maxRecDepth 4000 in
set_option maxHeartbeats 4000000 in
theorem C_X12_agesOf {g : gX} {d : Nat} {P : Nat → Nat → Option Nat} {I : HI} {x1 : Int32} {J : HJ} (hp : Wp P) {r : Int32} (h : F_X12_agesOf I x1 = some r) : Cm g mX12_agesOf (d + 3) [.ref 205, .int x1] (NT, I, J, P) (some (.int r)) (NT, I, J, P) := by
  unfold F_X12_agesOf at h
  refine Cm.of (by decide) (by simp [Value.category]) (Nat.le_of_ble_eq_true rfl) (Nat.le_refl _) (ls := [some (.ref 205), some (.int x1), none, none]) rfl ?_
  refine M_iconst (pc := 0) (v := 0) dX12_agesOf_0 (by decide) ?_
  refine M_istore_n (pc := 1) (ls' := [some (.ref 205), some (.int x1), some (.int (0 : Int32)), none]) dX12_agesOf_1 (by decide) rfl ?_
  refine M_iconst (pc := 2) (v := 0) dX12_agesOf_2 (by decide) ?_
  refine M_istore_n (pc := 3) (ls' := [some (.ref 205), some (.int x1), some (.int (0 : Int32)), some (.int (0 : Int32))]) dX12_agesOf_3 (by decide) rfl ?_
  exact LC_X12_agesOf_4 (P := P) hp (0 : Int32) (0 : Int32) _ h
def F_X12_noAges (I : HI) (x0 : Int32) : Option (Int32) :=
  (F_X12_in I x0 (0 : Int32) (1023 : Int32)) >>= fun r1 => if r1 = 0 then some (1 : Int32) else some (0 : Int32)
set_option maxRecDepth 4000 in
set_option maxHeartbeats 4000000 in
theorem C_X12_noAges {g : gX} {d : Nat} {P : Nat → Nat → Option Nat} {I : HI} {x0 : Int32} {J : HJ} (hp : Wp P) {r : Int32} (h : F_X12_noAges I x0 = some r) : Cm g mX12_noAges (d + 1) [.int x0] (NT, I, J, P) (some (.int r)) (NT, I, J, P) := by
  unfold F_X12_noAges at h
  refine Cm.of (by decide) (by simp [Value.category]) (Nat.le_of_ble_eq_true rfl) (Nat.le_refl _) (ls := [some (.int x0)]) rfl ?_
  refine M_iload_n (pc := 0) dX12_noAges_0 rfl ?_
  refine M_iconst (pc := 1) (v := 0) dX12_noAges_1 (by decide) ?_
  refine M_sipush (pc := 2) (v := 1023) dX12_noAges_2 (by decide) ?_
  obtain ⟨r1, hr2, h⟩ := bnd h
  refine M_callSi (pc := 5) dX12_noAges_5 s_X12_73 rfl rfl (Nat.le_of_ble_eq_true rfl) (C_X12_in (d := d + 0) hp hr2) (Nat.le_refl _) ?_
  refine M_if_ne (pc := 8) (tgt := 15) dX12_noAges_8 (by decide) (fun hc3 => ?_) (fun hc3 => ?_)
  · have h := (if_neg hc3).symm.trans h
    refine M_iconst (pc := 15) (v := 0) dX12_noAges_15 (by decide) ?_
    obtain rfl := Option.some.inj h
    exact M_iret (pc := 16) dX12_noAges_16 rfl rfl rfl rfl
  · have h := (if_pos hc3).symm.trans h
    refine M_iconst (pc := 11) (v := 1) dX12_noAges_11 (by decide) ?_
    refine M_goto (pc := 12) (tgt := 16) dX12_noAges_12 (by decide) ?_
    obtain rfl := Option.some.inj h
    exact M_iret (pc := 16) dX12_noAges_16 rfl rfl rfl rfl
def F_X12_wasHad (I : HI) (x1 : Int32) (x2 : Int32) (x3 : Int32) (x4 : Int32) : Option (Int32) :=
  (F_X12_isNew I x1) >>= fun r1 => if r1 = 0 then (F_X12_ageOf I x1) >>= fun r4 => if r4 = x2 then (F_X12_of I x1 (6 : Int32)) >>= fun r7 => if r7 = x3 then (F_X12_of I x1 (7 : Int32)) >>= fun r10 => if r10 = x4 then some (1 : Int32) else some (0 : Int32) else some (0 : Int32) else some (0 : Int32) else some (0 : Int32)
set_option maxRecDepth 4000 in
set_option maxHeartbeats 4000000 in
theorem C_X12_wasHad {g : gX} {d : Nat} {P : Nat → Nat → Option Nat} {I : HI} {x1 : Int32} {x2 : Int32} {x3 : Int32} {x4 : Int32} {J : HJ} (hp : Wp P) {r : Int32} (h : F_X12_wasHad I x1 x2 x3 x4 = some r) : Cm g mX12_wasHad (d + 3) [.ref 205, .int x1, .int x2, .int x3, .int x4] (NT, I, J, P) (some (.int r)) (NT, I, J, P) := by
  unfold F_X12_wasHad at h
  refine Cm.of (by decide) (by simp [Value.category]) (Nat.le_of_ble_eq_true rfl) (Nat.le_refl _) (ls := [some (.ref 205), some (.int x1), some (.int x2), some (.int x3), some (.int x4)]) rfl ?_
  refine M_aload_n (pc := 0) dX12_wasHad_0 rfl ?_
  refine M_iload_n (pc := 1) dX12_wasHad_1 rfl ?_
  obtain ⟨r1, hr2, h⟩ := bnd h
  refine M_callVi (pc := 2) dX12_wasHad_2 v_X12_252 rfl rfl at_11 (Nat.le_of_ble_eq_true rfl) (C_X12_isNew (d := d + 0) hp hr2) (Nat.le_refl _) ?_
  refine M_if_ne (pc := 5) (tgt := 44) dX12_wasHad_5 (by decide) (fun hc3 => ?_) (fun hc3 => ?_)
  · have h := (if_neg hc3).symm.trans h
    refine M_iconst (pc := 44) (v := 0) dX12_wasHad_44 (by decide) ?_
    obtain rfl := Option.some.inj h
    exact M_iret (pc := 45) dX12_wasHad_45 rfl rfl rfl rfl
  · have h := (if_pos hc3).symm.trans h
    refine M_aload_n (pc := 8) dX12_wasHad_8 rfl ?_
    refine M_iload_n (pc := 9) dX12_wasHad_9 rfl ?_
    obtain ⟨r4, hr5, h⟩ := bnd h
    refine M_callVi (pc := 10) dX12_wasHad_10 v_X12_349 rfl rfl at_11 (Nat.le_of_ble_eq_true rfl) (C_X12_ageOf (d := d + 0) hp hr5) (Nat.le_refl _) ?_
    refine M_iload_n (pc := 13) dX12_wasHad_13 rfl ?_
    refine M_icmp_ne (pc := 14) (tgt := 44) dX12_wasHad_14 (by decide) (fun hc6 => ?_) (fun hc6 => ?_)
    · have h := (if_neg hc6).symm.trans h
      refine M_iconst (pc := 44) (v := 0) dX12_wasHad_44 (by decide) ?_
      obtain rfl := Option.some.inj h
      exact M_iret (pc := 45) dX12_wasHad_45 rfl rfl rfl rfl
    · have h := (if_pos hc6).symm.trans h
      refine M_aload_n (pc := 17) dX12_wasHad_17 rfl ?_
      refine M_iload_n (pc := 18) dX12_wasHad_18 rfl ?_
      refine M_bipush (pc := 19) (v := 6) dX12_wasHad_19 (by decide) ?_
      obtain ⟨r7, hr8, h⟩ := bnd h
      refine M_callVi (pc := 21) dX12_wasHad_21 v_X12_70 rfl rfl at_11 (Nat.le_of_ble_eq_true rfl) (C_X12_of (d := d + 1) hp hr8) (Nat.le_refl _) ?_
      refine M_iload_n (pc := 24) dX12_wasHad_24 rfl ?_
      refine M_icmp_ne (pc := 25) (tgt := 44) dX12_wasHad_25 (by decide) (fun hc9 => ?_) (fun hc9 => ?_)
      · have h := (if_neg hc9).symm.trans h
        refine M_iconst (pc := 44) (v := 0) dX12_wasHad_44 (by decide) ?_
        obtain rfl := Option.some.inj h
        exact M_iret (pc := 45) dX12_wasHad_45 rfl rfl rfl rfl
      · have h := (if_pos hc9).symm.trans h
        refine M_aload_n (pc := 28) dX12_wasHad_28 rfl ?_
        refine M_iload_n (pc := 29) dX12_wasHad_29 rfl ?_
        refine M_bipush (pc := 30) (v := 7) dX12_wasHad_30 (by decide) ?_
        obtain ⟨r10, hr11, h⟩ := bnd h
        refine M_callVi (pc := 32) dX12_wasHad_32 v_X12_70 rfl rfl at_11 (Nat.le_of_ble_eq_true rfl) (C_X12_of (d := d + 1) hp hr11) (Nat.le_refl _) ?_
        refine M_iload (pc := 35) dX12_wasHad_35 rfl ?_
        refine M_icmp_ne (pc := 37) (tgt := 44) dX12_wasHad_37 (by decide) (fun hc12 => ?_) (fun hc12 => ?_)
        · have h := (if_neg hc12).symm.trans h
          refine M_iconst (pc := 44) (v := 0) dX12_wasHad_44 (by decide) ?_
          obtain rfl := Option.some.inj h
          exact M_iret (pc := 45) dX12_wasHad_45 rfl rfl rfl rfl
        · have h := (if_pos hc12).symm.trans h
          refine M_iconst (pc := 40) (v := 1) dX12_wasHad_40 (by decide) ?_
          refine M_goto (pc := 41) (tgt := 45) dX12_wasHad_41 (by decide) ?_
          obtain rfl := Option.some.inj h
          exact M_iret (pc := 45) dX12_wasHad_45 rfl rfl rfl rfl
def L_X12_he_133 (I : HI) (x2 : Int32) (x3 : Int32) (x4 : Int32) (x5 : Int32) (x6 : Int32) (x7 : Int32) : Option (Int32 × Int32) :=
  (F_X12_dishes I) >>= fun r11 => if r11 ≤ x7 then some (x6, x7) else if x6 = 0 then (ald 400 (I 211) x5) >>= fun v15 => (ald 400 (I 211) (x5 + (1 : Int32))) >>= fun v17 => (F_X12_wasHad I x7 v15 v17 x3) >>= fun r19 => if r19 = 0 then L_X12_he_133 I x2 x3 x4 x5 (0 : Int32) (x7 + (1 : Int32)) else L_X12_he_133 I x2 x3 x4 x5 (1 : Int32) (x7 + (1 : Int32)) else L_X12_he_133 I x2 x3 x4 x5 (1 : Int32) (x7 + (1 : Int32))
partial_fixpoint
def L_X12_he_118 (I : HI) (x2 : Int32) (x3 : Int32) (x4 : Int32) (x5 : Int32) : Option (Int32 × Int32) :=
  if (I 205 11) ≤ x5 then some (x4, x5) else (L_X12_he_133 I x2 x3 x4 x5 (0 : Int32) (0 : Int32)) >>= fun r22 => if x4 = 0 then L_X12_he_118 I x2 x3 (0 : Int32) (x5 + (2 : Int32)) else if r22.1 = 0 then L_X12_he_118 I x2 x3 (0 : Int32) (x5 + (2 : Int32)) else L_X12_he_118 I x2 x3 (1 : Int32) (x5 + (2 : Int32))
partial_fixpoint
def L_X12_he_106 (I : HI) (x2 : Int32) (x3 : Int32) : Option (Int32 × HI) :=
  if (8 : Int32) ≤ x3 then some (x2, I) else (L_X12_he_118 I x2 x3 (1 : Int32) (0 : Int32)) >>= fun r26 => if r26.1 = 0 then L_X12_he_106 I (x2 ||| (0 : Int32)) (x3 + (1 : Int32)) else L_X12_he_106 I (x2 ||| ((1 : Int32) <<< (x3 &&& 31))) (x3 + (1 : Int32))
partial_fixpoint
def L_X12_he_30 (I : HI) (x1 : Int32) (x2 : Int32) : Option (Int32 × HI) :=
  if (I 205 11) ≤ x2 then if x1 = 0 then (F_X12_throwsIf I (1 : Int32) (1 : Int32)) >>= fun r29 => if r29.1 = 0 then L_X12_he_106 r29.2 (0 : Int32) (0 : Int32) else some ((0 : Int32), r29.2) else (F_X12_throwsIf I (0 : Int32) (1 : Int32)) >>= fun r6 => if r6.1 = 0 then L_X12_he_106 r6.2 (0 : Int32) (0 : Int32) else some ((0 : Int32), r6.2) else if x1 = 0 then if x1 = 0 then (F_X12_throwsIf I (1 : Int32) (1 : Int32)) >>= fun r37 => if r37.1 = 0 then L_X12_he_106 r37.2 (0 : Int32) (0 : Int32) else some ((0 : Int32), r37.2) else (F_X12_throwsIf I (0 : Int32) (1 : Int32)) >>= fun r34 => if r34.1 = 0 then L_X12_he_106 r34.2 (0 : Int32) (0 : Int32) else some ((0 : Int32), r34.2) else (ald 400 (I 211) x2) >>= fun v40 => (F_X12_in I v40 (0 : Int32) (99 : Int32)) >>= fun r42 => if r42 = 0 then L_X12_he_30 I (0 : Int32) (x2 + (2 : Int32)) else (ald 400 (I 211) (x2 + (1 : Int32))) >>= fun v45 => (F_X12_noPlace I v45) >>= fun r47 => if r47 = 0 then L_X12_he_30 I (1 : Int32) (x2 + (2 : Int32)) else L_X12_he_30 I (0 : Int32) (x2 + (2 : Int32))
partial_fixpoint
def F_X12_he (I : HI) : Option (Int32 × HI) :=
  (F_X12_uses I) >>= fun r1 => if ((r1 205 11) - (r1 205 11) / (2 : Int32) * (2 : Int32)) = 0 then if (40 : Int32) < (r1 205 11) then L_X12_he_30 r1 (0 : Int32) (0 : Int32) else L_X12_he_30 r1 (1 : Int32) (0 : Int32) else L_X12_he_30 r1 (0 : Int32) (0 : Int32)
set_option maxRecDepth 4000 in
set_option maxHeartbeats 4000000 in
theorem LC_X12_he_133 {g : gX} {d : Nat} {R : rX} {P : Nat → Nat → Option Nat} {J : HJ} {I : HI} {x2 : Int32} {x3 : Int32} {x4 : Int32} {x5 : Int32} (hp : Wp P) : ∀ (x6 : Int32) (x7 : Int32) (r : Int32 × Int32), L_X12_he_133 I x2 x3 x4 x5 x6 x7 = some r → M g mX12_he (d + 4) (NT, NT, 0) R 186 [some (.ref 205), none, some (.int x2), some (.int x3), some (.int x4), some (.int x5), some (.int r.1), some (.int r.2)] [] (NT, I, J, P) → M g mX12_he (d + 4) (NT, NT, 0) R 133 [some (.ref 205), none, some (.int x2), some (.int x3), some (.int x4), some (.int x5), some (.int x6), some (.int x7)] [] (NT, I, J, P) := by
  refine L_X12_he_133.partial_correctness I x2 x3 x4 x5 (fun x6 x7 r => M g mX12_he (d + 4) (NT, NT, 0) R 186 [some (.ref 205), none, some (.int x2), some (.int x3), some (.int x4), some (.int x5), some (.int r.1), some (.int r.2)] [] (NT, I, J, P) → M g mX12_he (d + 4) (NT, NT, 0) R 133 [some (.ref 205), none, some (.int x2), some (.int x3), some (.int x4), some (.int x5), some (.int x6), some (.int x7)] [] (NT, I, J, P)) ?_
  intro f ih x6 x7 r h hk
  refine M_iload (pc := 133) dX12_he_133 rfl ?_
  refine M_aload_n (pc := 135) dX12_he_135 rfl ?_
  obtain ⟨r11, hr12, h⟩ := bnd h
  refine M_callVi (pc := 136) dX12_he_136 v_X12_62 rfl rfl at_11 (Nat.le_of_ble_eq_true rfl) (C_X12_dishes (d := d + 3) hp hr12) (Nat.le_refl _) ?_
  refine M_icmp_ge (pc := 139) (tgt := 186) dX12_he_139 (by decide) (fun hc13 => ?_) (fun hc13 => ?_)
  · have h := (if_pos hc13).symm.trans h
    obtain rfl := Option.some.inj h
    exact hk
  · have h := (if_neg hc13).symm.trans h
    refine M_iload (pc := 142) dX12_he_142 rfl ?_
    refine M_if_ne (pc := 144) (tgt := 173) dX12_he_144 (by decide) (fun hc14 => ?_) (fun hc14 => ?_)
    · have h := (if_neg hc14).symm.trans h
      refine M_iconst (pc := 173) (v := 1) dX12_he_173 (by decide) ?_
      refine M_goto (pc := 174) (tgt := 178) dX12_he_174 (by decide) ?_
      refine M_istore (pc := 178) (ls' := [some (.ref 205), none, some (.int x2), some (.int x3), some (.int x4), some (.int x5), some (.int (1 : Int32)), some (.int x7)]) dX12_he_178 (by decide) rfl ?_
      refine M_iinc (pc := 180) (v := (x7 + (1 : Int32))) (ls' := [some (.ref 205), none, some (.int x2), some (.int x3), some (.int x4), some (.int x5), some (.int (1 : Int32)), some (.int (x7 + (1 : Int32)))]) dX12_he_180 rfl rfl (by decide) rfl ?_
      refine M_goto (pc := 183) (tgt := 133) dX12_he_183 (by decide) ?_
      exact ih (1 : Int32) (x7 + (1 : Int32)) _ h hk
    · have h := (if_pos hc14).symm.trans h
      refine M_aload_n (pc := 147) dX12_he_147 rfl ?_
      refine M_iload (pc := 148) dX12_he_148 rfl ?_
      refine M_aload_n (pc := 150) dX12_he_150 rfl ?_
      refine M_getR (pc := 151) dX12_he_151 f_X12_29 at_11 (gc_205_8 hp).1 ?_
      refine M_iload (pc := 154) dX12_he_154 rfl ?_
      obtain ⟨v15, hv16, h⟩ := bnd h
      refine M_aldB (pc := 156) dX12_he_156 (gc_205_8 hp).2 hv16 ?_
      refine M_aload_n (pc := 157) dX12_he_157 rfl ?_
      refine M_getR (pc := 158) dX12_he_158 f_X12_29 at_11 (gc_205_8 hp).1 ?_
      refine M_iload (pc := 161) dX12_he_161 rfl ?_
      refine M_iconst (pc := 163) (v := 1) dX12_he_163 (by decide) ?_
      refine M_iadd (pc := 164) dX12_he_164 ?_
      obtain ⟨v17, hv18, h⟩ := bnd h
      refine M_aldB (pc := 165) dX12_he_165 (gc_205_8 hp).2 hv18 ?_
      refine M_iload_n (pc := 166) dX12_he_166 rfl ?_
      obtain ⟨r19, hr20, h⟩ := bnd h
      refine M_callVi (pc := 167) dX12_he_167 v_X12_358 rfl rfl at_11 (Nat.le_of_ble_eq_true rfl) (C_X12_wasHad (d := d + 0) hp hr20) (Nat.le_refl _) ?_
      refine M_if_eq (pc := 170) (tgt := 177) dX12_he_170 (by decide) (fun hc21 => ?_) (fun hc21 => ?_)
      · have h := (if_pos hc21).symm.trans h
        refine M_iconst (pc := 177) (v := 0) dX12_he_177 (by decide) ?_
        refine M_istore (pc := 178) (ls' := [some (.ref 205), none, some (.int x2), some (.int x3), some (.int x4), some (.int x5), some (.int (0 : Int32)), some (.int x7)]) dX12_he_178 (by decide) rfl ?_
        refine M_iinc (pc := 180) (v := (x7 + (1 : Int32))) (ls' := [some (.ref 205), none, some (.int x2), some (.int x3), some (.int x4), some (.int x5), some (.int (0 : Int32)), some (.int (x7 + (1 : Int32)))]) dX12_he_180 rfl rfl (by decide) rfl ?_
        refine M_goto (pc := 183) (tgt := 133) dX12_he_183 (by decide) ?_
        exact ih (0 : Int32) (x7 + (1 : Int32)) _ h hk
      · have h := (if_neg hc21).symm.trans h
        refine M_iconst (pc := 173) (v := 1) dX12_he_173 (by decide) ?_
        refine M_goto (pc := 174) (tgt := 178) dX12_he_174 (by decide) ?_
        refine M_istore (pc := 178) (ls' := [some (.ref 205), none, some (.int x2), some (.int x3), some (.int x4), some (.int x5), some (.int (1 : Int32)), some (.int x7)]) dX12_he_178 (by decide) rfl ?_
        refine M_iinc (pc := 180) (v := (x7 + (1 : Int32))) (ls' := [some (.ref 205), none, some (.int x2), some (.int x3), some (.int x4), some (.int x5), some (.int (1 : Int32)), some (.int (x7 + (1 : Int32)))]) dX12_he_180 rfl rfl (by decide) rfl ?_
        refine M_goto (pc := 183) (tgt := 133) dX12_he_183 (by decide) ?_
        exact ih (1 : Int32) (x7 + (1 : Int32)) _ h hk
set_option maxRecDepth 4000 in
set_option maxHeartbeats 4000000 in
theorem LC_X12_he_118 {g : gX} {d : Nat} {R : rX} {P : Nat → Nat → Option Nat} {J : HJ} {I : HI} {x2 : Int32} {x3 : Int32} (hp : Wp P) : ∀ (x4 : Int32) (x5 : Int32) (r : Int32 × Int32), L_X12_he_118 I x2 x3 x4 x5 = some r → M g mX12_he (d + 4) (NT, NT, 0) R 209 [some (.ref 205), none, some (.int x2), some (.int x3), some (.int r.1), some (.int r.2), none, none] [] (NT, I, J, P) → M g mX12_he (d + 4) (NT, NT, 0) R 118 [some (.ref 205), none, some (.int x2), some (.int x3), some (.int x4), some (.int x5), none, none] [] (NT, I, J, P) := by
  refine L_X12_he_118.partial_correctness I x2 x3 (fun x4 x5 r => M g mX12_he (d + 4) (NT, NT, 0) R 209 [some (.ref 205), none, some (.int x2), some (.int x3), some (.int r.1), some (.int r.2), none, none] [] (NT, I, J, P) → M g mX12_he (d + 4) (NT, NT, 0) R 118 [some (.ref 205), none, some (.int x2), some (.int x3), some (.int x4), some (.int x5), none, none] [] (NT, I, J, P)) ?_
  intro f ih x4 x5 r h hk
  refine M_iload (pc := 118) dX12_he_118 rfl ?_
  refine M_aload_n (pc := 120) dX12_he_120 rfl ?_
  refine M_getI (pc := 121) dX12_he_121 f_X12_84 at_11 ?_
  refine M_icmp_ge (pc := 124) (tgt := 209) dX12_he_124 (by decide) (fun hc10 => ?_) (fun hc10 => ?_)
  · have h := (if_pos hc10).symm.trans h
    obtain rfl := Option.some.inj h
    exact hk
  · have h := (if_neg hc10).symm.trans h
    refine M_iconst (pc := 127) (v := 0) dX12_he_127 (by decide) ?_
    refine M_istore (pc := 128) (ls' := [some (.ref 205), none, some (.int x2), some (.int x3), some (.int x4), some (.int x5), some (.int (0 : Int32)), none]) dX12_he_128 (by decide) rfl ?_
    refine M_iconst (pc := 130) (v := 0) dX12_he_130 (by decide) ?_
    refine M_istore (pc := 131) (ls' := [some (.ref 205), none, some (.int x2), some (.int x3), some (.int x4), some (.int x5), some (.int (0 : Int32)), some (.int (0 : Int32))]) dX12_he_131 (by decide) rfl ?_
    obtain ⟨r22, hr23, h⟩ := bnd h
    refine LC_X12_he_133 (P := P) hp (0 : Int32) (0 : Int32) _ hr23 ?_
    refine M_iload (pc := 186) dX12_he_186 rfl ?_
    refine M_if_eq (pc := 188) (tgt := 200) dX12_he_188 (by decide) (fun hc24 => ?_) (fun hc24 => ?_)
    · have h := (if_pos hc24).symm.trans h
      refine M_iconst (pc := 200) (v := 0) dX12_he_200 (by decide) ?_
      refine M_istore (pc := 201) (ls' := [some (.ref 205), none, some (.int x2), some (.int x3), some (.int (0 : Int32)), some (.int x5), some (.int r22.1), some (.int r22.2)]) dX12_he_201 (by decide) rfl ?_
      refine M_iinc (pc := 203) (v := (x5 + (2 : Int32))) (ls' := [some (.ref 205), none, some (.int x2), some (.int x3), some (.int (0 : Int32)), some (.int (x5 + (2 : Int32))), some (.int r22.1), some (.int r22.2)]) dX12_he_203 rfl rfl (by decide) rfl ?_
      refine M_goto (pc := 206) (tgt := 118) dX12_he_206 (by decide) ?_
      refine M_mask (pc := 118) [true, false, true, true, true, true, false, false] rfl ?_
      exact ih (0 : Int32) (x5 + (2 : Int32)) _ h hk
    · have h := (if_neg hc24).symm.trans h
      refine M_iload (pc := 191) dX12_he_191 rfl ?_
      refine M_if_eq (pc := 193) (tgt := 200) dX12_he_193 (by decide) (fun hc25 => ?_) (fun hc25 => ?_)
      · have h := (if_pos hc25).symm.trans h
        refine M_iconst (pc := 200) (v := 0) dX12_he_200 (by decide) ?_
        refine M_istore (pc := 201) (ls' := [some (.ref 205), none, some (.int x2), some (.int x3), some (.int (0 : Int32)), some (.int x5), some (.int r22.1), some (.int r22.2)]) dX12_he_201 (by decide) rfl ?_
        refine M_iinc (pc := 203) (v := (x5 + (2 : Int32))) (ls' := [some (.ref 205), none, some (.int x2), some (.int x3), some (.int (0 : Int32)), some (.int (x5 + (2 : Int32))), some (.int r22.1), some (.int r22.2)]) dX12_he_203 rfl rfl (by decide) rfl ?_
        refine M_goto (pc := 206) (tgt := 118) dX12_he_206 (by decide) ?_
        refine M_mask (pc := 118) [true, false, true, true, true, true, false, false] rfl ?_
        exact ih (0 : Int32) (x5 + (2 : Int32)) _ h hk
      · have h := (if_neg hc25).symm.trans h
        refine M_iconst (pc := 196) (v := 1) dX12_he_196 (by decide) ?_
        refine M_goto (pc := 197) (tgt := 201) dX12_he_197 (by decide) ?_
        refine M_istore (pc := 201) (ls' := [some (.ref 205), none, some (.int x2), some (.int x3), some (.int (1 : Int32)), some (.int x5), some (.int r22.1), some (.int r22.2)]) dX12_he_201 (by decide) rfl ?_
        refine M_iinc (pc := 203) (v := (x5 + (2 : Int32))) (ls' := [some (.ref 205), none, some (.int x2), some (.int x3), some (.int (1 : Int32)), some (.int (x5 + (2 : Int32))), some (.int r22.1), some (.int r22.2)]) dX12_he_203 rfl rfl (by decide) rfl ?_
        refine M_goto (pc := 206) (tgt := 118) dX12_he_206 (by decide) ?_
        refine M_mask (pc := 118) [true, false, true, true, true, true, false, false] rfl ?_
        exact ih (1 : Int32) (x5 + (2 : Int32)) _ h hk
set_option maxRecDepth 4000 in
set_option maxHeartbeats 4000000 in
theorem LC_X12_he_106 {g : gX} {d : Nat} {P : Nat → Nat → Option Nat} {J : HJ} {I : HI} (hp : Wp P) : ∀ (x2 : Int32) (x3 : Int32) (r : Int32 × HI), L_X12_he_106 I x2 x3 = some r → M g mX12_he (d + 4) (NT, NT, 0) ((.inl (some (.int r.1))), (NT, r.2, J, P)) 106 [some (.ref 205), none, some (.int x2), some (.int x3), none, none, none, none] [] (NT, I, J, P) := by
  refine L_X12_he_106.partial_correctness I (fun x2 x3 r => M g mX12_he (d + 4) (NT, NT, 0) ((.inl (some (.int r.1))), (NT, r.2, J, P)) 106 [some (.ref 205), none, some (.int x2), some (.int x3), none, none, none, none] [] (NT, I, J, P)) ?_
  intro f ih x2 x3 r h
  refine M_iload_n (pc := 106) dX12_he_106 rfl ?_
  refine M_bipush (pc := 107) (v := 8) dX12_he_107 (by decide) ?_
  refine M_icmp_ge (pc := 109) (tgt := 230) dX12_he_109 (by decide) (fun hc9 => ?_) (fun hc9 => ?_)
  · have h := (if_pos hc9).symm.trans h
    refine M_iload_n (pc := 230) dX12_he_230 rfl ?_
    obtain rfl := Option.some.inj h
    exact M_iret (pc := 231) dX12_he_231 rfl rfl rfl rfl
  · have h := (if_neg hc9).symm.trans h
    refine M_iconst (pc := 112) (v := 1) dX12_he_112 (by decide) ?_
    refine M_istore (pc := 113) (ls' := [some (.ref 205), none, some (.int x2), some (.int x3), some (.int (1 : Int32)), none, none, none]) dX12_he_113 (by decide) rfl ?_
    refine M_iconst (pc := 115) (v := 0) dX12_he_115 (by decide) ?_
    refine M_istore (pc := 116) (ls' := [some (.ref 205), none, some (.int x2), some (.int x3), some (.int (1 : Int32)), some (.int (0 : Int32)), none, none]) dX12_he_116 (by decide) rfl ?_
    obtain ⟨r26, hr27, h⟩ := bnd h
    refine LC_X12_he_118 (P := P) hp (1 : Int32) (0 : Int32) _ hr27 ?_
    refine M_iload_n (pc := 209) dX12_he_209 rfl ?_
    refine M_iload (pc := 210) dX12_he_210 rfl ?_
    refine M_if_eq (pc := 212) (tgt := 221) dX12_he_212 (by decide) (fun hc28 => ?_) (fun hc28 => ?_)
    · have h := (if_pos hc28).symm.trans h
      refine M_iconst (pc := 221) (v := 0) dX12_he_221 (by decide) ?_
      refine M_ior (pc := 222) dX12_he_222 ?_
      refine M_istore_n (pc := 223) (ls' := [some (.ref 205), none, some (.int (x2 ||| (0 : Int32))), some (.int x3), some (.int r26.1), some (.int r26.2), none, none]) dX12_he_223 (by decide) rfl ?_
      refine M_iinc (pc := 224) (v := (x3 + (1 : Int32))) (ls' := [some (.ref 205), none, some (.int (x2 ||| (0 : Int32))), some (.int (x3 + (1 : Int32))), some (.int r26.1), some (.int r26.2), none, none]) dX12_he_224 rfl rfl (by decide) rfl ?_
      refine M_goto (pc := 227) (tgt := 106) dX12_he_227 (by decide) ?_
      refine M_mask (pc := 106) [true, false, true, true, false, false, false, false] rfl ?_
      exact ih (x2 ||| (0 : Int32)) (x3 + (1 : Int32)) _ h
    · have h := (if_neg hc28).symm.trans h
      refine M_iconst (pc := 215) (v := 1) dX12_he_215 (by decide) ?_
      refine M_iload_n (pc := 216) dX12_he_216 rfl ?_
      refine M_ishl (pc := 217) dX12_he_217 ?_
      refine M_goto (pc := 218) (tgt := 222) dX12_he_218 (by decide) ?_
      refine M_ior (pc := 222) dX12_he_222 ?_
      refine M_istore_n (pc := 223) (ls' := [some (.ref 205), none, some (.int (x2 ||| ((1 : Int32) <<< (x3 &&& 31)))), some (.int x3), some (.int r26.1), some (.int r26.2), none, none]) dX12_he_223 (by decide) rfl ?_
      refine M_iinc (pc := 224) (v := (x3 + (1 : Int32))) (ls' := [some (.ref 205), none, some (.int (x2 ||| ((1 : Int32) <<< (x3 &&& 31)))), some (.int (x3 + (1 : Int32))), some (.int r26.1), some (.int r26.2), none, none]) dX12_he_224 rfl rfl (by decide) rfl ?_
      refine M_goto (pc := 227) (tgt := 106) dX12_he_227 (by decide) ?_
      refine M_mask (pc := 106) [true, false, true, true, false, false, false, false] rfl ?_
      exact ih (x2 ||| ((1 : Int32) <<< (x3 &&& 31))) (x3 + (1 : Int32)) _ h
set_option maxRecDepth 4000 in
set_option maxHeartbeats 4000000 in
theorem LC_X12_he_30 {g : gX} {d : Nat} {P : Nat → Nat → Option Nat} {J : HJ} {I : HI} (hp : Wp P) : ∀ (x1 : Int32) (x2 : Int32) (r : Int32 × HI), L_X12_he_30 I x1 x2 = some r → M g mX12_he (d + 4) (NT, NT, 0) ((.inl (some (.int r.1))), (NT, r.2, J, P)) 30 [some (.ref 205), some (.int x1), some (.int x2), none, none, none, none, none] [] (NT, I, J, P) := by
  refine L_X12_he_30.partial_correctness I (fun x1 x2 r => M g mX12_he (d + 4) (NT, NT, 0) ((.inl (some (.int r.1))), (NT, r.2, J, P)) 30 [some (.ref 205), some (.int x1), some (.int x2), none, none, none, none, none] [] (NT, I, J, P)) ?_
  intro f ih x1 x2 r h
  refine M_iload_n (pc := 30) dX12_he_30 rfl ?_
  refine M_aload_n (pc := 31) dX12_he_31 rfl ?_
  refine M_getI (pc := 32) dX12_he_32 f_X12_84 at_11 ?_
  refine M_icmp_ge (pc := 35) (tgt := 83) dX12_he_35 (by decide) (fun hc4 => ?_) (fun hc4 => ?_)
  · have h := (if_pos hc4).symm.trans h
    refine M_aload_n (pc := 83) dX12_he_83 rfl ?_
    refine M_iload_n (pc := 84) dX12_he_84 rfl ?_
    refine M_if_ne (pc := 85) (tgt := 92) dX12_he_85 (by decide) (fun hc5 => ?_) (fun hc5 => ?_)
    · have h := (if_neg hc5).symm.trans h
      refine M_iconst (pc := 92) (v := 0) dX12_he_92 (by decide) ?_
      refine M_iconst (pc := 93) (v := 1) dX12_he_93 (by decide) ?_
      obtain ⟨r6, hr7, h⟩ := bnd h
      refine M_callVi (pc := 94) dX12_he_94 v_X12_243 rfl rfl at_11 (Nat.le_of_ble_eq_true rfl) (C_X12_throwsIf (d := d + 3) hp hr7) (Nat.le_refl _) ?_
      refine M_if_eq (pc := 97) (tgt := 102) dX12_he_97 (by decide) (fun hc8 => ?_) (fun hc8 => ?_)
      · have h := (if_pos hc8).symm.trans h
        refine M_iconst (pc := 102) (v := 0) dX12_he_102 (by decide) ?_
        refine M_istore_n (pc := 103) (ls' := [some (.ref 205), some (.int x1), some (.int (0 : Int32)), none, none, none, none, none]) dX12_he_103 (by decide) rfl ?_
        refine M_iconst (pc := 104) (v := 0) dX12_he_104 (by decide) ?_
        refine M_istore_n (pc := 105) (ls' := [some (.ref 205), some (.int x1), some (.int (0 : Int32)), some (.int (0 : Int32)), none, none, none, none]) dX12_he_105 (by decide) rfl ?_
        refine M_mask (pc := 106) [true, false, true, true, false, false, false, false] rfl ?_
        exact LC_X12_he_106 (P := P) hp (0 : Int32) (0 : Int32) _ h
      · have h := (if_neg hc8).symm.trans h
        refine M_iconst (pc := 100) (v := 0) dX12_he_100 (by decide) ?_
        obtain rfl := Option.some.inj h
        exact M_iret (pc := 101) dX12_he_101 rfl rfl rfl rfl
    · have h := (if_pos hc5).symm.trans h
      refine M_iconst (pc := 88) (v := 1) dX12_he_88 (by decide) ?_
      refine M_goto (pc := 89) (tgt := 93) dX12_he_89 (by decide) ?_
      refine M_iconst (pc := 93) (v := 1) dX12_he_93 (by decide) ?_
      obtain ⟨r29, hr30, h⟩ := bnd h
      refine M_callVi (pc := 94) dX12_he_94 v_X12_243 rfl rfl at_11 (Nat.le_of_ble_eq_true rfl) (C_X12_throwsIf (d := d + 3) hp hr30) (Nat.le_refl _) ?_
      refine M_if_eq (pc := 97) (tgt := 102) dX12_he_97 (by decide) (fun hc31 => ?_) (fun hc31 => ?_)
      · have h := (if_pos hc31).symm.trans h
        refine M_iconst (pc := 102) (v := 0) dX12_he_102 (by decide) ?_
        refine M_istore_n (pc := 103) (ls' := [some (.ref 205), some (.int x1), some (.int (0 : Int32)), none, none, none, none, none]) dX12_he_103 (by decide) rfl ?_
        refine M_iconst (pc := 104) (v := 0) dX12_he_104 (by decide) ?_
        refine M_istore_n (pc := 105) (ls' := [some (.ref 205), some (.int x1), some (.int (0 : Int32)), some (.int (0 : Int32)), none, none, none, none]) dX12_he_105 (by decide) rfl ?_
        refine M_mask (pc := 106) [true, false, true, true, false, false, false, false] rfl ?_
        exact LC_X12_he_106 (P := P) hp (0 : Int32) (0 : Int32) _ h
      · have h := (if_neg hc31).symm.trans h
        refine M_iconst (pc := 100) (v := 0) dX12_he_100 (by decide) ?_
        obtain rfl := Option.some.inj h
        exact M_iret (pc := 101) dX12_he_101 rfl rfl rfl rfl
  · have h := (if_neg hc4).symm.trans h
    refine M_iload_n (pc := 38) dX12_he_38 rfl ?_
    refine M_if_eq (pc := 39) (tgt := 83) dX12_he_39 (by decide) (fun hc32 => ?_) (fun hc32 => ?_)
    · have h := (if_pos hc32).symm.trans h
      refine M_aload_n (pc := 83) dX12_he_83 rfl ?_
      refine M_iload_n (pc := 84) dX12_he_84 rfl ?_
      refine M_if_ne (pc := 85) (tgt := 92) dX12_he_85 (by decide) (fun hc33 => ?_) (fun hc33 => ?_)
      · have h := (if_neg hc33).symm.trans h
        refine M_iconst (pc := 92) (v := 0) dX12_he_92 (by decide) ?_
        refine M_iconst (pc := 93) (v := 1) dX12_he_93 (by decide) ?_
        obtain ⟨r34, hr35, h⟩ := bnd h
        refine M_callVi (pc := 94) dX12_he_94 v_X12_243 rfl rfl at_11 (Nat.le_of_ble_eq_true rfl) (C_X12_throwsIf (d := d + 3) hp hr35) (Nat.le_refl _) ?_
        refine M_if_eq (pc := 97) (tgt := 102) dX12_he_97 (by decide) (fun hc36 => ?_) (fun hc36 => ?_)
        · have h := (if_pos hc36).symm.trans h
          refine M_iconst (pc := 102) (v := 0) dX12_he_102 (by decide) ?_
          refine M_istore_n (pc := 103) (ls' := [some (.ref 205), some (.int x1), some (.int (0 : Int32)), none, none, none, none, none]) dX12_he_103 (by decide) rfl ?_
          refine M_iconst (pc := 104) (v := 0) dX12_he_104 (by decide) ?_
          refine M_istore_n (pc := 105) (ls' := [some (.ref 205), some (.int x1), some (.int (0 : Int32)), some (.int (0 : Int32)), none, none, none, none]) dX12_he_105 (by decide) rfl ?_
          refine M_mask (pc := 106) [true, false, true, true, false, false, false, false] rfl ?_
          exact LC_X12_he_106 (P := P) hp (0 : Int32) (0 : Int32) _ h
        · have h := (if_neg hc36).symm.trans h
          refine M_iconst (pc := 100) (v := 0) dX12_he_100 (by decide) ?_
          obtain rfl := Option.some.inj h
          exact M_iret (pc := 101) dX12_he_101 rfl rfl rfl rfl
      · have h := (if_pos hc33).symm.trans h
        refine M_iconst (pc := 88) (v := 1) dX12_he_88 (by decide) ?_
        refine M_goto (pc := 89) (tgt := 93) dX12_he_89 (by decide) ?_
        refine M_iconst (pc := 93) (v := 1) dX12_he_93 (by decide) ?_
        obtain ⟨r37, hr38, h⟩ := bnd h
        refine M_callVi (pc := 94) dX12_he_94 v_X12_243 rfl rfl at_11 (Nat.le_of_ble_eq_true rfl) (C_X12_throwsIf (d := d + 3) hp hr38) (Nat.le_refl _) ?_
        refine M_if_eq (pc := 97) (tgt := 102) dX12_he_97 (by decide) (fun hc39 => ?_) (fun hc39 => ?_)
        · have h := (if_pos hc39).symm.trans h
          refine M_iconst (pc := 102) (v := 0) dX12_he_102 (by decide) ?_
          refine M_istore_n (pc := 103) (ls' := [some (.ref 205), some (.int x1), some (.int (0 : Int32)), none, none, none, none, none]) dX12_he_103 (by decide) rfl ?_
          refine M_iconst (pc := 104) (v := 0) dX12_he_104 (by decide) ?_
          refine M_istore_n (pc := 105) (ls' := [some (.ref 205), some (.int x1), some (.int (0 : Int32)), some (.int (0 : Int32)), none, none, none, none]) dX12_he_105 (by decide) rfl ?_
          refine M_mask (pc := 106) [true, false, true, true, false, false, false, false] rfl ?_
          exact LC_X12_he_106 (P := P) hp (0 : Int32) (0 : Int32) _ h
        · have h := (if_neg hc39).symm.trans h
          refine M_iconst (pc := 100) (v := 0) dX12_he_100 (by decide) ?_
          obtain rfl := Option.some.inj h
          exact M_iret (pc := 101) dX12_he_101 rfl rfl rfl rfl
    · have h := (if_neg hc32).symm.trans h
      refine M_aload_n (pc := 42) dX12_he_42 rfl ?_
      refine M_getR (pc := 43) dX12_he_43 f_X12_29 at_11 (gc_205_8 hp).1 ?_
      refine M_iload_n (pc := 46) dX12_he_46 rfl ?_
      obtain ⟨v40, hv41, h⟩ := bnd h
      refine M_aldB (pc := 47) dX12_he_47 (gc_205_8 hp).2 hv41 ?_
      refine M_iconst (pc := 48) (v := 0) dX12_he_48 (by decide) ?_
      refine M_bipush (pc := 49) (v := 99) dX12_he_49 (by decide) ?_
      obtain ⟨r42, hr43, h⟩ := bnd h
      refine M_callSi (pc := 51) dX12_he_51 s_X12_73 rfl rfl (Nat.le_of_ble_eq_true rfl) (C_X12_in (d := d + 3) hp hr43) (Nat.le_refl _) ?_
      refine M_if_eq (pc := 54) (tgt := 75) dX12_he_54 (by decide) (fun hc44 => ?_) (fun hc44 => ?_)
      · have h := (if_pos hc44).symm.trans h
        refine M_iconst (pc := 75) (v := 0) dX12_he_75 (by decide) ?_
        refine M_istore_n (pc := 76) (ls' := [some (.ref 205), some (.int (0 : Int32)), some (.int x2), none, none, none, none, none]) dX12_he_76 (by decide) rfl ?_
        refine M_iinc (pc := 77) (v := (x2 + (2 : Int32))) (ls' := [some (.ref 205), some (.int (0 : Int32)), some (.int (x2 + (2 : Int32))), none, none, none, none, none]) dX12_he_77 rfl rfl (by decide) rfl ?_
        refine M_goto (pc := 80) (tgt := 30) dX12_he_80 (by decide) ?_
        exact ih (0 : Int32) (x2 + (2 : Int32)) _ h
      · have h := (if_neg hc44).symm.trans h
        refine M_aload_n (pc := 57) dX12_he_57 rfl ?_
        refine M_getR (pc := 58) dX12_he_58 f_X12_29 at_11 (gc_205_8 hp).1 ?_
        refine M_iload_n (pc := 61) dX12_he_61 rfl ?_
        refine M_iconst (pc := 62) (v := 1) dX12_he_62 (by decide) ?_
        refine M_iadd (pc := 63) dX12_he_63 ?_
        obtain ⟨v45, hv46, h⟩ := bnd h
        refine M_aldB (pc := 64) dX12_he_64 (gc_205_8 hp).2 hv46 ?_
        obtain ⟨r47, hr48, h⟩ := bnd h
        refine M_callSi (pc := 65) dX12_he_65 s_X12_314 rfl rfl (Nat.le_of_ble_eq_true rfl) (C_X12_noPlace (d := d + 2) hp hr48) (Nat.le_refl _) ?_
        refine M_if_ne (pc := 68) (tgt := 75) dX12_he_68 (by decide) (fun hc49 => ?_) (fun hc49 => ?_)
        · have h := (if_neg hc49).symm.trans h
          refine M_iconst (pc := 75) (v := 0) dX12_he_75 (by decide) ?_
          refine M_istore_n (pc := 76) (ls' := [some (.ref 205), some (.int (0 : Int32)), some (.int x2), none, none, none, none, none]) dX12_he_76 (by decide) rfl ?_
          refine M_iinc (pc := 77) (v := (x2 + (2 : Int32))) (ls' := [some (.ref 205), some (.int (0 : Int32)), some (.int (x2 + (2 : Int32))), none, none, none, none, none]) dX12_he_77 rfl rfl (by decide) rfl ?_
          refine M_goto (pc := 80) (tgt := 30) dX12_he_80 (by decide) ?_
          exact ih (0 : Int32) (x2 + (2 : Int32)) _ h
        · have h := (if_pos hc49).symm.trans h
          refine M_iconst (pc := 71) (v := 1) dX12_he_71 (by decide) ?_
          refine M_goto (pc := 72) (tgt := 76) dX12_he_72 (by decide) ?_
          refine M_istore_n (pc := 76) (ls' := [some (.ref 205), some (.int (1 : Int32)), some (.int x2), none, none, none, none, none]) dX12_he_76 (by decide) rfl ?_
          refine M_iinc (pc := 77) (v := (x2 + (2 : Int32))) (ls' := [some (.ref 205), some (.int (1 : Int32)), some (.int (x2 + (2 : Int32))), none, none, none, none, none]) dX12_he_77 rfl rfl (by decide) rfl ?_
          refine M_goto (pc := 80) (tgt := 30) dX12_he_80 (by decide) ?_
          exact ih (1 : Int32) (x2 + (2 : Int32)) _ h
set_option maxRecDepth 4000 in
set_option maxHeartbeats 4000000 in
theorem C_X12_he {g : gX} {d : Nat} {P : Nat → Nat → Option Nat} {I : HI} {J : HJ} (hp : Wp P) {r : Int32 × HI} (h : F_X12_he I = some r) : Cm g mX12_he (d + 4) [.ref 205] (NT, I, J, P) (some (.int r.1)) (NT, r.2, J, P) := by
  unfold F_X12_he at h
  refine Cm.of (by decide) (by simp [Value.category]) (Nat.le_of_ble_eq_true rfl) (Nat.le_refl _) (ls := [some (.ref 205), none, none, none, none, none, none, none]) rfl ?_
  refine M_aload_n (pc := 0) dX12_he_0 rfl ?_
  obtain ⟨r1, hr2, h⟩ := bnd h
  refine M_callVv (pc := 1) dX12_he_1 v_X12_232 rfl rfl at_11 (Nat.le_of_ble_eq_true rfl) (C_X12_uses (d := d + 3) hp hr2) (Nat.le_refl _) ?_
  refine M_aload_n (pc := 4) dX12_he_4 rfl ?_
  refine M_getI (pc := 5) dX12_he_5 f_X12_84 at_11 ?_
  refine M_iconst (pc := 8) (v := 2) dX12_he_8 (by decide) ?_
  refine M_irem (pc := 9) dX12_he_9 (by decide) ?_
  refine M_if_ne (pc := 10) (tgt := 26) dX12_he_10 (by decide) (fun hc3 => ?_) (fun hc3 => ?_)
  · have h := (if_neg hc3).symm.trans h
    refine M_iconst (pc := 26) (v := 0) dX12_he_26 (by decide) ?_
    refine M_istore_n (pc := 27) (ls' := [some (.ref 205), some (.int (0 : Int32)), none, none, none, none, none, none]) dX12_he_27 (by decide) rfl ?_
    refine M_iconst (pc := 28) (v := 0) dX12_he_28 (by decide) ?_
    refine M_istore_n (pc := 29) (ls' := [some (.ref 205), some (.int (0 : Int32)), some (.int (0 : Int32)), none, none, none, none, none]) dX12_he_29 (by decide) rfl ?_
    exact LC_X12_he_30 (P := P) hp (0 : Int32) (0 : Int32) _ h
  · have h := (if_pos hc3).symm.trans h
    refine M_aload_n (pc := 13) dX12_he_13 rfl ?_
    refine M_getI (pc := 14) dX12_he_14 f_X12_84 at_11 ?_
    refine M_bipush (pc := 17) (v := 40) dX12_he_17 (by decide) ?_
    refine M_icmp_gt (pc := 19) (tgt := 26) dX12_he_19 (by decide) (fun hc50 => ?_) (fun hc50 => ?_)
    · have h := (if_pos hc50).symm.trans h
      refine M_iconst (pc := 26) (v := 0) dX12_he_26 (by decide) ?_
      refine M_istore_n (pc := 27) (ls' := [some (.ref 205), some (.int (0 : Int32)), none, none, none, none, none, none]) dX12_he_27 (by decide) rfl ?_
      refine M_iconst (pc := 28) (v := 0) dX12_he_28 (by decide) ?_
      refine M_istore_n (pc := 29) (ls' := [some (.ref 205), some (.int (0 : Int32)), some (.int (0 : Int32)), none, none, none, none, none]) dX12_he_29 (by decide) rfl ?_
      exact LC_X12_he_30 (P := P) hp (0 : Int32) (0 : Int32) _ h
    · have h := (if_neg hc50).symm.trans h
      refine M_iconst (pc := 22) (v := 1) dX12_he_22 (by decide) ?_
      refine M_goto (pc := 23) (tgt := 27) dX12_he_23 (by decide) ?_
      refine M_istore_n (pc := 27) (ls' := [some (.ref 205), some (.int (1 : Int32)), none, none, none, none, none, none]) dX12_he_27 (by decide) rfl ?_
      refine M_iconst (pc := 28) (v := 0) dX12_he_28 (by decide) ?_
      refine M_istore_n (pc := 29) (ls' := [some (.ref 205), some (.int (1 : Int32)), some (.int (0 : Int32)), none, none, none, none, none]) dX12_he_29 (by decide) rfl ?_
      exact LC_X12_he_30 (P := P) hp (1 : Int32) (0 : Int32) _ h
def L_X12_fits_16 (I : HI) (x1 : Int32) (x2 : Int32) (x3 : Int32) : Option (Int32) :=
  if (I 205 11) ≤ x3 then if x2 = 0 ∨ x2 = 1 then some x2 else none else if x2 = 0 then if x2 = 0 ∨ x2 = 1 then some x2 else none else (ald 400 (I 211) x3) >>= fun v8 => (F_X12_of I x1 (5 : Int32)) >>= fun r10 => (F_X12_in I ((v8 &&& (255 : Int32)) - (r10 / (10 : Int32))) (0 : Int32) (1 : Int32)) >>= fun r12 => L_X12_fits_16 I x1 r12 (x3 + (1 : Int32))
partial_fixpoint
def F_X12_fits (I : HI) (x1 : Int32) : Option (Int32) :=
  (F_X12_isNew I x1) >>= fun r1 => if r1 = 0 then L_X12_fits_16 I x1 (1 : Int32) (0 : Int32) else L_X12_fits_16 I x1 (0 : Int32) (0 : Int32)
set_option maxRecDepth 4000 in
set_option maxHeartbeats 4000000 in
theorem LC_X12_fits_16 {g : gX} {d : Nat} {P : Nat → Nat → Option Nat} {J : HJ} {I : HI} {x1 : Int32} (hp : Wp P) : ∀ (x2 : Int32) (x3 : Int32) (r : Int32), L_X12_fits_16 I x1 x2 x3 = some r → M g mX12_fits (d + 3) (NT, NT, 0) ((.inl (some (.int r))), (NT, I, J, P)) 16 [some (.ref 205), some (.int x1), some (.int x2), some (.int x3)] [] (NT, I, J, P) := by
  refine L_X12_fits_16.partial_correctness I x1 (fun x2 x3 r => M g mX12_fits (d + 3) (NT, NT, 0) ((.inl (some (.int r))), (NT, I, J, P)) 16 [some (.ref 205), some (.int x1), some (.int x2), some (.int x3)] [] (NT, I, J, P)) ?_
  intro f ih x2 x3 r h
  refine M_iload_n (pc := 16) dX12_fits_16 rfl ?_
  refine M_aload_n (pc := 17) dX12_fits_17 rfl ?_
  refine M_getI (pc := 18) dX12_fits_18 f_X12_84 at_11 ?_
  refine M_icmp_ge (pc := 21) (tgt := 60) dX12_fits_21 (by decide) (fun hc4 => ?_) (fun hc4 => ?_)
  · have h := (if_pos hc4).symm.trans h
    refine M_iload_n (pc := 60) dX12_fits_60 rfl ?_
    obtain ⟨hq5, h⟩ := chk h
    obtain rfl := Option.some.inj h
    exact M_iret (pc := 61) dX12_fits_61 rfl (by rcases hq5 with q | q <;> rw [q] <;> rfl) rfl rfl
  · have h := (if_neg hc4).symm.trans h
    refine M_iload_n (pc := 24) dX12_fits_24 rfl ?_
    refine M_if_eq (pc := 25) (tgt := 60) dX12_fits_25 (by decide) (fun hc6 => ?_) (fun hc6 => ?_)
    · have h := (if_pos hc6).symm.trans h
      refine M_iload_n (pc := 60) dX12_fits_60 rfl ?_
      obtain ⟨hq7, h⟩ := chk h
      obtain rfl := Option.some.inj h
      exact M_iret (pc := 61) dX12_fits_61 rfl (by rcases hq7 with q | q <;> rw [q] <;> rfl) rfl rfl
    · have h := (if_neg hc6).symm.trans h
      refine M_aload_n (pc := 28) dX12_fits_28 rfl ?_
      refine M_getR (pc := 29) dX12_fits_29 f_X12_29 at_11 (gc_205_8 hp).1 ?_
      refine M_iload_n (pc := 32) dX12_fits_32 rfl ?_
      obtain ⟨v8, hv9, h⟩ := bnd h
      refine M_aldB (pc := 33) dX12_fits_33 (gc_205_8 hp).2 hv9 ?_
      refine M_sipush (pc := 34) (v := 255) dX12_fits_34 (by decide) ?_
      refine M_iand (pc := 37) dX12_fits_37 ?_
      refine M_aload_n (pc := 38) dX12_fits_38 rfl ?_
      refine M_iload_n (pc := 39) dX12_fits_39 rfl ?_
      refine M_iconst (pc := 40) (v := 5) dX12_fits_40 (by decide) ?_
      obtain ⟨r10, hr11, h⟩ := bnd h
      refine M_callVi (pc := 41) dX12_fits_41 v_X12_70 rfl rfl at_11 (Nat.le_of_ble_eq_true rfl) (C_X12_of (d := d + 1) hp hr11) (Nat.le_refl _) ?_
      refine M_bipush (pc := 44) (v := 10) dX12_fits_44 (by decide) ?_
      refine M_idiv (pc := 46) dX12_fits_46 (by decide) ?_
      refine M_isub (pc := 47) dX12_fits_47 ?_
      refine M_iconst (pc := 48) (v := 0) dX12_fits_48 (by decide) ?_
      refine M_iconst (pc := 49) (v := 1) dX12_fits_49 (by decide) ?_
      obtain ⟨r12, hr13, h⟩ := bnd h
      refine M_callSi (pc := 50) dX12_fits_50 s_X12_73 rfl rfl (Nat.le_of_ble_eq_true rfl) (C_X12_in (d := d + 2) hp hr13) (Nat.le_refl _) ?_
      refine M_istore_n (pc := 53) (ls' := [some (.ref 205), some (.int x1), some (.int r12), some (.int x3)]) dX12_fits_53 (by decide) rfl ?_
      refine M_iinc (pc := 54) (v := (x3 + (1 : Int32))) (ls' := [some (.ref 205), some (.int x1), some (.int r12), some (.int (x3 + (1 : Int32)))]) dX12_fits_54 rfl rfl (by decide) rfl ?_
      refine M_goto (pc := 57) (tgt := 16) dX12_fits_57 (by decide) ?_
      exact ih r12 (x3 + (1 : Int32)) _ h
set_option maxRecDepth 4000 in
set_option maxHeartbeats 4000000 in
theorem C_X12_fits {g : gX} {d : Nat} {P : Nat → Nat → Option Nat} {I : HI} {x1 : Int32} {J : HJ} (hp : Wp P) {r : Int32} (h : F_X12_fits I x1 = some r) : Cm g mX12_fits (d + 3) [.ref 205, .int x1] (NT, I, J, P) (some (.int r)) (NT, I, J, P) := by
  unfold F_X12_fits at h
  refine Cm.of (by decide) (by simp [Value.category]) (Nat.le_of_ble_eq_true rfl) (Nat.le_refl _) (ls := [some (.ref 205), some (.int x1), none, none]) rfl ?_
  refine M_aload_n (pc := 0) dX12_fits_0 rfl ?_
  refine M_iload_n (pc := 1) dX12_fits_1 rfl ?_
  obtain ⟨r1, hr2, h⟩ := bnd h
  refine M_callVi (pc := 2) dX12_fits_2 v_X12_252 rfl rfl at_11 (Nat.le_of_ble_eq_true rfl) (C_X12_isNew (d := d + 0) hp hr2) (Nat.le_refl _) ?_
  refine M_if_ne (pc := 5) (tgt := 12) dX12_fits_5 (by decide) (fun hc3 => ?_) (fun hc3 => ?_)
  · have h := (if_neg hc3).symm.trans h
    refine M_iconst (pc := 12) (v := 0) dX12_fits_12 (by decide) ?_
    refine M_istore_n (pc := 13) (ls' := [some (.ref 205), some (.int x1), some (.int (0 : Int32)), none]) dX12_fits_13 (by decide) rfl ?_
    refine M_iconst (pc := 14) (v := 0) dX12_fits_14 (by decide) ?_
    refine M_istore_n (pc := 15) (ls' := [some (.ref 205), some (.int x1), some (.int (0 : Int32)), some (.int (0 : Int32))]) dX12_fits_15 (by decide) rfl ?_
    exact LC_X12_fits_16 (P := P) hp (0 : Int32) (0 : Int32) _ h
  · have h := (if_pos hc3).symm.trans h
    refine M_iconst (pc := 8) (v := 1) dX12_fits_8 (by decide) ?_
    refine M_goto (pc := 9) (tgt := 13) dX12_fits_9 (by decide) ?_
    refine M_istore_n (pc := 13) (ls' := [some (.ref 205), some (.int x1), some (.int (1 : Int32)), none]) dX12_fits_13 (by decide) rfl ?_
    refine M_iconst (pc := 14) (v := 0) dX12_fits_14 (by decide) ?_
    refine M_istore_n (pc := 15) (ls' := [some (.ref 205), some (.int x1), some (.int (1 : Int32)), some (.int (0 : Int32))]) dX12_fits_15 (by decide) rfl ?_
    exact LC_X12_fits_16 (P := P) hp (1 : Int32) (0 : Int32) _ h
def L_X12_allThatFit_4 (I : HI) (x1 : Int32) (x2 : Int32) : Option (Int32) :=
  (F_X12_dishes I) >>= fun r1 => if r1 ≤ x2 then some x1 else (F_X12_fits I x2) >>= fun r4 => if r4 = 0 then L_X12_allThatFit_4 I (x1 ||| (0 : Int32)) (x2 + (1 : Int32)) else L_X12_allThatFit_4 I (x1 ||| ((1 : Int32) <<< (x2 &&& 31))) (x2 + (1 : Int32))
partial_fixpoint
def F_X12_allThatFit (I : HI) : Option (Int32) :=
  L_X12_allThatFit_4 I (0 : Int32) (0 : Int32)
set_option maxRecDepth 4000 in
set_option maxHeartbeats 4000000 in
theorem LC_X12_allThatFit_4 {g : gX} {d : Nat} {P : Nat → Nat → Option Nat} {J : HJ} {I : HI} (hp : Wp P) : ∀ (x1 : Int32) (x2 : Int32) (r : Int32), L_X12_allThatFit_4 I x1 x2 = some r → M g mX12_allThatFit (d + 4) (NT, NT, 0) ((.inl (some (.int r))), (NT, I, J, P)) 4 [some (.ref 205), some (.int x1), some (.int x2)] [] (NT, I, J, P) := by
  refine L_X12_allThatFit_4.partial_correctness I (fun x1 x2 r => M g mX12_allThatFit (d + 4) (NT, NT, 0) ((.inl (some (.int r))), (NT, I, J, P)) 4 [some (.ref 205), some (.int x1), some (.int x2)] [] (NT, I, J, P)) ?_
  intro f ih x1 x2 r h
  refine M_iload_n (pc := 4) dX12_allThatFit_4 rfl ?_
  refine M_aload_n (pc := 5) dX12_allThatFit_5 rfl ?_
  obtain ⟨r1, hr2, h⟩ := bnd h
  refine M_callVi (pc := 6) dX12_allThatFit_6 v_X12_62 rfl rfl at_11 (Nat.le_of_ble_eq_true rfl) (C_X12_dishes (d := d + 3) hp hr2) (Nat.le_refl _) ?_
  refine M_icmp_ge (pc := 9) (tgt := 36) dX12_allThatFit_9 (by decide) (fun hc3 => ?_) (fun hc3 => ?_)
  · have h := (if_pos hc3).symm.trans h
    refine M_iload_n (pc := 36) dX12_allThatFit_36 rfl ?_
    obtain rfl := Option.some.inj h
    exact M_iret (pc := 37) dX12_allThatFit_37 rfl rfl rfl rfl
  · have h := (if_neg hc3).symm.trans h
    refine M_iload_n (pc := 12) dX12_allThatFit_12 rfl ?_
    refine M_aload_n (pc := 13) dX12_allThatFit_13 rfl ?_
    refine M_iload_n (pc := 14) dX12_allThatFit_14 rfl ?_
    obtain ⟨r4, hr5, h⟩ := bnd h
    refine M_callVi (pc := 15) dX12_allThatFit_15 v_X12_362 rfl rfl at_11 (Nat.le_of_ble_eq_true rfl) (C_X12_fits (d := d + 0) hp hr5) (Nat.le_refl _) ?_
    refine M_if_eq (pc := 18) (tgt := 27) dX12_allThatFit_18 (by decide) (fun hc6 => ?_) (fun hc6 => ?_)
    · have h := (if_pos hc6).symm.trans h
      refine M_iconst (pc := 27) (v := 0) dX12_allThatFit_27 (by decide) ?_
      refine M_ior (pc := 28) dX12_allThatFit_28 ?_
      refine M_istore_n (pc := 29) (ls' := [some (.ref 205), some (.int (x1 ||| (0 : Int32))), some (.int x2)]) dX12_allThatFit_29 (by decide) rfl ?_
      refine M_iinc (pc := 30) (v := (x2 + (1 : Int32))) (ls' := [some (.ref 205), some (.int (x1 ||| (0 : Int32))), some (.int (x2 + (1 : Int32)))]) dX12_allThatFit_30 rfl rfl (by decide) rfl ?_
      refine M_goto (pc := 33) (tgt := 4) dX12_allThatFit_33 (by decide) ?_
      exact ih (x1 ||| (0 : Int32)) (x2 + (1 : Int32)) _ h
    · have h := (if_neg hc6).symm.trans h
      refine M_iconst (pc := 21) (v := 1) dX12_allThatFit_21 (by decide) ?_
      refine M_iload_n (pc := 22) dX12_allThatFit_22 rfl ?_
      refine M_ishl (pc := 23) dX12_allThatFit_23 ?_
      refine M_goto (pc := 24) (tgt := 28) dX12_allThatFit_24 (by decide) ?_
      refine M_ior (pc := 28) dX12_allThatFit_28 ?_
      refine M_istore_n (pc := 29) (ls' := [some (.ref 205), some (.int (x1 ||| ((1 : Int32) <<< (x2 &&& 31)))), some (.int x2)]) dX12_allThatFit_29 (by decide) rfl ?_
      refine M_iinc (pc := 30) (v := (x2 + (1 : Int32))) (ls' := [some (.ref 205), some (.int (x1 ||| ((1 : Int32) <<< (x2 &&& 31)))), some (.int (x2 + (1 : Int32)))]) dX12_allThatFit_30 rfl rfl (by decide) rfl ?_
      refine M_goto (pc := 33) (tgt := 4) dX12_allThatFit_33 (by decide) ?_
      exact ih (x1 ||| ((1 : Int32) <<< (x2 &&& 31))) (x2 + (1 : Int32)) _ h
set_option maxRecDepth 4000 in
set_option maxHeartbeats 4000000 in
theorem C_X12_allThatFit {g : gX} {d : Nat} {P : Nat → Nat → Option Nat} {I : HI} {J : HJ} (hp : Wp P) {r : Int32} (h : F_X12_allThatFit I = some r) : Cm g mX12_allThatFit (d + 4) [.ref 205] (NT, I, J, P) (some (.int r)) (NT, I, J, P) := by
  unfold F_X12_allThatFit at h
  refine Cm.of (by decide) (by simp [Value.category]) (Nat.le_of_ble_eq_true rfl) (Nat.le_refl _) (ls := [some (.ref 205), none, none]) rfl ?_
  refine M_iconst (pc := 0) (v := 0) dX12_allThatFit_0 (by decide) ?_
  refine M_istore_n (pc := 1) (ls' := [some (.ref 205), some (.int (0 : Int32)), none]) dX12_allThatFit_1 (by decide) rfl ?_
  refine M_iconst (pc := 2) (v := 0) dX12_allThatFit_2 (by decide) ?_
  refine M_istore_n (pc := 3) (ls' := [some (.ref 205), some (.int (0 : Int32)), some (.int (0 : Int32))]) dX12_allThatFit_3 (by decide) rfl ?_
  exact LC_X12_allThatFit_4 (P := P) hp (0 : Int32) (0 : Int32) _ h
def F_X12_unknown (I : HI) : Option (Int32 × HI) :=
  (F_X12_uses I) >>= fun r1 => if (r1 205 11) ≤ (20 : Int32) then (F_X12_throwsIf r1 (0 : Int32) (1 : Int32)) >>= fun r4 => if r4.1 = 0 then (F_X12_allThatFit r4.2) >>= fun r7 => some (r7, r4.2) else some ((0 : Int32), r4.2) else (F_X12_throwsIf r1 (1 : Int32) (1 : Int32)) >>= fun r9 => if r9.1 = 0 then (F_X12_allThatFit r9.2) >>= fun r12 => some (r12, r9.2) else some ((0 : Int32), r9.2)
set_option maxRecDepth 4000 in
set_option maxHeartbeats 4000000 in
theorem C_X12_unknown {g : gX} {d : Nat} {P : Nat → Nat → Option Nat} {I : HI} {J : HJ} (hp : Wp P) {r : Int32 × HI} (h : F_X12_unknown I = some r) : Cm g mX12_unknown (d + 5) [.ref 205] (NT, I, J, P) (some (.int r.1)) (NT, r.2, J, P) := by
  unfold F_X12_unknown at h
  refine Cm.of (by decide) (by simp [Value.category]) (Nat.le_of_ble_eq_true rfl) (Nat.le_refl _) (ls := [some (.ref 205)]) rfl ?_
  refine M_aload_n (pc := 0) dX12_unknown_0 rfl ?_
  obtain ⟨r1, hr2, h⟩ := bnd h
  refine M_callVv (pc := 1) dX12_unknown_1 v_X12_232 rfl rfl at_11 (Nat.le_of_ble_eq_true rfl) (C_X12_uses (d := d + 4) hp hr2) (Nat.le_refl _) ?_
  refine M_aload_n (pc := 4) dX12_unknown_4 rfl ?_
  refine M_aload_n (pc := 5) dX12_unknown_5 rfl ?_
  refine M_getI (pc := 6) dX12_unknown_6 f_X12_84 at_11 ?_
  refine M_bipush (pc := 9) (v := 20) dX12_unknown_9 (by decide) ?_
  refine M_icmp_le (pc := 11) (tgt := 18) dX12_unknown_11 (by decide) (fun hc3 => ?_) (fun hc3 => ?_)
  · have h := (if_pos hc3).symm.trans h
    refine M_iconst (pc := 18) (v := 0) dX12_unknown_18 (by decide) ?_
    refine M_iconst (pc := 19) (v := 1) dX12_unknown_19 (by decide) ?_
    obtain ⟨r4, hr5, h⟩ := bnd h
    refine M_callVi (pc := 20) dX12_unknown_20 v_X12_243 rfl rfl at_11 (Nat.le_of_ble_eq_true rfl) (C_X12_throwsIf (d := d + 4) hp hr5) (Nat.le_refl _) ?_
    refine M_if_eq (pc := 23) (tgt := 30) dX12_unknown_23 (by decide) (fun hc6 => ?_) (fun hc6 => ?_)
    · have h := (if_pos hc6).symm.trans h
      refine M_aload_n (pc := 30) dX12_unknown_30 rfl ?_
      obtain ⟨r7, hr8, h⟩ := bnd h
      refine M_callVi (pc := 31) dX12_unknown_31 v_X12_365 rfl rfl at_11 (Nat.le_of_ble_eq_true rfl) (C_X12_allThatFit (d := d + 0) hp hr8) (Nat.le_refl _) ?_
      obtain rfl := Option.some.inj h
      exact M_iret (pc := 34) dX12_unknown_34 rfl rfl rfl rfl
    · have h := (if_neg hc6).symm.trans h
      refine M_iconst (pc := 26) (v := 0) dX12_unknown_26 (by decide) ?_
      refine M_goto (pc := 27) (tgt := 34) dX12_unknown_27 (by decide) ?_
      obtain rfl := Option.some.inj h
      exact M_iret (pc := 34) dX12_unknown_34 rfl rfl rfl rfl
  · have h := (if_neg hc3).symm.trans h
    refine M_iconst (pc := 14) (v := 1) dX12_unknown_14 (by decide) ?_
    refine M_goto (pc := 15) (tgt := 19) dX12_unknown_15 (by decide) ?_
    refine M_iconst (pc := 19) (v := 1) dX12_unknown_19 (by decide) ?_
    obtain ⟨r9, hr10, h⟩ := bnd h
    refine M_callVi (pc := 20) dX12_unknown_20 v_X12_243 rfl rfl at_11 (Nat.le_of_ble_eq_true rfl) (C_X12_throwsIf (d := d + 4) hp hr10) (Nat.le_refl _) ?_
    refine M_if_eq (pc := 23) (tgt := 30) dX12_unknown_23 (by decide) (fun hc11 => ?_) (fun hc11 => ?_)
    · have h := (if_pos hc11).symm.trans h
      refine M_aload_n (pc := 30) dX12_unknown_30 rfl ?_
      obtain ⟨r12, hr13, h⟩ := bnd h
      refine M_callVi (pc := 31) dX12_unknown_31 v_X12_365 rfl rfl at_11 (Nat.le_of_ble_eq_true rfl) (C_X12_allThatFit (d := d + 0) hp hr13) (Nat.le_refl _) ?_
      obtain rfl := Option.some.inj h
      exact M_iret (pc := 34) dX12_unknown_34 rfl rfl rfl rfl
    · have h := (if_neg hc11).symm.trans h
      refine M_iconst (pc := 26) (v := 0) dX12_unknown_26 (by decide) ?_
      refine M_goto (pc := 27) (tgt := 34) dX12_unknown_27 (by decide) ?_
      obtain rfl := Option.some.inj h
      exact M_iret (pc := 34) dX12_unknown_34 rfl rfl rfl rfl
def L_X12_jarFrom_5 (I : HI) (x1 : Int32) (x2 : Int32) (x3 : Int32) (x4 : Int32) : Option (Int32) :=
  if (5 : Int32) ≤ x4 then some x3 else (ald 400 (I 211) (((5 : Int32) * x1) + x4)) >>= fun v2 => (F_X12_of I x2 x4) >>= fun r4 => L_X12_jarFrom_5 I x1 x2 (x3 + (if 0 ≤ (v2 - r4) then (v2 - r4) else 0 - (v2 - r4))) (x4 + (1 : Int32))
partial_fixpoint
def F_X12_jarFrom (I : HI) (x1 : Int32) (x2 : Int32) : Option (Int32) :=
  L_X12_jarFrom_5 I x1 x2 (0 : Int32) (0 : Int32)
set_option maxRecDepth 4000 in
set_option maxHeartbeats 4000000 in
theorem LC_X12_jarFrom_5 {g : gX} {d : Nat} {P : Nat → Nat → Option Nat} {J : HJ} {I : HI} {x1 : Int32} {x2 : Int32} (hp : Wp P) : ∀ (x3 : Int32) (x4 : Int32) (r : Int32), L_X12_jarFrom_5 I x1 x2 x3 x4 = some r → M g mX12_jarFrom (d + 2) (NT, NT, 0) ((.inl (some (.int r))), (NT, I, J, P)) 5 [some (.ref 205), some (.int x1), some (.int x2), some (.int x3), some (.int x4)] [] (NT, I, J, P) := by
  refine L_X12_jarFrom_5.partial_correctness I x1 x2 (fun x3 x4 r => M g mX12_jarFrom (d + 2) (NT, NT, 0) ((.inl (some (.int r))), (NT, I, J, P)) 5 [some (.ref 205), some (.int x1), some (.int x2), some (.int x3), some (.int x4)] [] (NT, I, J, P)) ?_
  intro f ih x3 x4 r h
  refine M_iload (pc := 5) dX12_jarFrom_5 rfl ?_
  refine M_iconst (pc := 7) (v := 5) dX12_jarFrom_7 (by decide) ?_
  refine M_icmp_ge (pc := 8) (tgt := 42) dX12_jarFrom_8 (by decide) (fun hc1 => ?_) (fun hc1 => ?_)
  · have h := (if_pos hc1).symm.trans h
    refine M_iload_n (pc := 42) dX12_jarFrom_42 rfl ?_
    obtain rfl := Option.some.inj h
    exact M_iret (pc := 43) dX12_jarFrom_43 rfl rfl rfl rfl
  · have h := (if_neg hc1).symm.trans h
    refine M_iload_n (pc := 11) dX12_jarFrom_11 rfl ?_
    refine M_aload_n (pc := 12) dX12_jarFrom_12 rfl ?_
    refine M_getR (pc := 13) dX12_jarFrom_13 f_X12_29 at_11 (gc_205_8 hp).1 ?_
    refine M_iconst (pc := 16) (v := 5) dX12_jarFrom_16 (by decide) ?_
    refine M_iload_n (pc := 17) dX12_jarFrom_17 rfl ?_
    refine M_imul (pc := 18) dX12_jarFrom_18 ?_
    refine M_iload (pc := 19) dX12_jarFrom_19 rfl ?_
    refine M_iadd (pc := 21) dX12_jarFrom_21 ?_
    obtain ⟨v2, hv3, h⟩ := bnd h
    refine M_aldB (pc := 22) dX12_jarFrom_22 (gc_205_8 hp).2 hv3 ?_
    refine M_aload_n (pc := 23) dX12_jarFrom_23 rfl ?_
    refine M_iload_n (pc := 24) dX12_jarFrom_24 rfl ?_
    refine M_iload (pc := 25) dX12_jarFrom_25 rfl ?_
    obtain ⟨r4, hr5, h⟩ := bnd h
    refine M_callVi (pc := 27) dX12_jarFrom_27 v_X12_70 rfl rfl at_11 (Nat.le_of_ble_eq_true rfl) (C_X12_of (d := d + 0) hp hr5) (Nat.le_refl _) ?_
    refine M_isub (pc := 30) dX12_jarFrom_30 ?_
    refine M_mabs (pc := 31) dX12_jarFrom_31 mm_X12_246.1 mm_X12_246.2.1 mm_X12_246.2.2.1 mm_X12_246.2.2.2 (Nat.le_of_ble_eq_true rfl) ?_
    refine M_iadd (pc := 34) dX12_jarFrom_34 ?_
    refine M_istore_n (pc := 35) (ls' := [some (.ref 205), some (.int x1), some (.int x2), some (.int (x3 + (if 0 ≤ (v2 - r4) then (v2 - r4) else 0 - (v2 - r4)))), some (.int x4)]) dX12_jarFrom_35 (by decide) rfl ?_
    refine M_iinc (pc := 36) (v := (x4 + (1 : Int32))) (ls' := [some (.ref 205), some (.int x1), some (.int x2), some (.int (x3 + (if 0 ≤ (v2 - r4) then (v2 - r4) else 0 - (v2 - r4)))), some (.int (x4 + (1 : Int32)))]) dX12_jarFrom_36 rfl rfl (by decide) rfl ?_
    refine M_goto (pc := 39) (tgt := 5) dX12_jarFrom_39 (by decide) ?_
    exact ih (x3 + (if 0 ≤ (v2 - r4) then (v2 - r4) else 0 - (v2 - r4))) (x4 + (1 : Int32)) _ h
set_option maxRecDepth 4000 in
set_option maxHeartbeats 4000000 in
theorem C_X12_jarFrom {g : gX} {d : Nat} {P : Nat → Nat → Option Nat} {I : HI} {x1 : Int32} {x2 : Int32} {J : HJ} (hp : Wp P) {r : Int32} (h : F_X12_jarFrom I x1 x2 = some r) : Cm g mX12_jarFrom (d + 2) [.ref 205, .int x1, .int x2] (NT, I, J, P) (some (.int r)) (NT, I, J, P) := by
  unfold F_X12_jarFrom at h
  refine Cm.of (by decide) (by simp [Value.category]) (Nat.le_of_ble_eq_true rfl) (Nat.le_refl _) (ls := [some (.ref 205), some (.int x1), some (.int x2), none, none]) rfl ?_
  refine M_iconst (pc := 0) (v := 0) dX12_jarFrom_0 (by decide) ?_
  refine M_istore_n (pc := 1) (ls' := [some (.ref 205), some (.int x1), some (.int x2), some (.int (0 : Int32)), none]) dX12_jarFrom_1 (by decide) rfl ?_
  refine M_iconst (pc := 2) (v := 0) dX12_jarFrom_2 (by decide) ?_
  refine M_istore (pc := 3) (ls' := [some (.ref 205), some (.int x1), some (.int x2), some (.int (0 : Int32)), some (.int (0 : Int32))]) dX12_jarFrom_3 (by decide) rfl ?_
  exact LC_X12_jarFrom_5 (P := P) hp (0 : Int32) (0 : Int32) _ h
def L_X12_areJars_26 (I : HI) (x1 : Int32) (x2 : Int32) : Option (Int32) :=
  if (I 205 11) ≤ x2 then if x1 = 0 ∨ x1 = 1 then some x1 else none else if x1 = 0 then if x1 = 0 ∨ x1 = 1 then some x1 else none else (ald 400 (I 211) x2) >>= fun v6 => (F_X12_in I v6 (0 : Int32) (9 : Int32)) >>= fun r8 => L_X12_areJars_26 I r8 (x2 + (1 : Int32))
partial_fixpoint
def F_X12_areJars (I : HI) : Option (Int32) :=
  if ((I 205 11) - (I 205 11) / (5 : Int32) * (5 : Int32)) = 0 then if (25 : Int32) < (I 205 11) then L_X12_areJars_26 I (0 : Int32) (0 : Int32) else L_X12_areJars_26 I (1 : Int32) (0 : Int32) else L_X12_areJars_26 I (0 : Int32) (0 : Int32)
set_option maxRecDepth 4000 in
set_option maxHeartbeats 4000000 in
theorem LC_X12_areJars_26 {g : gX} {d : Nat} {P : Nat → Nat → Option Nat} {J : HJ} {I : HI} (hp : Wp P) : ∀ (x1 : Int32) (x2 : Int32) (r : Int32), L_X12_areJars_26 I x1 x2 = some r → M g mX12_areJars (d + 1) (NT, NT, 0) ((.inl (some (.int r))), (NT, I, J, P)) 26 [some (.ref 205), some (.int x1), some (.int x2)] [] (NT, I, J, P) := by
  refine L_X12_areJars_26.partial_correctness I (fun x1 x2 r => M g mX12_areJars (d + 1) (NT, NT, 0) ((.inl (some (.int r))), (NT, I, J, P)) 26 [some (.ref 205), some (.int x1), some (.int x2)] [] (NT, I, J, P)) ?_
  intro f ih x1 x2 r h
  refine M_iload_n (pc := 26) dX12_areJars_26 rfl ?_
  refine M_aload_n (pc := 27) dX12_areJars_27 rfl ?_
  refine M_getI (pc := 28) dX12_areJars_28 f_X12_84 at_11 ?_
  refine M_icmp_ge (pc := 31) (tgt := 57) dX12_areJars_31 (by decide) (fun hc2 => ?_) (fun hc2 => ?_)
  · have h := (if_pos hc2).symm.trans h
    refine M_iload_n (pc := 57) dX12_areJars_57 rfl ?_
    obtain ⟨hq3, h⟩ := chk h
    obtain rfl := Option.some.inj h
    exact M_iret (pc := 58) dX12_areJars_58 rfl (by rcases hq3 with q | q <;> rw [q] <;> rfl) rfl rfl
  · have h := (if_neg hc2).symm.trans h
    refine M_iload_n (pc := 34) dX12_areJars_34 rfl ?_
    refine M_if_eq (pc := 35) (tgt := 57) dX12_areJars_35 (by decide) (fun hc4 => ?_) (fun hc4 => ?_)
    · have h := (if_pos hc4).symm.trans h
      refine M_iload_n (pc := 57) dX12_areJars_57 rfl ?_
      obtain ⟨hq5, h⟩ := chk h
      obtain rfl := Option.some.inj h
      exact M_iret (pc := 58) dX12_areJars_58 rfl (by rcases hq5 with q | q <;> rw [q] <;> rfl) rfl rfl
    · have h := (if_neg hc4).symm.trans h
      refine M_aload_n (pc := 38) dX12_areJars_38 rfl ?_
      refine M_getR (pc := 39) dX12_areJars_39 f_X12_29 at_11 (gc_205_8 hp).1 ?_
      refine M_iload_n (pc := 42) dX12_areJars_42 rfl ?_
      obtain ⟨v6, hv7, h⟩ := bnd h
      refine M_aldB (pc := 43) dX12_areJars_43 (gc_205_8 hp).2 hv7 ?_
      refine M_iconst (pc := 44) (v := 0) dX12_areJars_44 (by decide) ?_
      refine M_bipush (pc := 45) (v := 9) dX12_areJars_45 (by decide) ?_
      obtain ⟨r8, hr9, h⟩ := bnd h
      refine M_callSi (pc := 47) dX12_areJars_47 s_X12_73 rfl rfl (Nat.le_of_ble_eq_true rfl) (C_X12_in (d := d + 0) hp hr9) (Nat.le_refl _) ?_
      refine M_istore_n (pc := 50) (ls' := [some (.ref 205), some (.int r8), some (.int x2)]) dX12_areJars_50 (by decide) rfl ?_
      refine M_iinc (pc := 51) (v := (x2 + (1 : Int32))) (ls' := [some (.ref 205), some (.int r8), some (.int (x2 + (1 : Int32)))]) dX12_areJars_51 rfl rfl (by decide) rfl ?_
      refine M_goto (pc := 54) (tgt := 26) dX12_areJars_54 (by decide) ?_
      exact ih r8 (x2 + (1 : Int32)) _ h
set_option maxRecDepth 4000 in
set_option maxHeartbeats 4000000 in
theorem C_X12_areJars {g : gX} {d : Nat} {P : Nat → Nat → Option Nat} {I : HI} {J : HJ} (hp : Wp P) {r : Int32} (h : F_X12_areJars I = some r) : Cm g mX12_areJars (d + 1) [.ref 205] (NT, I, J, P) (some (.int r)) (NT, I, J, P) := by
  unfold F_X12_areJars at h
  refine Cm.of (by decide) (by simp [Value.category]) (Nat.le_of_ble_eq_true rfl) (Nat.le_refl _) (ls := [some (.ref 205), none, none]) rfl ?_
  refine M_aload_n (pc := 0) dX12_areJars_0 rfl ?_
  refine M_getI (pc := 1) dX12_areJars_1 f_X12_84 at_11 ?_
  refine M_iconst (pc := 4) (v := 5) dX12_areJars_4 (by decide) ?_
  refine M_irem (pc := 5) dX12_areJars_5 (by decide) ?_
  refine M_if_ne (pc := 6) (tgt := 22) dX12_areJars_6 (by decide) (fun hc1 => ?_) (fun hc1 => ?_)
  · have h := (if_neg hc1).symm.trans h
    refine M_iconst (pc := 22) (v := 0) dX12_areJars_22 (by decide) ?_
    refine M_istore_n (pc := 23) (ls' := [some (.ref 205), some (.int (0 : Int32)), none]) dX12_areJars_23 (by decide) rfl ?_
    refine M_iconst (pc := 24) (v := 0) dX12_areJars_24 (by decide) ?_
    refine M_istore_n (pc := 25) (ls' := [some (.ref 205), some (.int (0 : Int32)), some (.int (0 : Int32))]) dX12_areJars_25 (by decide) rfl ?_
    exact LC_X12_areJars_26 (P := P) hp (0 : Int32) (0 : Int32) _ h
  · have h := (if_pos hc1).symm.trans h
    refine M_aload_n (pc := 9) dX12_areJars_9 rfl ?_
    refine M_getI (pc := 10) dX12_areJars_10 f_X12_84 at_11 ?_
    refine M_bipush (pc := 13) (v := 25) dX12_areJars_13 (by decide) ?_
    refine M_icmp_gt (pc := 15) (tgt := 22) dX12_areJars_15 (by decide) (fun hc10 => ?_) (fun hc10 => ?_)
    · have h := (if_pos hc10).symm.trans h
      refine M_iconst (pc := 22) (v := 0) dX12_areJars_22 (by decide) ?_
      refine M_istore_n (pc := 23) (ls' := [some (.ref 205), some (.int (0 : Int32)), none]) dX12_areJars_23 (by decide) rfl ?_
      refine M_iconst (pc := 24) (v := 0) dX12_areJars_24 (by decide) ?_
      refine M_istore_n (pc := 25) (ls' := [some (.ref 205), some (.int (0 : Int32)), some (.int (0 : Int32))]) dX12_areJars_25 (by decide) rfl ?_
      exact LC_X12_areJars_26 (P := P) hp (0 : Int32) (0 : Int32) _ h
    · have h := (if_neg hc10).symm.trans h
      refine M_iconst (pc := 18) (v := 1) dX12_areJars_18 (by decide) ?_
      refine M_goto (pc := 19) (tgt := 23) dX12_areJars_19 (by decide) ?_
      refine M_istore_n (pc := 23) (ls' := [some (.ref 205), some (.int (1 : Int32)), none]) dX12_areJars_23 (by decide) rfl ?_
      refine M_iconst (pc := 24) (v := 0) dX12_areJars_24 (by decide) ?_
      refine M_istore_n (pc := 25) (ls' := [some (.ref 205), some (.int (1 : Int32)), some (.int (0 : Int32))]) dX12_areJars_25 (by decide) rfl ?_
      exact LC_X12_areJars_26 (P := P) hp (1 : Int32) (0 : Int32) _ h
def F_X12_farBy (I : HI) (x1 : Int32) (x2 : Int32) (x3 : Int32) : Option (Int32) :=
  (F_X12_has I x2 x3) >>= fun r1 => if r1 = 0 then (F_X12_jarFrom I x1 x3) >>= fun r4 => (ald 4096 (I 216) (x2 ||| ((1 : Int32) <<< (x3 &&& 31)))) >>= fun v6 => some (r4 + v6) else some (1000000 : Int32)
set_option maxRecDepth 4000 in
set_option maxHeartbeats 4000000 in
theorem C_X12_farBy {g : gX} {d : Nat} {P : Nat → Nat → Option Nat} {I : HI} {x1 : Int32} {x2 : Int32} {x3 : Int32} {J : HJ} (hp : Wp P) {r : Int32} (h : F_X12_farBy I x1 x2 x3 = some r) : Cm g mX12_farBy (d + 3) [.ref 205, .int x1, .int x2, .int x3] (NT, I, J, P) (some (.int r)) (NT, I, J, P) := by
  unfold F_X12_farBy at h
  refine Cm.of (by decide) (by simp [Value.category]) (Nat.le_of_ble_eq_true rfl) (Nat.le_refl _) (ls := [some (.ref 205), some (.int x1), some (.int x2), some (.int x3)]) rfl ?_
  refine M_iload_n (pc := 0) dX12_farBy_0 rfl ?_
  refine M_iload_n (pc := 1) dX12_farBy_1 rfl ?_
  obtain ⟨r1, hr2, h⟩ := bnd h
  refine M_callSi (pc := 2) dX12_farBy_2 s_X12_337 rfl rfl (Nat.le_of_ble_eq_true rfl) (C_X12_has (d := d + 2) hp hr2) (Nat.le_refl _) ?_
  refine M_if_eq (pc := 5) (tgt := 13) dX12_farBy_5 (by decide) (fun hc3 => ?_) (fun hc3 => ?_)
  · have h := (if_pos hc3).symm.trans h
    refine M_aload_n (pc := 13) dX12_farBy_13 rfl ?_
    refine M_iload_n (pc := 14) dX12_farBy_14 rfl ?_
    refine M_iload_n (pc := 15) dX12_farBy_15 rfl ?_
    obtain ⟨r4, hr5, h⟩ := bnd h
    refine M_callVi (pc := 16) dX12_farBy_16 v_X12_368 rfl rfl at_11 (Nat.le_of_ble_eq_true rfl) (C_X12_jarFrom (d := d + 0) hp hr5) (Nat.le_refl _) ?_
    refine M_aload_n (pc := 19) dX12_farBy_19 rfl ?_
    refine M_getR (pc := 20) dX12_farBy_20 f_X12_48 at_11 (gc_205_20 hp).1 ?_
    refine M_iload_n (pc := 23) dX12_farBy_23 rfl ?_
    refine M_iconst (pc := 24) (v := 1) dX12_farBy_24 (by decide) ?_
    refine M_iload_n (pc := 25) dX12_farBy_25 rfl ?_
    refine M_ishl (pc := 26) dX12_farBy_26 ?_
    refine M_ior (pc := 27) dX12_farBy_27 ?_
    obtain ⟨v6, hv7, h⟩ := bnd h
    refine M_aldI (pc := 28) dX12_farBy_28 (gc_205_20 hp).2 hv7 ?_
    refine M_iadd (pc := 29) dX12_farBy_29 ?_
    obtain rfl := Option.some.inj h
    exact M_iret (pc := 30) dX12_farBy_30 rfl rfl rfl rfl
  · have h := (if_neg hc3).symm.trans h
    refine M_ldc (pc := 8) (v := 1000000) dX12_farBy_8 w_1645 ?_
    refine M_goto (pc := 10) (tgt := 30) dX12_farBy_10 (by decide) ?_
    obtain rfl := Option.some.inj h
    exact M_iret (pc := 30) dX12_farBy_30 rfl rfl rfl rfl
def L_X12_hadAt_5 (I : HI) (x1 : Int32) (x2 : Int32) (x3 : Int32) (x4 : Int32) : Option (Int32) :=
  (F_X12_dishes I) >>= fun r1 => if r1 ≤ x4 then some x3 else (F_X12_isNew I x4) >>= fun r4 => if r4 = 0 then (F_X12_of I x4 x1) >>= fun r7 => if r7 = x2 then L_X12_hadAt_5 I x1 x2 (x3 ||| ((1 : Int32) <<< (x4 &&& 31))) (x4 + (1 : Int32)) else L_X12_hadAt_5 I x1 x2 (x3 ||| (0 : Int32)) (x4 + (1 : Int32)) else L_X12_hadAt_5 I x1 x2 (x3 ||| (0 : Int32)) (x4 + (1 : Int32))
partial_fixpoint
def F_X12_hadAt (I : HI) (x1 : Int32) (x2 : Int32) : Option (Int32) :=
  L_X12_hadAt_5 I x1 x2 (0 : Int32) (0 : Int32)
set_option maxRecDepth 4000 in
set_option maxHeartbeats 4000000 in
theorem LC_X12_hadAt_5 {g : gX} {d : Nat} {P : Nat → Nat → Option Nat} {J : HJ} {I : HI} {x1 : Int32} {x2 : Int32} (hp : Wp P) : ∀ (x3 : Int32) (x4 : Int32) (r : Int32), L_X12_hadAt_5 I x1 x2 x3 x4 = some r → M g mX12_hadAt (d + 3) (NT, NT, 0) ((.inl (some (.int r))), (NT, I, J, P)) 5 [some (.ref 205), some (.int x1), some (.int x2), some (.int x3), some (.int x4)] [] (NT, I, J, P) := by
  refine L_X12_hadAt_5.partial_correctness I x1 x2 (fun x3 x4 r => M g mX12_hadAt (d + 3) (NT, NT, 0) ((.inl (some (.int r))), (NT, I, J, P)) 5 [some (.ref 205), some (.int x1), some (.int x2), some (.int x3), some (.int x4)] [] (NT, I, J, P)) ?_
  intro f ih x3 x4 r h
  refine M_iload (pc := 5) dX12_hadAt_5 rfl ?_
  refine M_aload_n (pc := 7) dX12_hadAt_7 rfl ?_
  obtain ⟨r1, hr2, h⟩ := bnd h
  refine M_callVi (pc := 8) dX12_hadAt_8 v_X12_62 rfl rfl at_11 (Nat.le_of_ble_eq_true rfl) (C_X12_dishes (d := d + 2) hp hr2) (Nat.le_refl _) ?_
  refine M_icmp_ge (pc := 11) (tgt := 51) dX12_hadAt_11 (by decide) (fun hc3 => ?_) (fun hc3 => ?_)
  · have h := (if_pos hc3).symm.trans h
    refine M_iload_n (pc := 51) dX12_hadAt_51 rfl ?_
    obtain rfl := Option.some.inj h
    exact M_iret (pc := 52) dX12_hadAt_52 rfl rfl rfl rfl
  · have h := (if_neg hc3).symm.trans h
    refine M_iload_n (pc := 14) dX12_hadAt_14 rfl ?_
    refine M_aload_n (pc := 15) dX12_hadAt_15 rfl ?_
    refine M_iload (pc := 16) dX12_hadAt_16 rfl ?_
    obtain ⟨r4, hr5, h⟩ := bnd h
    refine M_callVi (pc := 18) dX12_hadAt_18 v_X12_252 rfl rfl at_11 (Nat.le_of_ble_eq_true rfl) (C_X12_isNew (d := d + 0) hp hr5) (Nat.le_refl _) ?_
    refine M_if_ne (pc := 21) (tgt := 42) dX12_hadAt_21 (by decide) (fun hc6 => ?_) (fun hc6 => ?_)
    · have h := (if_neg hc6).symm.trans h
      refine M_iconst (pc := 42) (v := 0) dX12_hadAt_42 (by decide) ?_
      refine M_ior (pc := 43) dX12_hadAt_43 ?_
      refine M_istore_n (pc := 44) (ls' := [some (.ref 205), some (.int x1), some (.int x2), some (.int (x3 ||| (0 : Int32))), some (.int x4)]) dX12_hadAt_44 (by decide) rfl ?_
      refine M_iinc (pc := 45) (v := (x4 + (1 : Int32))) (ls' := [some (.ref 205), some (.int x1), some (.int x2), some (.int (x3 ||| (0 : Int32))), some (.int (x4 + (1 : Int32)))]) dX12_hadAt_45 rfl rfl (by decide) rfl ?_
      refine M_goto (pc := 48) (tgt := 5) dX12_hadAt_48 (by decide) ?_
      exact ih (x3 ||| (0 : Int32)) (x4 + (1 : Int32)) _ h
    · have h := (if_pos hc6).symm.trans h
      refine M_aload_n (pc := 24) dX12_hadAt_24 rfl ?_
      refine M_iload (pc := 25) dX12_hadAt_25 rfl ?_
      refine M_iload_n (pc := 27) dX12_hadAt_27 rfl ?_
      obtain ⟨r7, hr8, h⟩ := bnd h
      refine M_callVi (pc := 28) dX12_hadAt_28 v_X12_70 rfl rfl at_11 (Nat.le_of_ble_eq_true rfl) (C_X12_of (d := d + 1) hp hr8) (Nat.le_refl _) ?_
      refine M_iload_n (pc := 31) dX12_hadAt_31 rfl ?_
      refine M_icmp_ne (pc := 32) (tgt := 42) dX12_hadAt_32 (by decide) (fun hc9 => ?_) (fun hc9 => ?_)
      · have h := (if_neg hc9).symm.trans h
        refine M_iconst (pc := 42) (v := 0) dX12_hadAt_42 (by decide) ?_
        refine M_ior (pc := 43) dX12_hadAt_43 ?_
        refine M_istore_n (pc := 44) (ls' := [some (.ref 205), some (.int x1), some (.int x2), some (.int (x3 ||| (0 : Int32))), some (.int x4)]) dX12_hadAt_44 (by decide) rfl ?_
        refine M_iinc (pc := 45) (v := (x4 + (1 : Int32))) (ls' := [some (.ref 205), some (.int x1), some (.int x2), some (.int (x3 ||| (0 : Int32))), some (.int (x4 + (1 : Int32)))]) dX12_hadAt_45 rfl rfl (by decide) rfl ?_
        refine M_goto (pc := 48) (tgt := 5) dX12_hadAt_48 (by decide) ?_
        exact ih (x3 ||| (0 : Int32)) (x4 + (1 : Int32)) _ h
      · have h := (if_pos hc9).symm.trans h
        refine M_iconst (pc := 35) (v := 1) dX12_hadAt_35 (by decide) ?_
        refine M_iload (pc := 36) dX12_hadAt_36 rfl ?_
        refine M_ishl (pc := 38) dX12_hadAt_38 ?_
        refine M_goto (pc := 39) (tgt := 43) dX12_hadAt_39 (by decide) ?_
        refine M_ior (pc := 43) dX12_hadAt_43 ?_
        refine M_istore_n (pc := 44) (ls' := [some (.ref 205), some (.int x1), some (.int x2), some (.int (x3 ||| ((1 : Int32) <<< (x4 &&& 31)))), some (.int x4)]) dX12_hadAt_44 (by decide) rfl ?_
        refine M_iinc (pc := 45) (v := (x4 + (1 : Int32))) (ls' := [some (.ref 205), some (.int x1), some (.int x2), some (.int (x3 ||| ((1 : Int32) <<< (x4 &&& 31)))), some (.int (x4 + (1 : Int32)))]) dX12_hadAt_45 rfl rfl (by decide) rfl ?_
        refine M_goto (pc := 48) (tgt := 5) dX12_hadAt_48 (by decide) ?_
        exact ih (x3 ||| ((1 : Int32) <<< (x4 &&& 31))) (x4 + (1 : Int32)) _ h
set_option maxRecDepth 4000 in
set_option maxHeartbeats 4000000 in
theorem C_X12_hadAt {g : gX} {d : Nat} {P : Nat → Nat → Option Nat} {I : HI} {x1 : Int32} {x2 : Int32} {J : HJ} (hp : Wp P) {r : Int32} (h : F_X12_hadAt I x1 x2 = some r) : Cm g mX12_hadAt (d + 3) [.ref 205, .int x1, .int x2] (NT, I, J, P) (some (.int r)) (NT, I, J, P) := by
  unfold F_X12_hadAt at h
  refine Cm.of (by decide) (by simp [Value.category]) (Nat.le_of_ble_eq_true rfl) (Nat.le_refl _) (ls := [some (.ref 205), some (.int x1), some (.int x2), none, none]) rfl ?_
  refine M_iconst (pc := 0) (v := 0) dX12_hadAt_0 (by decide) ?_
  refine M_istore_n (pc := 1) (ls' := [some (.ref 205), some (.int x1), some (.int x2), some (.int (0 : Int32)), none]) dX12_hadAt_1 (by decide) rfl ?_
  refine M_iconst (pc := 2) (v := 0) dX12_hadAt_2 (by decide) ?_
  refine M_istore (pc := 3) (ls' := [some (.ref 205), some (.int x1), some (.int x2), some (.int (0 : Int32)), some (.int (0 : Int32))]) dX12_hadAt_3 (by decide) rfl ?_
  exact LC_X12_hadAt_5 (P := P) hp (0 : Int32) (0 : Int32) _ h
def L_X12_dated_32 (I : HI) (x2 : Int32) (x3 : Int32) (x4 : Int32) : Option (Int32 × HI) :=
  (F_X12_dishes I) >>= fun r7 => if r7 ≤ x4 then some (x3, I) else (F_X12_has I x2 x4) >>= fun r10 => if r10 = 0 then L_X12_dated_32 I x2 x3 (x4 + (1 : Int32)) else (F_X12_of I x4 (5 : Int32)) >>= fun r13 => L_X12_dated_32 I x2 (if x3 < r13 then r13 else x3) (x4 + (1 : Int32))
partial_fixpoint
def F_X12_dated (I : HI) (x1 : Int32) : Option (Int32 × HI) :=
  (F_X12_allDishes (up2 I 205 0 (0 : Int32))) >>= fun r1 => if (x1 &&& r1) = 0 then some ((-1 : Int32), (up2 I 205 0 (0 : Int32))) else (F_X12_newOnes (up2 I 205 0 (0 : Int32))) >>= fun r4 => if ((x1 &&& r1) &&& r4) = 0 then L_X12_dated_32 (up2 I 205 0 (0 : Int32)) (x1 &&& r1) (-1 : Int32) (0 : Int32) else some ((-1 : Int32), (up2 I 205 0 (0 : Int32)))
set_option maxRecDepth 4000 in
set_option maxHeartbeats 4000000 in
theorem LC_X12_dated_32 {g : gX} {d : Nat} {P : Nat → Nat → Option Nat} {J : HJ} {I : HI} {x2 : Int32} (hp : Wp P) : ∀ (x3 : Int32) (x4 : Int32) (r : Int32 × HI), L_X12_dated_32 I x2 x3 x4 = some r → M g mX12_dated (d + 4) (NT, NT, 0) ((.inl (some (.int r.1))), (NT, r.2, J, P)) 32 [some (.ref 205), none, some (.int x2), some (.int x3), some (.int x4)] [] (NT, I, J, P) := by
  refine L_X12_dated_32.partial_correctness I x2 (fun x3 x4 r => M g mX12_dated (d + 4) (NT, NT, 0) ((.inl (some (.int r.1))), (NT, r.2, J, P)) 32 [some (.ref 205), none, some (.int x2), some (.int x3), some (.int x4)] [] (NT, I, J, P)) ?_
  intro f ih x3 x4 r h
  refine M_iload (pc := 32) dX12_dated_32 rfl ?_
  refine M_aload_n (pc := 34) dX12_dated_34 rfl ?_
  obtain ⟨r7, hr8, h⟩ := bnd h
  refine M_callVi (pc := 35) dX12_dated_35 v_X12_62 rfl rfl at_11 (Nat.le_of_ble_eq_true rfl) (C_X12_dishes (d := d + 3) hp hr8) (Nat.le_refl _) ?_
  refine M_icmp_ge (pc := 38) (tgt := 72) dX12_dated_38 (by decide) (fun hc9 => ?_) (fun hc9 => ?_)
  · have h := (if_pos hc9).symm.trans h
    refine M_iload_n (pc := 72) dX12_dated_72 rfl ?_
    obtain rfl := Option.some.inj h
    exact M_iret (pc := 73) dX12_dated_73 rfl rfl rfl rfl
  · have h := (if_neg hc9).symm.trans h
    refine M_iload_n (pc := 41) dX12_dated_41 rfl ?_
    refine M_iload (pc := 42) dX12_dated_42 rfl ?_
    obtain ⟨r10, hr11, h⟩ := bnd h
    refine M_callSi (pc := 44) dX12_dated_44 s_X12_337 rfl rfl (Nat.le_of_ble_eq_true rfl) (C_X12_has (d := d + 3) hp hr11) (Nat.le_refl _) ?_
    refine M_if_eq (pc := 47) (tgt := 64) dX12_dated_47 (by decide) (fun hc12 => ?_) (fun hc12 => ?_)
    · have h := (if_pos hc12).symm.trans h
      refine M_iload_n (pc := 64) dX12_dated_64 rfl ?_
      refine M_istore_n (pc := 65) (ls' := [some (.ref 205), none, some (.int x2), some (.int x3), some (.int x4)]) dX12_dated_65 (by decide) rfl ?_
      refine M_iinc (pc := 66) (v := (x4 + (1 : Int32))) (ls' := [some (.ref 205), none, some (.int x2), some (.int x3), some (.int (x4 + (1 : Int32)))]) dX12_dated_66 rfl rfl (by decide) rfl ?_
      refine M_goto (pc := 69) (tgt := 32) dX12_dated_69 (by decide) ?_
      exact ih x3 (x4 + (1 : Int32)) _ h
    · have h := (if_neg hc12).symm.trans h
      refine M_iload_n (pc := 50) dX12_dated_50 rfl ?_
      refine M_aload_n (pc := 51) dX12_dated_51 rfl ?_
      refine M_iload (pc := 52) dX12_dated_52 rfl ?_
      refine M_iconst (pc := 54) (v := 5) dX12_dated_54 (by decide) ?_
      obtain ⟨r13, hr14, h⟩ := bnd h
      refine M_callVi (pc := 55) dX12_dated_55 v_X12_70 rfl rfl at_11 (Nat.le_of_ble_eq_true rfl) (C_X12_of (d := d + 2) hp hr14) (Nat.le_refl _) ?_
      refine M_mmax (pc := 58) dX12_dated_58 mm_X12_293.1 mm_X12_293.2.1 mm_X12_293.2.2.1 mm_X12_293.2.2.2 (Nat.le_of_ble_eq_true rfl) ?_
      refine M_goto (pc := 61) (tgt := 65) dX12_dated_61 (by decide) ?_
      refine M_istore_n (pc := 65) (ls' := [some (.ref 205), none, some (.int x2), some (.int (if x3 < r13 then r13 else x3)), some (.int x4)]) dX12_dated_65 (by decide) rfl ?_
      refine M_iinc (pc := 66) (v := (x4 + (1 : Int32))) (ls' := [some (.ref 205), none, some (.int x2), some (.int (if x3 < r13 then r13 else x3)), some (.int (x4 + (1 : Int32)))]) dX12_dated_66 rfl rfl (by decide) rfl ?_
      refine M_goto (pc := 69) (tgt := 32) dX12_dated_69 (by decide) ?_
      exact ih (if x3 < r13 then r13 else x3) (x4 + (1 : Int32)) _ h
set_option maxRecDepth 4000 in
set_option maxHeartbeats 4000000 in
theorem C_X12_dated {g : gX} {d : Nat} {P : Nat → Nat → Option Nat} {I : HI} {x1 : Int32} {J : HJ} (hp : Wp P) {r : Int32 × HI} (h : F_X12_dated I x1 = some r) : Cm g mX12_dated (d + 4) [.ref 205, .int x1] (NT, I, J, P) (some (.int r.1)) (NT, r.2, J, P) := by
  unfold F_X12_dated at h
  refine Cm.of (by decide) (by simp [Value.category]) (Nat.le_of_ble_eq_true rfl) (Nat.le_refl _) (ls := [some (.ref 205), some (.int x1), none, none, none]) rfl ?_
  refine M_aload_n (pc := 0) dX12_dated_0 rfl ?_
  refine M_iconst (pc := 1) (v := 0) dX12_dated_1 (by decide) ?_
  refine M_putI (pc := 2) dX12_dated_2 f_X12_3 at_11 rfl ⟨rfl, rfl⟩ ?_
  refine M_iload_n (pc := 5) dX12_dated_5 rfl ?_
  refine M_aload_n (pc := 6) dX12_dated_6 rfl ?_
  obtain ⟨r1, hr2, h⟩ := bnd h
  refine M_callVi (pc := 7) dX12_dated_7 v_X12_340 rfl rfl at_11 (Nat.le_of_ble_eq_true rfl) (C_X12_allDishes (d := d + 2) hp hr2) (Nat.le_refl _) ?_
  refine M_iand (pc := 10) dX12_dated_10 ?_
  refine M_istore_n (pc := 11) (ls' := [some (.ref 205), some (.int x1), some (.int (x1 &&& r1)), none, none]) dX12_dated_11 (by decide) rfl ?_
  refine M_iload_n (pc := 12) dX12_dated_12 rfl ?_
  refine M_if_eq (pc := 13) (tgt := 25) dX12_dated_13 (by decide) (fun hc3 => ?_) (fun hc3 => ?_)
  · have h := (if_pos hc3).symm.trans h
    refine M_iconst (pc := 25) (v := -1) dX12_dated_25 (by decide) ?_
    obtain rfl := Option.some.inj h
    exact M_iret (pc := 26) dX12_dated_26 rfl rfl rfl rfl
  · have h := (if_neg hc3).symm.trans h
    refine M_iload_n (pc := 16) dX12_dated_16 rfl ?_
    refine M_aload_n (pc := 17) dX12_dated_17 rfl ?_
    obtain ⟨r4, hr5, h⟩ := bnd h
    refine M_callVi (pc := 18) dX12_dated_18 v_X12_287 rfl rfl at_11 (Nat.le_of_ble_eq_true rfl) (C_X12_newOnes (d := d + 0) hp hr5) (Nat.le_refl _) ?_
    refine M_iand (pc := 21) dX12_dated_21 ?_
    refine M_if_eq (pc := 22) (tgt := 27) dX12_dated_22 (by decide) (fun hc6 => ?_) (fun hc6 => ?_)
    · have h := (if_pos hc6).symm.trans h
      refine M_iconst (pc := 27) (v := -1) dX12_dated_27 (by decide) ?_
      refine M_istore_n (pc := 28) (ls' := [some (.ref 205), some (.int x1), some (.int (x1 &&& r1)), some (.int (-1 : Int32)), none]) dX12_dated_28 (by decide) rfl ?_
      refine M_iconst (pc := 29) (v := 0) dX12_dated_29 (by decide) ?_
      refine M_istore (pc := 30) (ls' := [some (.ref 205), some (.int x1), some (.int (x1 &&& r1)), some (.int (-1 : Int32)), some (.int (0 : Int32))]) dX12_dated_30 (by decide) rfl ?_
      refine M_mask (pc := 32) [true, false, true, true, true] rfl ?_
      exact LC_X12_dated_32 (P := P) hp (-1 : Int32) (0 : Int32) _ h
    · have h := (if_neg hc6).symm.trans h
      refine M_iconst (pc := 25) (v := -1) dX12_dated_25 (by decide) ?_
      obtain rfl := Option.some.inj h
      exact M_iret (pc := 26) dX12_dated_26 rfl rfl rfl rfl
def L_X12_nextFrom_4 (I : HI) (x1 : Int32) (x2 : Int32) (x3 : Int32) : Option (Int32) :=
  (F_X12_dishes I) >>= fun r1 => if r1 ≤ x3 then some x2 else (F_X12_of I x3 (5 : Int32)) >>= fun r4 => if r4 < (if (0 : Int32) < x1 then x1 else (0 : Int32)) then L_X12_nextFrom_4 I x1 x2 (x3 + (1 : Int32)) else if x2 = (-1 : Int32) then L_X12_nextFrom_4 I x1 x3 (x3 + (1 : Int32)) else (F_X12_of I x3 (5 : Int32)) >>= fun r8 => (F_X12_of I x2 (5 : Int32)) >>= fun r10 => if r10 ≤ r8 then L_X12_nextFrom_4 I x1 x2 (x3 + (1 : Int32)) else L_X12_nextFrom_4 I x1 x3 (x3 + (1 : Int32))
partial_fixpoint
def F_X12_nextFrom (I : HI) (x1 : Int32) : Option (Int32) :=
  L_X12_nextFrom_4 I x1 (-1 : Int32) (0 : Int32)
set_option maxRecDepth 4000 in
set_option maxHeartbeats 4000000 in
theorem LC_X12_nextFrom_4 {g : gX} {d : Nat} {P : Nat → Nat → Option Nat} {J : HJ} {I : HI} {x1 : Int32} (hp : Wp P) : ∀ (x2 : Int32) (x3 : Int32) (r : Int32), L_X12_nextFrom_4 I x1 x2 x3 = some r → M g mX12_nextFrom (d + 2) (NT, NT, 0) ((.inl (some (.int r))), (NT, I, J, P)) 4 [some (.ref 205), some (.int x1), some (.int x2), some (.int x3)] [] (NT, I, J, P) := by
  refine L_X12_nextFrom_4.partial_correctness I x1 (fun x2 x3 r => M g mX12_nextFrom (d + 2) (NT, NT, 0) ((.inl (some (.int r))), (NT, I, J, P)) 4 [some (.ref 205), some (.int x1), some (.int x2), some (.int x3)] [] (NT, I, J, P)) ?_
  intro f ih x2 x3 r h
  refine M_iload_n (pc := 4) dX12_nextFrom_4 rfl ?_
  refine M_aload_n (pc := 5) dX12_nextFrom_5 rfl ?_
  obtain ⟨r1, hr2, h⟩ := bnd h
  refine M_callVi (pc := 6) dX12_nextFrom_6 v_X12_62 rfl rfl at_11 (Nat.le_of_ble_eq_true rfl) (C_X12_dishes (d := d + 1) hp hr2) (Nat.le_refl _) ?_
  refine M_icmp_ge (pc := 9) (tgt := 54) dX12_nextFrom_9 (by decide) (fun hc3 => ?_) (fun hc3 => ?_)
  · have h := (if_pos hc3).symm.trans h
    refine M_iload_n (pc := 54) dX12_nextFrom_54 rfl ?_
    obtain rfl := Option.some.inj h
    exact M_iret (pc := 55) dX12_nextFrom_55 rfl rfl rfl rfl
  · have h := (if_neg hc3).symm.trans h
    refine M_aload_n (pc := 12) dX12_nextFrom_12 rfl ?_
    refine M_iload_n (pc := 13) dX12_nextFrom_13 rfl ?_
    refine M_iconst (pc := 14) (v := 5) dX12_nextFrom_14 (by decide) ?_
    obtain ⟨r4, hr5, h⟩ := bnd h
    refine M_callVi (pc := 15) dX12_nextFrom_15 v_X12_70 rfl rfl at_11 (Nat.le_of_ble_eq_true rfl) (C_X12_of (d := d + 0) hp hr5) (Nat.le_refl _) ?_
    refine M_iconst (pc := 18) (v := 0) dX12_nextFrom_18 (by decide) ?_
    refine M_iload_n (pc := 19) dX12_nextFrom_19 rfl ?_
    refine M_mmax (pc := 20) dX12_nextFrom_20 mm_X12_293.1 mm_X12_293.2.1 mm_X12_293.2.2.1 mm_X12_293.2.2.2 (Nat.le_of_ble_eq_true rfl) ?_
    refine M_icmp_lt (pc := 23) (tgt := 48) dX12_nextFrom_23 (by decide) (fun hc6 => ?_) (fun hc6 => ?_)
    · have h := (if_pos hc6).symm.trans h
      refine M_iinc (pc := 48) (v := (x3 + (1 : Int32))) (ls' := [some (.ref 205), some (.int x1), some (.int x2), some (.int (x3 + (1 : Int32)))]) dX12_nextFrom_48 rfl rfl (by decide) rfl ?_
      refine M_goto (pc := 51) (tgt := 4) dX12_nextFrom_51 (by decide) ?_
      exact ih x2 (x3 + (1 : Int32)) _ h
    · have h := (if_neg hc6).symm.trans h
      refine M_iload_n (pc := 26) dX12_nextFrom_26 rfl ?_
      refine M_iconst (pc := 27) (v := -1) dX12_nextFrom_27 (by decide) ?_
      refine M_icmp_eq (pc := 28) (tgt := 46) dX12_nextFrom_28 (by decide) (fun hc7 => ?_) (fun hc7 => ?_)
      · have h := (if_pos hc7).symm.trans h
        refine M_iload_n (pc := 46) dX12_nextFrom_46 rfl ?_
        refine M_istore_n (pc := 47) (ls' := [some (.ref 205), some (.int x1), some (.int x3), some (.int x3)]) dX12_nextFrom_47 (by decide) rfl ?_
        refine M_iinc (pc := 48) (v := (x3 + (1 : Int32))) (ls' := [some (.ref 205), some (.int x1), some (.int x3), some (.int (x3 + (1 : Int32)))]) dX12_nextFrom_48 rfl rfl (by decide) rfl ?_
        refine M_goto (pc := 51) (tgt := 4) dX12_nextFrom_51 (by decide) ?_
        exact ih x3 (x3 + (1 : Int32)) _ h
      · have h := (if_neg hc7).symm.trans h
        refine M_aload_n (pc := 31) dX12_nextFrom_31 rfl ?_
        refine M_iload_n (pc := 32) dX12_nextFrom_32 rfl ?_
        refine M_iconst (pc := 33) (v := 5) dX12_nextFrom_33 (by decide) ?_
        obtain ⟨r8, hr9, h⟩ := bnd h
        refine M_callVi (pc := 34) dX12_nextFrom_34 v_X12_70 rfl rfl at_11 (Nat.le_of_ble_eq_true rfl) (C_X12_of (d := d + 0) hp hr9) (Nat.le_refl _) ?_
        refine M_aload_n (pc := 37) dX12_nextFrom_37 rfl ?_
        refine M_iload_n (pc := 38) dX12_nextFrom_38 rfl ?_
        refine M_iconst (pc := 39) (v := 5) dX12_nextFrom_39 (by decide) ?_
        obtain ⟨r10, hr11, h⟩ := bnd h
        refine M_callVi (pc := 40) dX12_nextFrom_40 v_X12_70 rfl rfl at_11 (Nat.le_of_ble_eq_true rfl) (C_X12_of (d := d + 0) hp hr11) (Nat.le_refl _) ?_
        refine M_icmp_ge (pc := 43) (tgt := 48) dX12_nextFrom_43 (by decide) (fun hc12 => ?_) (fun hc12 => ?_)
        · have h := (if_pos hc12).symm.trans h
          refine M_iinc (pc := 48) (v := (x3 + (1 : Int32))) (ls' := [some (.ref 205), some (.int x1), some (.int x2), some (.int (x3 + (1 : Int32)))]) dX12_nextFrom_48 rfl rfl (by decide) rfl ?_
          refine M_goto (pc := 51) (tgt := 4) dX12_nextFrom_51 (by decide) ?_
          exact ih x2 (x3 + (1 : Int32)) _ h
        · have h := (if_neg hc12).symm.trans h
          refine M_iload_n (pc := 46) dX12_nextFrom_46 rfl ?_
          refine M_istore_n (pc := 47) (ls' := [some (.ref 205), some (.int x1), some (.int x3), some (.int x3)]) dX12_nextFrom_47 (by decide) rfl ?_
          refine M_iinc (pc := 48) (v := (x3 + (1 : Int32))) (ls' := [some (.ref 205), some (.int x1), some (.int x3), some (.int (x3 + (1 : Int32)))]) dX12_nextFrom_48 rfl rfl (by decide) rfl ?_
          refine M_goto (pc := 51) (tgt := 4) dX12_nextFrom_51 (by decide) ?_
          exact ih x3 (x3 + (1 : Int32)) _ h
set_option maxRecDepth 4000 in
set_option maxHeartbeats 4000000 in
theorem C_X12_nextFrom {g : gX} {d : Nat} {P : Nat → Nat → Option Nat} {I : HI} {x1 : Int32} {J : HJ} (hp : Wp P) {r : Int32} (h : F_X12_nextFrom I x1 = some r) : Cm g mX12_nextFrom (d + 2) [.ref 205, .int x1] (NT, I, J, P) (some (.int r)) (NT, I, J, P) := by
  unfold F_X12_nextFrom at h
  refine Cm.of (by decide) (by simp [Value.category]) (Nat.le_of_ble_eq_true rfl) (Nat.le_refl _) (ls := [some (.ref 205), some (.int x1), none, none]) rfl ?_
  refine M_iconst (pc := 0) (v := -1) dX12_nextFrom_0 (by decide) ?_
  refine M_istore_n (pc := 1) (ls' := [some (.ref 205), some (.int x1), some (.int (-1 : Int32)), none]) dX12_nextFrom_1 (by decide) rfl ?_
  refine M_iconst (pc := 2) (v := 0) dX12_nextFrom_2 (by decide) ?_
  refine M_istore_n (pc := 3) (ls' := [some (.ref 205), some (.int x1), some (.int (-1 : Int32)), some (.int (0 : Int32))]) dX12_nextFrom_3 (by decide) rfl ?_
  exact LC_X12_nextFrom_4 (P := P) hp (-1 : Int32) (0 : Int32) _ h
def L_X12_gap_13 (I : HI) (x1 : Int32) (x2 : Int32) : Option (Int32 × HI) :=
  if x2 = (-1 : Int32) then some (x1, I) else (F_X12_of I x2 (5 : Int32)) >>= fun r4 => (F_X12_nextFrom I (r4 + (1 : Int32))) >>= fun r6 => if r6 = (-1 : Int32) then L_X12_gap_13 I x1 r6 else (F_X12_of I r6 (5 : Int32)) >>= fun r9 => (F_X12_of I x2 (5 : Int32)) >>= fun r11 => L_X12_gap_13 I (if x1 < (r9 - r11) then (r9 - r11) else x1) r6
partial_fixpoint
def F_X12_gap (I : HI) : Option (Int32 × HI) :=
  (F_X12_nextFrom (up2 I 205 0 (0 : Int32)) (0 : Int32)) >>= fun r1 => L_X12_gap_13 (up2 I 205 0 (0 : Int32)) (0 : Int32) r1
set_option maxRecDepth 4000 in
set_option maxHeartbeats 4000000 in
theorem LC_X12_gap_13 {g : gX} {d : Nat} {P : Nat → Nat → Option Nat} {J : HJ} {I : HI} (hp : Wp P) : ∀ (x1 : Int32) (x2 : Int32) (r : Int32 × HI), L_X12_gap_13 I x1 x2 = some r → M g mX12_gap (d + 3) (NT, NT, 0) ((.inl (some (.int r.1))), (NT, r.2, J, P)) 13 [some (.ref 205), some (.int x1), some (.int x2), none] [] (NT, I, J, P) := by
  refine L_X12_gap_13.partial_correctness I (fun x1 x2 r => M g mX12_gap (d + 3) (NT, NT, 0) ((.inl (some (.int r.1))), (NT, r.2, J, P)) 13 [some (.ref 205), some (.int x1), some (.int x2), none] [] (NT, I, J, P)) ?_
  intro f ih x1 x2 r h
  refine M_iload_n (pc := 13) dX12_gap_13 rfl ?_
  refine M_iconst (pc := 14) (v := -1) dX12_gap_14 (by decide) ?_
  refine M_icmp_eq (pc := 15) (tgt := 63) dX12_gap_15 (by decide) (fun hc3 => ?_) (fun hc3 => ?_)
  · have h := (if_pos hc3).symm.trans h
    refine M_iload_n (pc := 63) dX12_gap_63 rfl ?_
    obtain rfl := Option.some.inj h
    exact M_iret (pc := 64) dX12_gap_64 rfl rfl rfl rfl
  · have h := (if_neg hc3).symm.trans h
    refine M_aload_n (pc := 18) dX12_gap_18 rfl ?_
    refine M_aload_n (pc := 19) dX12_gap_19 rfl ?_
    refine M_iload_n (pc := 20) dX12_gap_20 rfl ?_
    refine M_iconst (pc := 21) (v := 5) dX12_gap_21 (by decide) ?_
    obtain ⟨r4, hr5, h⟩ := bnd h
    refine M_callVi (pc := 22) dX12_gap_22 v_X12_70 rfl rfl at_11 (Nat.le_of_ble_eq_true rfl) (C_X12_of (d := d + 1) hp hr5) (Nat.le_refl _) ?_
    refine M_iconst (pc := 25) (v := 1) dX12_gap_25 (by decide) ?_
    refine M_iadd (pc := 26) dX12_gap_26 ?_
    obtain ⟨r6, hr7, h⟩ := bnd h
    refine M_callVi (pc := 27) dX12_gap_27 v_X12_385 rfl rfl at_11 (Nat.le_of_ble_eq_true rfl) (C_X12_nextFrom (d := d + 0) hp hr7) (Nat.le_refl _) ?_
    refine M_istore_n (pc := 30) (ls' := [some (.ref 205), some (.int x1), some (.int x2), some (.int r6)]) dX12_gap_30 (by decide) rfl ?_
    refine M_iload_n (pc := 31) dX12_gap_31 rfl ?_
    refine M_iconst (pc := 32) (v := -1) dX12_gap_32 (by decide) ?_
    refine M_icmp_ne (pc := 33) (tgt := 40) dX12_gap_33 (by decide) (fun hc8 => ?_) (fun hc8 => ?_)
    · have h := (if_neg hc8).symm.trans h
      refine M_iload_n (pc := 40) dX12_gap_40 rfl ?_
      refine M_aload_n (pc := 41) dX12_gap_41 rfl ?_
      refine M_iload_n (pc := 42) dX12_gap_42 rfl ?_
      refine M_iconst (pc := 43) (v := 5) dX12_gap_43 (by decide) ?_
      obtain ⟨r9, hr10, h⟩ := bnd h
      refine M_callVi (pc := 44) dX12_gap_44 v_X12_70 rfl rfl at_11 (Nat.le_of_ble_eq_true rfl) (C_X12_of (d := d + 1) hp hr10) (Nat.le_refl _) ?_
      refine M_aload_n (pc := 47) dX12_gap_47 rfl ?_
      refine M_iload_n (pc := 48) dX12_gap_48 rfl ?_
      refine M_iconst (pc := 49) (v := 5) dX12_gap_49 (by decide) ?_
      obtain ⟨r11, hr12, h⟩ := bnd h
      refine M_callVi (pc := 50) dX12_gap_50 v_X12_70 rfl rfl at_11 (Nat.le_of_ble_eq_true rfl) (C_X12_of (d := d + 1) hp hr12) (Nat.le_refl _) ?_
      refine M_isub (pc := 53) dX12_gap_53 ?_
      refine M_mmax (pc := 54) dX12_gap_54 mm_X12_293.1 mm_X12_293.2.1 mm_X12_293.2.2.1 mm_X12_293.2.2.2 (Nat.le_of_ble_eq_true rfl) ?_
      refine M_istore_n (pc := 57) (ls' := [some (.ref 205), some (.int (if x1 < (r9 - r11) then (r9 - r11) else x1)), some (.int x2), some (.int r6)]) dX12_gap_57 (by decide) rfl ?_
      refine M_iload_n (pc := 58) dX12_gap_58 rfl ?_
      refine M_istore_n (pc := 59) (ls' := [some (.ref 205), some (.int (if x1 < (r9 - r11) then (r9 - r11) else x1)), some (.int r6), some (.int r6)]) dX12_gap_59 (by decide) rfl ?_
      refine M_goto (pc := 60) (tgt := 13) dX12_gap_60 (by decide) ?_
      refine M_mask (pc := 13) [true, true, true, false] rfl ?_
      exact ih (if x1 < (r9 - r11) then (r9 - r11) else x1) r6 _ h
    · have h := (if_pos hc8).symm.trans h
      refine M_iload_n (pc := 36) dX12_gap_36 rfl ?_
      refine M_goto (pc := 37) (tgt := 57) dX12_gap_37 (by decide) ?_
      refine M_istore_n (pc := 57) (ls' := [some (.ref 205), some (.int x1), some (.int x2), some (.int r6)]) dX12_gap_57 (by decide) rfl ?_
      refine M_iload_n (pc := 58) dX12_gap_58 rfl ?_
      refine M_istore_n (pc := 59) (ls' := [some (.ref 205), some (.int x1), some (.int r6), some (.int r6)]) dX12_gap_59 (by decide) rfl ?_
      refine M_goto (pc := 60) (tgt := 13) dX12_gap_60 (by decide) ?_
      refine M_mask (pc := 13) [true, true, true, false] rfl ?_
      exact ih x1 r6 _ h
set_option maxRecDepth 4000 in
set_option maxHeartbeats 4000000 in
theorem C_X12_gap {g : gX} {d : Nat} {P : Nat → Nat → Option Nat} {I : HI} {J : HJ} (hp : Wp P) {r : Int32 × HI} (h : F_X12_gap I = some r) : Cm g mX12_gap (d + 3) [.ref 205] (NT, I, J, P) (some (.int r.1)) (NT, r.2, J, P) := by
  unfold F_X12_gap at h
  refine Cm.of (by decide) (by simp [Value.category]) (Nat.le_of_ble_eq_true rfl) (Nat.le_refl _) (ls := [some (.ref 205), none, none, none]) rfl ?_
  refine M_aload_n (pc := 0) dX12_gap_0 rfl ?_
  refine M_iconst (pc := 1) (v := 0) dX12_gap_1 (by decide) ?_
  refine M_putI (pc := 2) dX12_gap_2 f_X12_3 at_11 rfl ⟨rfl, rfl⟩ ?_
  refine M_iconst (pc := 5) (v := 0) dX12_gap_5 (by decide) ?_
  refine M_istore_n (pc := 6) (ls' := [some (.ref 205), some (.int (0 : Int32)), none, none]) dX12_gap_6 (by decide) rfl ?_
  refine M_aload_n (pc := 7) dX12_gap_7 rfl ?_
  refine M_iconst (pc := 8) (v := 0) dX12_gap_8 (by decide) ?_
  obtain ⟨r1, hr2, h⟩ := bnd h
  refine M_callVi (pc := 9) dX12_gap_9 v_X12_385 rfl rfl at_11 (Nat.le_of_ble_eq_true rfl) (C_X12_nextFrom (d := d + 0) hp hr2) (Nat.le_refl _) ?_
  refine M_istore_n (pc := 12) (ls' := [some (.ref 205), some (.int (0 : Int32)), some (.int r1), none]) dX12_gap_12 (by decide) rfl ?_
  exact LC_X12_gap_13 (P := P) hp (0 : Int32) r1 _ h
def F_X12_oldest (I : HI) : Option (Int32 × HI) :=
  (F_X12_nextFrom (up2 I 205 0 (0 : Int32)) (0 : Int32)) >>= fun r1 => some (r1, (up2 I 205 0 (0 : Int32)))
set_option maxRecDepth 4000 in
set_option maxHeartbeats 4000000 in
theorem C_X12_oldest {g : gX} {d : Nat} {P : Nat → Nat → Option Nat} {I : HI} {J : HJ} (hp : Wp P) {r : Int32 × HI} (h : F_X12_oldest I = some r) : Cm g mX12_oldest (d + 3) [.ref 205] (NT, I, J, P) (some (.int r.1)) (NT, r.2, J, P) := by
  unfold F_X12_oldest at h
  refine Cm.of (by decide) (by simp [Value.category]) (Nat.le_of_ble_eq_true rfl) (Nat.le_refl _) (ls := [some (.ref 205)]) rfl ?_
  refine M_aload_n (pc := 0) dX12_oldest_0 rfl ?_
  refine M_iconst (pc := 1) (v := 0) dX12_oldest_1 (by decide) ?_
  refine M_putI (pc := 2) dX12_oldest_2 f_X12_3 at_11 rfl ⟨rfl, rfl⟩ ?_
  refine M_aload_n (pc := 5) dX12_oldest_5 rfl ?_
  refine M_iconst (pc := 6) (v := 0) dX12_oldest_6 (by decide) ?_
  obtain ⟨r1, hr2, h⟩ := bnd h
  refine M_callVi (pc := 7) dX12_oldest_7 v_X12_385 rfl rfl at_11 (Nat.le_of_ble_eq_true rfl) (C_X12_nextFrom (d := d + 0) hp hr2) (Nat.le_refl _) ?_
  obtain rfl := Option.some.inj h
  exact M_iret (pc := 10) dX12_oldest_10 rfl rfl rfl rfl
def F_X12_next (I : HI) : Option (Int32 × HI) :=
  (F_X12_nextFrom (up2 I 205 0 (0 : Int32)) ((I 206 4) + (1 : Int32))) >>= fun r1 => some (r1, (up2 I 205 0 (0 : Int32)))
set_option maxRecDepth 4000 in
set_option maxHeartbeats 4000000 in
theorem C_X12_next {g : gX} {d : Nat} {P : Nat → Nat → Option Nat} {I : HI} {J : HJ} (hp : Wp P) {r : Int32 × HI} (h : F_X12_next I = some r) : Cm g mX12_next (d + 3) [.ref 205] (NT, I, J, P) (some (.int r.1)) (NT, r.2, J, P) := by
  unfold F_X12_next at h
  refine Cm.of (by decide) (by simp [Value.category]) (Nat.le_of_ble_eq_true rfl) (Nat.le_refl _) (ls := [some (.ref 205)]) rfl ?_
  refine M_aload_n (pc := 0) dX12_next_0 rfl ?_
  refine M_iconst (pc := 1) (v := 0) dX12_next_1 (by decide) ?_
  refine M_putI (pc := 2) dX12_next_2 f_X12_3 at_11 rfl ⟨rfl, rfl⟩ ?_
  refine M_aload_n (pc := 5) dX12_next_5 rfl ?_
  refine M_aload_n (pc := 6) dX12_next_6 rfl ?_
  refine M_getR (pc := 7) dX12_next_7 f_X12_13 at_11 (gc_205_1 hp).1 ?_
  refine M_iconst (pc := 10) (v := 4) dX12_next_10 (by decide) ?_
  refine M_ildcs (pc := 11) (j := 4) (x := (I 206 4)) dX12_next_11 (gc_205_1 hp).2 (by decide) (by decide) (rd_ne (Or.inr (by decide))) ?_
  refine M_iconst (pc := 12) (v := 1) dX12_next_12 (by decide) ?_
  refine M_iadd (pc := 13) dX12_next_13 ?_
  obtain ⟨r1, hr2, h⟩ := bnd h
  refine M_callVi (pc := 14) dX12_next_14 v_X12_385 rfl rfl at_11 (Nat.le_of_ble_eq_true rfl) (C_X12_nextFrom (d := d + 0) hp hr2) (Nat.le_refl _) ?_
  obtain rfl := Option.some.inj h
  exact M_iret (pc := 17) dX12_next_17 rfl rfl rfl rfl
def L_X12_sad_13 (x1 : Int32) (x2 : Int32) (x3 : Int32) (I : HI) : Option (Int32 × HI) :=
  (F_X12_dishes I) >>= fun r1 => if r1 ≤ x3 then some (x1, I) else (F_X12_turnsBy I x3) >>= fun r4 => if r4.1 ≤ x2 then L_X12_sad_13 x1 (if x2 < r4.1 then r4.1 else x2) (x3 + (1 : Int32)) r4.2 else L_X12_sad_13 x3 (if x2 < r4.1 then r4.1 else x2) (x3 + (1 : Int32)) r4.2
partial_fixpoint
def F_X12_sad (I : HI) : Option (Int32 × HI) :=
  L_X12_sad_13 (-1 : Int32) (-1000000 : Int32) (0 : Int32) (up2 I 205 0 (0 : Int32))
set_option maxRecDepth 4000 in
set_option maxHeartbeats 4000000 in
theorem LC_X12_sad_13 {g : gX} {d : Nat} {P : Nat → Nat → Option Nat} {J : HJ}  (hp : Wp P) : ∀ (x1 : Int32) (x2 : Int32) (x3 : Int32) (I : HI) (r : Int32 × HI), L_X12_sad_13  x1 x2 x3 I = some r → M g mX12_sad (d + 8) (NT, NT, 0) ((.inl (some (.int r.1))), (NT, r.2, J, P)) 13 [some (.ref 205), some (.int x1), some (.int x2), some (.int x3), none] [] (NT, I, J, P) := by
  refine L_X12_sad_13.partial_correctness  (fun x1 x2 x3 I r => M g mX12_sad (d + 8) (NT, NT, 0) ((.inl (some (.int r.1))), (NT, r.2, J, P)) 13 [some (.ref 205), some (.int x1), some (.int x2), some (.int x3), none] [] (NT, I, J, P)) ?_
  intro f ih x1 x2 x3 I r h
  refine M_iload_n (pc := 13) dX12_sad_13 rfl ?_
  refine M_aload_n (pc := 14) dX12_sad_14 rfl ?_
  obtain ⟨r1, hr2, h⟩ := bnd h
  refine M_callVi (pc := 15) dX12_sad_15 v_X12_62 rfl rfl at_11 (Nat.le_of_ble_eq_true rfl) (C_X12_dishes (d := d + 7) hp hr2) (Nat.le_refl _) ?_
  refine M_icmp_ge (pc := 18) (tgt := 53) dX12_sad_18 (by decide) (fun hc3 => ?_) (fun hc3 => ?_)
  · have h := (if_pos hc3).symm.trans h
    refine M_iload_n (pc := 53) dX12_sad_53 rfl ?_
    obtain rfl := Option.some.inj h
    exact M_iret (pc := 54) dX12_sad_54 rfl rfl rfl rfl
  · have h := (if_neg hc3).symm.trans h
    refine M_aload_n (pc := 21) dX12_sad_21 rfl ?_
    refine M_iload_n (pc := 22) dX12_sad_22 rfl ?_
    obtain ⟨r4, hr5, h⟩ := bnd h
    refine M_callVi (pc := 23) dX12_sad_23 v_X12_281 rfl rfl at_11 (Nat.le_of_ble_eq_true rfl) (C_X12_turnsBy (d := d + 0) hp hr5) (Nat.le_refl _) ?_
    refine M_istore (pc := 26) (ls' := [some (.ref 205), some (.int x1), some (.int x2), some (.int x3), some (.int r4.1)]) dX12_sad_26 (by decide) rfl ?_
    refine M_iload (pc := 28) dX12_sad_28 rfl ?_
    refine M_iload_n (pc := 30) dX12_sad_30 rfl ?_
    refine M_icmp_le (pc := 31) (tgt := 38) dX12_sad_31 (by decide) (fun hc6 => ?_) (fun hc6 => ?_)
    · have h := (if_pos hc6).symm.trans h
      refine M_iload_n (pc := 38) dX12_sad_38 rfl ?_
      refine M_istore_n (pc := 39) (ls' := [some (.ref 205), some (.int x1), some (.int x2), some (.int x3), some (.int r4.1)]) dX12_sad_39 (by decide) rfl ?_
      refine M_iload_n (pc := 40) dX12_sad_40 rfl ?_
      refine M_iload (pc := 41) dX12_sad_41 rfl ?_
      refine M_mmax (pc := 43) dX12_sad_43 mm_X12_293.1 mm_X12_293.2.1 mm_X12_293.2.2.1 mm_X12_293.2.2.2 (Nat.le_of_ble_eq_true rfl) ?_
      refine M_istore_n (pc := 46) (ls' := [some (.ref 205), some (.int x1), some (.int (if x2 < r4.1 then r4.1 else x2)), some (.int x3), some (.int r4.1)]) dX12_sad_46 (by decide) rfl ?_
      refine M_iinc (pc := 47) (v := (x3 + (1 : Int32))) (ls' := [some (.ref 205), some (.int x1), some (.int (if x2 < r4.1 then r4.1 else x2)), some (.int (x3 + (1 : Int32))), some (.int r4.1)]) dX12_sad_47 rfl rfl (by decide) rfl ?_
      refine M_goto (pc := 50) (tgt := 13) dX12_sad_50 (by decide) ?_
      refine M_mask (pc := 13) [true, true, true, true, false] rfl ?_
      exact ih x1 (if x2 < r4.1 then r4.1 else x2) (x3 + (1 : Int32)) r4.2 _ h
    · have h := (if_neg hc6).symm.trans h
      refine M_iload_n (pc := 34) dX12_sad_34 rfl ?_
      refine M_goto (pc := 35) (tgt := 39) dX12_sad_35 (by decide) ?_
      refine M_istore_n (pc := 39) (ls' := [some (.ref 205), some (.int x3), some (.int x2), some (.int x3), some (.int r4.1)]) dX12_sad_39 (by decide) rfl ?_
      refine M_iload_n (pc := 40) dX12_sad_40 rfl ?_
      refine M_iload (pc := 41) dX12_sad_41 rfl ?_
      refine M_mmax (pc := 43) dX12_sad_43 mm_X12_293.1 mm_X12_293.2.1 mm_X12_293.2.2.1 mm_X12_293.2.2.2 (Nat.le_of_ble_eq_true rfl) ?_
      refine M_istore_n (pc := 46) (ls' := [some (.ref 205), some (.int x3), some (.int (if x2 < r4.1 then r4.1 else x2)), some (.int x3), some (.int r4.1)]) dX12_sad_46 (by decide) rfl ?_
      refine M_iinc (pc := 47) (v := (x3 + (1 : Int32))) (ls' := [some (.ref 205), some (.int x3), some (.int (if x2 < r4.1 then r4.1 else x2)), some (.int (x3 + (1 : Int32))), some (.int r4.1)]) dX12_sad_47 rfl rfl (by decide) rfl ?_
      refine M_goto (pc := 50) (tgt := 13) dX12_sad_50 (by decide) ?_
      refine M_mask (pc := 13) [true, true, true, true, false] rfl ?_
      exact ih x3 (if x2 < r4.1 then r4.1 else x2) (x3 + (1 : Int32)) r4.2 _ h
set_option maxRecDepth 4000 in
set_option maxHeartbeats 4000000 in
theorem C_X12_sad {g : gX} {d : Nat} {P : Nat → Nat → Option Nat} {I : HI} {J : HJ} (hp : Wp P) {r : Int32 × HI} (h : F_X12_sad I = some r) : Cm g mX12_sad (d + 8) [.ref 205] (NT, I, J, P) (some (.int r.1)) (NT, r.2, J, P) := by
  unfold F_X12_sad at h
  refine Cm.of (by decide) (by simp [Value.category]) (Nat.le_of_ble_eq_true rfl) (Nat.le_refl _) (ls := [some (.ref 205), none, none, none, none]) rfl ?_
  refine M_aload_n (pc := 0) dX12_sad_0 rfl ?_
  refine M_iconst (pc := 1) (v := 0) dX12_sad_1 (by decide) ?_
  refine M_putI (pc := 2) dX12_sad_2 f_X12_3 at_11 rfl ⟨rfl, rfl⟩ ?_
  refine M_iconst (pc := 5) (v := -1) dX12_sad_5 (by decide) ?_
  refine M_istore_n (pc := 6) (ls' := [some (.ref 205), some (.int (-1 : Int32)), none, none, none]) dX12_sad_6 (by decide) rfl ?_
  refine M_ldcw (pc := 7) (v := -1000000) dX12_sad_7 w_1901 ?_
  refine M_istore_n (pc := 10) (ls' := [some (.ref 205), some (.int (-1 : Int32)), some (.int (-1000000 : Int32)), none, none]) dX12_sad_10 (by decide) rfl ?_
  refine M_iconst (pc := 11) (v := 0) dX12_sad_11 (by decide) ?_
  refine M_istore_n (pc := 12) (ls' := [some (.ref 205), some (.int (-1 : Int32)), some (.int (-1000000 : Int32)), some (.int (0 : Int32)), none]) dX12_sad_12 (by decide) rfl ?_
  exact LC_X12_sad_13 (P := P) hp (-1 : Int32) (-1000000 : Int32) (0 : Int32) (up2 I 205 0 (0 : Int32)) _ h
def F_X12_hostHas (I : HI) (x1 : Int32) (x2 : Int32) : Option (Int32 × HI) :=
  if x1 = x2 then (F_X12_paysBy I x1) >>= fun r7 => some ((r7.1 / (2 : Int32)), r7.2) else (F_X12_paysBy I x1) >>= fun r2 => (F_X12_farOf r2.2 x1 x2) >>= fun r4 => if (r2.2 206 8) < r4 then some ((r2.1 - (0 : Int32)), r2.2) else some ((r2.1 - (2 : Int32)), r2.2)
set_option maxRecDepth 4000 in
set_option maxHeartbeats 4000000 in
theorem C_X12_hostHas {g : gX} {d : Nat} {P : Nat → Nat → Option Nat} {I : HI} {x1 : Int32} {x2 : Int32} {J : HJ} (hp : Wp P) {r : Int32 × HI} (h : F_X12_hostHas I x1 x2 = some r) : Cm g mX12_hostHas (d + 8) [.ref 205, .int x1, .int x2] (NT, I, J, P) (some (.int r.1)) (NT, r.2, J, P) := by
  unfold F_X12_hostHas at h
  refine Cm.of (by decide) (by simp [Value.category]) (Nat.le_of_ble_eq_true rfl) (Nat.le_refl _) (ls := [some (.ref 205), some (.int x1), some (.int x2)]) rfl ?_
  refine M_iload_n (pc := 0) dX12_hostHas_0 rfl ?_
  refine M_iload_n (pc := 1) dX12_hostHas_1 rfl ?_
  refine M_icmp_ne (pc := 2) (tgt := 13) dX12_hostHas_2 (by decide) (fun hc1 => ?_) (fun hc1 => ?_)
  · have h := (if_neg hc1).symm.trans h
    refine M_aload_n (pc := 13) dX12_hostHas_13 rfl ?_
    refine M_iload_n (pc := 14) dX12_hostHas_14 rfl ?_
    obtain ⟨r2, hr3, h⟩ := bnd h
    refine M_callVi (pc := 15) dX12_hostHas_15 v_X12_284 rfl rfl at_11 (Nat.le_of_ble_eq_true rfl) (C_X12_paysBy (d := d + 0) hp hr3) (Nat.le_refl _) ?_
    refine M_aload_n (pc := 18) dX12_hostHas_18 rfl ?_
    refine M_iload_n (pc := 19) dX12_hostHas_19 rfl ?_
    refine M_iload_n (pc := 20) dX12_hostHas_20 rfl ?_
    obtain ⟨r4, hr5, h⟩ := bnd h
    refine M_callVi (pc := 21) dX12_hostHas_21 v_X12_256 rfl rfl at_11 (Nat.le_of_ble_eq_true rfl) (C_X12_farOf (d := d + 5) hp hr5) (Nat.le_refl _) ?_
    refine M_aload_n (pc := 24) dX12_hostHas_24 rfl ?_
    refine M_getR (pc := 25) dX12_hostHas_25 f_X12_13 at_11 (gc_205_1 hp).1 ?_
    refine M_bipush (pc := 28) (v := 8) dX12_hostHas_28 (by decide) ?_
    refine M_ildc (pc := 30) (j := 8) dX12_hostHas_30 (gc_205_1 hp).2 (by decide) (by decide) ?_
    refine M_icmp_gt (pc := 31) (tgt := 38) dX12_hostHas_31 (by decide) (fun hc6 => ?_) (fun hc6 => ?_)
    · have h := (if_pos hc6).symm.trans h
      refine M_iconst (pc := 38) (v := 0) dX12_hostHas_38 (by decide) ?_
      refine M_isub (pc := 39) dX12_hostHas_39 ?_
      obtain rfl := Option.some.inj h
      exact M_iret (pc := 40) dX12_hostHas_40 rfl rfl rfl rfl
    · have h := (if_neg hc6).symm.trans h
      refine M_iconst (pc := 34) (v := 2) dX12_hostHas_34 (by decide) ?_
      refine M_goto (pc := 35) (tgt := 39) dX12_hostHas_35 (by decide) ?_
      refine M_isub (pc := 39) dX12_hostHas_39 ?_
      obtain rfl := Option.some.inj h
      exact M_iret (pc := 40) dX12_hostHas_40 rfl rfl rfl rfl
  · have h := (if_pos hc1).symm.trans h
    refine M_aload_n (pc := 5) dX12_hostHas_5 rfl ?_
    refine M_iload_n (pc := 6) dX12_hostHas_6 rfl ?_
    obtain ⟨r7, hr8, h⟩ := bnd h
    refine M_callVi (pc := 7) dX12_hostHas_7 v_X12_284 rfl rfl at_11 (Nat.le_of_ble_eq_true rfl) (C_X12_paysBy (d := d + 0) hp hr8) (Nat.le_refl _) ?_
    refine M_iconst (pc := 10) (v := 2) dX12_hostHas_10 (by decide) ?_
    refine M_idiv (pc := 11) dX12_hostHas_11 (by decide) ?_
    obtain rfl := Option.some.inj h
    exact M_iret (pc := 12) dX12_hostHas_12 rfl rfl rfl rfl
def L_X12_hosts_59 (x1 : Int32) (x2 : Int32) (x3 : Int32) (x4 : Int32) (I : HI) : Option (Int32 × HI) :=
  if (4 : Int32) ≤ x4 then some (x3, I) else if (x4 / (2 : Int32)) = 0 then if (x4 - x4 / (2 : Int32) * (2 : Int32)) = 0 then (F_X12_hostHas I x1 x1) >>= fun r54 => (F_X12_hostHas r54.2 ((x1 + x2) - x1) x1) >>= fun r56 => if r54.1 < r56.1 then L_X12_hosts_59 x1 x2 (x3 ||| (0 : Int32)) (x4 + (1 : Int32)) r56.2 else (F_X12_hostHas r56.2 x1 x1) >>= fun r60 => (F_X12_hostHas r60.2 ((x1 + x2) - x1) x1) >>= fun r62 => if r60.1 < r62.1 then L_X12_hosts_59 x1 x2 (x3 ||| (0 : Int32)) (x4 + (1 : Int32)) r62.2 else L_X12_hosts_59 x1 x2 (x3 ||| ((1 : Int32) <<< (x4 &&& 31))) (x4 + (1 : Int32)) r62.2 else (F_X12_hostHas I x1 x2) >>= fun r41 => (F_X12_hostHas r41.2 ((x1 + x2) - x1) x2) >>= fun r43 => if r41.1 < r43.1 then L_X12_hosts_59 x1 x2 (x3 ||| (0 : Int32)) (x4 + (1 : Int32)) r43.2 else (F_X12_hostHas r43.2 x2 x1) >>= fun r47 => (F_X12_hostHas r47.2 ((x1 + x2) - x2) x1) >>= fun r49 => if r47.1 < r49.1 then L_X12_hosts_59 x1 x2 (x3 ||| (0 : Int32)) (x4 + (1 : Int32)) r49.2 else L_X12_hosts_59 x1 x2 (x3 ||| ((1 : Int32) <<< (x4 &&& 31))) (x4 + (1 : Int32)) r49.2 else if (x4 - x4 / (2 : Int32) * (2 : Int32)) = 0 then (F_X12_hostHas I x2 x1) >>= fun r27 => (F_X12_hostHas r27.2 ((x1 + x2) - x2) x1) >>= fun r29 => if r27.1 < r29.1 then L_X12_hosts_59 x1 x2 (x3 ||| (0 : Int32)) (x4 + (1 : Int32)) r29.2 else (F_X12_hostHas r29.2 x1 x2) >>= fun r33 => (F_X12_hostHas r33.2 ((x1 + x2) - x1) x2) >>= fun r35 => if r33.1 < r35.1 then L_X12_hosts_59 x1 x2 (x3 ||| (0 : Int32)) (x4 + (1 : Int32)) r35.2 else L_X12_hosts_59 x1 x2 (x3 ||| ((1 : Int32) <<< (x4 &&& 31))) (x4 + (1 : Int32)) r35.2 else (F_X12_hostHas I x2 x2) >>= fun r14 => (F_X12_hostHas r14.2 ((x1 + x2) - x2) x2) >>= fun r16 => if r14.1 < r16.1 then L_X12_hosts_59 x1 x2 (x3 ||| (0 : Int32)) (x4 + (1 : Int32)) r16.2 else (F_X12_hostHas r16.2 x2 x2) >>= fun r20 => (F_X12_hostHas r20.2 ((x1 + x2) - x2) x2) >>= fun r22 => if r20.1 < r22.1 then L_X12_hosts_59 x1 x2 (x3 ||| (0 : Int32)) (x4 + (1 : Int32)) r22.2 else L_X12_hosts_59 x1 x2 (x3 ||| ((1 : Int32) <<< (x4 &&& 31))) (x4 + (1 : Int32)) r22.2
partial_fixpoint
def F_X12_hosts (I : HI) (x1 : Int32) (x2 : Int32) : Option (Int32 × HI) :=
  (F_X12_noDish (up2 I 205 0 (0 : Int32)) x1) >>= fun r1 => if r1 = 0 then (F_X12_noDish (up2 I 205 0 (0 : Int32)) x2) >>= fun r70 => if r70 = 0 then (F_X12_throwsIf (up2 I 205 0 (0 : Int32)) (0 : Int32) (1 : Int32)) >>= fun r73 => if r73.1 = 0 then if x1 = x2 then (F_X12_throwsIf r73.2 (1 : Int32) (2 : Int32)) >>= fun r80 => if r80.1 = 0 then L_X12_hosts_59 x1 x2 (0 : Int32) (0 : Int32) r80.2 else some ((0 : Int32), r80.2) else (F_X12_throwsIf r73.2 (0 : Int32) (2 : Int32)) >>= fun r77 => if r77.1 = 0 then L_X12_hosts_59 x1 x2 (0 : Int32) (0 : Int32) r77.2 else some ((0 : Int32), r77.2) else some ((0 : Int32), r73.2) else (F_X12_throwsIf (up2 I 205 0 (0 : Int32)) (1 : Int32) (1 : Int32)) >>= fun r83 => if r83.1 = 0 then if x1 = x2 then (F_X12_throwsIf r83.2 (1 : Int32) (2 : Int32)) >>= fun r90 => if r90.1 = 0 then L_X12_hosts_59 x1 x2 (0 : Int32) (0 : Int32) r90.2 else some ((0 : Int32), r90.2) else (F_X12_throwsIf r83.2 (0 : Int32) (2 : Int32)) >>= fun r87 => if r87.1 = 0 then L_X12_hosts_59 x1 x2 (0 : Int32) (0 : Int32) r87.2 else some ((0 : Int32), r87.2) else some ((0 : Int32), r83.2) else (F_X12_throwsIf (up2 I 205 0 (0 : Int32)) (1 : Int32) (1 : Int32)) >>= fun r4 => if r4.1 = 0 then if x1 = x2 then (F_X12_throwsIf r4.2 (1 : Int32) (2 : Int32)) >>= fun r67 => if r67.1 = 0 then L_X12_hosts_59 x1 x2 (0 : Int32) (0 : Int32) r67.2 else some ((0 : Int32), r67.2) else (F_X12_throwsIf r4.2 (0 : Int32) (2 : Int32)) >>= fun r8 => if r8.1 = 0 then L_X12_hosts_59 x1 x2 (0 : Int32) (0 : Int32) r8.2 else some ((0 : Int32), r8.2) else some ((0 : Int32), r4.2)
set_option maxRecDepth 4000 in
set_option maxHeartbeats 4000000 in
theorem LC_X12_hosts_59 {g : gX} {d : Nat} {P : Nat → Nat → Option Nat} {J : HJ} {x1 : Int32} {x2 : Int32} (hp : Wp P) : ∀ (x3 : Int32) (x4 : Int32) (I : HI) (r : Int32 × HI), L_X12_hosts_59 x1 x2 x3 x4 I = some r → M g mX12_hosts (d + 9) (NT, NT, 0) ((.inl (some (.int r.1))), (NT, r.2, J, P)) 59 [some (.ref 205), some (.int x1), some (.int x2), some (.int x3), some (.int x4), none, none, none] [] (NT, I, J, P) := by
  refine L_X12_hosts_59.partial_correctness x1 x2 (fun x3 x4 I r => M g mX12_hosts (d + 9) (NT, NT, 0) ((.inl (some (.int r.1))), (NT, r.2, J, P)) 59 [some (.ref 205), some (.int x1), some (.int x2), some (.int x3), some (.int x4), none, none, none] [] (NT, I, J, P)) ?_
  intro f ih x3 x4 I r h
  refine M_iload (pc := 59) dX12_hosts_59 rfl ?_
  refine M_iconst (pc := 61) (v := 4) dX12_hosts_61 (by decide) ?_
  refine M_icmp_ge (pc := 62) (tgt := 168) dX12_hosts_62 (by decide) (fun hc11 => ?_) (fun hc11 => ?_)
  · have h := (if_pos hc11).symm.trans h
    refine M_iload_n (pc := 168) dX12_hosts_168 rfl ?_
    obtain rfl := Option.some.inj h
    exact M_iret (pc := 169) dX12_hosts_169 rfl rfl rfl rfl
  · have h := (if_neg hc11).symm.trans h
    refine M_iload (pc := 65) dX12_hosts_65 rfl ?_
    refine M_iconst (pc := 67) (v := 2) dX12_hosts_67 (by decide) ?_
    refine M_idiv (pc := 68) dX12_hosts_68 (by decide) ?_
    refine M_if_ne (pc := 69) (tgt := 76) dX12_hosts_69 (by decide) (fun hc12 => ?_) (fun hc12 => ?_)
    · have h := (if_neg hc12).symm.trans h
      refine M_iload_n (pc := 76) dX12_hosts_76 rfl ?_
      refine M_istore (pc := 77) (ls' := [some (.ref 205), some (.int x1), some (.int x2), some (.int x3), some (.int x4), some (.int x2), none, none]) dX12_hosts_77 (by decide) rfl ?_
      refine M_iload (pc := 79) dX12_hosts_79 rfl ?_
      refine M_iconst (pc := 81) (v := 2) dX12_hosts_81 (by decide) ?_
      refine M_irem (pc := 82) dX12_hosts_82 (by decide) ?_
      refine M_if_ne (pc := 83) (tgt := 90) dX12_hosts_83 (by decide) (fun hc13 => ?_) (fun hc13 => ?_)
      · have h := (if_neg hc13).symm.trans h
        refine M_iload_n (pc := 90) dX12_hosts_90 rfl ?_
        refine M_istore (pc := 91) (ls' := [some (.ref 205), some (.int x1), some (.int x2), some (.int x3), some (.int x4), some (.int x2), some (.int x2), none]) dX12_hosts_91 (by decide) rfl ?_
        refine M_aload_n (pc := 93) dX12_hosts_93 rfl ?_
        refine M_iload (pc := 94) dX12_hosts_94 rfl ?_
        refine M_iload (pc := 96) dX12_hosts_96 rfl ?_
        obtain ⟨r14, hr15, h⟩ := bnd h
        refine M_callVi (pc := 98) dX12_hosts_98 v_X12_389 rfl rfl at_11 (Nat.le_of_ble_eq_true rfl) (C_X12_hostHas (d := d + 0) hp hr15) (Nat.le_refl _) ?_
        refine M_aload_n (pc := 101) dX12_hosts_101 rfl ?_
        refine M_iload_n (pc := 102) dX12_hosts_102 rfl ?_
        refine M_iload_n (pc := 103) dX12_hosts_103 rfl ?_
        refine M_iadd (pc := 104) dX12_hosts_104 ?_
        refine M_iload (pc := 105) dX12_hosts_105 rfl ?_
        refine M_isub (pc := 107) dX12_hosts_107 ?_
        refine M_iload (pc := 108) dX12_hosts_108 rfl ?_
        obtain ⟨r16, hr17, h⟩ := bnd h
        refine M_callVi (pc := 110) dX12_hosts_110 v_X12_389 rfl rfl at_11 (Nat.le_of_ble_eq_true rfl) (C_X12_hostHas (d := d + 0) hp hr17) (Nat.le_refl _) ?_
        refine M_icmp_lt (pc := 113) (tgt := 143) dX12_hosts_113 (by decide) (fun hc18 => ?_) (fun hc18 => ?_)
        · have h := (if_pos hc18).symm.trans h
          refine M_iconst (pc := 143) (v := 0) dX12_hosts_143 (by decide) ?_
          refine M_istore (pc := 144) (ls' := [some (.ref 205), some (.int x1), some (.int x2), some (.int x3), some (.int x4), some (.int x2), some (.int x2), some (.int (0 : Int32))]) dX12_hosts_144 (by decide) rfl ?_
          refine M_iload_n (pc := 146) dX12_hosts_146 rfl ?_
          refine M_iload (pc := 147) dX12_hosts_147 rfl ?_
          refine M_if_eq (pc := 149) (tgt := 159) dX12_hosts_149 (by decide) (fun hc19 => ?_) (fun hc19 => absurd hc19 (by decide))
          refine M_iconst (pc := 159) (v := 0) dX12_hosts_159 (by decide) ?_
          refine M_ior (pc := 160) dX12_hosts_160 ?_
          refine M_istore_n (pc := 161) (ls' := [some (.ref 205), some (.int x1), some (.int x2), some (.int (x3 ||| (0 : Int32))), some (.int x4), some (.int x2), some (.int x2), some (.int (0 : Int32))]) dX12_hosts_161 (by decide) rfl ?_
          refine M_iinc (pc := 162) (v := (x4 + (1 : Int32))) (ls' := [some (.ref 205), some (.int x1), some (.int x2), some (.int (x3 ||| (0 : Int32))), some (.int (x4 + (1 : Int32))), some (.int x2), some (.int x2), some (.int (0 : Int32))]) dX12_hosts_162 rfl rfl (by decide) rfl ?_
          refine M_goto (pc := 165) (tgt := 59) dX12_hosts_165 (by decide) ?_
          refine M_mask (pc := 59) [true, true, true, true, true, false, false, false] rfl ?_
          exact ih (x3 ||| (0 : Int32)) (x4 + (1 : Int32)) r16.2 _ h
        · have h := (if_neg hc18).symm.trans h
          refine M_aload_n (pc := 116) dX12_hosts_116 rfl ?_
          refine M_iload (pc := 117) dX12_hosts_117 rfl ?_
          refine M_iload (pc := 119) dX12_hosts_119 rfl ?_
          obtain ⟨r20, hr21, h⟩ := bnd h
          refine M_callVi (pc := 121) dX12_hosts_121 v_X12_389 rfl rfl at_11 (Nat.le_of_ble_eq_true rfl) (C_X12_hostHas (d := d + 0) hp hr21) (Nat.le_refl _) ?_
          refine M_aload_n (pc := 124) dX12_hosts_124 rfl ?_
          refine M_iload_n (pc := 125) dX12_hosts_125 rfl ?_
          refine M_iload_n (pc := 126) dX12_hosts_126 rfl ?_
          refine M_iadd (pc := 127) dX12_hosts_127 ?_
          refine M_iload (pc := 128) dX12_hosts_128 rfl ?_
          refine M_isub (pc := 130) dX12_hosts_130 ?_
          refine M_iload (pc := 131) dX12_hosts_131 rfl ?_
          obtain ⟨r22, hr23, h⟩ := bnd h
          refine M_callVi (pc := 133) dX12_hosts_133 v_X12_389 rfl rfl at_11 (Nat.le_of_ble_eq_true rfl) (C_X12_hostHas (d := d + 0) hp hr23) (Nat.le_refl _) ?_
          refine M_icmp_lt (pc := 136) (tgt := 143) dX12_hosts_136 (by decide) (fun hc24 => ?_) (fun hc24 => ?_)
          · have h := (if_pos hc24).symm.trans h
            refine M_iconst (pc := 143) (v := 0) dX12_hosts_143 (by decide) ?_
            refine M_istore (pc := 144) (ls' := [some (.ref 205), some (.int x1), some (.int x2), some (.int x3), some (.int x4), some (.int x2), some (.int x2), some (.int (0 : Int32))]) dX12_hosts_144 (by decide) rfl ?_
            refine M_iload_n (pc := 146) dX12_hosts_146 rfl ?_
            refine M_iload (pc := 147) dX12_hosts_147 rfl ?_
            refine M_if_eq (pc := 149) (tgt := 159) dX12_hosts_149 (by decide) (fun hc25 => ?_) (fun hc25 => absurd hc25 (by decide))
            refine M_iconst (pc := 159) (v := 0) dX12_hosts_159 (by decide) ?_
            refine M_ior (pc := 160) dX12_hosts_160 ?_
            refine M_istore_n (pc := 161) (ls' := [some (.ref 205), some (.int x1), some (.int x2), some (.int (x3 ||| (0 : Int32))), some (.int x4), some (.int x2), some (.int x2), some (.int (0 : Int32))]) dX12_hosts_161 (by decide) rfl ?_
            refine M_iinc (pc := 162) (v := (x4 + (1 : Int32))) (ls' := [some (.ref 205), some (.int x1), some (.int x2), some (.int (x3 ||| (0 : Int32))), some (.int (x4 + (1 : Int32))), some (.int x2), some (.int x2), some (.int (0 : Int32))]) dX12_hosts_162 rfl rfl (by decide) rfl ?_
            refine M_goto (pc := 165) (tgt := 59) dX12_hosts_165 (by decide) ?_
            refine M_mask (pc := 59) [true, true, true, true, true, false, false, false] rfl ?_
            exact ih (x3 ||| (0 : Int32)) (x4 + (1 : Int32)) r22.2 _ h
          · have h := (if_neg hc24).symm.trans h
            refine M_iconst (pc := 139) (v := 1) dX12_hosts_139 (by decide) ?_
            refine M_goto (pc := 140) (tgt := 144) dX12_hosts_140 (by decide) ?_
            refine M_istore (pc := 144) (ls' := [some (.ref 205), some (.int x1), some (.int x2), some (.int x3), some (.int x4), some (.int x2), some (.int x2), some (.int (1 : Int32))]) dX12_hosts_144 (by decide) rfl ?_
            refine M_iload_n (pc := 146) dX12_hosts_146 rfl ?_
            refine M_iload (pc := 147) dX12_hosts_147 rfl ?_
            refine M_if_eq (pc := 149) (tgt := 159) dX12_hosts_149 (by decide) (fun hc26 => absurd hc26 (by decide)) (fun hc26 => ?_)
            refine M_iconst (pc := 152) (v := 1) dX12_hosts_152 (by decide) ?_
            refine M_iload (pc := 153) dX12_hosts_153 rfl ?_
            refine M_ishl (pc := 155) dX12_hosts_155 ?_
            refine M_goto (pc := 156) (tgt := 160) dX12_hosts_156 (by decide) ?_
            refine M_ior (pc := 160) dX12_hosts_160 ?_
            refine M_istore_n (pc := 161) (ls' := [some (.ref 205), some (.int x1), some (.int x2), some (.int (x3 ||| ((1 : Int32) <<< (x4 &&& 31)))), some (.int x4), some (.int x2), some (.int x2), some (.int (1 : Int32))]) dX12_hosts_161 (by decide) rfl ?_
            refine M_iinc (pc := 162) (v := (x4 + (1 : Int32))) (ls' := [some (.ref 205), some (.int x1), some (.int x2), some (.int (x3 ||| ((1 : Int32) <<< (x4 &&& 31)))), some (.int (x4 + (1 : Int32))), some (.int x2), some (.int x2), some (.int (1 : Int32))]) dX12_hosts_162 rfl rfl (by decide) rfl ?_
            refine M_goto (pc := 165) (tgt := 59) dX12_hosts_165 (by decide) ?_
            refine M_mask (pc := 59) [true, true, true, true, true, false, false, false] rfl ?_
            exact ih (x3 ||| ((1 : Int32) <<< (x4 &&& 31))) (x4 + (1 : Int32)) r22.2 _ h
      · have h := (if_pos hc13).symm.trans h
        refine M_iload_n (pc := 86) dX12_hosts_86 rfl ?_
        refine M_goto (pc := 87) (tgt := 91) dX12_hosts_87 (by decide) ?_
        refine M_istore (pc := 91) (ls' := [some (.ref 205), some (.int x1), some (.int x2), some (.int x3), some (.int x4), some (.int x2), some (.int x1), none]) dX12_hosts_91 (by decide) rfl ?_
        refine M_aload_n (pc := 93) dX12_hosts_93 rfl ?_
        refine M_iload (pc := 94) dX12_hosts_94 rfl ?_
        refine M_iload (pc := 96) dX12_hosts_96 rfl ?_
        obtain ⟨r27, hr28, h⟩ := bnd h
        refine M_callVi (pc := 98) dX12_hosts_98 v_X12_389 rfl rfl at_11 (Nat.le_of_ble_eq_true rfl) (C_X12_hostHas (d := d + 0) hp hr28) (Nat.le_refl _) ?_
        refine M_aload_n (pc := 101) dX12_hosts_101 rfl ?_
        refine M_iload_n (pc := 102) dX12_hosts_102 rfl ?_
        refine M_iload_n (pc := 103) dX12_hosts_103 rfl ?_
        refine M_iadd (pc := 104) dX12_hosts_104 ?_
        refine M_iload (pc := 105) dX12_hosts_105 rfl ?_
        refine M_isub (pc := 107) dX12_hosts_107 ?_
        refine M_iload (pc := 108) dX12_hosts_108 rfl ?_
        obtain ⟨r29, hr30, h⟩ := bnd h
        refine M_callVi (pc := 110) dX12_hosts_110 v_X12_389 rfl rfl at_11 (Nat.le_of_ble_eq_true rfl) (C_X12_hostHas (d := d + 0) hp hr30) (Nat.le_refl _) ?_
        refine M_icmp_lt (pc := 113) (tgt := 143) dX12_hosts_113 (by decide) (fun hc31 => ?_) (fun hc31 => ?_)
        · have h := (if_pos hc31).symm.trans h
          refine M_iconst (pc := 143) (v := 0) dX12_hosts_143 (by decide) ?_
          refine M_istore (pc := 144) (ls' := [some (.ref 205), some (.int x1), some (.int x2), some (.int x3), some (.int x4), some (.int x2), some (.int x1), some (.int (0 : Int32))]) dX12_hosts_144 (by decide) rfl ?_
          refine M_iload_n (pc := 146) dX12_hosts_146 rfl ?_
          refine M_iload (pc := 147) dX12_hosts_147 rfl ?_
          refine M_if_eq (pc := 149) (tgt := 159) dX12_hosts_149 (by decide) (fun hc32 => ?_) (fun hc32 => absurd hc32 (by decide))
          refine M_iconst (pc := 159) (v := 0) dX12_hosts_159 (by decide) ?_
          refine M_ior (pc := 160) dX12_hosts_160 ?_
          refine M_istore_n (pc := 161) (ls' := [some (.ref 205), some (.int x1), some (.int x2), some (.int (x3 ||| (0 : Int32))), some (.int x4), some (.int x2), some (.int x1), some (.int (0 : Int32))]) dX12_hosts_161 (by decide) rfl ?_
          refine M_iinc (pc := 162) (v := (x4 + (1 : Int32))) (ls' := [some (.ref 205), some (.int x1), some (.int x2), some (.int (x3 ||| (0 : Int32))), some (.int (x4 + (1 : Int32))), some (.int x2), some (.int x1), some (.int (0 : Int32))]) dX12_hosts_162 rfl rfl (by decide) rfl ?_
          refine M_goto (pc := 165) (tgt := 59) dX12_hosts_165 (by decide) ?_
          refine M_mask (pc := 59) [true, true, true, true, true, false, false, false] rfl ?_
          exact ih (x3 ||| (0 : Int32)) (x4 + (1 : Int32)) r29.2 _ h
        · have h := (if_neg hc31).symm.trans h
          refine M_aload_n (pc := 116) dX12_hosts_116 rfl ?_
          refine M_iload (pc := 117) dX12_hosts_117 rfl ?_
          refine M_iload (pc := 119) dX12_hosts_119 rfl ?_
          obtain ⟨r33, hr34, h⟩ := bnd h
          refine M_callVi (pc := 121) dX12_hosts_121 v_X12_389 rfl rfl at_11 (Nat.le_of_ble_eq_true rfl) (C_X12_hostHas (d := d + 0) hp hr34) (Nat.le_refl _) ?_
          refine M_aload_n (pc := 124) dX12_hosts_124 rfl ?_
          refine M_iload_n (pc := 125) dX12_hosts_125 rfl ?_
          refine M_iload_n (pc := 126) dX12_hosts_126 rfl ?_
          refine M_iadd (pc := 127) dX12_hosts_127 ?_
          refine M_iload (pc := 128) dX12_hosts_128 rfl ?_
          refine M_isub (pc := 130) dX12_hosts_130 ?_
          refine M_iload (pc := 131) dX12_hosts_131 rfl ?_
          obtain ⟨r35, hr36, h⟩ := bnd h
          refine M_callVi (pc := 133) dX12_hosts_133 v_X12_389 rfl rfl at_11 (Nat.le_of_ble_eq_true rfl) (C_X12_hostHas (d := d + 0) hp hr36) (Nat.le_refl _) ?_
          refine M_icmp_lt (pc := 136) (tgt := 143) dX12_hosts_136 (by decide) (fun hc37 => ?_) (fun hc37 => ?_)
          · have h := (if_pos hc37).symm.trans h
            refine M_iconst (pc := 143) (v := 0) dX12_hosts_143 (by decide) ?_
            refine M_istore (pc := 144) (ls' := [some (.ref 205), some (.int x1), some (.int x2), some (.int x3), some (.int x4), some (.int x2), some (.int x1), some (.int (0 : Int32))]) dX12_hosts_144 (by decide) rfl ?_
            refine M_iload_n (pc := 146) dX12_hosts_146 rfl ?_
            refine M_iload (pc := 147) dX12_hosts_147 rfl ?_
            refine M_if_eq (pc := 149) (tgt := 159) dX12_hosts_149 (by decide) (fun hc38 => ?_) (fun hc38 => absurd hc38 (by decide))
            refine M_iconst (pc := 159) (v := 0) dX12_hosts_159 (by decide) ?_
            refine M_ior (pc := 160) dX12_hosts_160 ?_
            refine M_istore_n (pc := 161) (ls' := [some (.ref 205), some (.int x1), some (.int x2), some (.int (x3 ||| (0 : Int32))), some (.int x4), some (.int x2), some (.int x1), some (.int (0 : Int32))]) dX12_hosts_161 (by decide) rfl ?_
            refine M_iinc (pc := 162) (v := (x4 + (1 : Int32))) (ls' := [some (.ref 205), some (.int x1), some (.int x2), some (.int (x3 ||| (0 : Int32))), some (.int (x4 + (1 : Int32))), some (.int x2), some (.int x1), some (.int (0 : Int32))]) dX12_hosts_162 rfl rfl (by decide) rfl ?_
            refine M_goto (pc := 165) (tgt := 59) dX12_hosts_165 (by decide) ?_
            refine M_mask (pc := 59) [true, true, true, true, true, false, false, false] rfl ?_
            exact ih (x3 ||| (0 : Int32)) (x4 + (1 : Int32)) r35.2 _ h
          · have h := (if_neg hc37).symm.trans h
            refine M_iconst (pc := 139) (v := 1) dX12_hosts_139 (by decide) ?_
            refine M_goto (pc := 140) (tgt := 144) dX12_hosts_140 (by decide) ?_
            refine M_istore (pc := 144) (ls' := [some (.ref 205), some (.int x1), some (.int x2), some (.int x3), some (.int x4), some (.int x2), some (.int x1), some (.int (1 : Int32))]) dX12_hosts_144 (by decide) rfl ?_
            refine M_iload_n (pc := 146) dX12_hosts_146 rfl ?_
            refine M_iload (pc := 147) dX12_hosts_147 rfl ?_
            refine M_if_eq (pc := 149) (tgt := 159) dX12_hosts_149 (by decide) (fun hc39 => absurd hc39 (by decide)) (fun hc39 => ?_)
            refine M_iconst (pc := 152) (v := 1) dX12_hosts_152 (by decide) ?_
            refine M_iload (pc := 153) dX12_hosts_153 rfl ?_
            refine M_ishl (pc := 155) dX12_hosts_155 ?_
            refine M_goto (pc := 156) (tgt := 160) dX12_hosts_156 (by decide) ?_
            refine M_ior (pc := 160) dX12_hosts_160 ?_
            refine M_istore_n (pc := 161) (ls' := [some (.ref 205), some (.int x1), some (.int x2), some (.int (x3 ||| ((1 : Int32) <<< (x4 &&& 31)))), some (.int x4), some (.int x2), some (.int x1), some (.int (1 : Int32))]) dX12_hosts_161 (by decide) rfl ?_
            refine M_iinc (pc := 162) (v := (x4 + (1 : Int32))) (ls' := [some (.ref 205), some (.int x1), some (.int x2), some (.int (x3 ||| ((1 : Int32) <<< (x4 &&& 31)))), some (.int (x4 + (1 : Int32))), some (.int x2), some (.int x1), some (.int (1 : Int32))]) dX12_hosts_162 rfl rfl (by decide) rfl ?_
            refine M_goto (pc := 165) (tgt := 59) dX12_hosts_165 (by decide) ?_
            refine M_mask (pc := 59) [true, true, true, true, true, false, false, false] rfl ?_
            exact ih (x3 ||| ((1 : Int32) <<< (x4 &&& 31))) (x4 + (1 : Int32)) r35.2 _ h
    · have h := (if_pos hc12).symm.trans h
      refine M_iload_n (pc := 72) dX12_hosts_72 rfl ?_
      refine M_goto (pc := 73) (tgt := 77) dX12_hosts_73 (by decide) ?_
      refine M_istore (pc := 77) (ls' := [some (.ref 205), some (.int x1), some (.int x2), some (.int x3), some (.int x4), some (.int x1), none, none]) dX12_hosts_77 (by decide) rfl ?_
      refine M_iload (pc := 79) dX12_hosts_79 rfl ?_
      refine M_iconst (pc := 81) (v := 2) dX12_hosts_81 (by decide) ?_
      refine M_irem (pc := 82) dX12_hosts_82 (by decide) ?_
      refine M_if_ne (pc := 83) (tgt := 90) dX12_hosts_83 (by decide) (fun hc40 => ?_) (fun hc40 => ?_)
      · have h := (if_neg hc40).symm.trans h
        refine M_iload_n (pc := 90) dX12_hosts_90 rfl ?_
        refine M_istore (pc := 91) (ls' := [some (.ref 205), some (.int x1), some (.int x2), some (.int x3), some (.int x4), some (.int x1), some (.int x2), none]) dX12_hosts_91 (by decide) rfl ?_
        refine M_aload_n (pc := 93) dX12_hosts_93 rfl ?_
        refine M_iload (pc := 94) dX12_hosts_94 rfl ?_
        refine M_iload (pc := 96) dX12_hosts_96 rfl ?_
        obtain ⟨r41, hr42, h⟩ := bnd h
        refine M_callVi (pc := 98) dX12_hosts_98 v_X12_389 rfl rfl at_11 (Nat.le_of_ble_eq_true rfl) (C_X12_hostHas (d := d + 0) hp hr42) (Nat.le_refl _) ?_
        refine M_aload_n (pc := 101) dX12_hosts_101 rfl ?_
        refine M_iload_n (pc := 102) dX12_hosts_102 rfl ?_
        refine M_iload_n (pc := 103) dX12_hosts_103 rfl ?_
        refine M_iadd (pc := 104) dX12_hosts_104 ?_
        refine M_iload (pc := 105) dX12_hosts_105 rfl ?_
        refine M_isub (pc := 107) dX12_hosts_107 ?_
        refine M_iload (pc := 108) dX12_hosts_108 rfl ?_
        obtain ⟨r43, hr44, h⟩ := bnd h
        refine M_callVi (pc := 110) dX12_hosts_110 v_X12_389 rfl rfl at_11 (Nat.le_of_ble_eq_true rfl) (C_X12_hostHas (d := d + 0) hp hr44) (Nat.le_refl _) ?_
        refine M_icmp_lt (pc := 113) (tgt := 143) dX12_hosts_113 (by decide) (fun hc45 => ?_) (fun hc45 => ?_)
        · have h := (if_pos hc45).symm.trans h
          refine M_iconst (pc := 143) (v := 0) dX12_hosts_143 (by decide) ?_
          refine M_istore (pc := 144) (ls' := [some (.ref 205), some (.int x1), some (.int x2), some (.int x3), some (.int x4), some (.int x1), some (.int x2), some (.int (0 : Int32))]) dX12_hosts_144 (by decide) rfl ?_
          refine M_iload_n (pc := 146) dX12_hosts_146 rfl ?_
          refine M_iload (pc := 147) dX12_hosts_147 rfl ?_
          refine M_if_eq (pc := 149) (tgt := 159) dX12_hosts_149 (by decide) (fun hc46 => ?_) (fun hc46 => absurd hc46 (by decide))
          refine M_iconst (pc := 159) (v := 0) dX12_hosts_159 (by decide) ?_
          refine M_ior (pc := 160) dX12_hosts_160 ?_
          refine M_istore_n (pc := 161) (ls' := [some (.ref 205), some (.int x1), some (.int x2), some (.int (x3 ||| (0 : Int32))), some (.int x4), some (.int x1), some (.int x2), some (.int (0 : Int32))]) dX12_hosts_161 (by decide) rfl ?_
          refine M_iinc (pc := 162) (v := (x4 + (1 : Int32))) (ls' := [some (.ref 205), some (.int x1), some (.int x2), some (.int (x3 ||| (0 : Int32))), some (.int (x4 + (1 : Int32))), some (.int x1), some (.int x2), some (.int (0 : Int32))]) dX12_hosts_162 rfl rfl (by decide) rfl ?_
          refine M_goto (pc := 165) (tgt := 59) dX12_hosts_165 (by decide) ?_
          refine M_mask (pc := 59) [true, true, true, true, true, false, false, false] rfl ?_
          exact ih (x3 ||| (0 : Int32)) (x4 + (1 : Int32)) r43.2 _ h
        · have h := (if_neg hc45).symm.trans h
          refine M_aload_n (pc := 116) dX12_hosts_116 rfl ?_
          refine M_iload (pc := 117) dX12_hosts_117 rfl ?_
          refine M_iload (pc := 119) dX12_hosts_119 rfl ?_
          obtain ⟨r47, hr48, h⟩ := bnd h
          refine M_callVi (pc := 121) dX12_hosts_121 v_X12_389 rfl rfl at_11 (Nat.le_of_ble_eq_true rfl) (C_X12_hostHas (d := d + 0) hp hr48) (Nat.le_refl _) ?_
          refine M_aload_n (pc := 124) dX12_hosts_124 rfl ?_
          refine M_iload_n (pc := 125) dX12_hosts_125 rfl ?_
          refine M_iload_n (pc := 126) dX12_hosts_126 rfl ?_
          refine M_iadd (pc := 127) dX12_hosts_127 ?_
          refine M_iload (pc := 128) dX12_hosts_128 rfl ?_
          refine M_isub (pc := 130) dX12_hosts_130 ?_
          refine M_iload (pc := 131) dX12_hosts_131 rfl ?_
          obtain ⟨r49, hr50, h⟩ := bnd h
          refine M_callVi (pc := 133) dX12_hosts_133 v_X12_389 rfl rfl at_11 (Nat.le_of_ble_eq_true rfl) (C_X12_hostHas (d := d + 0) hp hr50) (Nat.le_refl _) ?_
          refine M_icmp_lt (pc := 136) (tgt := 143) dX12_hosts_136 (by decide) (fun hc51 => ?_) (fun hc51 => ?_)
          · have h := (if_pos hc51).symm.trans h
            refine M_iconst (pc := 143) (v := 0) dX12_hosts_143 (by decide) ?_
            refine M_istore (pc := 144) (ls' := [some (.ref 205), some (.int x1), some (.int x2), some (.int x3), some (.int x4), some (.int x1), some (.int x2), some (.int (0 : Int32))]) dX12_hosts_144 (by decide) rfl ?_
            refine M_iload_n (pc := 146) dX12_hosts_146 rfl ?_
            refine M_iload (pc := 147) dX12_hosts_147 rfl ?_
            refine M_if_eq (pc := 149) (tgt := 159) dX12_hosts_149 (by decide) (fun hc52 => ?_) (fun hc52 => absurd hc52 (by decide))
            refine M_iconst (pc := 159) (v := 0) dX12_hosts_159 (by decide) ?_
            refine M_ior (pc := 160) dX12_hosts_160 ?_
            refine M_istore_n (pc := 161) (ls' := [some (.ref 205), some (.int x1), some (.int x2), some (.int (x3 ||| (0 : Int32))), some (.int x4), some (.int x1), some (.int x2), some (.int (0 : Int32))]) dX12_hosts_161 (by decide) rfl ?_
            refine M_iinc (pc := 162) (v := (x4 + (1 : Int32))) (ls' := [some (.ref 205), some (.int x1), some (.int x2), some (.int (x3 ||| (0 : Int32))), some (.int (x4 + (1 : Int32))), some (.int x1), some (.int x2), some (.int (0 : Int32))]) dX12_hosts_162 rfl rfl (by decide) rfl ?_
            refine M_goto (pc := 165) (tgt := 59) dX12_hosts_165 (by decide) ?_
            refine M_mask (pc := 59) [true, true, true, true, true, false, false, false] rfl ?_
            exact ih (x3 ||| (0 : Int32)) (x4 + (1 : Int32)) r49.2 _ h
          · have h := (if_neg hc51).symm.trans h
            refine M_iconst (pc := 139) (v := 1) dX12_hosts_139 (by decide) ?_
            refine M_goto (pc := 140) (tgt := 144) dX12_hosts_140 (by decide) ?_
            refine M_istore (pc := 144) (ls' := [some (.ref 205), some (.int x1), some (.int x2), some (.int x3), some (.int x4), some (.int x1), some (.int x2), some (.int (1 : Int32))]) dX12_hosts_144 (by decide) rfl ?_
            refine M_iload_n (pc := 146) dX12_hosts_146 rfl ?_
            refine M_iload (pc := 147) dX12_hosts_147 rfl ?_
            refine M_if_eq (pc := 149) (tgt := 159) dX12_hosts_149 (by decide) (fun hc53 => absurd hc53 (by decide)) (fun hc53 => ?_)
            refine M_iconst (pc := 152) (v := 1) dX12_hosts_152 (by decide) ?_
            refine M_iload (pc := 153) dX12_hosts_153 rfl ?_
            refine M_ishl (pc := 155) dX12_hosts_155 ?_
            refine M_goto (pc := 156) (tgt := 160) dX12_hosts_156 (by decide) ?_
            refine M_ior (pc := 160) dX12_hosts_160 ?_
            refine M_istore_n (pc := 161) (ls' := [some (.ref 205), some (.int x1), some (.int x2), some (.int (x3 ||| ((1 : Int32) <<< (x4 &&& 31)))), some (.int x4), some (.int x1), some (.int x2), some (.int (1 : Int32))]) dX12_hosts_161 (by decide) rfl ?_
            refine M_iinc (pc := 162) (v := (x4 + (1 : Int32))) (ls' := [some (.ref 205), some (.int x1), some (.int x2), some (.int (x3 ||| ((1 : Int32) <<< (x4 &&& 31)))), some (.int (x4 + (1 : Int32))), some (.int x1), some (.int x2), some (.int (1 : Int32))]) dX12_hosts_162 rfl rfl (by decide) rfl ?_
            refine M_goto (pc := 165) (tgt := 59) dX12_hosts_165 (by decide) ?_
            refine M_mask (pc := 59) [true, true, true, true, true, false, false, false] rfl ?_
            exact ih (x3 ||| ((1 : Int32) <<< (x4 &&& 31))) (x4 + (1 : Int32)) r49.2 _ h
      · have h := (if_pos hc40).symm.trans h
        refine M_iload_n (pc := 86) dX12_hosts_86 rfl ?_
        refine M_goto (pc := 87) (tgt := 91) dX12_hosts_87 (by decide) ?_
        refine M_istore (pc := 91) (ls' := [some (.ref 205), some (.int x1), some (.int x2), some (.int x3), some (.int x4), some (.int x1), some (.int x1), none]) dX12_hosts_91 (by decide) rfl ?_
        refine M_aload_n (pc := 93) dX12_hosts_93 rfl ?_
        refine M_iload (pc := 94) dX12_hosts_94 rfl ?_
        refine M_iload (pc := 96) dX12_hosts_96 rfl ?_
        obtain ⟨r54, hr55, h⟩ := bnd h
        refine M_callVi (pc := 98) dX12_hosts_98 v_X12_389 rfl rfl at_11 (Nat.le_of_ble_eq_true rfl) (C_X12_hostHas (d := d + 0) hp hr55) (Nat.le_refl _) ?_
        refine M_aload_n (pc := 101) dX12_hosts_101 rfl ?_
        refine M_iload_n (pc := 102) dX12_hosts_102 rfl ?_
        refine M_iload_n (pc := 103) dX12_hosts_103 rfl ?_
        refine M_iadd (pc := 104) dX12_hosts_104 ?_
        refine M_iload (pc := 105) dX12_hosts_105 rfl ?_
        refine M_isub (pc := 107) dX12_hosts_107 ?_
        refine M_iload (pc := 108) dX12_hosts_108 rfl ?_
        obtain ⟨r56, hr57, h⟩ := bnd h
        refine M_callVi (pc := 110) dX12_hosts_110 v_X12_389 rfl rfl at_11 (Nat.le_of_ble_eq_true rfl) (C_X12_hostHas (d := d + 0) hp hr57) (Nat.le_refl _) ?_
        refine M_icmp_lt (pc := 113) (tgt := 143) dX12_hosts_113 (by decide) (fun hc58 => ?_) (fun hc58 => ?_)
        · have h := (if_pos hc58).symm.trans h
          refine M_iconst (pc := 143) (v := 0) dX12_hosts_143 (by decide) ?_
          refine M_istore (pc := 144) (ls' := [some (.ref 205), some (.int x1), some (.int x2), some (.int x3), some (.int x4), some (.int x1), some (.int x1), some (.int (0 : Int32))]) dX12_hosts_144 (by decide) rfl ?_
          refine M_iload_n (pc := 146) dX12_hosts_146 rfl ?_
          refine M_iload (pc := 147) dX12_hosts_147 rfl ?_
          refine M_if_eq (pc := 149) (tgt := 159) dX12_hosts_149 (by decide) (fun hc59 => ?_) (fun hc59 => absurd hc59 (by decide))
          refine M_iconst (pc := 159) (v := 0) dX12_hosts_159 (by decide) ?_
          refine M_ior (pc := 160) dX12_hosts_160 ?_
          refine M_istore_n (pc := 161) (ls' := [some (.ref 205), some (.int x1), some (.int x2), some (.int (x3 ||| (0 : Int32))), some (.int x4), some (.int x1), some (.int x1), some (.int (0 : Int32))]) dX12_hosts_161 (by decide) rfl ?_
          refine M_iinc (pc := 162) (v := (x4 + (1 : Int32))) (ls' := [some (.ref 205), some (.int x1), some (.int x2), some (.int (x3 ||| (0 : Int32))), some (.int (x4 + (1 : Int32))), some (.int x1), some (.int x1), some (.int (0 : Int32))]) dX12_hosts_162 rfl rfl (by decide) rfl ?_
          refine M_goto (pc := 165) (tgt := 59) dX12_hosts_165 (by decide) ?_
          refine M_mask (pc := 59) [true, true, true, true, true, false, false, false] rfl ?_
          exact ih (x3 ||| (0 : Int32)) (x4 + (1 : Int32)) r56.2 _ h
        · have h := (if_neg hc58).symm.trans h
          refine M_aload_n (pc := 116) dX12_hosts_116 rfl ?_
          refine M_iload (pc := 117) dX12_hosts_117 rfl ?_
          refine M_iload (pc := 119) dX12_hosts_119 rfl ?_
          obtain ⟨r60, hr61, h⟩ := bnd h
          refine M_callVi (pc := 121) dX12_hosts_121 v_X12_389 rfl rfl at_11 (Nat.le_of_ble_eq_true rfl) (C_X12_hostHas (d := d + 0) hp hr61) (Nat.le_refl _) ?_
          refine M_aload_n (pc := 124) dX12_hosts_124 rfl ?_
          refine M_iload_n (pc := 125) dX12_hosts_125 rfl ?_
          refine M_iload_n (pc := 126) dX12_hosts_126 rfl ?_
          refine M_iadd (pc := 127) dX12_hosts_127 ?_
          refine M_iload (pc := 128) dX12_hosts_128 rfl ?_
          refine M_isub (pc := 130) dX12_hosts_130 ?_
          refine M_iload (pc := 131) dX12_hosts_131 rfl ?_
          obtain ⟨r62, hr63, h⟩ := bnd h
          refine M_callVi (pc := 133) dX12_hosts_133 v_X12_389 rfl rfl at_11 (Nat.le_of_ble_eq_true rfl) (C_X12_hostHas (d := d + 0) hp hr63) (Nat.le_refl _) ?_
          refine M_icmp_lt (pc := 136) (tgt := 143) dX12_hosts_136 (by decide) (fun hc64 => ?_) (fun hc64 => ?_)
          · have h := (if_pos hc64).symm.trans h
            refine M_iconst (pc := 143) (v := 0) dX12_hosts_143 (by decide) ?_
            refine M_istore (pc := 144) (ls' := [some (.ref 205), some (.int x1), some (.int x2), some (.int x3), some (.int x4), some (.int x1), some (.int x1), some (.int (0 : Int32))]) dX12_hosts_144 (by decide) rfl ?_
            refine M_iload_n (pc := 146) dX12_hosts_146 rfl ?_
            refine M_iload (pc := 147) dX12_hosts_147 rfl ?_
            refine M_if_eq (pc := 149) (tgt := 159) dX12_hosts_149 (by decide) (fun hc65 => ?_) (fun hc65 => absurd hc65 (by decide))
            refine M_iconst (pc := 159) (v := 0) dX12_hosts_159 (by decide) ?_
            refine M_ior (pc := 160) dX12_hosts_160 ?_
            refine M_istore_n (pc := 161) (ls' := [some (.ref 205), some (.int x1), some (.int x2), some (.int (x3 ||| (0 : Int32))), some (.int x4), some (.int x1), some (.int x1), some (.int (0 : Int32))]) dX12_hosts_161 (by decide) rfl ?_
            refine M_iinc (pc := 162) (v := (x4 + (1 : Int32))) (ls' := [some (.ref 205), some (.int x1), some (.int x2), some (.int (x3 ||| (0 : Int32))), some (.int (x4 + (1 : Int32))), some (.int x1), some (.int x1), some (.int (0 : Int32))]) dX12_hosts_162 rfl rfl (by decide) rfl ?_
            refine M_goto (pc := 165) (tgt := 59) dX12_hosts_165 (by decide) ?_
            refine M_mask (pc := 59) [true, true, true, true, true, false, false, false] rfl ?_
            exact ih (x3 ||| (0 : Int32)) (x4 + (1 : Int32)) r62.2 _ h
          · have h := (if_neg hc64).symm.trans h
            refine M_iconst (pc := 139) (v := 1) dX12_hosts_139 (by decide) ?_
            refine M_goto (pc := 140) (tgt := 144) dX12_hosts_140 (by decide) ?_
            refine M_istore (pc := 144) (ls' := [some (.ref 205), some (.int x1), some (.int x2), some (.int x3), some (.int x4), some (.int x1), some (.int x1), some (.int (1 : Int32))]) dX12_hosts_144 (by decide) rfl ?_
            refine M_iload_n (pc := 146) dX12_hosts_146 rfl ?_
            refine M_iload (pc := 147) dX12_hosts_147 rfl ?_
            refine M_if_eq (pc := 149) (tgt := 159) dX12_hosts_149 (by decide) (fun hc66 => absurd hc66 (by decide)) (fun hc66 => ?_)
            refine M_iconst (pc := 152) (v := 1) dX12_hosts_152 (by decide) ?_
            refine M_iload (pc := 153) dX12_hosts_153 rfl ?_
            refine M_ishl (pc := 155) dX12_hosts_155 ?_
            refine M_goto (pc := 156) (tgt := 160) dX12_hosts_156 (by decide) ?_
            refine M_ior (pc := 160) dX12_hosts_160 ?_
            refine M_istore_n (pc := 161) (ls' := [some (.ref 205), some (.int x1), some (.int x2), some (.int (x3 ||| ((1 : Int32) <<< (x4 &&& 31)))), some (.int x4), some (.int x1), some (.int x1), some (.int (1 : Int32))]) dX12_hosts_161 (by decide) rfl ?_
            refine M_iinc (pc := 162) (v := (x4 + (1 : Int32))) (ls' := [some (.ref 205), some (.int x1), some (.int x2), some (.int (x3 ||| ((1 : Int32) <<< (x4 &&& 31)))), some (.int (x4 + (1 : Int32))), some (.int x1), some (.int x1), some (.int (1 : Int32))]) dX12_hosts_162 rfl rfl (by decide) rfl ?_
            refine M_goto (pc := 165) (tgt := 59) dX12_hosts_165 (by decide) ?_
            refine M_mask (pc := 59) [true, true, true, true, true, false, false, false] rfl ?_
            exact ih (x3 ||| ((1 : Int32) <<< (x4 &&& 31))) (x4 + (1 : Int32)) r62.2 _ h
set_option maxRecDepth 4000 in
set_option maxHeartbeats 4000000 in
theorem C_X12_hosts {g : gX} {d : Nat} {P : Nat → Nat → Option Nat} {I : HI} {x1 : Int32} {x2 : Int32} {J : HJ} (hp : Wp P) {r : Int32 × HI} (h : F_X12_hosts I x1 x2 = some r) : Cm g mX12_hosts (d + 9) [.ref 205, .int x1, .int x2] (NT, I, J, P) (some (.int r.1)) (NT, r.2, J, P) := by
  unfold F_X12_hosts at h
  refine Cm.of (by decide) (by simp [Value.category]) (Nat.le_of_ble_eq_true rfl) (Nat.le_refl _) (ls := [some (.ref 205), some (.int x1), some (.int x2), none, none, none, none, none]) rfl ?_
  refine M_aload_n (pc := 0) dX12_hosts_0 rfl ?_
  refine M_iconst (pc := 1) (v := 0) dX12_hosts_1 (by decide) ?_
  refine M_putI (pc := 2) dX12_hosts_2 f_X12_3 at_11 rfl ⟨rfl, rfl⟩ ?_
  refine M_aload_n (pc := 5) dX12_hosts_5 rfl ?_
  refine M_aload_n (pc := 6) dX12_hosts_6 rfl ?_
  refine M_iload_n (pc := 7) dX12_hosts_7 rfl ?_
  obtain ⟨r1, hr2, h⟩ := bnd h
  refine M_callVi (pc := 8) dX12_hosts_8 v_X12_278 rfl rfl at_11 (Nat.le_of_ble_eq_true rfl) (C_X12_noDish (d := d + 7) hp hr2) (Nat.le_refl _) ?_
  refine M_if_ne (pc := 11) (tgt := 22) dX12_hosts_11 (by decide) (fun hc3 => ?_) (fun hc3 => ?_)
  · have h := (if_neg hc3).symm.trans h
    refine M_iconst (pc := 22) (v := 1) dX12_hosts_22 (by decide) ?_
    refine M_goto (pc := 23) (tgt := 27) dX12_hosts_23 (by decide) ?_
    refine M_iconst (pc := 27) (v := 1) dX12_hosts_27 (by decide) ?_
    obtain ⟨r4, hr5, h⟩ := bnd h
    refine M_callVi (pc := 28) dX12_hosts_28 v_X12_243 rfl rfl at_11 (Nat.le_of_ble_eq_true rfl) (C_X12_throwsIf (d := d + 8) hp hr5) (Nat.le_refl _) ?_
    refine M_if_ne (pc := 31) (tgt := 52) dX12_hosts_31 (by decide) (fun hc6 => ?_) (fun hc6 => ?_)
    · have h := (if_neg hc6).symm.trans h
      refine M_iconst (pc := 52) (v := 0) dX12_hosts_52 (by decide) ?_
      obtain rfl := Option.some.inj h
      exact M_iret (pc := 53) dX12_hosts_53 rfl rfl rfl rfl
    · have h := (if_pos hc6).symm.trans h
      refine M_aload_n (pc := 34) dX12_hosts_34 rfl ?_
      refine M_iload_n (pc := 35) dX12_hosts_35 rfl ?_
      refine M_iload_n (pc := 36) dX12_hosts_36 rfl ?_
      refine M_icmp_ne (pc := 37) (tgt := 44) dX12_hosts_37 (by decide) (fun hc7 => ?_) (fun hc7 => ?_)
      · have h := (if_neg hc7).symm.trans h
        refine M_iconst (pc := 44) (v := 0) dX12_hosts_44 (by decide) ?_
        refine M_iconst (pc := 45) (v := 2) dX12_hosts_45 (by decide) ?_
        obtain ⟨r8, hr9, h⟩ := bnd h
        refine M_callVi (pc := 46) dX12_hosts_46 v_X12_243 rfl rfl at_11 (Nat.le_of_ble_eq_true rfl) (C_X12_throwsIf (d := d + 8) hp hr9) (Nat.le_refl _) ?_
        refine M_if_eq (pc := 49) (tgt := 54) dX12_hosts_49 (by decide) (fun hc10 => ?_) (fun hc10 => ?_)
        · have h := (if_pos hc10).symm.trans h
          refine M_iconst (pc := 54) (v := 0) dX12_hosts_54 (by decide) ?_
          refine M_istore_n (pc := 55) (ls' := [some (.ref 205), some (.int x1), some (.int x2), some (.int (0 : Int32)), none, none, none, none]) dX12_hosts_55 (by decide) rfl ?_
          refine M_iconst (pc := 56) (v := 0) dX12_hosts_56 (by decide) ?_
          refine M_istore (pc := 57) (ls' := [some (.ref 205), some (.int x1), some (.int x2), some (.int (0 : Int32)), some (.int (0 : Int32)), none, none, none]) dX12_hosts_57 (by decide) rfl ?_
          exact LC_X12_hosts_59 (P := P) hp (0 : Int32) (0 : Int32) r8.2 _ h
        · have h := (if_neg hc10).symm.trans h
          refine M_iconst (pc := 52) (v := 0) dX12_hosts_52 (by decide) ?_
          obtain rfl := Option.some.inj h
          exact M_iret (pc := 53) dX12_hosts_53 rfl rfl rfl rfl
      · have h := (if_pos hc7).symm.trans h
        refine M_iconst (pc := 40) (v := 1) dX12_hosts_40 (by decide) ?_
        refine M_goto (pc := 41) (tgt := 45) dX12_hosts_41 (by decide) ?_
        refine M_iconst (pc := 45) (v := 2) dX12_hosts_45 (by decide) ?_
        obtain ⟨r67, hr68, h⟩ := bnd h
        refine M_callVi (pc := 46) dX12_hosts_46 v_X12_243 rfl rfl at_11 (Nat.le_of_ble_eq_true rfl) (C_X12_throwsIf (d := d + 8) hp hr68) (Nat.le_refl _) ?_
        refine M_if_eq (pc := 49) (tgt := 54) dX12_hosts_49 (by decide) (fun hc69 => ?_) (fun hc69 => ?_)
        · have h := (if_pos hc69).symm.trans h
          refine M_iconst (pc := 54) (v := 0) dX12_hosts_54 (by decide) ?_
          refine M_istore_n (pc := 55) (ls' := [some (.ref 205), some (.int x1), some (.int x2), some (.int (0 : Int32)), none, none, none, none]) dX12_hosts_55 (by decide) rfl ?_
          refine M_iconst (pc := 56) (v := 0) dX12_hosts_56 (by decide) ?_
          refine M_istore (pc := 57) (ls' := [some (.ref 205), some (.int x1), some (.int x2), some (.int (0 : Int32)), some (.int (0 : Int32)), none, none, none]) dX12_hosts_57 (by decide) rfl ?_
          exact LC_X12_hosts_59 (P := P) hp (0 : Int32) (0 : Int32) r67.2 _ h
        · have h := (if_neg hc69).symm.trans h
          refine M_iconst (pc := 52) (v := 0) dX12_hosts_52 (by decide) ?_
          obtain rfl := Option.some.inj h
          exact M_iret (pc := 53) dX12_hosts_53 rfl rfl rfl rfl
  · have h := (if_pos hc3).symm.trans h
    refine M_aload_n (pc := 14) dX12_hosts_14 rfl ?_
    refine M_iload_n (pc := 15) dX12_hosts_15 rfl ?_
    obtain ⟨r70, hr71, h⟩ := bnd h
    refine M_callVi (pc := 16) dX12_hosts_16 v_X12_278 rfl rfl at_11 (Nat.le_of_ble_eq_true rfl) (C_X12_noDish (d := d + 7) hp hr71) (Nat.le_refl _) ?_
    refine M_if_eq (pc := 19) (tgt := 26) dX12_hosts_19 (by decide) (fun hc72 => ?_) (fun hc72 => ?_)
    · have h := (if_pos hc72).symm.trans h
      refine M_iconst (pc := 26) (v := 0) dX12_hosts_26 (by decide) ?_
      refine M_iconst (pc := 27) (v := 1) dX12_hosts_27 (by decide) ?_
      obtain ⟨r73, hr74, h⟩ := bnd h
      refine M_callVi (pc := 28) dX12_hosts_28 v_X12_243 rfl rfl at_11 (Nat.le_of_ble_eq_true rfl) (C_X12_throwsIf (d := d + 8) hp hr74) (Nat.le_refl _) ?_
      refine M_if_ne (pc := 31) (tgt := 52) dX12_hosts_31 (by decide) (fun hc75 => ?_) (fun hc75 => ?_)
      · have h := (if_neg hc75).symm.trans h
        refine M_iconst (pc := 52) (v := 0) dX12_hosts_52 (by decide) ?_
        obtain rfl := Option.some.inj h
        exact M_iret (pc := 53) dX12_hosts_53 rfl rfl rfl rfl
      · have h := (if_pos hc75).symm.trans h
        refine M_aload_n (pc := 34) dX12_hosts_34 rfl ?_
        refine M_iload_n (pc := 35) dX12_hosts_35 rfl ?_
        refine M_iload_n (pc := 36) dX12_hosts_36 rfl ?_
        refine M_icmp_ne (pc := 37) (tgt := 44) dX12_hosts_37 (by decide) (fun hc76 => ?_) (fun hc76 => ?_)
        · have h := (if_neg hc76).symm.trans h
          refine M_iconst (pc := 44) (v := 0) dX12_hosts_44 (by decide) ?_
          refine M_iconst (pc := 45) (v := 2) dX12_hosts_45 (by decide) ?_
          obtain ⟨r77, hr78, h⟩ := bnd h
          refine M_callVi (pc := 46) dX12_hosts_46 v_X12_243 rfl rfl at_11 (Nat.le_of_ble_eq_true rfl) (C_X12_throwsIf (d := d + 8) hp hr78) (Nat.le_refl _) ?_
          refine M_if_eq (pc := 49) (tgt := 54) dX12_hosts_49 (by decide) (fun hc79 => ?_) (fun hc79 => ?_)
          · have h := (if_pos hc79).symm.trans h
            refine M_iconst (pc := 54) (v := 0) dX12_hosts_54 (by decide) ?_
            refine M_istore_n (pc := 55) (ls' := [some (.ref 205), some (.int x1), some (.int x2), some (.int (0 : Int32)), none, none, none, none]) dX12_hosts_55 (by decide) rfl ?_
            refine M_iconst (pc := 56) (v := 0) dX12_hosts_56 (by decide) ?_
            refine M_istore (pc := 57) (ls' := [some (.ref 205), some (.int x1), some (.int x2), some (.int (0 : Int32)), some (.int (0 : Int32)), none, none, none]) dX12_hosts_57 (by decide) rfl ?_
            exact LC_X12_hosts_59 (P := P) hp (0 : Int32) (0 : Int32) r77.2 _ h
          · have h := (if_neg hc79).symm.trans h
            refine M_iconst (pc := 52) (v := 0) dX12_hosts_52 (by decide) ?_
            obtain rfl := Option.some.inj h
            exact M_iret (pc := 53) dX12_hosts_53 rfl rfl rfl rfl
        · have h := (if_pos hc76).symm.trans h
          refine M_iconst (pc := 40) (v := 1) dX12_hosts_40 (by decide) ?_
          refine M_goto (pc := 41) (tgt := 45) dX12_hosts_41 (by decide) ?_
          refine M_iconst (pc := 45) (v := 2) dX12_hosts_45 (by decide) ?_
          obtain ⟨r80, hr81, h⟩ := bnd h
          refine M_callVi (pc := 46) dX12_hosts_46 v_X12_243 rfl rfl at_11 (Nat.le_of_ble_eq_true rfl) (C_X12_throwsIf (d := d + 8) hp hr81) (Nat.le_refl _) ?_
          refine M_if_eq (pc := 49) (tgt := 54) dX12_hosts_49 (by decide) (fun hc82 => ?_) (fun hc82 => ?_)
          · have h := (if_pos hc82).symm.trans h
            refine M_iconst (pc := 54) (v := 0) dX12_hosts_54 (by decide) ?_
            refine M_istore_n (pc := 55) (ls' := [some (.ref 205), some (.int x1), some (.int x2), some (.int (0 : Int32)), none, none, none, none]) dX12_hosts_55 (by decide) rfl ?_
            refine M_iconst (pc := 56) (v := 0) dX12_hosts_56 (by decide) ?_
            refine M_istore (pc := 57) (ls' := [some (.ref 205), some (.int x1), some (.int x2), some (.int (0 : Int32)), some (.int (0 : Int32)), none, none, none]) dX12_hosts_57 (by decide) rfl ?_
            exact LC_X12_hosts_59 (P := P) hp (0 : Int32) (0 : Int32) r80.2 _ h
          · have h := (if_neg hc82).symm.trans h
            refine M_iconst (pc := 52) (v := 0) dX12_hosts_52 (by decide) ?_
            obtain rfl := Option.some.inj h
            exact M_iret (pc := 53) dX12_hosts_53 rfl rfl rfl rfl
    · have h := (if_neg hc72).symm.trans h
      refine M_iconst (pc := 22) (v := 1) dX12_hosts_22 (by decide) ?_
      refine M_goto (pc := 23) (tgt := 27) dX12_hosts_23 (by decide) ?_
      refine M_iconst (pc := 27) (v := 1) dX12_hosts_27 (by decide) ?_
      obtain ⟨r83, hr84, h⟩ := bnd h
      refine M_callVi (pc := 28) dX12_hosts_28 v_X12_243 rfl rfl at_11 (Nat.le_of_ble_eq_true rfl) (C_X12_throwsIf (d := d + 8) hp hr84) (Nat.le_refl _) ?_
      refine M_if_ne (pc := 31) (tgt := 52) dX12_hosts_31 (by decide) (fun hc85 => ?_) (fun hc85 => ?_)
      · have h := (if_neg hc85).symm.trans h
        refine M_iconst (pc := 52) (v := 0) dX12_hosts_52 (by decide) ?_
        obtain rfl := Option.some.inj h
        exact M_iret (pc := 53) dX12_hosts_53 rfl rfl rfl rfl
      · have h := (if_pos hc85).symm.trans h
        refine M_aload_n (pc := 34) dX12_hosts_34 rfl ?_
        refine M_iload_n (pc := 35) dX12_hosts_35 rfl ?_
        refine M_iload_n (pc := 36) dX12_hosts_36 rfl ?_
        refine M_icmp_ne (pc := 37) (tgt := 44) dX12_hosts_37 (by decide) (fun hc86 => ?_) (fun hc86 => ?_)
        · have h := (if_neg hc86).symm.trans h
          refine M_iconst (pc := 44) (v := 0) dX12_hosts_44 (by decide) ?_
          refine M_iconst (pc := 45) (v := 2) dX12_hosts_45 (by decide) ?_
          obtain ⟨r87, hr88, h⟩ := bnd h
          refine M_callVi (pc := 46) dX12_hosts_46 v_X12_243 rfl rfl at_11 (Nat.le_of_ble_eq_true rfl) (C_X12_throwsIf (d := d + 8) hp hr88) (Nat.le_refl _) ?_
          refine M_if_eq (pc := 49) (tgt := 54) dX12_hosts_49 (by decide) (fun hc89 => ?_) (fun hc89 => ?_)
          · have h := (if_pos hc89).symm.trans h
            refine M_iconst (pc := 54) (v := 0) dX12_hosts_54 (by decide) ?_
            refine M_istore_n (pc := 55) (ls' := [some (.ref 205), some (.int x1), some (.int x2), some (.int (0 : Int32)), none, none, none, none]) dX12_hosts_55 (by decide) rfl ?_
            refine M_iconst (pc := 56) (v := 0) dX12_hosts_56 (by decide) ?_
            refine M_istore (pc := 57) (ls' := [some (.ref 205), some (.int x1), some (.int x2), some (.int (0 : Int32)), some (.int (0 : Int32)), none, none, none]) dX12_hosts_57 (by decide) rfl ?_
            exact LC_X12_hosts_59 (P := P) hp (0 : Int32) (0 : Int32) r87.2 _ h
          · have h := (if_neg hc89).symm.trans h
            refine M_iconst (pc := 52) (v := 0) dX12_hosts_52 (by decide) ?_
            obtain rfl := Option.some.inj h
            exact M_iret (pc := 53) dX12_hosts_53 rfl rfl rfl rfl
        · have h := (if_pos hc86).symm.trans h
          refine M_iconst (pc := 40) (v := 1) dX12_hosts_40 (by decide) ?_
          refine M_goto (pc := 41) (tgt := 45) dX12_hosts_41 (by decide) ?_
          refine M_iconst (pc := 45) (v := 2) dX12_hosts_45 (by decide) ?_
          obtain ⟨r90, hr91, h⟩ := bnd h
          refine M_callVi (pc := 46) dX12_hosts_46 v_X12_243 rfl rfl at_11 (Nat.le_of_ble_eq_true rfl) (C_X12_throwsIf (d := d + 8) hp hr91) (Nat.le_refl _) ?_
          refine M_if_eq (pc := 49) (tgt := 54) dX12_hosts_49 (by decide) (fun hc92 => ?_) (fun hc92 => ?_)
          · have h := (if_pos hc92).symm.trans h
            refine M_iconst (pc := 54) (v := 0) dX12_hosts_54 (by decide) ?_
            refine M_istore_n (pc := 55) (ls' := [some (.ref 205), some (.int x1), some (.int x2), some (.int (0 : Int32)), none, none, none, none]) dX12_hosts_55 (by decide) rfl ?_
            refine M_iconst (pc := 56) (v := 0) dX12_hosts_56 (by decide) ?_
            refine M_istore (pc := 57) (ls' := [some (.ref 205), some (.int x1), some (.int x2), some (.int (0 : Int32)), some (.int (0 : Int32)), none, none, none]) dX12_hosts_57 (by decide) rfl ?_
            exact LC_X12_hosts_59 (P := P) hp (0 : Int32) (0 : Int32) r90.2 _ h
          · have h := (if_neg hc92).symm.trans h
            refine M_iconst (pc := 52) (v := 0) dX12_hosts_52 (by decide) ?_
            obtain rfl := Option.some.inj h
            exact M_iret (pc := 53) dX12_hosts_53 rfl rfl rfl rfl
def L_X12_twins_19 (I : HI) (x2 : Int32) (x1 : Int32) (x3 : Int32) : Option (Int32 × Int32) :=
  if x2 ≤ x3 then some (x1, x3) else (F_X12_farOf I x2 x3) >>= fun r5 => if r5 = 0 then L_X12_twins_19 I x2 (x1 + (1 : Int32)) (x3 + (1 : Int32)) else L_X12_twins_19 I x2 (x1 + (0 : Int32)) (x3 + (1 : Int32))
partial_fixpoint
def L_X12_twins_9 (I : HI) (x1 : Int32) (x2 : Int32) : Option (Int32 × HI) :=
  (F_X12_dishes I) >>= fun r1 => if r1 ≤ x2 then some (x1, I) else (L_X12_twins_19 I x2 x1 (0 : Int32)) >>= fun r8 => L_X12_twins_9 I r8.1 (x2 + (1 : Int32))
partial_fixpoint
def F_X12_twins (I : HI) : Option (Int32 × HI) :=
  L_X12_twins_9 (up2 I 205 0 (0 : Int32)) (0 : Int32) (0 : Int32)
set_option maxRecDepth 4000 in
set_option maxHeartbeats 4000000 in
theorem LC_X12_twins_19 {g : gX} {d : Nat} {R : rX} {P : Nat → Nat → Option Nat} {J : HJ} {I : HI} {x2 : Int32} (hp : Wp P) : ∀ (x1 : Int32) (x3 : Int32) (r : Int32 × Int32), L_X12_twins_19 I x2 x1 x3 = some r → M g mX12_twins (d + 3) (NT, NT, 0) R 47 [some (.ref 205), some (.int r.1), some (.int x2), some (.int r.2)] [] (NT, I, J, P) → M g mX12_twins (d + 3) (NT, NT, 0) R 19 [some (.ref 205), some (.int x1), some (.int x2), some (.int x3)] [] (NT, I, J, P) := by
  refine L_X12_twins_19.partial_correctness I x2 (fun x1 x3 r => M g mX12_twins (d + 3) (NT, NT, 0) R 47 [some (.ref 205), some (.int r.1), some (.int x2), some (.int r.2)] [] (NT, I, J, P) → M g mX12_twins (d + 3) (NT, NT, 0) R 19 [some (.ref 205), some (.int x1), some (.int x2), some (.int x3)] [] (NT, I, J, P)) ?_
  intro f ih x1 x3 r h hk
  refine M_iload_n (pc := 19) dX12_twins_19 rfl ?_
  refine M_iload_n (pc := 20) dX12_twins_20 rfl ?_
  refine M_icmp_ge (pc := 21) (tgt := 47) dX12_twins_21 (by decide) (fun hc4 => ?_) (fun hc4 => ?_)
  · have h := (if_pos hc4).symm.trans h
    obtain rfl := Option.some.inj h
    exact hk
  · have h := (if_neg hc4).symm.trans h
    refine M_iload_n (pc := 24) dX12_twins_24 rfl ?_
    refine M_aload_n (pc := 25) dX12_twins_25 rfl ?_
    refine M_iload_n (pc := 26) dX12_twins_26 rfl ?_
    refine M_iload_n (pc := 27) dX12_twins_27 rfl ?_
    obtain ⟨r5, hr6, h⟩ := bnd h
    refine M_callVi (pc := 28) dX12_twins_28 v_X12_256 rfl rfl at_11 (Nat.le_of_ble_eq_true rfl) (C_X12_farOf (d := d + 0) hp hr6) (Nat.le_refl _) ?_
    refine M_if_ne (pc := 31) (tgt := 38) dX12_twins_31 (by decide) (fun hc7 => ?_) (fun hc7 => ?_)
    · have h := (if_neg hc7).symm.trans h
      refine M_iconst (pc := 38) (v := 0) dX12_twins_38 (by decide) ?_
      refine M_iadd (pc := 39) dX12_twins_39 ?_
      refine M_istore_n (pc := 40) (ls' := [some (.ref 205), some (.int (x1 + (0 : Int32))), some (.int x2), some (.int x3)]) dX12_twins_40 (by decide) rfl ?_
      refine M_iinc (pc := 41) (v := (x3 + (1 : Int32))) (ls' := [some (.ref 205), some (.int (x1 + (0 : Int32))), some (.int x2), some (.int (x3 + (1 : Int32)))]) dX12_twins_41 rfl rfl (by decide) rfl ?_
      refine M_goto (pc := 44) (tgt := 19) dX12_twins_44 (by decide) ?_
      exact ih (x1 + (0 : Int32)) (x3 + (1 : Int32)) _ h hk
    · have h := (if_pos hc7).symm.trans h
      refine M_iconst (pc := 34) (v := 1) dX12_twins_34 (by decide) ?_
      refine M_goto (pc := 35) (tgt := 39) dX12_twins_35 (by decide) ?_
      refine M_iadd (pc := 39) dX12_twins_39 ?_
      refine M_istore_n (pc := 40) (ls' := [some (.ref 205), some (.int (x1 + (1 : Int32))), some (.int x2), some (.int x3)]) dX12_twins_40 (by decide) rfl ?_
      refine M_iinc (pc := 41) (v := (x3 + (1 : Int32))) (ls' := [some (.ref 205), some (.int (x1 + (1 : Int32))), some (.int x2), some (.int (x3 + (1 : Int32)))]) dX12_twins_41 rfl rfl (by decide) rfl ?_
      refine M_goto (pc := 44) (tgt := 19) dX12_twins_44 (by decide) ?_
      exact ih (x1 + (1 : Int32)) (x3 + (1 : Int32)) _ h hk
set_option maxRecDepth 4000 in
set_option maxHeartbeats 4000000 in
theorem LC_X12_twins_9 {g : gX} {d : Nat} {P : Nat → Nat → Option Nat} {J : HJ} {I : HI} (hp : Wp P) : ∀ (x1 : Int32) (x2 : Int32) (r : Int32 × HI), L_X12_twins_9 I x1 x2 = some r → M g mX12_twins (d + 3) (NT, NT, 0) ((.inl (some (.int r.1))), (NT, r.2, J, P)) 9 [some (.ref 205), some (.int x1), some (.int x2), none] [] (NT, I, J, P) := by
  refine L_X12_twins_9.partial_correctness I (fun x1 x2 r => M g mX12_twins (d + 3) (NT, NT, 0) ((.inl (some (.int r.1))), (NT, r.2, J, P)) 9 [some (.ref 205), some (.int x1), some (.int x2), none] [] (NT, I, J, P)) ?_
  intro f ih x1 x2 r h
  refine M_iload_n (pc := 9) dX12_twins_9 rfl ?_
  refine M_aload_n (pc := 10) dX12_twins_10 rfl ?_
  obtain ⟨r1, hr2, h⟩ := bnd h
  refine M_callVi (pc := 11) dX12_twins_11 v_X12_62 rfl rfl at_11 (Nat.le_of_ble_eq_true rfl) (C_X12_dishes (d := d + 2) hp hr2) (Nat.le_refl _) ?_
  refine M_icmp_ge (pc := 14) (tgt := 53) dX12_twins_14 (by decide) (fun hc3 => ?_) (fun hc3 => ?_)
  · have h := (if_pos hc3).symm.trans h
    refine M_iload_n (pc := 53) dX12_twins_53 rfl ?_
    obtain rfl := Option.some.inj h
    exact M_iret (pc := 54) dX12_twins_54 rfl rfl rfl rfl
  · have h := (if_neg hc3).symm.trans h
    refine M_iconst (pc := 17) (v := 0) dX12_twins_17 (by decide) ?_
    refine M_istore_n (pc := 18) (ls' := [some (.ref 205), some (.int x1), some (.int x2), some (.int (0 : Int32))]) dX12_twins_18 (by decide) rfl ?_
    obtain ⟨r8, hr9, h⟩ := bnd h
    refine LC_X12_twins_19 (P := P) hp x1 (0 : Int32) _ hr9 ?_
    refine M_iinc (pc := 47) (v := (x2 + (1 : Int32))) (ls' := [some (.ref 205), some (.int r8.1), some (.int (x2 + (1 : Int32))), some (.int r8.2)]) dX12_twins_47 rfl rfl (by decide) rfl ?_
    refine M_goto (pc := 50) (tgt := 9) dX12_twins_50 (by decide) ?_
    refine M_mask (pc := 9) [true, true, true, false] rfl ?_
    exact ih r8.1 (x2 + (1 : Int32)) _ h
set_option maxRecDepth 4000 in
set_option maxHeartbeats 4000000 in
theorem C_X12_twins {g : gX} {d : Nat} {P : Nat → Nat → Option Nat} {I : HI} {J : HJ} (hp : Wp P) {r : Int32 × HI} (h : F_X12_twins I = some r) : Cm g mX12_twins (d + 3) [.ref 205] (NT, I, J, P) (some (.int r.1)) (NT, r.2, J, P) := by
  unfold F_X12_twins at h
  refine Cm.of (by decide) (by simp [Value.category]) (Nat.le_of_ble_eq_true rfl) (Nat.le_refl _) (ls := [some (.ref 205), none, none, none]) rfl ?_
  refine M_aload_n (pc := 0) dX12_twins_0 rfl ?_
  refine M_iconst (pc := 1) (v := 0) dX12_twins_1 (by decide) ?_
  refine M_putI (pc := 2) dX12_twins_2 f_X12_3 at_11 rfl ⟨rfl, rfl⟩ ?_
  refine M_iconst (pc := 5) (v := 0) dX12_twins_5 (by decide) ?_
  refine M_istore_n (pc := 6) (ls' := [some (.ref 205), some (.int (0 : Int32)), none, none]) dX12_twins_6 (by decide) rfl ?_
  refine M_iconst (pc := 7) (v := 0) dX12_twins_7 (by decide) ?_
  refine M_istore_n (pc := 8) (ls' := [some (.ref 205), some (.int (0 : Int32)), some (.int (0 : Int32)), none]) dX12_twins_8 (by decide) rfl ?_
  exact LC_X12_twins_9 (P := P) hp (0 : Int32) (0 : Int32) _ h
def L_X12_warlike_9 (I : HI) (x1 : Int32) (x2 : Int32) : Option (Int32 × HI) :=
  (F_X12_dishes I) >>= fun r1 => if r1 ≤ x2 then some (x1, I) else (F_X12_isInWar I x2) >>= fun r4 => if r4 = 0 then L_X12_warlike_9 I (x1 ||| (0 : Int32)) (x2 + (1 : Int32)) else L_X12_warlike_9 I (x1 ||| ((1 : Int32) <<< (x2 &&& 31))) (x2 + (1 : Int32))
partial_fixpoint
def F_X12_warlike (I : HI) : Option (Int32 × HI) :=
  L_X12_warlike_9 (up2 I 205 0 (0 : Int32)) (0 : Int32) (0 : Int32)
set_option maxRecDepth 4000 in
set_option maxHeartbeats 4000000 in
theorem LC_X12_warlike_9 {g : gX} {d : Nat} {P : Nat → Nat → Option Nat} {J : HJ} {I : HI} (hp : Wp P) : ∀ (x1 : Int32) (x2 : Int32) (r : Int32 × HI), L_X12_warlike_9 I x1 x2 = some r → M g mX12_warlike (d + 4) (NT, NT, 0) ((.inl (some (.int r.1))), (NT, r.2, J, P)) 9 [some (.ref 205), some (.int x1), some (.int x2)] [] (NT, I, J, P) := by
  refine L_X12_warlike_9.partial_correctness I (fun x1 x2 r => M g mX12_warlike (d + 4) (NT, NT, 0) ((.inl (some (.int r.1))), (NT, r.2, J, P)) 9 [some (.ref 205), some (.int x1), some (.int x2)] [] (NT, I, J, P)) ?_
  intro f ih x1 x2 r h
  refine M_iload_n (pc := 9) dX12_warlike_9 rfl ?_
  refine M_aload_n (pc := 10) dX12_warlike_10 rfl ?_
  obtain ⟨r1, hr2, h⟩ := bnd h
  refine M_callVi (pc := 11) dX12_warlike_11 v_X12_62 rfl rfl at_11 (Nat.le_of_ble_eq_true rfl) (C_X12_dishes (d := d + 3) hp hr2) (Nat.le_refl _) ?_
  refine M_icmp_ge (pc := 14) (tgt := 41) dX12_warlike_14 (by decide) (fun hc3 => ?_) (fun hc3 => ?_)
  · have h := (if_pos hc3).symm.trans h
    refine M_iload_n (pc := 41) dX12_warlike_41 rfl ?_
    obtain rfl := Option.some.inj h
    exact M_iret (pc := 42) dX12_warlike_42 rfl rfl rfl rfl
  · have h := (if_neg hc3).symm.trans h
    refine M_iload_n (pc := 17) dX12_warlike_17 rfl ?_
    refine M_aload_n (pc := 18) dX12_warlike_18 rfl ?_
    refine M_iload_n (pc := 19) dX12_warlike_19 rfl ?_
    obtain ⟨r4, hr5, h⟩ := bnd h
    refine M_callVi (pc := 20) dX12_warlike_20 v_X12_262 rfl rfl at_11 (Nat.le_of_ble_eq_true rfl) (C_X12_isInWar (d := d + 0) hp hr5) (Nat.le_refl _) ?_
    refine M_if_eq (pc := 23) (tgt := 32) dX12_warlike_23 (by decide) (fun hc6 => ?_) (fun hc6 => ?_)
    · have h := (if_pos hc6).symm.trans h
      refine M_iconst (pc := 32) (v := 0) dX12_warlike_32 (by decide) ?_
      refine M_ior (pc := 33) dX12_warlike_33 ?_
      refine M_istore_n (pc := 34) (ls' := [some (.ref 205), some (.int (x1 ||| (0 : Int32))), some (.int x2)]) dX12_warlike_34 (by decide) rfl ?_
      refine M_iinc (pc := 35) (v := (x2 + (1 : Int32))) (ls' := [some (.ref 205), some (.int (x1 ||| (0 : Int32))), some (.int (x2 + (1 : Int32)))]) dX12_warlike_35 rfl rfl (by decide) rfl ?_
      refine M_goto (pc := 38) (tgt := 9) dX12_warlike_38 (by decide) ?_
      exact ih (x1 ||| (0 : Int32)) (x2 + (1 : Int32)) _ h
    · have h := (if_neg hc6).symm.trans h
      refine M_iconst (pc := 26) (v := 1) dX12_warlike_26 (by decide) ?_
      refine M_iload_n (pc := 27) dX12_warlike_27 rfl ?_
      refine M_ishl (pc := 28) dX12_warlike_28 ?_
      refine M_goto (pc := 29) (tgt := 33) dX12_warlike_29 (by decide) ?_
      refine M_ior (pc := 33) dX12_warlike_33 ?_
      refine M_istore_n (pc := 34) (ls' := [some (.ref 205), some (.int (x1 ||| ((1 : Int32) <<< (x2 &&& 31)))), some (.int x2)]) dX12_warlike_34 (by decide) rfl ?_
      refine M_iinc (pc := 35) (v := (x2 + (1 : Int32))) (ls' := [some (.ref 205), some (.int (x1 ||| ((1 : Int32) <<< (x2 &&& 31)))), some (.int (x2 + (1 : Int32)))]) dX12_warlike_35 rfl rfl (by decide) rfl ?_
      refine M_goto (pc := 38) (tgt := 9) dX12_warlike_38 (by decide) ?_
      exact ih (x1 ||| ((1 : Int32) <<< (x2 &&& 31))) (x2 + (1 : Int32)) _ h
set_option maxRecDepth 4000 in
set_option maxHeartbeats 4000000 in
theorem C_X12_warlike {g : gX} {d : Nat} {P : Nat → Nat → Option Nat} {I : HI} {J : HJ} (hp : Wp P) {r : Int32 × HI} (h : F_X12_warlike I = some r) : Cm g mX12_warlike (d + 4) [.ref 205] (NT, I, J, P) (some (.int r.1)) (NT, r.2, J, P) := by
  unfold F_X12_warlike at h
  refine Cm.of (by decide) (by simp [Value.category]) (Nat.le_of_ble_eq_true rfl) (Nat.le_refl _) (ls := [some (.ref 205), none, none]) rfl ?_
  refine M_aload_n (pc := 0) dX12_warlike_0 rfl ?_
  refine M_iconst (pc := 1) (v := 0) dX12_warlike_1 (by decide) ?_
  refine M_putI (pc := 2) dX12_warlike_2 f_X12_3 at_11 rfl ⟨rfl, rfl⟩ ?_
  refine M_iconst (pc := 5) (v := 0) dX12_warlike_5 (by decide) ?_
  refine M_istore_n (pc := 6) (ls' := [some (.ref 205), some (.int (0 : Int32)), none]) dX12_warlike_6 (by decide) rfl ?_
  refine M_iconst (pc := 7) (v := 0) dX12_warlike_7 (by decide) ?_
  refine M_istore_n (pc := 8) (ls' := [some (.ref 205), some (.int (0 : Int32)), some (.int (0 : Int32))]) dX12_warlike_8 (by decide) rfl ?_
  exact LC_X12_warlike_9 (P := P) hp (0 : Int32) (0 : Int32) _ h
def F_X12_company (I : HI) (x1 : Int32) : Option (Int32 × HI) :=
  (F_X12_in (up2 I 205 0 (0 : Int32)) x1 (0 : Int32) (7 : Int32)) >>= fun r1 => if r1 = 0 then (F_X12_throwsIf (up2 I 205 0 (0 : Int32)) (1 : Int32) (1 : Int32)) >>= fun r9 => if r9.1 = 0 then (F_X12_hadAt r9.2 (7 : Int32) x1) >>= fun r12 => some (r12, r9.2) else some ((0 : Int32), r9.2) else (F_X12_throwsIf (up2 I 205 0 (0 : Int32)) (0 : Int32) (1 : Int32)) >>= fun r4 => if r4.1 = 0 then (F_X12_hadAt r4.2 (7 : Int32) x1) >>= fun r7 => some (r7, r4.2) else some ((0 : Int32), r4.2)
set_option maxRecDepth 4000 in
set_option maxHeartbeats 4000000 in
theorem C_X12_company {g : gX} {d : Nat} {P : Nat → Nat → Option Nat} {I : HI} {x1 : Int32} {J : HJ} (hp : Wp P) {r : Int32 × HI} (h : F_X12_company I x1 = some r) : Cm g mX12_company (d + 4) [.ref 205, .int x1] (NT, I, J, P) (some (.int r.1)) (NT, r.2, J, P) := by
  unfold F_X12_company at h
  refine Cm.of (by decide) (by simp [Value.category]) (Nat.le_of_ble_eq_true rfl) (Nat.le_refl _) (ls := [some (.ref 205), some (.int x1)]) rfl ?_
  refine M_aload_n (pc := 0) dX12_company_0 rfl ?_
  refine M_iconst (pc := 1) (v := 0) dX12_company_1 (by decide) ?_
  refine M_putI (pc := 2) dX12_company_2 f_X12_3 at_11 rfl ⟨rfl, rfl⟩ ?_
  refine M_aload_n (pc := 5) dX12_company_5 rfl ?_
  refine M_iload_n (pc := 6) dX12_company_6 rfl ?_
  refine M_iconst (pc := 7) (v := 0) dX12_company_7 (by decide) ?_
  refine M_bipush (pc := 8) (v := 7) dX12_company_8 (by decide) ?_
  obtain ⟨r1, hr2, h⟩ := bnd h
  refine M_callSi (pc := 10) dX12_company_10 s_X12_73 rfl rfl (Nat.le_of_ble_eq_true rfl) (C_X12_in (d := d + 3) hp hr2) (Nat.le_refl _) ?_
  refine M_if_ne (pc := 13) (tgt := 20) dX12_company_13 (by decide) (fun hc3 => ?_) (fun hc3 => ?_)
  · have h := (if_neg hc3).symm.trans h
    refine M_iconst (pc := 20) (v := 0) dX12_company_20 (by decide) ?_
    refine M_iconst (pc := 21) (v := 1) dX12_company_21 (by decide) ?_
    obtain ⟨r4, hr5, h⟩ := bnd h
    refine M_callVi (pc := 22) dX12_company_22 v_X12_243 rfl rfl at_11 (Nat.le_of_ble_eq_true rfl) (C_X12_throwsIf (d := d + 3) hp hr5) (Nat.le_refl _) ?_
    refine M_if_eq (pc := 25) (tgt := 32) dX12_company_25 (by decide) (fun hc6 => ?_) (fun hc6 => ?_)
    · have h := (if_pos hc6).symm.trans h
      refine M_aload_n (pc := 32) dX12_company_32 rfl ?_
      refine M_bipush (pc := 33) (v := 7) dX12_company_33 (by decide) ?_
      refine M_iload_n (pc := 35) dX12_company_35 rfl ?_
      obtain ⟨r7, hr8, h⟩ := bnd h
      refine M_callVi (pc := 36) dX12_company_36 v_X12_382 rfl rfl at_11 (Nat.le_of_ble_eq_true rfl) (C_X12_hadAt (d := d + 0) hp hr8) (Nat.le_refl _) ?_
      obtain rfl := Option.some.inj h
      exact M_iret (pc := 39) dX12_company_39 rfl rfl rfl rfl
    · have h := (if_neg hc6).symm.trans h
      refine M_iconst (pc := 28) (v := 0) dX12_company_28 (by decide) ?_
      refine M_goto (pc := 29) (tgt := 39) dX12_company_29 (by decide) ?_
      obtain rfl := Option.some.inj h
      exact M_iret (pc := 39) dX12_company_39 rfl rfl rfl rfl
  · have h := (if_pos hc3).symm.trans h
    refine M_iconst (pc := 16) (v := 1) dX12_company_16 (by decide) ?_
    refine M_goto (pc := 17) (tgt := 21) dX12_company_17 (by decide) ?_
    refine M_iconst (pc := 21) (v := 1) dX12_company_21 (by decide) ?_
    obtain ⟨r9, hr10, h⟩ := bnd h
    refine M_callVi (pc := 22) dX12_company_22 v_X12_243 rfl rfl at_11 (Nat.le_of_ble_eq_true rfl) (C_X12_throwsIf (d := d + 3) hp hr10) (Nat.le_refl _) ?_
    refine M_if_eq (pc := 25) (tgt := 32) dX12_company_25 (by decide) (fun hc11 => ?_) (fun hc11 => ?_)
    · have h := (if_pos hc11).symm.trans h
      refine M_aload_n (pc := 32) dX12_company_32 rfl ?_
      refine M_bipush (pc := 33) (v := 7) dX12_company_33 (by decide) ?_
      refine M_iload_n (pc := 35) dX12_company_35 rfl ?_
      obtain ⟨r12, hr13, h⟩ := bnd h
      refine M_callVi (pc := 36) dX12_company_36 v_X12_382 rfl rfl at_11 (Nat.le_of_ble_eq_true rfl) (C_X12_hadAt (d := d + 0) hp hr13) (Nat.le_refl _) ?_
      obtain rfl := Option.some.inj h
      exact M_iret (pc := 39) dX12_company_39 rfl rfl rfl rfl
    · have h := (if_neg hc11).symm.trans h
      refine M_iconst (pc := 28) (v := 0) dX12_company_28 (by decide) ?_
      refine M_goto (pc := 29) (tgt := 39) dX12_company_29 (by decide) ?_
      obtain rfl := Option.some.inj h
      exact M_iret (pc := 39) dX12_company_39 rfl rfl rfl rfl
def L_X12_odds_167 (I : HI) (J : HJ) (x3 : Int64) (x5 : Int64) (x7 : Int32) : Option (Int32 × HI × HJ) :=
  if (6 : Int32) < x7 then if ¬ x3 = 0 then some (((((10000 : Int64) * x5) / x3)).toInt32, I, J) else none else (ald 7 (J 217) x7) >>= fun v11 => L_X12_odds_167 I J x3 (x5 + v11) (x7 + (1 : Int32))
partial_fixpoint
def L_X12_odds_84 (I : HI) (x1 : Int32) (x2 : Int32) (x3 : Int64) (x5 : Int32) (x6 : Int32) (J : HJ) : Option (Int32 × HJ) :=
  if x6 < 0 then some (x6, J) else (ald 7 (J 217) x6) >>= fun v14 => if x6 = 0 then if inB x6 7 = true then L_X12_odds_84 I x1 x2 x3 x5 (x6 + (-1 : Int32)) (up2 J 217 (x6).toNatClampNeg ((v14 * (((100 : Int32) - (I 206 11))).toInt64) + (0 : Int64))) else none else (ald 7 (J 217) (x6 - (1 : Int32))) >>= fun v17 => if inB x6 7 = true then L_X12_odds_84 I x1 x2 x3 x5 (x6 + (-1 : Int32)) (up2 J 217 (x6).toNatClampNeg ((v14 * (((100 : Int32) - (I 206 11))).toInt64) + (v17 * ((I 206 11)).toInt64))) else none
partial_fixpoint
def L_X12_odds_74 (I : HI) (x1 : Int32) (x2 : Int32) (x3 : Int64) (x5 : Int32) (J : HJ) : Option (Int32 × HI × HJ) :=
  if x1 ≤ x5 then L_X12_odds_167 I J x3 (0 : Int64) x2 else (L_X12_odds_84 I x1 x2 x3 x5 (6 : Int32) J) >>= fun r21 => L_X12_odds_74 I x1 x2 (x3 * (100 : Int64)) (x5 + (1 : Int32)) r21.2
partial_fixpoint
def L_X12_odds_42 (I : HI) (x1 : Int32) (x2 : Int32) (x3 : Int32) (J : HJ) : Option (Int32 × HI × HJ) :=
  if (6 : Int32) < x3 then L_X12_odds_74 I x1 x2 (1 : Int64) (0 : Int32) J else if x3 = 0 then if inB x3 7 = true then L_X12_odds_42 I x1 x2 (x3 + (1 : Int32)) (up2 J 217 (x3).toNatClampNeg (1 : Int64)) else none else if inB x3 7 = true then L_X12_odds_42 I x1 x2 (x3 + (1 : Int32)) (up2 J 217 (x3).toNatClampNeg (0 : Int64)) else none
partial_fixpoint
def F_X12_odds (I : HI) (J : HJ) (x1 : Int32) (x2 : Int32) : Option (Int32 × HI × HJ) :=
  (F_X12_in (up2 I 205 0 (0 : Int32)) x1 (0 : Int32) (6 : Int32)) >>= fun r1 => if r1 = 0 then (F_X12_throwsIf (up2 I 205 0 (0 : Int32)) (1 : Int32) (1 : Int32)) >>= fun r4 => if r4.1 = 0 then L_X12_odds_42 r4.2 x1 x2 (0 : Int32) J else some ((0 : Int32), r4.2, J) else (F_X12_in (up2 I 205 0 (0 : Int32)) x2 (0 : Int32) (6 : Int32)) >>= fun r26 => if r26 = 0 then (F_X12_throwsIf (up2 I 205 0 (0 : Int32)) (1 : Int32) (1 : Int32)) >>= fun r32 => if r32.1 = 0 then L_X12_odds_42 r32.2 x1 x2 (0 : Int32) J else some ((0 : Int32), r32.2, J) else (F_X12_throwsIf (up2 I 205 0 (0 : Int32)) (0 : Int32) (1 : Int32)) >>= fun r29 => if r29.1 = 0 then L_X12_odds_42 r29.2 x1 x2 (0 : Int32) J else some ((0 : Int32), r29.2, J)
set_option maxRecDepth 4000 in
set_option maxHeartbeats 4000000 in
theorem LC_X12_odds_167 {g : gX} {d : Nat} {P : Nat → Nat → Option Nat}  {I : HI} {J : HJ} {x3 : Int64} (hp : Wp P) : ∀ (x5 : Int64) (x7 : Int32) (r : Int32 × HI × HJ), L_X12_odds_167 I J x3 x5 x7 = some r → M g mX12_odds (d + 1) (NT, NT, 0) ((.inl (some (.int r.1))), (NT, r.2.1, r.2.2, P)) 167 [some (.ref 205), none, none, some (.long x3), none, some (.long x5), none, some (.int x7)] [] (NT, I, J, P) := by
  refine L_X12_odds_167.partial_correctness I J x3 (fun x5 x7 r => M g mX12_odds (d + 1) (NT, NT, 0) ((.inl (some (.int r.1))), (NT, r.2.1, r.2.2, P)) 167 [some (.ref 205), none, none, some (.long x3), none, some (.long x5), none, some (.int x7)] [] (NT, I, J, P)) ?_
  intro f ih x5 x7 r h
  refine M_iload (pc := 167) dX12_odds_167 rfl ?_
  refine M_bipush (pc := 169) (v := 6) dX12_odds_169 (by decide) ?_
  refine M_icmp_gt (pc := 171) (tgt := 192) dX12_odds_171 (by decide) (fun hc9 => ?_) (fun hc9 => ?_)
  · have h := (if_pos hc9).symm.trans h
    refine M_ldc2 (pc := 192) (v := 10000) dX12_odds_192 w_1927 ?_
    refine M_lload (pc := 195) dX12_odds_195 rfl ?_
    refine M_lmul (pc := 197) dX12_odds_197 ?_
    refine M_lload_n (pc := 198) dX12_odds_198 rfl ?_
    obtain ⟨hz10, h⟩ := chk h
    refine M_ldiv (pc := 199) dX12_odds_199 hz10 ?_
    refine M_l2i (pc := 200) dX12_odds_200 ?_
    obtain rfl := Option.some.inj h
    exact M_iret (pc := 201) dX12_odds_201 rfl rfl rfl rfl
  · have h := (if_neg hc9).symm.trans h
    refine M_lload (pc := 174) dX12_odds_174 rfl ?_
    refine M_aload_n (pc := 176) dX12_odds_176 rfl ?_
    refine M_getR (pc := 177) dX12_odds_177 f_X12_51 at_11 (gc_205_21 hp).1 ?_
    refine M_iload (pc := 180) dX12_odds_180 rfl ?_
    obtain ⟨v11, hv12, h⟩ := bnd h
    refine M_aldJ (pc := 182) dX12_odds_182 (gc_205_21 hp).2 hv12 ?_
    refine M_ladd (pc := 183) dX12_odds_183 ?_
    refine M_lstore (pc := 184) (ls' := [some (.ref 205), none, none, some (.long x3), none, some (.long (x5 + v11)), none, some (.int x7)]) dX12_odds_184 (by decide) rfl ?_
    refine M_iinc (pc := 186) (v := (x7 + (1 : Int32))) (ls' := [some (.ref 205), none, none, some (.long x3), none, some (.long (x5 + v11)), none, some (.int (x7 + (1 : Int32)))]) dX12_odds_186 rfl rfl (by decide) rfl ?_
    refine M_goto (pc := 189) (tgt := 167) dX12_odds_189 (by decide) ?_
    exact ih (x5 + v11) (x7 + (1 : Int32)) _ h
set_option maxRecDepth 4000 in
set_option maxHeartbeats 4000000 in
theorem LC_X12_odds_84 {g : gX} {d : Nat} {R : rX} {P : Nat → Nat → Option Nat}  {I : HI} {x1 : Int32} {x2 : Int32} {x3 : Int64} {x5 : Int32} (hp : Wp P) : ∀ (x6 : Int32) (J : HJ) (r : Int32 × HJ), L_X12_odds_84 I x1 x2 x3 x5 x6 J = some r → M g mX12_odds (d + 1) (NT, NT, 0) R 149 [some (.ref 205), some (.int x1), some (.int x2), some (.long x3), none, some (.int x5), some (.int r.1), none] [] (NT, I, r.2, P) → M g mX12_odds (d + 1) (NT, NT, 0) R 84 [some (.ref 205), some (.int x1), some (.int x2), some (.long x3), none, some (.int x5), some (.int x6), none] [] (NT, I, J, P) := by
  refine L_X12_odds_84.partial_correctness I x1 x2 x3 x5 (fun x6 J r => M g mX12_odds (d + 1) (NT, NT, 0) R 149 [some (.ref 205), some (.int x1), some (.int x2), some (.long x3), none, some (.int x5), some (.int r.1), none] [] (NT, I, r.2, P) → M g mX12_odds (d + 1) (NT, NT, 0) R 84 [some (.ref 205), some (.int x1), some (.int x2), some (.long x3), none, some (.int x5), some (.int x6), none] [] (NT, I, J, P)) ?_
  intro f ih x6 J r h hk
  refine M_iload (pc := 84) dX12_odds_84 rfl ?_
  refine M_if_lt (pc := 86) (tgt := 149) dX12_odds_86 (by decide) (fun hc13 => ?_) (fun hc13 => ?_)
  · have h := (if_pos hc13).symm.trans h
    obtain rfl := Option.some.inj h
    exact hk
  · have h := (if_neg hc13).symm.trans h
    refine M_aload_n (pc := 89) dX12_odds_89 rfl ?_
    refine M_getR (pc := 90) dX12_odds_90 f_X12_51 at_11 (gc_205_21 hp).1 ?_
    refine M_iload (pc := 93) dX12_odds_93 rfl ?_
    refine M_aload_n (pc := 95) dX12_odds_95 rfl ?_
    refine M_getR (pc := 96) dX12_odds_96 f_X12_51 at_11 (gc_205_21 hp).1 ?_
    refine M_iload (pc := 99) dX12_odds_99 rfl ?_
    obtain ⟨v14, hv15, h⟩ := bnd h
    refine M_aldJ (pc := 101) dX12_odds_101 (gc_205_21 hp).2 hv15 ?_
    refine M_bipush (pc := 102) (v := 100) dX12_odds_102 (by decide) ?_
    refine M_aload_n (pc := 104) dX12_odds_104 rfl ?_
    refine M_getR (pc := 105) dX12_odds_105 f_X12_13 at_11 (gc_205_1 hp).1 ?_
    refine M_bipush (pc := 108) (v := 11) dX12_odds_108 (by decide) ?_
    refine M_ildc (pc := 110) (j := 11) dX12_odds_110 (gc_205_1 hp).2 (by decide) (by decide) ?_
    refine M_isub (pc := 111) dX12_odds_111 ?_
    refine M_i2l (pc := 112) dX12_odds_112 ?_
    refine M_lmul (pc := 113) dX12_odds_113 ?_
    refine M_iload (pc := 114) dX12_odds_114 rfl ?_
    refine M_if_ne (pc := 116) (tgt := 123) dX12_odds_116 (by decide) (fun hc16 => ?_) (fun hc16 => ?_)
    · have h := (if_neg hc16).symm.trans h
      refine M_aload_n (pc := 123) dX12_odds_123 rfl ?_
      refine M_getR (pc := 124) dX12_odds_124 f_X12_51 at_11 (gc_205_21 hp).1 ?_
      refine M_iload (pc := 127) dX12_odds_127 rfl ?_
      refine M_iconst (pc := 129) (v := 1) dX12_odds_129 (by decide) ?_
      refine M_isub (pc := 130) dX12_odds_130 ?_
      obtain ⟨v17, hv18, h⟩ := bnd h
      refine M_aldJ (pc := 131) dX12_odds_131 (gc_205_21 hp).2 hv18 ?_
      refine M_aload_n (pc := 132) dX12_odds_132 rfl ?_
      refine M_getR (pc := 133) dX12_odds_133 f_X12_13 at_11 (gc_205_1 hp).1 ?_
      refine M_bipush (pc := 136) (v := 11) dX12_odds_136 (by decide) ?_
      refine M_ildc (pc := 138) (j := 11) dX12_odds_138 (gc_205_1 hp).2 (by decide) (by decide) ?_
      refine M_i2l (pc := 139) dX12_odds_139 ?_
      refine M_lmul (pc := 140) dX12_odds_140 ?_
      refine M_ladd (pc := 141) dX12_odds_141 ?_
      obtain ⟨hq19, h⟩ := chk h
      refine M_last (pc := 142) dX12_odds_142 (gc_205_21 hp).2 (inB_in hq19) ?_
      refine M_iinc (pc := 143) (v := (x6 + (-1 : Int32))) (ls' := [some (.ref 205), some (.int x1), some (.int x2), some (.long x3), none, some (.int x5), some (.int (x6 + (-1 : Int32))), none]) dX12_odds_143 rfl rfl (by decide) rfl ?_
      refine M_goto (pc := 146) (tgt := 84) dX12_odds_146 (by decide) ?_
      exact ih (x6 + (-1 : Int32)) (up2 J 217 (x6).toNatClampNeg ((v14 * (((100 : Int32) - (I 206 11))).toInt64) + (v17 * ((I 206 11)).toInt64))) _ h hk
    · have h := (if_pos hc16).symm.trans h
      refine M_lconst (pc := 119) (v := 0) dX12_odds_119 (by decide) ?_
      refine M_goto (pc := 120) (tgt := 141) dX12_odds_120 (by decide) ?_
      refine M_ladd (pc := 141) dX12_odds_141 ?_
      obtain ⟨hq20, h⟩ := chk h
      refine M_last (pc := 142) dX12_odds_142 (gc_205_21 hp).2 (inB_in hq20) ?_
      refine M_iinc (pc := 143) (v := (x6 + (-1 : Int32))) (ls' := [some (.ref 205), some (.int x1), some (.int x2), some (.long x3), none, some (.int x5), some (.int (x6 + (-1 : Int32))), none]) dX12_odds_143 rfl rfl (by decide) rfl ?_
      refine M_goto (pc := 146) (tgt := 84) dX12_odds_146 (by decide) ?_
      exact ih (x6 + (-1 : Int32)) (up2 J 217 (x6).toNatClampNeg ((v14 * (((100 : Int32) - (I 206 11))).toInt64) + (0 : Int64))) _ h hk
set_option maxRecDepth 4000 in
set_option maxHeartbeats 4000000 in
theorem LC_X12_odds_74 {g : gX} {d : Nat} {P : Nat → Nat → Option Nat}  {I : HI} {x1 : Int32} {x2 : Int32} (hp : Wp P) : ∀ (x3 : Int64) (x5 : Int32) (J : HJ) (r : Int32 × HI × HJ), L_X12_odds_74 I x1 x2 x3 x5 J = some r → M g mX12_odds (d + 1) (NT, NT, 0) ((.inl (some (.int r.1))), (NT, r.2.1, r.2.2, P)) 74 [some (.ref 205), some (.int x1), some (.int x2), some (.long x3), none, some (.int x5), none, none] [] (NT, I, J, P) := by
  refine L_X12_odds_74.partial_correctness I x1 x2 (fun x3 x5 J r => M g mX12_odds (d + 1) (NT, NT, 0) ((.inl (some (.int r.1))), (NT, r.2.1, r.2.2, P)) 74 [some (.ref 205), some (.int x1), some (.int x2), some (.long x3), none, some (.int x5), none, none] [] (NT, I, J, P)) ?_
  intro f ih x3 x5 J r h
  refine M_iload (pc := 74) dX12_odds_74 rfl ?_
  refine M_iload_n (pc := 76) dX12_odds_76 rfl ?_
  refine M_icmp_ge (pc := 77) (tgt := 161) dX12_odds_77 (by decide) (fun hc8 => ?_) (fun hc8 => ?_)
  · have h := (if_pos hc8).symm.trans h
    refine M_lconst (pc := 161) (v := 0) dX12_odds_161 (by decide) ?_
    refine M_lstore (pc := 162) (ls' := [some (.ref 205), some (.int x1), some (.int x2), some (.long x3), none, some (.long (0 : Int64)), none, none]) dX12_odds_162 (by decide) rfl ?_
    refine M_iload_n (pc := 164) dX12_odds_164 rfl ?_
    refine M_istore (pc := 165) (ls' := [some (.ref 205), some (.int x1), some (.int x2), some (.long x3), none, some (.long (0 : Int64)), none, some (.int x2)]) dX12_odds_165 (by decide) rfl ?_
    refine M_mask (pc := 167) [true, false, false, true, false, true, false, true] rfl ?_
    exact LC_X12_odds_167 (P := P) hp (0 : Int64) x2 _ h
  · have h := (if_neg hc8).symm.trans h
    refine M_bipush (pc := 80) (v := 6) dX12_odds_80 (by decide) ?_
    refine M_istore (pc := 82) (ls' := [some (.ref 205), some (.int x1), some (.int x2), some (.long x3), none, some (.int x5), some (.int (6 : Int32)), none]) dX12_odds_82 (by decide) rfl ?_
    obtain ⟨r21, hr22, h⟩ := bnd h
    refine LC_X12_odds_84 (P := P) hp (6 : Int32) J _ hr22 ?_
    refine M_lload_n (pc := 149) dX12_odds_149 rfl ?_
    refine M_ldc2 (pc := 150) (v := 100) dX12_odds_150 w_1926 ?_
    refine M_lmul (pc := 153) dX12_odds_153 ?_
    refine M_lstore_n (pc := 154) (ls' := [some (.ref 205), some (.int x1), some (.int x2), some (.long (x3 * (100 : Int64))), none, some (.int x5), some (.int r21.1), none]) dX12_odds_154 (by decide) rfl ?_
    refine M_iinc (pc := 155) (v := (x5 + (1 : Int32))) (ls' := [some (.ref 205), some (.int x1), some (.int x2), some (.long (x3 * (100 : Int64))), none, some (.int (x5 + (1 : Int32))), some (.int r21.1), none]) dX12_odds_155 rfl rfl (by decide) rfl ?_
    refine M_goto (pc := 158) (tgt := 74) dX12_odds_158 (by decide) ?_
    refine M_mask (pc := 74) [true, true, true, true, false, true, false, false] rfl ?_
    exact ih (x3 * (100 : Int64)) (x5 + (1 : Int32)) r21.2 _ h
set_option maxRecDepth 4000 in
set_option maxHeartbeats 4000000 in
theorem LC_X12_odds_42 {g : gX} {d : Nat} {P : Nat → Nat → Option Nat}  {I : HI} {x1 : Int32} {x2 : Int32} (hp : Wp P) : ∀ (x3 : Int32) (J : HJ) (r : Int32 × HI × HJ), L_X12_odds_42 I x1 x2 x3 J = some r → M g mX12_odds (d + 1) (NT, NT, 0) ((.inl (some (.int r.1))), (NT, r.2.1, r.2.2, P)) 42 [some (.ref 205), some (.int x1), some (.int x2), some (.int x3), none, none, none, none] [] (NT, I, J, P) := by
  refine L_X12_odds_42.partial_correctness I x1 x2 (fun x3 J r => M g mX12_odds (d + 1) (NT, NT, 0) ((.inl (some (.int r.1))), (NT, r.2.1, r.2.2, P)) 42 [some (.ref 205), some (.int x1), some (.int x2), some (.int x3), none, none, none, none] [] (NT, I, J, P)) ?_
  intro f ih x3 J r h
  refine M_iload_n (pc := 42) dX12_odds_42 rfl ?_
  refine M_bipush (pc := 43) (v := 6) dX12_odds_43 (by decide) ?_
  refine M_icmp_gt (pc := 45) (tgt := 69) dX12_odds_45 (by decide) (fun hc7 => ?_) (fun hc7 => ?_)
  · have h := (if_pos hc7).symm.trans h
    refine M_lconst (pc := 69) (v := 1) dX12_odds_69 (by decide) ?_
    refine M_lstore_n (pc := 70) (ls' := [some (.ref 205), some (.int x1), some (.int x2), some (.long (1 : Int64)), none, none, none, none]) dX12_odds_70 (by decide) rfl ?_
    refine M_iconst (pc := 71) (v := 0) dX12_odds_71 (by decide) ?_
    refine M_istore (pc := 72) (ls' := [some (.ref 205), some (.int x1), some (.int x2), some (.long (1 : Int64)), none, some (.int (0 : Int32)), none, none]) dX12_odds_72 (by decide) rfl ?_
    exact LC_X12_odds_74 (P := P) hp (1 : Int64) (0 : Int32) J _ h
  · have h := (if_neg hc7).symm.trans h
    refine M_aload_n (pc := 48) dX12_odds_48 rfl ?_
    refine M_getR (pc := 49) dX12_odds_49 f_X12_51 at_11 (gc_205_21 hp).1 ?_
    refine M_iload_n (pc := 52) dX12_odds_52 rfl ?_
    refine M_iload_n (pc := 53) dX12_odds_53 rfl ?_
    refine M_if_ne (pc := 54) (tgt := 61) dX12_odds_54 (by decide) (fun hc23 => ?_) (fun hc23 => ?_)
    · have h := (if_neg hc23).symm.trans h
      refine M_lconst (pc := 61) (v := 0) dX12_odds_61 (by decide) ?_
      obtain ⟨hq24, h⟩ := chk h
      refine M_last (pc := 62) dX12_odds_62 (gc_205_21 hp).2 (inB_in hq24) ?_
      refine M_iinc (pc := 63) (v := (x3 + (1 : Int32))) (ls' := [some (.ref 205), some (.int x1), some (.int x2), some (.int (x3 + (1 : Int32))), none, none, none, none]) dX12_odds_63 rfl rfl (by decide) rfl ?_
      refine M_goto (pc := 66) (tgt := 42) dX12_odds_66 (by decide) ?_
      exact ih (x3 + (1 : Int32)) (up2 J 217 (x3).toNatClampNeg (0 : Int64)) _ h
    · have h := (if_pos hc23).symm.trans h
      refine M_lconst (pc := 57) (v := 1) dX12_odds_57 (by decide) ?_
      refine M_goto (pc := 58) (tgt := 62) dX12_odds_58 (by decide) ?_
      obtain ⟨hq25, h⟩ := chk h
      refine M_last (pc := 62) dX12_odds_62 (gc_205_21 hp).2 (inB_in hq25) ?_
      refine M_iinc (pc := 63) (v := (x3 + (1 : Int32))) (ls' := [some (.ref 205), some (.int x1), some (.int x2), some (.int (x3 + (1 : Int32))), none, none, none, none]) dX12_odds_63 rfl rfl (by decide) rfl ?_
      refine M_goto (pc := 66) (tgt := 42) dX12_odds_66 (by decide) ?_
      exact ih (x3 + (1 : Int32)) (up2 J 217 (x3).toNatClampNeg (1 : Int64)) _ h
set_option maxRecDepth 4000 in
set_option maxHeartbeats 4000000 in
theorem C_X12_odds {g : gX} {d : Nat} {P : Nat → Nat → Option Nat} {I : HI} {J : HJ} {x1 : Int32} {x2 : Int32}  (hp : Wp P) {r : Int32 × HI × HJ} (h : F_X12_odds I J x1 x2 = some r) : Cm g mX12_odds (d + 1) [.ref 205, .int x1, .int x2] (NT, I, J, P) (some (.int r.1)) (NT, r.2.1, r.2.2, P) := by
  unfold F_X12_odds at h
  refine Cm.of (by decide) (by simp [Value.category]) (Nat.le_of_ble_eq_true rfl) (Nat.le_refl _) (ls := [some (.ref 205), some (.int x1), some (.int x2), none, none, none, none, none]) rfl ?_
  refine M_aload_n (pc := 0) dX12_odds_0 rfl ?_
  refine M_iconst (pc := 1) (v := 0) dX12_odds_1 (by decide) ?_
  refine M_putI (pc := 2) dX12_odds_2 f_X12_3 at_11 rfl ⟨rfl, rfl⟩ ?_
  refine M_aload_n (pc := 5) dX12_odds_5 rfl ?_
  refine M_iload_n (pc := 6) dX12_odds_6 rfl ?_
  refine M_iconst (pc := 7) (v := 0) dX12_odds_7 (by decide) ?_
  refine M_bipush (pc := 8) (v := 6) dX12_odds_8 (by decide) ?_
  obtain ⟨r1, hr2, h⟩ := bnd h
  refine M_callSi (pc := 10) dX12_odds_10 s_X12_73 rfl rfl (Nat.le_of_ble_eq_true rfl) (C_X12_in (d := d + 0) hp hr2) (Nat.le_refl _) ?_
  refine M_if_eq (pc := 13) (tgt := 26) dX12_odds_13 (by decide) (fun hc3 => ?_) (fun hc3 => ?_)
  · have h := (if_pos hc3).symm.trans h
    refine M_iconst (pc := 26) (v := 1) dX12_odds_26 (by decide) ?_
    refine M_goto (pc := 27) (tgt := 31) dX12_odds_27 (by decide) ?_
    refine M_iconst (pc := 31) (v := 1) dX12_odds_31 (by decide) ?_
    obtain ⟨r4, hr5, h⟩ := bnd h
    refine M_callVi (pc := 32) dX12_odds_32 v_X12_243 rfl rfl at_11 (Nat.le_of_ble_eq_true rfl) (C_X12_throwsIf (d := d + 0) hp hr5) (Nat.le_refl _) ?_
    refine M_if_eq (pc := 35) (tgt := 40) dX12_odds_35 (by decide) (fun hc6 => ?_) (fun hc6 => ?_)
    · have h := (if_pos hc6).symm.trans h
      refine M_iconst (pc := 40) (v := 0) dX12_odds_40 (by decide) ?_
      refine M_istore_n (pc := 41) (ls' := [some (.ref 205), some (.int x1), some (.int x2), some (.int (0 : Int32)), none, none, none, none]) dX12_odds_41 (by decide) rfl ?_
      exact LC_X12_odds_42 (P := P) hp (0 : Int32) J _ h
    · have h := (if_neg hc6).symm.trans h
      refine M_iconst (pc := 38) (v := 0) dX12_odds_38 (by decide) ?_
      obtain rfl := Option.some.inj h
      exact M_iret (pc := 39) dX12_odds_39 rfl rfl rfl rfl
  · have h := (if_neg hc3).symm.trans h
    refine M_iload_n (pc := 16) dX12_odds_16 rfl ?_
    refine M_iconst (pc := 17) (v := 0) dX12_odds_17 (by decide) ?_
    refine M_bipush (pc := 18) (v := 6) dX12_odds_18 (by decide) ?_
    obtain ⟨r26, hr27, h⟩ := bnd h
    refine M_callSi (pc := 20) dX12_odds_20 s_X12_73 rfl rfl (Nat.le_of_ble_eq_true rfl) (C_X12_in (d := d + 0) hp hr27) (Nat.le_refl _) ?_
    refine M_if_ne (pc := 23) (tgt := 30) dX12_odds_23 (by decide) (fun hc28 => ?_) (fun hc28 => ?_)
    · have h := (if_neg hc28).symm.trans h
      refine M_iconst (pc := 30) (v := 0) dX12_odds_30 (by decide) ?_
      refine M_iconst (pc := 31) (v := 1) dX12_odds_31 (by decide) ?_
      obtain ⟨r29, hr30, h⟩ := bnd h
      refine M_callVi (pc := 32) dX12_odds_32 v_X12_243 rfl rfl at_11 (Nat.le_of_ble_eq_true rfl) (C_X12_throwsIf (d := d + 0) hp hr30) (Nat.le_refl _) ?_
      refine M_if_eq (pc := 35) (tgt := 40) dX12_odds_35 (by decide) (fun hc31 => ?_) (fun hc31 => ?_)
      · have h := (if_pos hc31).symm.trans h
        refine M_iconst (pc := 40) (v := 0) dX12_odds_40 (by decide) ?_
        refine M_istore_n (pc := 41) (ls' := [some (.ref 205), some (.int x1), some (.int x2), some (.int (0 : Int32)), none, none, none, none]) dX12_odds_41 (by decide) rfl ?_
        exact LC_X12_odds_42 (P := P) hp (0 : Int32) J _ h
      · have h := (if_neg hc31).symm.trans h
        refine M_iconst (pc := 38) (v := 0) dX12_odds_38 (by decide) ?_
        obtain rfl := Option.some.inj h
        exact M_iret (pc := 39) dX12_odds_39 rfl rfl rfl rfl
    · have h := (if_pos hc28).symm.trans h
      refine M_iconst (pc := 26) (v := 1) dX12_odds_26 (by decide) ?_
      refine M_goto (pc := 27) (tgt := 31) dX12_odds_27 (by decide) ?_
      refine M_iconst (pc := 31) (v := 1) dX12_odds_31 (by decide) ?_
      obtain ⟨r32, hr33, h⟩ := bnd h
      refine M_callVi (pc := 32) dX12_odds_32 v_X12_243 rfl rfl at_11 (Nat.le_of_ble_eq_true rfl) (C_X12_throwsIf (d := d + 0) hp hr33) (Nat.le_refl _) ?_
      refine M_if_eq (pc := 35) (tgt := 40) dX12_odds_35 (by decide) (fun hc34 => ?_) (fun hc34 => ?_)
      · have h := (if_pos hc34).symm.trans h
        refine M_iconst (pc := 40) (v := 0) dX12_odds_40 (by decide) ?_
        refine M_istore_n (pc := 41) (ls' := [some (.ref 205), some (.int x1), some (.int x2), some (.int (0 : Int32)), none, none, none, none]) dX12_odds_41 (by decide) rfl ?_
        exact LC_X12_odds_42 (P := P) hp (0 : Int32) J _ h
      · have h := (if_neg hc34).symm.trans h
        refine M_iconst (pc := 38) (v := 0) dX12_odds_38 (by decide) ?_
        obtain rfl := Option.some.inj h
        exact M_iret (pc := 39) dX12_odds_39 rfl rfl rfl rfl
