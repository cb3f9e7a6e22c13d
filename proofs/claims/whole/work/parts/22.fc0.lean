def F_X12_thrown (I : HI) : Option (Int32) :=
  some (I 205 0)
set_option maxRecDepth 4000 in
set_option maxHeartbeats 4000000 in
theorem C_X12_thrown {g : gX} {d : Nat} {P : Nat → Nat → Option Nat} {I : HI} {J : HJ} (hp : Wp P) {r : Int32} (h : F_X12_thrown I = some r) : Cm g mX12_thrown (d + 0) [.ref 205] (NT, I, J, P) (some (.int r)) (NT, I, J, P) := by
  unfold F_X12_thrown at h
  refine Cm.of (by decide) (by simp [Value.category]) (Nat.le_of_ble_eq_true rfl) (Nat.le_refl _) (ls := [some (.ref 205)]) rfl ?_
  refine M_aload_n (pc := 0) dX12_thrown_0 rfl ?_
  refine M_getI (pc := 1) dX12_thrown_1 f_X12_3 at_11 ?_
  obtain rfl := Option.some.inj h
  exact M_iret (pc := 4) dX12_thrown_4 rfl rfl rfl rfl
def F_X12_throwsIf (I : HI) (x1 : Int32) (x2 : Int32) : Option (Int32 × HI) :=
  if x1 = 0 then if x1 = 0 ∨ x1 = 1 then some (x1, I) else none else if x1 = 0 ∨ x1 = 1 then some (x1, (up2 I 205 0 x2)) else none
set_option maxRecDepth 4000 in
set_option maxHeartbeats 4000000 in
theorem C_X12_throwsIf {g : gX} {d : Nat} {P : Nat → Nat → Option Nat} {I : HI} {x1 : Int32} {x2 : Int32} {J : HJ} (hp : Wp P) {r : Int32 × HI} (h : F_X12_throwsIf I x1 x2 = some r) : Cm g mX12_throwsIf (d + 0) [.ref 205, .int x1, .int x2] (NT, I, J, P) (some (.int r.1)) (NT, r.2, J, P) := by
  unfold F_X12_throwsIf at h
  refine Cm.of (by decide) (by simp [Value.category]) (Nat.le_of_ble_eq_true rfl) (Nat.le_refl _) (ls := [some (.ref 205), some (.int x1), some (.int x2)]) rfl ?_
  refine M_iload_n (pc := 0) dX12_throwsIf_0 rfl ?_
  refine M_if_eq (pc := 1) (tgt := 9) dX12_throwsIf_1 (by decide) (fun hc1 => ?_) (fun hc1 => ?_)
  · have h := (if_pos hc1).symm.trans h
    refine M_iload_n (pc := 9) dX12_throwsIf_9 rfl ?_
    obtain ⟨hq2, h⟩ := chk h
    obtain rfl := Option.some.inj h
    exact M_iret (pc := 10) dX12_throwsIf_10 rfl (by rcases hq2 with q | q <;> rw [q] <;> rfl) rfl rfl
  · have h := (if_neg hc1).symm.trans h
    refine M_aload_n (pc := 4) dX12_throwsIf_4 rfl ?_
    refine M_iload_n (pc := 5) dX12_throwsIf_5 rfl ?_
    refine M_putI (pc := 6) dX12_throwsIf_6 f_X12_3 at_11 rfl ⟨rfl, rfl⟩ ?_
    refine M_iload_n (pc := 9) dX12_throwsIf_9 rfl ?_
    obtain ⟨hq3, h⟩ := chk h
    obtain rfl := Option.some.inj h
    exact M_iret (pc := 10) dX12_throwsIf_10 rfl (by rcases hq3 with q | q <;> rw [q] <;> rfl) rfl rfl
def F_X12_in (I : HI) (x0 : Int32) (x1 : Int32) (x2 : Int32) : Option (Int32) :=
  if x0 < x1 then some (0 : Int32) else if x2 < x0 then some (0 : Int32) else some (1 : Int32)
set_option maxRecDepth 4000 in
set_option maxHeartbeats 4000000 in
theorem C_X12_in {g : gX} {d : Nat} {P : Nat → Nat → Option Nat} {I : HI} {x0 : Int32} {x1 : Int32} {x2 : Int32} {J : HJ} (hp : Wp P) {r : Int32} (h : F_X12_in I x0 x1 x2 = some r) : Cm g mX12_in (d + 0) [.int x0, .int x1, .int x2] (NT, I, J, P) (some (.int r)) (NT, I, J, P) := by
  unfold F_X12_in at h
  refine Cm.of (by decide) (by simp [Value.category]) (Nat.le_of_ble_eq_true rfl) (Nat.le_refl _) (ls := [some (.int x0), some (.int x1), some (.int x2)]) rfl ?_
  refine M_iload_n (pc := 0) dX12_in_0 rfl ?_
  refine M_iload_n (pc := 1) dX12_in_1 rfl ?_
  refine M_icmp_lt (pc := 2) (tgt := 14) dX12_in_2 (by decide) (fun hc1 => ?_) (fun hc1 => ?_)
  · have h := (if_pos hc1).symm.trans h
    refine M_iconst (pc := 14) (v := 0) dX12_in_14 (by decide) ?_
    obtain rfl := Option.some.inj h
    exact M_iret (pc := 15) dX12_in_15 rfl rfl rfl rfl
  · have h := (if_neg hc1).symm.trans h
    refine M_iload_n (pc := 5) dX12_in_5 rfl ?_
    refine M_iload_n (pc := 6) dX12_in_6 rfl ?_
    refine M_icmp_gt (pc := 7) (tgt := 14) dX12_in_7 (by decide) (fun hc2 => ?_) (fun hc2 => ?_)
    · have h := (if_pos hc2).symm.trans h
      refine M_iconst (pc := 14) (v := 0) dX12_in_14 (by decide) ?_
      obtain rfl := Option.some.inj h
      exact M_iret (pc := 15) dX12_in_15 rfl rfl rfl rfl
    · have h := (if_neg hc2).symm.trans h
      refine M_iconst (pc := 10) (v := 1) dX12_in_10 (by decide) ?_
      refine M_goto (pc := 11) (tgt := 15) dX12_in_11 (by decide) ?_
      obtain rfl := Option.some.inj h
      exact M_iret (pc := 15) dX12_in_15 rfl rfl rfl rfl
def F_X12_has (I : HI) (x0 : Int32) (x1 : Int32) : Option (Int32) :=
  if ((x0 >>> (x1 &&& 31)) &&& (1 : Int32)) = (1 : Int32) then some (1 : Int32) else some (0 : Int32)
set_option maxRecDepth 4000 in
set_option maxHeartbeats 4000000 in
theorem C_X12_has {g : gX} {d : Nat} {P : Nat → Nat → Option Nat} {I : HI} {x0 : Int32} {x1 : Int32} {J : HJ} (hp : Wp P) {r : Int32} (h : F_X12_has I x0 x1 = some r) : Cm g mX12_has (d + 0) [.int x0, .int x1] (NT, I, J, P) (some (.int r)) (NT, I, J, P) := by
  unfold F_X12_has at h
  refine Cm.of (by decide) (by simp [Value.category]) (Nat.le_of_ble_eq_true rfl) (Nat.le_refl _) (ls := [some (.int x0), some (.int x1)]) rfl ?_
  refine M_iload_n (pc := 0) dX12_has_0 rfl ?_
  refine M_iload_n (pc := 1) dX12_has_1 rfl ?_
  refine M_ishr (pc := 2) dX12_has_2 ?_
  refine M_iconst (pc := 3) (v := 1) dX12_has_3 (by decide) ?_
  refine M_iand (pc := 4) dX12_has_4 ?_
  refine M_iconst (pc := 5) (v := 1) dX12_has_5 (by decide) ?_
  refine M_icmp_ne (pc := 6) (tgt := 13) dX12_has_6 (by decide) (fun hc1 => ?_) (fun hc1 => ?_)
  · have h := (if_neg hc1).symm.trans h
    refine M_iconst (pc := 13) (v := 0) dX12_has_13 (by decide) ?_
    obtain rfl := Option.some.inj h
    exact M_iret (pc := 14) dX12_has_14 rfl rfl rfl rfl
  · have h := (if_pos hc1).symm.trans h
    refine M_iconst (pc := 9) (v := 1) dX12_has_9 (by decide) ?_
    refine M_goto (pc := 10) (tgt := 14) dX12_has_10 (by decide) ?_
    obtain rfl := Option.some.inj h
    exact M_iret (pc := 14) dX12_has_14 rfl rfl rfl rfl
def L_X12_image_7 (x1 : Int32) (I : HI) : Option (HI) :=
  if (1202 : Int32) ≤ x1 then some (up2 I 205 6 (1 : Int32)) else (ald 2051 (I 206) x1) >>= fun v2 => if inB x1 1202 = true then L_X12_image_7 (x1 + (1 : Int32)) (up2 I 207 (x1).toNatClampNeg v2) else none
partial_fixpoint
def F_X12_image (I : HI) : Option (HI) :=
  L_X12_image_7 (0 : Int32) (up2 I 205 0 (0 : Int32))
set_option maxRecDepth 4000 in
set_option maxHeartbeats 4000000 in
theorem LC_X12_image_7 {g : gX} {d : Nat} {P : Nat → Nat → Option Nat} {J : HJ}  (hp : Wp P) : ∀ (x1 : Int32) (I : HI) (r : HI), L_X12_image_7  x1 I = some r → M g mX12_image (d + 0) (NT, NT, 0) ((.inl none), (NT, r, J, P)) 7 [some (.ref 205), some (.int x1)] [] (NT, I, J, P) := by
  refine L_X12_image_7.partial_correctness  (fun x1 I r => M g mX12_image (d + 0) (NT, NT, 0) ((.inl none), (NT, r, J, P)) 7 [some (.ref 205), some (.int x1)] [] (NT, I, J, P)) ?_
  intro f ih x1 I r h
  refine M_iload_n (pc := 7) dX12_image_7 rfl ?_
  refine M_sipush (pc := 8) (v := 1202) dX12_image_8 (by decide) ?_
  refine M_icmp_ge (pc := 11) (tgt := 32) dX12_image_11 (by decide) (fun hc1 => ?_) (fun hc1 => ?_)
  · have h := (if_pos hc1).symm.trans h
    refine M_aload_n (pc := 32) dX12_image_32 rfl ?_
    refine M_iconst (pc := 33) (v := 1) dX12_image_33 (by decide) ?_
    refine M_putI (pc := 34) dX12_image_34 f_X12_55 at_11 rfl ⟨rfl, rfl⟩ ?_
    obtain rfl := Option.some.inj h
    exact M_vret (pc := 37) dX12_image_37 rfl rfl rfl
  · have h := (if_neg hc1).symm.trans h
    refine M_aload_n (pc := 14) dX12_image_14 rfl ?_
    refine M_getR (pc := 15) dX12_image_15 f_X12_17 at_11 (gc_205_2 hp).1 ?_
    refine M_iload_n (pc := 18) dX12_image_18 rfl ?_
    refine M_aload_n (pc := 19) dX12_image_19 rfl ?_
    refine M_getR (pc := 20) dX12_image_20 f_X12_13 at_11 (gc_205_1 hp).1 ?_
    refine M_iload_n (pc := 23) dX12_image_23 rfl ?_
    obtain ⟨v2, hv3, h⟩ := bnd h
    refine M_aldI (pc := 24) dX12_image_24 (gc_205_1 hp).2 hv3 ?_
    obtain ⟨hq4, h⟩ := chk h
    refine M_iast (pc := 25) dX12_image_25 (gc_205_2 hp).2 (inB_in hq4) ?_
    refine M_iinc (pc := 26) (v := (x1 + (1 : Int32))) (ls' := [some (.ref 205), some (.int (x1 + (1 : Int32)))]) dX12_image_26 rfl rfl (by decide) rfl ?_
    refine M_goto (pc := 29) (tgt := 7) dX12_image_29 (by decide) ?_
    exact ih (x1 + (1 : Int32)) (up2 I 207 (x1).toNatClampNeg v2) _ h
set_option maxRecDepth 4000 in
set_option maxHeartbeats 4000000 in
theorem C_X12_image {g : gX} {d : Nat} {P : Nat → Nat → Option Nat} {I : HI} {J : HJ} (hp : Wp P) {r : HI} (h : F_X12_image I = some r) : Cm g mX12_image (d + 0) [.ref 205] (NT, I, J, P) none (NT, r, J, P) := by
  unfold F_X12_image at h
  refine Cm.of (by decide) (by simp [Value.category]) (Nat.le_of_ble_eq_true rfl) (Nat.le_refl _) (ls := [some (.ref 205), none]) rfl ?_
  refine M_aload_n (pc := 0) dX12_image_0 rfl ?_
  refine M_iconst (pc := 1) (v := 0) dX12_image_1 (by decide) ?_
  refine M_putI (pc := 2) dX12_image_2 f_X12_3 at_11 rfl ⟨rfl, rfl⟩ ?_
  refine M_iconst (pc := 5) (v := 0) dX12_image_5 (by decide) ?_
  refine M_istore_n (pc := 6) (ls' := [some (.ref 205), some (.int (0 : Int32))]) dX12_image_6 (by decide) rfl ?_
  exact LC_X12_image_7 (P := P) hp (0 : Int32) (up2 I 205 0 (0 : Int32)) _ h
def L_X12_back_16 (x1 : Int32) (I : HI) : Option (Int32 × HI) :=
  if (1202 : Int32) ≤ x1 then some ((1 : Int32), (up2 I 205 7 (0 : Int32))) else (ald 1202 (I 207) x1) >>= fun v3 => if inB x1 2051 = true then L_X12_back_16 (x1 + (1 : Int32)) (up2 I 206 (x1).toNatClampNeg v3) else none
partial_fixpoint
def F_X12_back (I : HI) : Option (Int32 × HI) :=
  if (I 205 6) = 0 then some ((0 : Int32), (up2 I 205 0 (0 : Int32))) else L_X12_back_16 (0 : Int32) (up2 I 205 0 (0 : Int32))
set_option maxRecDepth 4000 in
set_option maxHeartbeats 4000000 in
theorem LC_X12_back_16 {g : gX} {d : Nat} {P : Nat → Nat → Option Nat} {J : HJ}  (hp : Wp P) : ∀ (x1 : Int32) (I : HI) (r : Int32 × HI), L_X12_back_16  x1 I = some r → M g mX12_back (d + 0) (NT, NT, 0) ((.inl (some (.int r.1))), (NT, r.2, J, P)) 16 [some (.ref 205), some (.int x1)] [] (NT, I, J, P) := by
  refine L_X12_back_16.partial_correctness  (fun x1 I r => M g mX12_back (d + 0) (NT, NT, 0) ((.inl (some (.int r.1))), (NT, r.2, J, P)) 16 [some (.ref 205), some (.int x1)] [] (NT, I, J, P)) ?_
  intro f ih x1 I r h
  refine M_iload_n (pc := 16) dX12_back_16 rfl ?_
  refine M_sipush (pc := 17) (v := 1202) dX12_back_17 (by decide) ?_
  refine M_icmp_ge (pc := 20) (tgt := 41) dX12_back_20 (by decide) (fun hc2 => ?_) (fun hc2 => ?_)
  · have h := (if_pos hc2).symm.trans h
    refine M_aload_n (pc := 41) dX12_back_41 rfl ?_
    refine M_iconst (pc := 42) (v := 0) dX12_back_42 (by decide) ?_
    refine M_putI (pc := 43) dX12_back_43 f_X12_59 at_11 rfl ⟨rfl, rfl⟩ ?_
    refine M_iconst (pc := 46) (v := 1) dX12_back_46 (by decide) ?_
    obtain rfl := Option.some.inj h
    exact M_iret (pc := 47) dX12_back_47 rfl rfl rfl rfl
  · have h := (if_neg hc2).symm.trans h
    refine M_aload_n (pc := 23) dX12_back_23 rfl ?_
    refine M_getR (pc := 24) dX12_back_24 f_X12_13 at_11 (gc_205_1 hp).1 ?_
    refine M_iload_n (pc := 27) dX12_back_27 rfl ?_
    refine M_aload_n (pc := 28) dX12_back_28 rfl ?_
    refine M_getR (pc := 29) dX12_back_29 f_X12_17 at_11 (gc_205_2 hp).1 ?_
    refine M_iload_n (pc := 32) dX12_back_32 rfl ?_
    obtain ⟨v3, hv4, h⟩ := bnd h
    refine M_aldI (pc := 33) dX12_back_33 (gc_205_2 hp).2 hv4 ?_
    obtain ⟨hq5, h⟩ := chk h
    refine M_iast (pc := 34) dX12_back_34 (gc_205_1 hp).2 (inB_in hq5) ?_
    refine M_iinc (pc := 35) (v := (x1 + (1 : Int32))) (ls' := [some (.ref 205), some (.int (x1 + (1 : Int32)))]) dX12_back_35 rfl rfl (by decide) rfl ?_
    refine M_goto (pc := 38) (tgt := 16) dX12_back_38 (by decide) ?_
    exact ih (x1 + (1 : Int32)) (up2 I 206 (x1).toNatClampNeg v3) _ h
set_option maxRecDepth 4000 in
set_option maxHeartbeats 4000000 in
theorem C_X12_back {g : gX} {d : Nat} {P : Nat → Nat → Option Nat} {I : HI} {J : HJ} (hp : Wp P) {r : Int32 × HI} (h : F_X12_back I = some r) : Cm g mX12_back (d + 0) [.ref 205] (NT, I, J, P) (some (.int r.1)) (NT, r.2, J, P) := by
  unfold F_X12_back at h
  refine Cm.of (by decide) (by simp [Value.category]) (Nat.le_of_ble_eq_true rfl) (Nat.le_refl _) (ls := [some (.ref 205), none]) rfl ?_
  refine M_aload_n (pc := 0) dX12_back_0 rfl ?_
  refine M_iconst (pc := 1) (v := 0) dX12_back_1 (by decide) ?_
  refine M_putI (pc := 2) dX12_back_2 f_X12_3 at_11 rfl ⟨rfl, rfl⟩ ?_
  refine M_aload_n (pc := 5) dX12_back_5 rfl ?_
  refine M_getIs (pc := 6) (x := (I 205 6)) dX12_back_6 f_X12_55 at_11 (rd_ne (Or.inr (by decide))) ?_
  refine M_if_ne (pc := 9) (tgt := 14) dX12_back_9 (by decide) (fun hc1 => ?_) (fun hc1 => ?_)
  · have h := (if_neg hc1).symm.trans h
    refine M_iconst (pc := 14) (v := 0) dX12_back_14 (by decide) ?_
    refine M_istore_n (pc := 15) (ls' := [some (.ref 205), some (.int (0 : Int32))]) dX12_back_15 (by decide) rfl ?_
    exact LC_X12_back_16 (P := P) hp (0 : Int32) (up2 I 205 0 (0 : Int32)) _ h
  · have h := (if_pos hc1).symm.trans h
    refine M_iconst (pc := 12) (v := 0) dX12_back_12 (by decide) ?_
    obtain rfl := Option.some.inj h
    exact M_iret (pc := 13) dX12_back_13 rfl rfl rfl rfl
def L_X12_remembers_55 (x1 : Int32) (I : HI) : Option (HI) :=
  if (353 : Int32) ≤ x1 then some I else (ald 2051 (I 206) x1) >>= fun v3 => if inB (((353 : Int32) * ((I 205 7) - (1 : Int32))) + x1) 4236 = true then L_X12_remembers_55 (x1 + (1 : Int32)) (up2 I 210 ((((353 : Int32) * ((I 205 7) - (1 : Int32))) + x1)).toNatClampNeg v3) else none
partial_fixpoint
def L_X12_remembers_11 (x1 : Int32) (I : HI) : Option (HI) :=
  if (3883 : Int32) ≤ x1 then L_X12_remembers_55 (0 : Int32) I else (ald 4236 (I 210) (x1 + (353 : Int32))) >>= fun v7 => if inB x1 4236 = true then L_X12_remembers_11 (x1 + (1 : Int32)) (up2 I 210 (x1).toNatClampNeg v7) else none
partial_fixpoint
def F_X12_remembers (I : HI) : Option (HI) :=
  if (I 205 7) = (12 : Int32) then L_X12_remembers_11 (0 : Int32) I else L_X12_remembers_55 (0 : Int32) (up2 I 205 7 ((I 205 7) + (1 : Int32)))
set_option maxRecDepth 4000 in
set_option maxHeartbeats 4000000 in
theorem LC_X12_remembers_55 {g : gX} {d : Nat} {P : Nat → Nat → Option Nat} {J : HJ}  (hp : Wp P) : ∀ (x1 : Int32) (I : HI) (r : HI), L_X12_remembers_55  x1 I = some r → M g mX12_remembers (d + 0) (NT, NT, 0) ((.inl none), (NT, r, J, P)) 55 [some (.ref 205), some (.int x1)] [] (NT, I, J, P) := by
  refine L_X12_remembers_55.partial_correctness  (fun x1 I r => M g mX12_remembers (d + 0) (NT, NT, 0) ((.inl none), (NT, r, J, P)) 55 [some (.ref 205), some (.int x1)] [] (NT, I, J, P)) ?_
  intro f ih x1 I r h
  refine M_iload_n (pc := 55) dX12_remembers_55 rfl ?_
  refine M_sipush (pc := 56) (v := 353) dX12_remembers_56 (by decide) ?_
  refine M_icmp_ge (pc := 59) (tgt := 91) dX12_remembers_59 (by decide) (fun hc2 => ?_) (fun hc2 => ?_)
  · have h := (if_pos hc2).symm.trans h
    obtain rfl := Option.some.inj h
    exact M_vret (pc := 91) dX12_remembers_91 rfl rfl rfl
  · have h := (if_neg hc2).symm.trans h
    refine M_aload_n (pc := 62) dX12_remembers_62 rfl ?_
    refine M_getR (pc := 63) dX12_remembers_63 f_X12_26 at_11 (gc_205_5 hp).1 ?_
    refine M_sipush (pc := 66) (v := 353) dX12_remembers_66 (by decide) ?_
    refine M_aload_n (pc := 69) dX12_remembers_69 rfl ?_
    refine M_getI (pc := 70) dX12_remembers_70 f_X12_59 at_11 ?_
    refine M_iconst (pc := 73) (v := 1) dX12_remembers_73 (by decide) ?_
    refine M_isub (pc := 74) dX12_remembers_74 ?_
    refine M_imul (pc := 75) dX12_remembers_75 ?_
    refine M_iload_n (pc := 76) dX12_remembers_76 rfl ?_
    refine M_iadd (pc := 77) dX12_remembers_77 ?_
    refine M_aload_n (pc := 78) dX12_remembers_78 rfl ?_
    refine M_getR (pc := 79) dX12_remembers_79 f_X12_13 at_11 (gc_205_1 hp).1 ?_
    refine M_iload_n (pc := 82) dX12_remembers_82 rfl ?_
    obtain ⟨v3, hv4, h⟩ := bnd h
    refine M_aldI (pc := 83) dX12_remembers_83 (gc_205_1 hp).2 hv4 ?_
    obtain ⟨hq5, h⟩ := chk h
    refine M_iast (pc := 84) dX12_remembers_84 (gc_205_5 hp).2 (inB_in hq5) ?_
    refine M_iinc (pc := 85) (v := (x1 + (1 : Int32))) (ls' := [some (.ref 205), some (.int (x1 + (1 : Int32)))]) dX12_remembers_85 rfl rfl (by decide) rfl ?_
    refine M_goto (pc := 88) (tgt := 55) dX12_remembers_88 (by decide) ?_
    exact ih (x1 + (1 : Int32)) (up2 I 210 ((((353 : Int32) * ((I 205 7) - (1 : Int32))) + x1)).toNatClampNeg v3) _ h
set_option maxRecDepth 4000 in
set_option maxHeartbeats 4000000 in
theorem LC_X12_remembers_11 {g : gX} {d : Nat} {P : Nat → Nat → Option Nat} {J : HJ}  (hp : Wp P) : ∀ (x1 : Int32) (I : HI) (r : HI), L_X12_remembers_11  x1 I = some r → M g mX12_remembers (d + 0) (NT, NT, 0) ((.inl none), (NT, r, J, P)) 11 [some (.ref 205), some (.int x1)] [] (NT, I, J, P) := by
  refine L_X12_remembers_11.partial_correctness  (fun x1 I r => M g mX12_remembers (d + 0) (NT, NT, 0) ((.inl none), (NT, r, J, P)) 11 [some (.ref 205), some (.int x1)] [] (NT, I, J, P)) ?_
  intro f ih x1 I r h
  refine M_iload_n (pc := 11) dX12_remembers_11 rfl ?_
  refine M_sipush (pc := 12) (v := 3883) dX12_remembers_12 (by decide) ?_
  refine M_icmp_ge (pc := 15) (tgt := 40) dX12_remembers_15 (by decide) (fun hc6 => ?_) (fun hc6 => ?_)
  · have h := (if_pos hc6).symm.trans h
    refine M_goto (pc := 40) (tgt := 53) dX12_remembers_40 (by decide) ?_
    refine M_iconst (pc := 53) (v := 0) dX12_remembers_53 (by decide) ?_
    refine M_istore_n (pc := 54) (ls' := [some (.ref 205), some (.int (0 : Int32))]) dX12_remembers_54 (by decide) rfl ?_
    exact LC_X12_remembers_55 (P := P) hp (0 : Int32) I _ h
  · have h := (if_neg hc6).symm.trans h
    refine M_aload_n (pc := 18) dX12_remembers_18 rfl ?_
    refine M_getR (pc := 19) dX12_remembers_19 f_X12_26 at_11 (gc_205_5 hp).1 ?_
    refine M_iload_n (pc := 22) dX12_remembers_22 rfl ?_
    refine M_aload_n (pc := 23) dX12_remembers_23 rfl ?_
    refine M_getR (pc := 24) dX12_remembers_24 f_X12_26 at_11 (gc_205_5 hp).1 ?_
    refine M_iload_n (pc := 27) dX12_remembers_27 rfl ?_
    refine M_sipush (pc := 28) (v := 353) dX12_remembers_28 (by decide) ?_
    refine M_iadd (pc := 31) dX12_remembers_31 ?_
    obtain ⟨v7, hv8, h⟩ := bnd h
    refine M_aldI (pc := 32) dX12_remembers_32 (gc_205_5 hp).2 hv8 ?_
    obtain ⟨hq9, h⟩ := chk h
    refine M_iast (pc := 33) dX12_remembers_33 (gc_205_5 hp).2 (inB_in hq9) ?_
    refine M_iinc (pc := 34) (v := (x1 + (1 : Int32))) (ls' := [some (.ref 205), some (.int (x1 + (1 : Int32)))]) dX12_remembers_34 rfl rfl (by decide) rfl ?_
    refine M_goto (pc := 37) (tgt := 11) dX12_remembers_37 (by decide) ?_
    exact ih (x1 + (1 : Int32)) (up2 I 210 (x1).toNatClampNeg v7) _ h
set_option maxRecDepth 4000 in
set_option maxHeartbeats 4000000 in
theorem C_X12_remembers {g : gX} {d : Nat} {P : Nat → Nat → Option Nat} {I : HI} {J : HJ} (hp : Wp P) {r : HI} (h : F_X12_remembers I = some r) : Cm g mX12_remembers (d + 0) [.ref 205] (NT, I, J, P) none (NT, r, J, P) := by
  unfold F_X12_remembers at h
  refine Cm.of (by decide) (by simp [Value.category]) (Nat.le_of_ble_eq_true rfl) (Nat.le_refl _) (ls := [some (.ref 205), none]) rfl ?_
  refine M_aload_n (pc := 0) dX12_remembers_0 rfl ?_
  refine M_getI (pc := 1) dX12_remembers_1 f_X12_59 at_11 ?_
  refine M_bipush (pc := 4) (v := 12) dX12_remembers_4 (by decide) ?_
  refine M_icmp_ne (pc := 6) (tgt := 43) dX12_remembers_6 (by decide) (fun hc1 => ?_) (fun hc1 => ?_)
  · have h := (if_neg hc1).symm.trans h
    refine M_aload_n (pc := 43) dX12_remembers_43 rfl ?_
    refine M_dup (pc := 44) dX12_remembers_44 rfl ?_
    refine M_getI (pc := 45) dX12_remembers_45 f_X12_59 at_11 ?_
    refine M_iconst (pc := 48) (v := 1) dX12_remembers_48 (by decide) ?_
    refine M_iadd (pc := 49) dX12_remembers_49 ?_
    refine M_putI (pc := 50) dX12_remembers_50 f_X12_59 at_11 rfl ⟨rfl, rfl⟩ ?_
    refine M_iconst (pc := 53) (v := 0) dX12_remembers_53 (by decide) ?_
    refine M_istore_n (pc := 54) (ls' := [some (.ref 205), some (.int (0 : Int32))]) dX12_remembers_54 (by decide) rfl ?_
    exact LC_X12_remembers_55 (P := P) hp (0 : Int32) (up2 I 205 7 ((I 205 7) + (1 : Int32))) _ h
  · have h := (if_pos hc1).symm.trans h
    refine M_iconst (pc := 9) (v := 0) dX12_remembers_9 (by decide) ?_
    refine M_istore_n (pc := 10) (ls' := [some (.ref 205), some (.int (0 : Int32))]) dX12_remembers_10 (by decide) rfl ?_
    exact LC_X12_remembers_11 (P := P) hp (0 : Int32) I _ h
def L_X12_undo_26 (x1 : Int32) (I : HI) : Option (Int32 × HI) :=
  if (353 : Int32) ≤ x1 then some ((1 : Int32), I) else (ald 4236 (I 210) (((353 : Int32) * (I 205 7)) + x1)) >>= fun v3 => if inB x1 2051 = true then L_X12_undo_26 (x1 + (1 : Int32)) (up2 I 206 (x1).toNatClampNeg v3) else none
partial_fixpoint
def F_X12_undo (I : HI) : Option (Int32 × HI) :=
  if (I 205 7) = 0 then some ((0 : Int32), (up2 I 205 0 (0 : Int32))) else L_X12_undo_26 (0 : Int32) (up2 (up2 I 205 0 (0 : Int32)) 205 7 ((I 205 7) - (1 : Int32)))
set_option maxRecDepth 4000 in
set_option maxHeartbeats 4000000 in
theorem LC_X12_undo_26 {g : gX} {d : Nat} {P : Nat → Nat → Option Nat} {J : HJ}  (hp : Wp P) : ∀ (x1 : Int32) (I : HI) (r : Int32 × HI), L_X12_undo_26  x1 I = some r → M g mX12_undo (d + 0) (NT, NT, 0) ((.inl (some (.int r.1))), (NT, r.2, J, P)) 26 [some (.ref 205), some (.int x1)] [] (NT, I, J, P) := by
  refine L_X12_undo_26.partial_correctness  (fun x1 I r => M g mX12_undo (d + 0) (NT, NT, 0) ((.inl (some (.int r.1))), (NT, r.2, J, P)) 26 [some (.ref 205), some (.int x1)] [] (NT, I, J, P)) ?_
  intro f ih x1 I r h
  refine M_iload_n (pc := 26) dX12_undo_26 rfl ?_
  refine M_sipush (pc := 27) (v := 353) dX12_undo_27 (by decide) ?_
  refine M_icmp_ge (pc := 30) (tgt := 60) dX12_undo_30 (by decide) (fun hc2 => ?_) (fun hc2 => ?_)
  · have h := (if_pos hc2).symm.trans h
    refine M_iconst (pc := 60) (v := 1) dX12_undo_60 (by decide) ?_
    obtain rfl := Option.some.inj h
    exact M_iret (pc := 61) dX12_undo_61 rfl rfl rfl rfl
  · have h := (if_neg hc2).symm.trans h
    refine M_aload_n (pc := 33) dX12_undo_33 rfl ?_
    refine M_getR (pc := 34) dX12_undo_34 f_X12_13 at_11 (gc_205_1 hp).1 ?_
    refine M_iload_n (pc := 37) dX12_undo_37 rfl ?_
    refine M_aload_n (pc := 38) dX12_undo_38 rfl ?_
    refine M_getR (pc := 39) dX12_undo_39 f_X12_26 at_11 (gc_205_5 hp).1 ?_
    refine M_sipush (pc := 42) (v := 353) dX12_undo_42 (by decide) ?_
    refine M_aload_n (pc := 45) dX12_undo_45 rfl ?_
    refine M_getI (pc := 46) dX12_undo_46 f_X12_59 at_11 ?_
    refine M_imul (pc := 49) dX12_undo_49 ?_
    refine M_iload_n (pc := 50) dX12_undo_50 rfl ?_
    refine M_iadd (pc := 51) dX12_undo_51 ?_
    obtain ⟨v3, hv4, h⟩ := bnd h
    refine M_aldI (pc := 52) dX12_undo_52 (gc_205_5 hp).2 hv4 ?_
    obtain ⟨hq5, h⟩ := chk h
    refine M_iast (pc := 53) dX12_undo_53 (gc_205_1 hp).2 (inB_in hq5) ?_
    refine M_iinc (pc := 54) (v := (x1 + (1 : Int32))) (ls' := [some (.ref 205), some (.int (x1 + (1 : Int32)))]) dX12_undo_54 rfl rfl (by decide) rfl ?_
    refine M_goto (pc := 57) (tgt := 26) dX12_undo_57 (by decide) ?_
    exact ih (x1 + (1 : Int32)) (up2 I 206 (x1).toNatClampNeg v3) _ h
set_option maxRecDepth 4000 in
set_option maxHeartbeats 4000000 in
theorem C_X12_undo {g : gX} {d : Nat} {P : Nat → Nat → Option Nat} {I : HI} {J : HJ} (hp : Wp P) {r : Int32 × HI} (h : F_X12_undo I = some r) : Cm g mX12_undo (d + 0) [.ref 205] (NT, I, J, P) (some (.int r.1)) (NT, r.2, J, P) := by
  unfold F_X12_undo at h
  refine Cm.of (by decide) (by simp [Value.category]) (Nat.le_of_ble_eq_true rfl) (Nat.le_refl _) (ls := [some (.ref 205), none]) rfl ?_
  refine M_aload_n (pc := 0) dX12_undo_0 rfl ?_
  refine M_iconst (pc := 1) (v := 0) dX12_undo_1 (by decide) ?_
  refine M_putI (pc := 2) dX12_undo_2 f_X12_3 at_11 rfl ⟨rfl, rfl⟩ ?_
  refine M_aload_n (pc := 5) dX12_undo_5 rfl ?_
  refine M_getIs (pc := 6) (x := (I 205 7)) dX12_undo_6 f_X12_59 at_11 (rd_ne (Or.inr (by decide))) ?_
  refine M_if_ne (pc := 9) (tgt := 14) dX12_undo_9 (by decide) (fun hc1 => ?_) (fun hc1 => ?_)
  · have h := (if_neg hc1).symm.trans h
    refine M_aload_n (pc := 14) dX12_undo_14 rfl ?_
    refine M_dup (pc := 15) dX12_undo_15 rfl ?_
    refine M_getIs (pc := 16) (x := (I 205 7)) dX12_undo_16 f_X12_59 at_11 (rd_ne (Or.inr (by decide))) ?_
    refine M_iconst (pc := 19) (v := 1) dX12_undo_19 (by decide) ?_
    refine M_isub (pc := 20) dX12_undo_20 ?_
    refine M_putI (pc := 21) dX12_undo_21 f_X12_59 at_11 rfl ⟨rfl, rfl⟩ ?_
    refine M_iconst (pc := 24) (v := 0) dX12_undo_24 (by decide) ?_
    refine M_istore_n (pc := 25) (ls' := [some (.ref 205), some (.int (0 : Int32))]) dX12_undo_25 (by decide) rfl ?_
    exact LC_X12_undo_26 (P := P) hp (0 : Int32) (up2 (up2 I 205 0 (0 : Int32)) 205 7 ((I 205 7) - (1 : Int32))) _ h
  · have h := (if_pos hc1).symm.trans h
    refine M_iconst (pc := 12) (v := 0) dX12_undo_12 (by decide) ?_
    obtain rfl := Option.some.inj h
    exact M_iret (pc := 13) dX12_undo_13 rfl rfl rfl rfl
def F_X12_dishes (I : HI) : Option (Int32) :=
  some (I 206 0)
set_option maxRecDepth 4000 in
set_option maxHeartbeats 4000000 in
theorem C_X12_dishes {g : gX} {d : Nat} {P : Nat → Nat → Option Nat} {I : HI} {J : HJ} (hp : Wp P) {r : Int32} (h : F_X12_dishes I = some r) : Cm g mX12_dishes (d + 0) [.ref 205] (NT, I, J, P) (some (.int r)) (NT, I, J, P) := by
  unfold F_X12_dishes at h
  refine Cm.of (by decide) (by simp [Value.category]) (Nat.le_of_ble_eq_true rfl) (Nat.le_refl _) (ls := [some (.ref 205)]) rfl ?_
  refine M_aload_n (pc := 0) dX12_dishes_0 rfl ?_
  refine M_getR (pc := 1) dX12_dishes_1 f_X12_13 at_11 (gc_205_1 hp).1 ?_
  refine M_iconst (pc := 4) (v := 0) dX12_dishes_4 (by decide) ?_
  refine M_ildc (pc := 5) (j := 0) dX12_dishes_5 (gc_205_1 hp).2 (by decide) (by decide) ?_
  obtain rfl := Option.some.inj h
  exact M_iret (pc := 6) dX12_dishes_6 rfl rfl rfl rfl
def F_X12_allDishes (I : HI) : Option (Int32) :=
  (F_X12_dishes I) >>= fun r1 => some (((1 : Int32) <<< (r1 &&& 31)) - (1 : Int32))
set_option maxRecDepth 4000 in
set_option maxHeartbeats 4000000 in
theorem C_X12_allDishes {g : gX} {d : Nat} {P : Nat → Nat → Option Nat} {I : HI} {J : HJ} (hp : Wp P) {r : Int32} (h : F_X12_allDishes I = some r) : Cm g mX12_allDishes (d + 1) [.ref 205] (NT, I, J, P) (some (.int r)) (NT, I, J, P) := by
  unfold F_X12_allDishes at h
  refine Cm.of (by decide) (by simp [Value.category]) (Nat.le_of_ble_eq_true rfl) (Nat.le_refl _) (ls := [some (.ref 205)]) rfl ?_
  refine M_iconst (pc := 0) (v := 1) dX12_allDishes_0 (by decide) ?_
  refine M_aload_n (pc := 1) dX12_allDishes_1 rfl ?_
  obtain ⟨r1, hr2, h⟩ := bnd h
  refine M_callVi (pc := 2) dX12_allDishes_2 v_X12_62 rfl rfl at_11 (Nat.le_of_ble_eq_true rfl) (C_X12_dishes (d := d + 0) hp hr2) (Nat.le_refl _) ?_
  refine M_ishl (pc := 5) dX12_allDishes_5 ?_
  refine M_iconst (pc := 6) (v := 1) dX12_allDishes_6 (by decide) ?_
  refine M_isub (pc := 7) dX12_allDishes_7 ?_
  obtain rfl := Option.some.inj h
  exact M_iret (pc := 8) dX12_allDishes_8 rfl rfl rfl rfl
def F_X12_at (I : HI) (x0 : Int32) (x1 : Int32) : Option (Int32) :=
  some (((17 : Int32) + ((8 : Int32) * x0)) + x1)
set_option maxRecDepth 4000 in
set_option maxHeartbeats 4000000 in
theorem C_X12_at {g : gX} {d : Nat} {P : Nat → Nat → Option Nat} {I : HI} {x0 : Int32} {x1 : Int32} {J : HJ} (hp : Wp P) {r : Int32} (h : F_X12_at I x0 x1 = some r) : Cm g mX12_at (d + 0) [.int x0, .int x1] (NT, I, J, P) (some (.int r)) (NT, I, J, P) := by
  unfold F_X12_at at h
  refine Cm.of (by decide) (by simp [Value.category]) (Nat.le_of_ble_eq_true rfl) (Nat.le_refl _) (ls := [some (.int x0), some (.int x1)]) rfl ?_
  refine M_bipush (pc := 0) (v := 17) dX12_at_0 (by decide) ?_
  refine M_bipush (pc := 2) (v := 8) dX12_at_2 (by decide) ?_
  refine M_iload_n (pc := 4) dX12_at_4 rfl ?_
  refine M_imul (pc := 5) dX12_at_5 ?_
  refine M_iadd (pc := 6) dX12_at_6 ?_
  refine M_iload_n (pc := 7) dX12_at_7 rfl ?_
  refine M_iadd (pc := 8) dX12_at_8 ?_
  obtain rfl := Option.some.inj h
  exact M_iret (pc := 9) dX12_at_9 rfl rfl rfl rfl
def F_X12_of (I : HI) (x1 : Int32) (x2 : Int32) : Option (Int32) :=
  (F_X12_at I x1 x2) >>= fun r1 => (ald 2051 (I 206) r1) >>= fun v3 => some v3
set_option maxRecDepth 4000 in
set_option maxHeartbeats 4000000 in
theorem C_X12_of {g : gX} {d : Nat} {P : Nat → Nat → Option Nat} {I : HI} {x1 : Int32} {x2 : Int32} {J : HJ} (hp : Wp P) {r : Int32} (h : F_X12_of I x1 x2 = some r) : Cm g mX12_of (d + 1) [.ref 205, .int x1, .int x2] (NT, I, J, P) (some (.int r)) (NT, I, J, P) := by
  unfold F_X12_of at h
  refine Cm.of (by decide) (by simp [Value.category]) (Nat.le_of_ble_eq_true rfl) (Nat.le_refl _) (ls := [some (.ref 205), some (.int x1), some (.int x2)]) rfl ?_
  refine M_aload_n (pc := 0) dX12_of_0 rfl ?_
  refine M_getR (pc := 1) dX12_of_1 f_X12_13 at_11 (gc_205_1 hp).1 ?_
  refine M_iload_n (pc := 4) dX12_of_4 rfl ?_
  refine M_iload_n (pc := 5) dX12_of_5 rfl ?_
  obtain ⟨r1, hr2, h⟩ := bnd h
  refine M_callSi (pc := 6) dX12_of_6 s_X12_66 rfl rfl (Nat.le_of_ble_eq_true rfl) (C_X12_at (d := d + 0) hp hr2) (Nat.le_refl _) ?_
  obtain ⟨v3, hv4, h⟩ := bnd h
  refine M_aldI (pc := 9) dX12_of_9 (gc_205_1 hp).2 hv4 ?_
  obtain rfl := Option.some.inj h
  exact M_iret (pc := 10) dX12_of_10 rfl rfl rfl rfl
def F_X12_isNew (I : HI) (x1 : Int32) : Option (Int32) :=
  (F_X12_of I x1 (5 : Int32)) >>= fun r1 => if r1 = (-1 : Int32) then some (1 : Int32) else some (0 : Int32)
set_option maxRecDepth 4000 in
set_option maxHeartbeats 4000000 in
theorem C_X12_isNew {g : gX} {d : Nat} {P : Nat → Nat → Option Nat} {I : HI} {x1 : Int32} {J : HJ} (hp : Wp P) {r : Int32} (h : F_X12_isNew I x1 = some r) : Cm g mX12_isNew (d + 2) [.ref 205, .int x1] (NT, I, J, P) (some (.int r)) (NT, I, J, P) := by
  unfold F_X12_isNew at h
  refine Cm.of (by decide) (by simp [Value.category]) (Nat.le_of_ble_eq_true rfl) (Nat.le_refl _) (ls := [some (.ref 205), some (.int x1)]) rfl ?_
  refine M_aload_n (pc := 0) dX12_isNew_0 rfl ?_
  refine M_iload_n (pc := 1) dX12_isNew_1 rfl ?_
  refine M_iconst (pc := 2) (v := 5) dX12_isNew_2 (by decide) ?_
  obtain ⟨r1, hr2, h⟩ := bnd h
  refine M_callVi (pc := 3) dX12_isNew_3 v_X12_70 rfl rfl at_11 (Nat.le_of_ble_eq_true rfl) (C_X12_of (d := d + 0) hp hr2) (Nat.le_refl _) ?_
  refine M_iconst (pc := 6) (v := -1) dX12_isNew_6 (by decide) ?_
  refine M_icmp_ne (pc := 7) (tgt := 14) dX12_isNew_7 (by decide) (fun hc3 => ?_) (fun hc3 => ?_)
  · have h := (if_neg hc3).symm.trans h
    refine M_iconst (pc := 14) (v := 0) dX12_isNew_14 (by decide) ?_
    obtain rfl := Option.some.inj h
    exact M_iret (pc := 15) dX12_isNew_15 rfl rfl rfl rfl
  · have h := (if_pos hc3).symm.trans h
    refine M_iconst (pc := 10) (v := 1) dX12_isNew_10 (by decide) ?_
    refine M_goto (pc := 11) (tgt := 15) dX12_isNew_11 (by decide) ?_
    obtain rfl := Option.some.inj h
    exact M_iret (pc := 15) dX12_isNew_15 rfl rfl rfl rfl
def F_X12_noDish (I : HI) (x1 : Int32) : Option (Int32) :=
  (F_X12_dishes I) >>= fun r1 => (F_X12_in I x1 (0 : Int32) (r1 - (1 : Int32))) >>= fun r3 => if r3 = 0 then some (1 : Int32) else some (0 : Int32)
set_option maxRecDepth 4000 in
set_option maxHeartbeats 4000000 in
theorem C_X12_noDish {g : gX} {d : Nat} {P : Nat → Nat → Option Nat} {I : HI} {x1 : Int32} {J : HJ} (hp : Wp P) {r : Int32} (h : F_X12_noDish I x1 = some r) : Cm g mX12_noDish (d + 1) [.ref 205, .int x1] (NT, I, J, P) (some (.int r)) (NT, I, J, P) := by
  unfold F_X12_noDish at h
  refine Cm.of (by decide) (by simp [Value.category]) (Nat.le_of_ble_eq_true rfl) (Nat.le_refl _) (ls := [some (.ref 205), some (.int x1)]) rfl ?_
  refine M_iload_n (pc := 0) dX12_noDish_0 rfl ?_
  refine M_iconst (pc := 1) (v := 0) dX12_noDish_1 (by decide) ?_
  refine M_aload_n (pc := 2) dX12_noDish_2 rfl ?_
  obtain ⟨r1, hr2, h⟩ := bnd h
  refine M_callVi (pc := 3) dX12_noDish_3 v_X12_62 rfl rfl at_11 (Nat.le_of_ble_eq_true rfl) (C_X12_dishes (d := d + 0) hp hr2) (Nat.le_refl _) ?_
  refine M_iconst (pc := 6) (v := 1) dX12_noDish_6 (by decide) ?_
  refine M_isub (pc := 7) dX12_noDish_7 ?_
  obtain ⟨r3, hr4, h⟩ := bnd h
  refine M_callSi (pc := 8) dX12_noDish_8 s_X12_73 rfl rfl (Nat.le_of_ble_eq_true rfl) (C_X12_in (d := d + 0) hp hr4) (Nat.le_refl _) ?_
  refine M_if_ne (pc := 11) (tgt := 18) dX12_noDish_11 (by decide) (fun hc5 => ?_) (fun hc5 => ?_)
  · have h := (if_neg hc5).symm.trans h
    refine M_iconst (pc := 18) (v := 0) dX12_noDish_18 (by decide) ?_
    obtain rfl := Option.some.inj h
    exact M_iret (pc := 19) dX12_noDish_19 rfl rfl rfl rfl
  · have h := (if_pos hc5).symm.trans h
    refine M_iconst (pc := 14) (v := 1) dX12_noDish_14 (by decide) ?_
    refine M_goto (pc := 15) (tgt := 19) dX12_noDish_15 (by decide) ?_
    obtain rfl := Option.some.inj h
    exact M_iret (pc := 19) dX12_noDish_19 rfl rfl rfl rfl
def F_X12_noPlace (I : HI) (x0 : Int32) : Option (Int32) :=
  (F_X12_in I x0 (0 : Int32) (7 : Int32)) >>= fun r1 => if r1 = 0 then some (1 : Int32) else some (0 : Int32)
set_option maxRecDepth 4000 in
set_option maxHeartbeats 4000000 in
theorem C_X12_noPlace {g : gX} {d : Nat} {P : Nat → Nat → Option Nat} {I : HI} {x0 : Int32} {J : HJ} (hp : Wp P) {r : Int32} (h : F_X12_noPlace I x0 = some r) : Cm g mX12_noPlace (d + 1) [.int x0] (NT, I, J, P) (some (.int r)) (NT, I, J, P) := by
  unfold F_X12_noPlace at h
  refine Cm.of (by decide) (by simp [Value.category]) (Nat.le_of_ble_eq_true rfl) (Nat.le_refl _) (ls := [some (.int x0)]) rfl ?_
  refine M_iload_n (pc := 0) dX12_noPlace_0 rfl ?_
  refine M_iconst (pc := 1) (v := 0) dX12_noPlace_1 (by decide) ?_
  refine M_bipush (pc := 2) (v := 7) dX12_noPlace_2 (by decide) ?_
  obtain ⟨r1, hr2, h⟩ := bnd h
  refine M_callSi (pc := 4) dX12_noPlace_4 s_X12_73 rfl rfl (Nat.le_of_ble_eq_true rfl) (C_X12_in (d := d + 0) hp hr2) (Nat.le_refl _) ?_
  refine M_if_ne (pc := 7) (tgt := 14) dX12_noPlace_7 (by decide) (fun hc3 => ?_) (fun hc3 => ?_)
  · have h := (if_neg hc3).symm.trans h
    refine M_iconst (pc := 14) (v := 0) dX12_noPlace_14 (by decide) ?_
    obtain rfl := Option.some.inj h
    exact M_iret (pc := 15) dX12_noPlace_15 rfl rfl rfl rfl
  · have h := (if_pos hc3).symm.trans h
    refine M_iconst (pc := 10) (v := 1) dX12_noPlace_10 (by decide) ?_
    refine M_goto (pc := 11) (tgt := 15) dX12_noPlace_11 (by decide) ?_
    obtain rfl := Option.some.inj h
    exact M_iret (pc := 15) dX12_noPlace_15 rfl rfl rfl rfl
def F_X12_drawn (I : HI) (x1 : Int32) : Option (Int32 × HI) :=
  if ¬ x1 = 0 then some (((((((1103515245 : Int32) * (I 206 16)) + (12345 : Int32)) >>> ((16 : Int32) &&& 31)) &&& (32767 : Int32)) - (((((1103515245 : Int32) * (I 206 16)) + (12345 : Int32)) >>> ((16 : Int32) &&& 31)) &&& (32767 : Int32)) / x1 * x1), (up2 I 206 16 (((1103515245 : Int32) * (I 206 16)) + (12345 : Int32)))) else none
set_option maxRecDepth 4000 in
set_option maxHeartbeats 4000000 in
theorem C_X12_drawn {g : gX} {d : Nat} {P : Nat → Nat → Option Nat} {I : HI} {x1 : Int32} {J : HJ} (hp : Wp P) {r : Int32 × HI} (h : F_X12_drawn I x1 = some r) : Cm g mX12_drawn (d + 0) [.ref 205, .int x1] (NT, I, J, P) (some (.int r.1)) (NT, r.2, J, P) := by
  unfold F_X12_drawn at h
  refine Cm.of (by decide) (by simp [Value.category]) (Nat.le_of_ble_eq_true rfl) (Nat.le_refl _) (ls := [some (.ref 205), some (.int x1)]) rfl ?_
  refine M_aload_n (pc := 0) dX12_drawn_0 rfl ?_
  refine M_getR (pc := 1) dX12_drawn_1 f_X12_13 at_11 (gc_205_1 hp).1 ?_
  refine M_bipush (pc := 4) (v := 16) dX12_drawn_4 (by decide) ?_
  refine M_ldc (pc := 6) (v := 1103515245) dX12_drawn_6 w_1750 ?_
  refine M_aload_n (pc := 8) dX12_drawn_8 rfl ?_
  refine M_getR (pc := 9) dX12_drawn_9 f_X12_13 at_11 (gc_205_1 hp).1 ?_
  refine M_bipush (pc := 12) (v := 16) dX12_drawn_12 (by decide) ?_
  refine M_ildc (pc := 14) (j := 16) dX12_drawn_14 (gc_205_1 hp).2 (by decide) (by decide) ?_
  refine M_imul (pc := 15) dX12_drawn_15 ?_
  refine M_sipush (pc := 16) (v := 12345) dX12_drawn_16 (by decide) ?_
  refine M_iadd (pc := 19) dX12_drawn_19 ?_
  refine M_istc (pc := 20) (j := 16) dX12_drawn_20 (gc_205_1 hp).2 (by decide) (by decide) ?_
  refine M_aload_n (pc := 21) dX12_drawn_21 rfl ?_
  refine M_getR (pc := 22) dX12_drawn_22 f_X12_13 at_11 (gc_205_1 hp).1 ?_
  refine M_bipush (pc := 25) (v := 16) dX12_drawn_25 (by decide) ?_
  refine M_ildcs (pc := 27) (j := 16) (x := (((1103515245 : Int32) * (I 206 16)) + (12345 : Int32))) dX12_drawn_27 (gc_205_1 hp).2 (by decide) (by decide) rd_eq ?_
  refine M_bipush (pc := 28) (v := 16) dX12_drawn_28 (by decide) ?_
  refine M_ishr (pc := 30) dX12_drawn_30 ?_
  refine M_sipush (pc := 31) (v := 32767) dX12_drawn_31 (by decide) ?_
  refine M_iand (pc := 34) dX12_drawn_34 ?_
  refine M_iload_n (pc := 35) dX12_drawn_35 rfl ?_
  obtain ⟨hz1, h⟩ := chk h
  refine M_irem (pc := 36) dX12_drawn_36 hz1 ?_
  obtain rfl := Option.some.inj h
  exact M_iret (pc := 37) dX12_drawn_37 rfl rfl rfl rfl
def L_X12_feed_60 (x6 : Int32) (I : HI) : Option (Int32 × HI) :=
  if (20 : Int32) ≤ x6 then some (((I 205 9) + (20 : Int32)), (up2 I 205 9 ((I 205 9) + (20 : Int32)))) else (ald 5 (I 212) (x6 / (4 : Int32))) >>= fun v3 => if inB ((I 205 9) + x6) 400 = true then L_X12_feed_60 (x6 + (1 : Int32)) (up2 I 211 (((I 205 9) + x6)).toNatClampNeg (vp_nar .byte ((v3 >>> (((24 : Int32) - ((8 : Int32) * (x6 - x6 / (4 : Int32) * (4 : Int32)))) &&& 31))).toInt8.toInt32)) else none
partial_fixpoint
def F_X12_feed (I : HI) (x1 : Int32) (x2 : Int32) (x3 : Int32) (x4 : Int32) (x5 : Int32) : Option (Int32 × HI) :=
  if ((I 205 9) + (20 : Int32)) ≤ (400 : Int32) then L_X12_feed_60 (0 : Int32) (up2 (up2 (up2 (up2 (up2 (up2 I 205 0 (0 : Int32)) 212 0 x1) 212 1 x2) 212 2 x3) 212 3 x4) 212 4 x5) else some ((-1 : Int32), (up2 I 205 0 (0 : Int32)))
set_option maxRecDepth 4000 in
set_option maxHeartbeats 4000000 in
theorem LC_X12_feed_60 {g : gX} {d : Nat} {P : Nat → Nat → Option Nat} {J : HJ}  (hp : Wp P) : ∀ (x6 : Int32) (I : HI) (r : Int32 × HI), L_X12_feed_60  x6 I = some r → M g mX12_feed (d + 0) (NT, NT, 0) ((.inl (some (.int r.1))), (NT, r.2, J, P)) 60 [some (.ref 205), none, none, none, none, none, some (.int x6)] [] (NT, I, J, P) := by
  refine L_X12_feed_60.partial_correctness  (fun x6 I r => M g mX12_feed (d + 0) (NT, NT, 0) ((.inl (some (.int r.1))), (NT, r.2, J, P)) 60 [some (.ref 205), none, none, none, none, none, some (.int x6)] [] (NT, I, J, P)) ?_
  intro f ih x6 I r h
  refine M_iload (pc := 60) dX12_feed_60 rfl ?_
  refine M_bipush (pc := 62) (v := 20) dX12_feed_62 (by decide) ?_
  refine M_icmp_ge (pc := 64) (tgt := 106) dX12_feed_64 (by decide) (fun hc2 => ?_) (fun hc2 => ?_)
  · have h := (if_pos hc2).symm.trans h
    refine M_aload_n (pc := 106) dX12_feed_106 rfl ?_
    refine M_dup (pc := 107) dX12_feed_107 rfl ?_
    refine M_getI (pc := 108) dX12_feed_108 f_X12_78 at_11 ?_
    refine M_bipush (pc := 111) (v := 20) dX12_feed_111 (by decide) ?_
    refine M_iadd (pc := 113) dX12_feed_113 ?_
    refine M_putI (pc := 114) dX12_feed_114 f_X12_78 at_11 rfl ⟨rfl, rfl⟩ ?_
    refine M_aload_n (pc := 117) dX12_feed_117 rfl ?_
    refine M_getIs (pc := 118) (x := ((I 205 9) + (20 : Int32))) dX12_feed_118 f_X12_78 at_11 rd_eq ?_
    obtain rfl := Option.some.inj h
    exact M_iret (pc := 121) dX12_feed_121 rfl rfl rfl rfl
  · have h := (if_neg hc2).symm.trans h
    refine M_aload_n (pc := 67) dX12_feed_67 rfl ?_
    refine M_getR (pc := 68) dX12_feed_68 f_X12_29 at_11 (gc_205_8 hp).1 ?_
    refine M_aload_n (pc := 71) dX12_feed_71 rfl ?_
    refine M_getI (pc := 72) dX12_feed_72 f_X12_78 at_11 ?_
    refine M_iload (pc := 75) dX12_feed_75 rfl ?_
    refine M_iadd (pc := 77) dX12_feed_77 ?_
    refine M_aload_n (pc := 78) dX12_feed_78 rfl ?_
    refine M_getR (pc := 79) dX12_feed_79 f_X12_36 at_11 (gc_205_15 hp).1 ?_
    refine M_iload (pc := 82) dX12_feed_82 rfl ?_
    refine M_iconst (pc := 84) (v := 4) dX12_feed_84 (by decide) ?_
    refine M_idiv (pc := 85) dX12_feed_85 (by decide) ?_
    obtain ⟨v3, hv4, h⟩ := bnd h
    refine M_aldI (pc := 86) dX12_feed_86 (gc_205_15 hp).2 hv4 ?_
    refine M_bipush (pc := 87) (v := 24) dX12_feed_87 (by decide) ?_
    refine M_bipush (pc := 89) (v := 8) dX12_feed_89 (by decide) ?_
    refine M_iload (pc := 91) dX12_feed_91 rfl ?_
    refine M_iconst (pc := 93) (v := 4) dX12_feed_93 (by decide) ?_
    refine M_irem (pc := 94) dX12_feed_94 (by decide) ?_
    refine M_imul (pc := 95) dX12_feed_95 ?_
    refine M_isub (pc := 96) dX12_feed_96 ?_
    refine M_ishr (pc := 97) dX12_feed_97 ?_
    refine M_i2b (pc := 98) dX12_feed_98 ?_
    obtain ⟨hq5, h⟩ := chk h
    refine M_bast (pc := 99) dX12_feed_99 (gc_205_8 hp).2 (inB_in hq5) ?_
    refine M_iinc (pc := 100) (v := (x6 + (1 : Int32))) (ls' := [some (.ref 205), none, none, none, none, none, some (.int (x6 + (1 : Int32)))]) dX12_feed_100 rfl rfl (by decide) rfl ?_
    refine M_goto (pc := 103) (tgt := 60) dX12_feed_103 (by decide) ?_
    exact ih (x6 + (1 : Int32)) (up2 I 211 (((I 205 9) + x6)).toNatClampNeg (vp_nar .byte ((v3 >>> (((24 : Int32) - ((8 : Int32) * (x6 - x6 / (4 : Int32) * (4 : Int32)))) &&& 31))).toInt8.toInt32)) _ h
set_option maxRecDepth 4000 in
set_option maxHeartbeats 4000000 in
theorem C_X12_feed {g : gX} {d : Nat} {P : Nat → Nat → Option Nat} {I : HI} {x1 : Int32} {x2 : Int32} {x3 : Int32} {x4 : Int32} {x5 : Int32} {J : HJ} (hp : Wp P) {r : Int32 × HI} (h : F_X12_feed I x1 x2 x3 x4 x5 = some r) : Cm g mX12_feed (d + 0) [.ref 205, .int x1, .int x2, .int x3, .int x4, .int x5] (NT, I, J, P) (some (.int r.1)) (NT, r.2, J, P) := by
  unfold F_X12_feed at h
  refine Cm.of (by decide) (by simp [Value.category]) (Nat.le_of_ble_eq_true rfl) (Nat.le_refl _) (ls := [some (.ref 205), some (.int x1), some (.int x2), some (.int x3), some (.int x4), some (.int x5), none]) rfl ?_
  refine M_aload_n (pc := 0) dX12_feed_0 rfl ?_
  refine M_iconst (pc := 1) (v := 0) dX12_feed_1 (by decide) ?_
  refine M_putI (pc := 2) dX12_feed_2 f_X12_3 at_11 rfl ⟨rfl, rfl⟩ ?_
  refine M_aload_n (pc := 5) dX12_feed_5 rfl ?_
  refine M_getIs (pc := 6) (x := (I 205 9)) dX12_feed_6 f_X12_78 at_11 (rd_ne (Or.inr (by decide))) ?_
  refine M_bipush (pc := 9) (v := 20) dX12_feed_9 (by decide) ?_
  refine M_iadd (pc := 11) dX12_feed_11 ?_
  refine M_sipush (pc := 12) (v := 400) dX12_feed_12 (by decide) ?_
  refine M_icmp_le (pc := 15) (tgt := 20) dX12_feed_15 (by decide) (fun hc1 => ?_) (fun hc1 => ?_)
  · have h := (if_pos hc1).symm.trans h
    refine M_aload_n (pc := 20) dX12_feed_20 rfl ?_
    refine M_getR (pc := 21) dX12_feed_21 f_X12_36 at_11 (gc_205_15 hp).1 ?_
    refine M_iconst (pc := 24) (v := 0) dX12_feed_24 (by decide) ?_
    refine M_iload_n (pc := 25) dX12_feed_25 rfl ?_
    refine M_istc (pc := 26) (j := 0) dX12_feed_26 (gc_205_15 hp).2 (by decide) (by decide) ?_
    refine M_aload_n (pc := 27) dX12_feed_27 rfl ?_
    refine M_getR (pc := 28) dX12_feed_28 f_X12_36 at_11 (gc_205_15 hp).1 ?_
    refine M_iconst (pc := 31) (v := 1) dX12_feed_31 (by decide) ?_
    refine M_iload_n (pc := 32) dX12_feed_32 rfl ?_
    refine M_istc (pc := 33) (j := 1) dX12_feed_33 (gc_205_15 hp).2 (by decide) (by decide) ?_
    refine M_aload_n (pc := 34) dX12_feed_34 rfl ?_
    refine M_getR (pc := 35) dX12_feed_35 f_X12_36 at_11 (gc_205_15 hp).1 ?_
    refine M_iconst (pc := 38) (v := 2) dX12_feed_38 (by decide) ?_
    refine M_iload_n (pc := 39) dX12_feed_39 rfl ?_
    refine M_istc (pc := 40) (j := 2) dX12_feed_40 (gc_205_15 hp).2 (by decide) (by decide) ?_
    refine M_aload_n (pc := 41) dX12_feed_41 rfl ?_
    refine M_getR (pc := 42) dX12_feed_42 f_X12_36 at_11 (gc_205_15 hp).1 ?_
    refine M_iconst (pc := 45) (v := 3) dX12_feed_45 (by decide) ?_
    refine M_iload (pc := 46) dX12_feed_46 rfl ?_
    refine M_istc (pc := 48) (j := 3) dX12_feed_48 (gc_205_15 hp).2 (by decide) (by decide) ?_
    refine M_aload_n (pc := 49) dX12_feed_49 rfl ?_
    refine M_getR (pc := 50) dX12_feed_50 f_X12_36 at_11 (gc_205_15 hp).1 ?_
    refine M_iconst (pc := 53) (v := 4) dX12_feed_53 (by decide) ?_
    refine M_iload (pc := 54) dX12_feed_54 rfl ?_
    refine M_istc (pc := 56) (j := 4) dX12_feed_56 (gc_205_15 hp).2 (by decide) (by decide) ?_
    refine M_iconst (pc := 57) (v := 0) dX12_feed_57 (by decide) ?_
    refine M_istore (pc := 58) (ls' := [some (.ref 205), some (.int x1), some (.int x2), some (.int x3), some (.int x4), some (.int x5), some (.int (0 : Int32))]) dX12_feed_58 (by decide) rfl ?_
    refine M_mask (pc := 60) [true, false, false, false, false, false, true] rfl ?_
    exact LC_X12_feed_60 (P := P) hp (0 : Int32) (up2 (up2 (up2 (up2 (up2 (up2 I 205 0 (0 : Int32)) 212 0 x1) 212 1 x2) 212 2 x3) 212 3 x4) 212 4 x5) _ h
  · have h := (if_neg hc1).symm.trans h
    refine M_iconst (pc := 18) (v := -1) dX12_feed_18 (by decide) ?_
    obtain rfl := Option.some.inj h
    exact M_iret (pc := 19) dX12_feed_19 rfl rfl rfl rfl
def F_X12_end (I : HI) (x1 : Int32) : Option (Int32 × HI) :=
  if x1 < 0 then some ((0 : Int32), (up2 I 205 0 (0 : Int32))) else if x1 ≤ (I 205 9) then some ((1 : Int32), (up2 (up2 I 205 0 (0 : Int32)) 205 9 x1)) else some ((0 : Int32), (up2 I 205 0 (0 : Int32)))
set_option maxRecDepth 4000 in
set_option maxHeartbeats 4000000 in
theorem C_X12_end {g : gX} {d : Nat} {P : Nat → Nat → Option Nat} {I : HI} {x1 : Int32} {J : HJ} (hp : Wp P) {r : Int32 × HI} (h : F_X12_end I x1 = some r) : Cm g mX12_end (d + 0) [.ref 205, .int x1] (NT, I, J, P) (some (.int r.1)) (NT, r.2, J, P) := by
  unfold F_X12_end at h
  refine Cm.of (by decide) (by simp [Value.category]) (Nat.le_of_ble_eq_true rfl) (Nat.le_refl _) (ls := [some (.ref 205), some (.int x1)]) rfl ?_
  refine M_aload_n (pc := 0) dX12_end_0 rfl ?_
  refine M_iconst (pc := 1) (v := 0) dX12_end_1 (by decide) ?_
  refine M_putI (pc := 2) dX12_end_2 f_X12_3 at_11 rfl ⟨rfl, rfl⟩ ?_
  refine M_iload_n (pc := 5) dX12_end_5 rfl ?_
  refine M_if_lt (pc := 6) (tgt := 17) dX12_end_6 (by decide) (fun hc1 => ?_) (fun hc1 => ?_)
  · have h := (if_pos hc1).symm.trans h
    refine M_iconst (pc := 17) (v := 0) dX12_end_17 (by decide) ?_
    obtain rfl := Option.some.inj h
    exact M_iret (pc := 18) dX12_end_18 rfl rfl rfl rfl
  · have h := (if_neg hc1).symm.trans h
    refine M_iload_n (pc := 9) dX12_end_9 rfl ?_
    refine M_aload_n (pc := 10) dX12_end_10 rfl ?_
    refine M_getIs (pc := 11) (x := (I 205 9)) dX12_end_11 f_X12_78 at_11 (rd_ne (Or.inr (by decide))) ?_
    refine M_icmp_le (pc := 14) (tgt := 19) dX12_end_14 (by decide) (fun hc2 => ?_) (fun hc2 => ?_)
    · have h := (if_pos hc2).symm.trans h
      refine M_aload_n (pc := 19) dX12_end_19 rfl ?_
      refine M_iload_n (pc := 20) dX12_end_20 rfl ?_
      refine M_putI (pc := 21) dX12_end_21 f_X12_78 at_11 rfl ⟨rfl, rfl⟩ ?_
      refine M_iconst (pc := 24) (v := 1) dX12_end_24 (by decide) ?_
      obtain rfl := Option.some.inj h
      exact M_iret (pc := 25) dX12_end_25 rfl rfl rfl rfl
    · have h := (if_neg hc2).symm.trans h
      refine M_iconst (pc := 17) (v := 0) dX12_end_17 (by decide) ?_
      obtain rfl := Option.some.inj h
      exact M_iret (pc := 18) dX12_end_18 rfl rfl rfl rfl
def F_X12_isAt (I : HI) (x1 : Int32) (x2 : Int32) : Option (Int32) :=
  if (I 205 11) ≤ (I 205 10) then some (0 : Int32) else (ald 400 (I 211) (I 205 10)) >>= fun v2 => if v2 < x1 then some (0 : Int32) else (ald 400 (I 211) (I 205 10)) >>= fun v5 => if x2 < v5 then some (0 : Int32) else some (1 : Int32)
set_option maxRecDepth 4000 in
set_option maxHeartbeats 4000000 in
theorem C_X12_isAt {g : gX} {d : Nat} {P : Nat → Nat → Option Nat} {I : HI} {x1 : Int32} {x2 : Int32} {J : HJ} (hp : Wp P) {r : Int32} (h : F_X12_isAt I x1 x2 = some r) : Cm g mX12_isAt (d + 0) [.ref 205, .int x1, .int x2] (NT, I, J, P) (some (.int r)) (NT, I, J, P) := by
  unfold F_X12_isAt at h
  refine Cm.of (by decide) (by simp [Value.category]) (Nat.le_of_ble_eq_true rfl) (Nat.le_refl _) (ls := [some (.ref 205), some (.int x1), some (.int x2)]) rfl ?_
  refine M_aload_n (pc := 0) dX12_isAt_0 rfl ?_
  refine M_getI (pc := 1) dX12_isAt_1 f_X12_81 at_11 ?_
  refine M_aload_n (pc := 4) dX12_isAt_4 rfl ?_
  refine M_getI (pc := 5) dX12_isAt_5 f_X12_84 at_11 ?_
  refine M_icmp_ge (pc := 8) (tgt := 41) dX12_isAt_8 (by decide) (fun hc1 => ?_) (fun hc1 => ?_)
  · have h := (if_pos hc1).symm.trans h
    refine M_iconst (pc := 41) (v := 0) dX12_isAt_41 (by decide) ?_
    obtain rfl := Option.some.inj h
    exact M_iret (pc := 42) dX12_isAt_42 rfl rfl rfl rfl
  · have h := (if_neg hc1).symm.trans h
    refine M_aload_n (pc := 11) dX12_isAt_11 rfl ?_
    refine M_getR (pc := 12) dX12_isAt_12 f_X12_29 at_11 (gc_205_8 hp).1 ?_
    refine M_aload_n (pc := 15) dX12_isAt_15 rfl ?_
    refine M_getI (pc := 16) dX12_isAt_16 f_X12_81 at_11 ?_
    obtain ⟨v2, hv3, h⟩ := bnd h
    refine M_aldB (pc := 19) dX12_isAt_19 (gc_205_8 hp).2 hv3 ?_
    refine M_iload_n (pc := 20) dX12_isAt_20 rfl ?_
    refine M_icmp_lt (pc := 21) (tgt := 41) dX12_isAt_21 (by decide) (fun hc4 => ?_) (fun hc4 => ?_)
    · have h := (if_pos hc4).symm.trans h
      refine M_iconst (pc := 41) (v := 0) dX12_isAt_41 (by decide) ?_
      obtain rfl := Option.some.inj h
      exact M_iret (pc := 42) dX12_isAt_42 rfl rfl rfl rfl
    · have h := (if_neg hc4).symm.trans h
      refine M_aload_n (pc := 24) dX12_isAt_24 rfl ?_
      refine M_getR (pc := 25) dX12_isAt_25 f_X12_29 at_11 (gc_205_8 hp).1 ?_
      refine M_aload_n (pc := 28) dX12_isAt_28 rfl ?_
      refine M_getI (pc := 29) dX12_isAt_29 f_X12_81 at_11 ?_
      obtain ⟨v5, hv6, h⟩ := bnd h
      refine M_aldB (pc := 32) dX12_isAt_32 (gc_205_8 hp).2 hv6 ?_
      refine M_iload_n (pc := 33) dX12_isAt_33 rfl ?_
      refine M_icmp_gt (pc := 34) (tgt := 41) dX12_isAt_34 (by decide) (fun hc7 => ?_) (fun hc7 => ?_)
      · have h := (if_pos hc7).symm.trans h
        refine M_iconst (pc := 41) (v := 0) dX12_isAt_41 (by decide) ?_
        obtain rfl := Option.some.inj h
        exact M_iret (pc := 42) dX12_isAt_42 rfl rfl rfl rfl
      · have h := (if_neg hc7).symm.trans h
        refine M_iconst (pc := 37) (v := 1) dX12_isAt_37 (by decide) ?_
        refine M_goto (pc := 38) (tgt := 42) dX12_isAt_38 (by decide) ?_
        obtain rfl := Option.some.inj h
        exact M_iret (pc := 42) dX12_isAt_42 rfl rfl rfl rfl
def L_X12_blanks_0 (I : HI) : Option (HI) :=
  (F_X12_isAt I (32 : Int32) (32 : Int32)) >>= fun r1 => if r1 = 0 then some (up2 I 205 12 (I 205 10)) else L_X12_blanks_0 (up2 I 205 10 ((I 205 10) + (1 : Int32)))
partial_fixpoint
def F_X12_blanks (I : HI) : Option (HI) :=
  L_X12_blanks_0 I
set_option maxRecDepth 4000 in
set_option maxHeartbeats 4000000 in
theorem LC_X12_blanks_0 {g : gX} {d : Nat} {P : Nat → Nat → Option Nat} {J : HJ}  (hp : Wp P) : ∀ (I : HI) (r : HI), L_X12_blanks_0  I = some r → M g mX12_blanks (d + 1) (NT, NT, 0) ((.inl none), (NT, r, J, P)) 0 [some (.ref 205)] [] (NT, I, J, P) := by
  refine L_X12_blanks_0.partial_correctness  (fun I r => M g mX12_blanks (d + 1) (NT, NT, 0) ((.inl none), (NT, r, J, P)) 0 [some (.ref 205)] [] (NT, I, J, P)) ?_
  intro f ih I r h
  refine M_aload_n (pc := 0) dX12_blanks_0 rfl ?_
  refine M_bipush (pc := 1) (v := 32) dX12_blanks_1 (by decide) ?_
  refine M_bipush (pc := 3) (v := 32) dX12_blanks_3 (by decide) ?_
  obtain ⟨r1, hr2, h⟩ := bnd h
  refine M_callVi (pc := 5) dX12_blanks_5 v_X12_87 rfl rfl at_11 (Nat.le_of_ble_eq_true rfl) (C_X12_isAt (d := d + 0) hp hr2) (Nat.le_refl _) ?_
  refine M_if_eq (pc := 8) (tgt := 24) dX12_blanks_8 (by decide) (fun hc3 => ?_) (fun hc3 => ?_)
  · have h := (if_pos hc3).symm.trans h
    refine M_aload_n (pc := 24) dX12_blanks_24 rfl ?_
    refine M_aload_n (pc := 25) dX12_blanks_25 rfl ?_
    refine M_getI (pc := 26) dX12_blanks_26 f_X12_81 at_11 ?_
    refine M_putI (pc := 29) dX12_blanks_29 f_X12_91 at_11 rfl ⟨rfl, rfl⟩ ?_
    obtain rfl := Option.some.inj h
    exact M_vret (pc := 32) dX12_blanks_32 rfl rfl rfl
  · have h := (if_neg hc3).symm.trans h
    refine M_aload_n (pc := 11) dX12_blanks_11 rfl ?_
    refine M_dup (pc := 12) dX12_blanks_12 rfl ?_
    refine M_getI (pc := 13) dX12_blanks_13 f_X12_81 at_11 ?_
    refine M_iconst (pc := 16) (v := 1) dX12_blanks_16 (by decide) ?_
    refine M_iadd (pc := 17) dX12_blanks_17 ?_
    refine M_putI (pc := 18) dX12_blanks_18 f_X12_81 at_11 rfl ⟨rfl, rfl⟩ ?_
    refine M_goto (pc := 21) (tgt := 0) dX12_blanks_21 (by decide) ?_
    exact ih (up2 I 205 10 ((I 205 10) + (1 : Int32))) _ h
set_option maxRecDepth 4000 in
set_option maxHeartbeats 4000000 in
theorem C_X12_blanks {g : gX} {d : Nat} {P : Nat → Nat → Option Nat} {I : HI} {J : HJ} (hp : Wp P) {r : HI} (h : F_X12_blanks I = some r) : Cm g mX12_blanks (d + 1) [.ref 205] (NT, I, J, P) none (NT, r, J, P) := by
  unfold F_X12_blanks at h
  refine Cm.of (by decide) (by simp [Value.category]) (Nat.le_of_ble_eq_true rfl) (Nat.le_refl _) (ls := [some (.ref 205)]) rfl ?_
  exact LC_X12_blanks_0 (P := P) hp I _ h
def L_X12_letters_4 (I : HI) : Option (HI) :=
  (F_X12_isAt I (97 : Int32) (122 : Int32)) >>= fun r3 => if r3 = 0 then some I else L_X12_letters_4 (up2 I 205 10 ((I 205 10) + (1 : Int32)))
partial_fixpoint
def F_X12_letters (I : HI) : Option (HI) :=
  (F_X12_blanks I) >>= fun r1 => L_X12_letters_4 r1
set_option maxRecDepth 4000 in
set_option maxHeartbeats 4000000 in
theorem LC_X12_letters_4 {g : gX} {d : Nat} {P : Nat → Nat → Option Nat} {J : HJ}  (hp : Wp P) : ∀ (I : HI) (r : HI), L_X12_letters_4  I = some r → M g mX12_letters (d + 2) (NT, NT, 0) ((.inl none), (NT, r, J, P)) 4 [some (.ref 205)] [] (NT, I, J, P) := by
  refine L_X12_letters_4.partial_correctness  (fun I r => M g mX12_letters (d + 2) (NT, NT, 0) ((.inl none), (NT, r, J, P)) 4 [some (.ref 205)] [] (NT, I, J, P)) ?_
  intro f ih I r h
  refine M_aload_n (pc := 4) dX12_letters_4 rfl ?_
  refine M_bipush (pc := 5) (v := 97) dX12_letters_5 (by decide) ?_
  refine M_bipush (pc := 7) (v := 122) dX12_letters_7 (by decide) ?_
  obtain ⟨r3, hr4, h⟩ := bnd h
  refine M_callVi (pc := 9) dX12_letters_9 v_X12_87 rfl rfl at_11 (Nat.le_of_ble_eq_true rfl) (C_X12_isAt (d := d + 1) hp hr4) (Nat.le_refl _) ?_
  refine M_if_eq (pc := 12) (tgt := 28) dX12_letters_12 (by decide) (fun hc5 => ?_) (fun hc5 => ?_)
  · have h := (if_pos hc5).symm.trans h
    obtain rfl := Option.some.inj h
    exact M_vret (pc := 28) dX12_letters_28 rfl rfl rfl
  · have h := (if_neg hc5).symm.trans h
    refine M_aload_n (pc := 15) dX12_letters_15 rfl ?_
    refine M_dup (pc := 16) dX12_letters_16 rfl ?_
    refine M_getI (pc := 17) dX12_letters_17 f_X12_81 at_11 ?_
    refine M_iconst (pc := 20) (v := 1) dX12_letters_20 (by decide) ?_
    refine M_iadd (pc := 21) dX12_letters_21 ?_
    refine M_putI (pc := 22) dX12_letters_22 f_X12_81 at_11 rfl ⟨rfl, rfl⟩ ?_
    refine M_goto (pc := 25) (tgt := 4) dX12_letters_25 (by decide) ?_
    exact ih (up2 I 205 10 ((I 205 10) + (1 : Int32))) _ h
set_option maxRecDepth 4000 in
set_option maxHeartbeats 4000000 in
theorem C_X12_letters {g : gX} {d : Nat} {P : Nat → Nat → Option Nat} {I : HI} {J : HJ} (hp : Wp P) {r : HI} (h : F_X12_letters I = some r) : Cm g mX12_letters (d + 2) [.ref 205] (NT, I, J, P) none (NT, r, J, P) := by
  unfold F_X12_letters at h
  refine Cm.of (by decide) (by simp [Value.category]) (Nat.le_of_ble_eq_true rfl) (Nat.le_refl _) (ls := [some (.ref 205)]) rfl ?_
  refine M_aload_n (pc := 0) dX12_letters_0 rfl ?_
  obtain ⟨r1, hr2, h⟩ := bnd h
  refine M_callVv (pc := 1) dX12_letters_1 v_X12_94 rfl rfl at_11 (Nat.le_of_ble_eq_true rfl) (C_X12_blanks (d := d + 0) hp hr2) (Nat.le_refl _) ?_
  exact LC_X12_letters_4 (P := P) hp r1 _ h
def L_X12_isWord_24 (I : HI) (s1 : Nat) (x2 : Int32) (x3 : Int32) : Option (Int32) :=
  if x2 = 0 then if x2 = 0 ∨ x2 = 1 then some x2 else none else if (slen s1) ≤ x3 then if x2 = 0 ∨ x2 = 1 then some x2 else none else (ald 400 (I 211) ((I 205 12) + x3)) >>= fun v6 => (sch s1 x3) >>= fun v8 => if v6 = v8 then L_X12_isWord_24 I s1 (1 : Int32) (x3 + (1 : Int32)) else L_X12_isWord_24 I s1 (0 : Int32) (x3 + (1 : Int32))
partial_fixpoint
def F_X12_isWord (I : HI) (s1 : Nat) : Option (Int32) :=
  if ((I 205 10) - (I 205 12)) = (slen s1) then L_X12_isWord_24 I s1 (1 : Int32) (0 : Int32) else L_X12_isWord_24 I s1 (0 : Int32) (0 : Int32)
set_option maxRecDepth 4000 in
set_option maxHeartbeats 4000000 in
theorem LC_X12_isWord_24 {g : gX} {d : Nat} {P : Nat → Nat → Option Nat} {J : HJ} {I : HI} {s1 : Nat} (hp : Wp P) (hs1 : s1 < NS) : ∀ (x2 : Int32) (x3 : Int32) (r : Int32), L_X12_isWord_24 I s1 x2 x3 = some r → M g mX12_isWord (d + 4) (NT, NT, 0) ((.inl (some (.int r))), (NT, I, J, P)) 24 [some (.ref 205), some (.ref (100000 + s1)), some (.int x2), some (.int x3)] [] (NT, I, J, P) := by
  refine L_X12_isWord_24.partial_correctness I s1 (fun x2 x3 r => M g mX12_isWord (d + 4) (NT, NT, 0) ((.inl (some (.int r))), (NT, I, J, P)) 24 [some (.ref 205), some (.ref (100000 + s1)), some (.int x2), some (.int x3)] [] (NT, I, J, P)) ?_
  intro f ih x2 x3 r h
  refine M_iload_n (pc := 24) dX12_isWord_24 rfl ?_
  refine M_if_eq (pc := 25) (tgt := 67) dX12_isWord_25 (by decide) (fun hc2 => ?_) (fun hc2 => ?_)
  · have h := (if_pos hc2).symm.trans h
    refine M_iload_n (pc := 67) dX12_isWord_67 rfl ?_
    obtain ⟨hq3, h⟩ := chk h
    obtain rfl := Option.some.inj h
    exact M_iret (pc := 68) dX12_isWord_68 rfl (by rcases hq3 with q | q <;> rw [q] <;> rfl) rfl rfl
  · have h := (if_neg hc2).symm.trans h
    refine M_iload_n (pc := 28) dX12_isWord_28 rfl ?_
    refine M_aload_n (pc := 29) dX12_isWord_29 rfl ?_
    refine M_callT (pc := 30) dX12_isWord_30 t_X12_97 hs1 rfl rfl (Nat.le_of_ble_eq_true rfl) (C_slen (d := d + 2) hs1) (Nat.le_refl _) ?_
    refine M_icmp_ge (pc := 33) (tgt := 67) dX12_isWord_33 (by decide) (fun hc4 => ?_) (fun hc4 => ?_)
    · have h := (if_pos hc4).symm.trans h
      refine M_iload_n (pc := 67) dX12_isWord_67 rfl ?_
      obtain ⟨hq5, h⟩ := chk h
      obtain rfl := Option.some.inj h
      exact M_iret (pc := 68) dX12_isWord_68 rfl (by rcases hq5 with q | q <;> rw [q] <;> rfl) rfl rfl
    · have h := (if_neg hc4).symm.trans h
      refine M_aload_n (pc := 36) dX12_isWord_36 rfl ?_
      refine M_getR (pc := 37) dX12_isWord_37 f_X12_29 at_11 (gc_205_8 hp).1 ?_
      refine M_aload_n (pc := 40) dX12_isWord_40 rfl ?_
      refine M_getI (pc := 41) dX12_isWord_41 f_X12_91 at_11 ?_
      refine M_iload_n (pc := 44) dX12_isWord_44 rfl ?_
      refine M_iadd (pc := 45) dX12_isWord_45 ?_
      obtain ⟨v6, hv7, h⟩ := bnd h
      refine M_aldB (pc := 46) dX12_isWord_46 (gc_205_8 hp).2 hv7 ?_
      refine M_aload_n (pc := 47) dX12_isWord_47 rfl ?_
      refine M_iload_n (pc := 48) dX12_isWord_48 rfl ?_
      obtain ⟨v8, hv9, h⟩ := bnd h
      refine M_callT (pc := 49) dX12_isWord_49 t_X12_102 hs1 rfl rfl (Nat.le_of_ble_eq_true rfl) (C_sch (d := d + 0) hs1 hv9) (Nat.le_refl _) ?_
      refine M_icmp_ne (pc := 52) (tgt := 59) dX12_isWord_52 (by decide) (fun hc10 => ?_) (fun hc10 => ?_)
      · have h := (if_neg hc10).symm.trans h
        refine M_iconst (pc := 59) (v := 0) dX12_isWord_59 (by decide) ?_
        refine M_istore_n (pc := 60) (ls' := [some (.ref 205), some (.ref (100000 + s1)), some (.int (0 : Int32)), some (.int x3)]) dX12_isWord_60 (by decide) rfl ?_
        refine M_iinc (pc := 61) (v := (x3 + (1 : Int32))) (ls' := [some (.ref 205), some (.ref (100000 + s1)), some (.int (0 : Int32)), some (.int (x3 + (1 : Int32)))]) dX12_isWord_61 rfl rfl (by decide) rfl ?_
        refine M_goto (pc := 64) (tgt := 24) dX12_isWord_64 (by decide) ?_
        exact ih (0 : Int32) (x3 + (1 : Int32)) _ h
      · have h := (if_pos hc10).symm.trans h
        refine M_iconst (pc := 55) (v := 1) dX12_isWord_55 (by decide) ?_
        refine M_goto (pc := 56) (tgt := 60) dX12_isWord_56 (by decide) ?_
        refine M_istore_n (pc := 60) (ls' := [some (.ref 205), some (.ref (100000 + s1)), some (.int (1 : Int32)), some (.int x3)]) dX12_isWord_60 (by decide) rfl ?_
        refine M_iinc (pc := 61) (v := (x3 + (1 : Int32))) (ls' := [some (.ref 205), some (.ref (100000 + s1)), some (.int (1 : Int32)), some (.int (x3 + (1 : Int32)))]) dX12_isWord_61 rfl rfl (by decide) rfl ?_
        refine M_goto (pc := 64) (tgt := 24) dX12_isWord_64 (by decide) ?_
        exact ih (1 : Int32) (x3 + (1 : Int32)) _ h
set_option maxRecDepth 4000 in
set_option maxHeartbeats 4000000 in
theorem C_X12_isWord {g : gX} {d : Nat} {P : Nat → Nat → Option Nat} {I : HI} {s1 : Nat} {J : HJ} (hp : Wp P) (hs1 : s1 < NS) {r : Int32} (h : F_X12_isWord I s1 = some r) : Cm g mX12_isWord (d + 4) [.ref 205, .ref (100000 + s1)] (NT, I, J, P) (some (.int r)) (NT, I, J, P) := by
  unfold F_X12_isWord at h
  refine Cm.of (by decide) (by simp [Value.category]) (Nat.le_of_ble_eq_true rfl) (Nat.le_refl _) (ls := [some (.ref 205), some (.ref (100000 + s1)), none, none]) rfl ?_
  refine M_aload_n (pc := 0) dX12_isWord_0 rfl ?_
  refine M_getI (pc := 1) dX12_isWord_1 f_X12_81 at_11 ?_
  refine M_aload_n (pc := 4) dX12_isWord_4 rfl ?_
  refine M_getI (pc := 5) dX12_isWord_5 f_X12_91 at_11 ?_
  refine M_isub (pc := 8) dX12_isWord_8 ?_
  refine M_aload_n (pc := 9) dX12_isWord_9 rfl ?_
  refine M_callT (pc := 10) dX12_isWord_10 t_X12_97 hs1 rfl rfl (Nat.le_of_ble_eq_true rfl) (C_slen (d := d + 2) hs1) (Nat.le_refl _) ?_
  refine M_icmp_ne (pc := 13) (tgt := 20) dX12_isWord_13 (by decide) (fun hc1 => ?_) (fun hc1 => ?_)
  · have h := (if_neg hc1).symm.trans h
    refine M_iconst (pc := 20) (v := 0) dX12_isWord_20 (by decide) ?_
    refine M_istore_n (pc := 21) (ls' := [some (.ref 205), some (.ref (100000 + s1)), some (.int (0 : Int32)), none]) dX12_isWord_21 (by decide) rfl ?_
    refine M_iconst (pc := 22) (v := 0) dX12_isWord_22 (by decide) ?_
    refine M_istore_n (pc := 23) (ls' := [some (.ref 205), some (.ref (100000 + s1)), some (.int (0 : Int32)), some (.int (0 : Int32))]) dX12_isWord_23 (by decide) rfl ?_
    exact LC_X12_isWord_24 (P := P) hp hs1 (0 : Int32) (0 : Int32) _ h
  · have h := (if_pos hc1).symm.trans h
    refine M_iconst (pc := 16) (v := 1) dX12_isWord_16 (by decide) ?_
    refine M_goto (pc := 17) (tgt := 21) dX12_isWord_17 (by decide) ?_
    refine M_istore_n (pc := 21) (ls' := [some (.ref 205), some (.ref (100000 + s1)), some (.int (1 : Int32)), none]) dX12_isWord_21 (by decide) rfl ?_
    refine M_iconst (pc := 22) (v := 0) dX12_isWord_22 (by decide) ?_
    refine M_istore_n (pc := 23) (ls' := [some (.ref 205), some (.ref (100000 + s1)), some (.int (1 : Int32)), some (.int (0 : Int32))]) dX12_isWord_23 (by decide) rfl ?_
    exact LC_X12_isWord_24 (P := P) hp hs1 (1 : Int32) (0 : Int32) _ h
def F_X12_passes (I : HI) (s1 : Nat) : Option (Int32 × HI) :=
  (F_X12_letters I) >>= fun r1 => (F_X12_isWord r1 s1) >>= fun r3 => if r3 = 0 then some ((0 : Int32), (up2 r1 205 10 (r1 205 12))) else some ((1 : Int32), r1)
set_option maxRecDepth 4000 in
set_option maxHeartbeats 4000000 in
theorem C_X12_passes {g : gX} {d : Nat} {P : Nat → Nat → Option Nat} {I : HI} {s1 : Nat} {J : HJ} (hp : Wp P) (hs1 : s1 < NS) {r : Int32 × HI} (h : F_X12_passes I s1 = some r) : Cm g mX12_passes (d + 5) [.ref 205, .ref (100000 + s1)] (NT, I, J, P) (some (.int r.1)) (NT, r.2, J, P) := by
  unfold F_X12_passes at h
  refine Cm.of (by decide) (by simp [Value.category]) (Nat.le_of_ble_eq_true rfl) (Nat.le_refl _) (ls := [some (.ref 205), some (.ref (100000 + s1))]) rfl ?_
  refine M_aload_n (pc := 0) dX12_passes_0 rfl ?_
  obtain ⟨r1, hr2, h⟩ := bnd h
  refine M_callVv (pc := 1) dX12_passes_1 v_X12_106 rfl rfl at_11 (Nat.le_of_ble_eq_true rfl) (C_X12_letters (d := d + 2) hp hr2) (Nat.le_refl _) ?_
  refine M_aload_n (pc := 4) dX12_passes_4 rfl ?_
  refine M_aload_n (pc := 5) dX12_passes_5 rfl ?_
  obtain ⟨r3, hr4, h⟩ := bnd h
  refine M_callVi (pc := 6) dX12_passes_6 v_X12_109 rfl rfl at_11 (Nat.le_of_ble_eq_true rfl) (C_X12_isWord (d := d + 0) hp hs1 hr4) (Nat.le_refl _) ?_
  refine M_if_eq (pc := 9) (tgt := 14) dX12_passes_9 (by decide) (fun hc5 => ?_) (fun hc5 => ?_)
  · have h := (if_pos hc5).symm.trans h
    refine M_aload_n (pc := 14) dX12_passes_14 rfl ?_
    refine M_aload_n (pc := 15) dX12_passes_15 rfl ?_
    refine M_getI (pc := 16) dX12_passes_16 f_X12_91 at_11 ?_
    refine M_putI (pc := 19) dX12_passes_19 f_X12_81 at_11 rfl ⟨rfl, rfl⟩ ?_
    refine M_iconst (pc := 22) (v := 0) dX12_passes_22 (by decide) ?_
    obtain rfl := Option.some.inj h
    exact M_iret (pc := 23) dX12_passes_23 rfl rfl rfl rfl
  · have h := (if_neg hc5).symm.trans h
    refine M_iconst (pc := 12) (v := 1) dX12_passes_12 (by decide) ?_
    obtain rfl := Option.some.inj h
    exact M_iret (pc := 13) dX12_passes_13 rfl rfl rfl rfl
def F_X12_sign (I : HI) (x1 : Int32) : Option (Int32 × HI) :=
  (F_X12_blanks I) >>= fun r1 => (F_X12_isAt r1 x1 x1) >>= fun r3 => if r3 = 0 then some ((0 : Int32), r1) else some ((1 : Int32), (up2 r1 205 10 ((r1 205 10) + (1 : Int32))))
set_option maxRecDepth 4000 in
set_option maxHeartbeats 4000000 in
theorem C_X12_sign {g : gX} {d : Nat} {P : Nat → Nat → Option Nat} {I : HI} {x1 : Int32} {J : HJ} (hp : Wp P) {r : Int32 × HI} (h : F_X12_sign I x1 = some r) : Cm g mX12_sign (d + 2) [.ref 205, .int x1] (NT, I, J, P) (some (.int r.1)) (NT, r.2, J, P) := by
  unfold F_X12_sign at h
  refine Cm.of (by decide) (by simp [Value.category]) (Nat.le_of_ble_eq_true rfl) (Nat.le_refl _) (ls := [some (.ref 205), some (.int x1)]) rfl ?_
  refine M_aload_n (pc := 0) dX12_sign_0 rfl ?_
  obtain ⟨r1, hr2, h⟩ := bnd h
  refine M_callVv (pc := 1) dX12_sign_1 v_X12_94 rfl rfl at_11 (Nat.le_of_ble_eq_true rfl) (C_X12_blanks (d := d + 0) hp hr2) (Nat.le_refl _) ?_
  refine M_aload_n (pc := 4) dX12_sign_4 rfl ?_
  refine M_iload_n (pc := 5) dX12_sign_5 rfl ?_
  refine M_iload_n (pc := 6) dX12_sign_6 rfl ?_
  obtain ⟨r3, hr4, h⟩ := bnd h
  refine M_callVi (pc := 7) dX12_sign_7 v_X12_87 rfl rfl at_11 (Nat.le_of_ble_eq_true rfl) (C_X12_isAt (d := d + 1) hp hr4) (Nat.le_refl _) ?_
  refine M_if_ne (pc := 10) (tgt := 15) dX12_sign_10 (by decide) (fun hc5 => ?_) (fun hc5 => ?_)
  · have h := (if_neg hc5).symm.trans h
    refine M_aload_n (pc := 15) dX12_sign_15 rfl ?_
    refine M_dup (pc := 16) dX12_sign_16 rfl ?_
    refine M_getI (pc := 17) dX12_sign_17 f_X12_81 at_11 ?_
    refine M_iconst (pc := 20) (v := 1) dX12_sign_20 (by decide) ?_
    refine M_iadd (pc := 21) dX12_sign_21 ?_
    refine M_putI (pc := 22) dX12_sign_22 f_X12_81 at_11 rfl ⟨rfl, rfl⟩ ?_
    refine M_iconst (pc := 25) (v := 1) dX12_sign_25 (by decide) ?_
    obtain rfl := Option.some.inj h
    exact M_iret (pc := 26) dX12_sign_26 rfl rfl rfl rfl
  · have h := (if_pos hc5).symm.trans h
    refine M_iconst (pc := 13) (v := 0) dX12_sign_13 (by decide) ?_
    obtain rfl := Option.some.inj h
    exact M_iret (pc := 14) dX12_sign_14 rfl rfl rfl rfl
def L_X12_number_6 (x1 : Int32) (x2 : Int32) (x3 : Int32) (I : HI) : Option (Int32 × HI) :=
  (F_X12_isAt I (48 : Int32) (57 : Int32)) >>= fun r3 => if r3 = 0 then if (I 205 10) = (I 205 12) then some ((-1 : Int32), I) else if (3 : Int32) < ((I 205 10) - (I 205 12)) then some ((-1 : Int32), I) else if x3 < x1 then some ((-1 : Int32), I) else if x3 ≤ x2 then some (x3, I) else some ((-1 : Int32), I) else if (3 : Int32) ≤ ((I 205 10) - (I 205 12)) then L_X12_number_6 x1 x2 x3 (up2 I 205 10 ((I 205 10) + (1 : Int32))) else (ald 400 (I 211) (I 205 10)) >>= fun v11 => L_X12_number_6 x1 x2 ((((10 : Int32) * x3) + v11) - (48 : Int32)) (up2 I 205 10 ((I 205 10) + (1 : Int32)))
partial_fixpoint
def F_X12_number (I : HI) (x1 : Int32) (x2 : Int32) : Option (Int32 × HI) :=
  (F_X12_blanks I) >>= fun r1 => L_X12_number_6 x1 x2 (0 : Int32) r1
set_option maxRecDepth 4000 in
set_option maxHeartbeats 4000000 in
theorem LC_X12_number_6 {g : gX} {d : Nat} {P : Nat → Nat → Option Nat} {J : HJ} {x1 : Int32} {x2 : Int32} (hp : Wp P) : ∀ (x3 : Int32) (I : HI) (r : Int32 × HI), L_X12_number_6 x1 x2 x3 I = some r → M g mX12_number (d + 2) (NT, NT, 0) ((.inl (some (.int r.1))), (NT, r.2, J, P)) 6 [some (.ref 205), some (.int x1), some (.int x2), some (.int x3)] [] (NT, I, J, P) := by
  refine L_X12_number_6.partial_correctness x1 x2 (fun x3 I r => M g mX12_number (d + 2) (NT, NT, 0) ((.inl (some (.int r.1))), (NT, r.2, J, P)) 6 [some (.ref 205), some (.int x1), some (.int x2), some (.int x3)] [] (NT, I, J, P)) ?_
  intro f ih x3 I r h
  refine M_aload_n (pc := 6) dX12_number_6 rfl ?_
  refine M_bipush (pc := 7) (v := 48) dX12_number_7 (by decide) ?_
  refine M_bipush (pc := 9) (v := 57) dX12_number_9 (by decide) ?_
  obtain ⟨r3, hr4, h⟩ := bnd h
  refine M_callVi (pc := 11) dX12_number_11 v_X12_87 rfl rfl at_11 (Nat.le_of_ble_eq_true rfl) (C_X12_isAt (d := d + 1) hp hr4) (Nat.le_refl _) ?_
  refine M_if_eq (pc := 14) (tgt := 65) dX12_number_14 (by decide) (fun hc5 => ?_) (fun hc5 => ?_)
  · have h := (if_pos hc5).symm.trans h
    refine M_aload_n (pc := 65) dX12_number_65 rfl ?_
    refine M_getI (pc := 66) dX12_number_66 f_X12_81 at_11 ?_
    refine M_aload_n (pc := 69) dX12_number_69 rfl ?_
    refine M_getI (pc := 70) dX12_number_70 f_X12_91 at_11 ?_
    refine M_icmp_eq (pc := 73) (tgt := 99) dX12_number_73 (by decide) (fun hc6 => ?_) (fun hc6 => ?_)
    · have h := (if_pos hc6).symm.trans h
      refine M_iconst (pc := 99) (v := -1) dX12_number_99 (by decide) ?_
      refine M_goto (pc := 100) (tgt := 104) dX12_number_100 (by decide) ?_
      obtain rfl := Option.some.inj h
      exact M_iret (pc := 104) dX12_number_104 rfl rfl rfl rfl
    · have h := (if_neg hc6).symm.trans h
      refine M_aload_n (pc := 76) dX12_number_76 rfl ?_
      refine M_getI (pc := 77) dX12_number_77 f_X12_81 at_11 ?_
      refine M_aload_n (pc := 80) dX12_number_80 rfl ?_
      refine M_getI (pc := 81) dX12_number_81 f_X12_91 at_11 ?_
      refine M_isub (pc := 84) dX12_number_84 ?_
      refine M_iconst (pc := 85) (v := 3) dX12_number_85 (by decide) ?_
      refine M_icmp_gt (pc := 86) (tgt := 99) dX12_number_86 (by decide) (fun hc7 => ?_) (fun hc7 => ?_)
      · have h := (if_pos hc7).symm.trans h
        refine M_iconst (pc := 99) (v := -1) dX12_number_99 (by decide) ?_
        refine M_goto (pc := 100) (tgt := 104) dX12_number_100 (by decide) ?_
        obtain rfl := Option.some.inj h
        exact M_iret (pc := 104) dX12_number_104 rfl rfl rfl rfl
      · have h := (if_neg hc7).symm.trans h
        refine M_iload_n (pc := 89) dX12_number_89 rfl ?_
        refine M_iload_n (pc := 90) dX12_number_90 rfl ?_
        refine M_icmp_lt (pc := 91) (tgt := 99) dX12_number_91 (by decide) (fun hc8 => ?_) (fun hc8 => ?_)
        · have h := (if_pos hc8).symm.trans h
          refine M_iconst (pc := 99) (v := -1) dX12_number_99 (by decide) ?_
          refine M_goto (pc := 100) (tgt := 104) dX12_number_100 (by decide) ?_
          obtain rfl := Option.some.inj h
          exact M_iret (pc := 104) dX12_number_104 rfl rfl rfl rfl
        · have h := (if_neg hc8).symm.trans h
          refine M_iload_n (pc := 94) dX12_number_94 rfl ?_
          refine M_iload_n (pc := 95) dX12_number_95 rfl ?_
          refine M_icmp_le (pc := 96) (tgt := 103) dX12_number_96 (by decide) (fun hc9 => ?_) (fun hc9 => ?_)
          · have h := (if_pos hc9).symm.trans h
            refine M_iload_n (pc := 103) dX12_number_103 rfl ?_
            obtain rfl := Option.some.inj h
            exact M_iret (pc := 104) dX12_number_104 rfl rfl rfl rfl
          · have h := (if_neg hc9).symm.trans h
            refine M_iconst (pc := 99) (v := -1) dX12_number_99 (by decide) ?_
            refine M_goto (pc := 100) (tgt := 104) dX12_number_100 (by decide) ?_
            obtain rfl := Option.some.inj h
            exact M_iret (pc := 104) dX12_number_104 rfl rfl rfl rfl
  · have h := (if_neg hc5).symm.trans h
    refine M_aload_n (pc := 17) dX12_number_17 rfl ?_
    refine M_getI (pc := 18) dX12_number_18 f_X12_81 at_11 ?_
    refine M_aload_n (pc := 21) dX12_number_21 rfl ?_
    refine M_getI (pc := 22) dX12_number_22 f_X12_91 at_11 ?_
    refine M_isub (pc := 25) dX12_number_25 ?_
    refine M_iconst (pc := 26) (v := 3) dX12_number_26 (by decide) ?_
    refine M_icmp_ge (pc := 27) (tgt := 50) dX12_number_27 (by decide) (fun hc10 => ?_) (fun hc10 => ?_)
    · have h := (if_pos hc10).symm.trans h
      refine M_iload_n (pc := 50) dX12_number_50 rfl ?_
      refine M_istore_n (pc := 51) (ls' := [some (.ref 205), some (.int x1), some (.int x2), some (.int x3)]) dX12_number_51 (by decide) rfl ?_
      refine M_aload_n (pc := 52) dX12_number_52 rfl ?_
      refine M_dup (pc := 53) dX12_number_53 rfl ?_
      refine M_getI (pc := 54) dX12_number_54 f_X12_81 at_11 ?_
      refine M_iconst (pc := 57) (v := 1) dX12_number_57 (by decide) ?_
      refine M_iadd (pc := 58) dX12_number_58 ?_
      refine M_putI (pc := 59) dX12_number_59 f_X12_81 at_11 rfl ⟨rfl, rfl⟩ ?_
      refine M_goto (pc := 62) (tgt := 6) dX12_number_62 (by decide) ?_
      exact ih x3 (up2 I 205 10 ((I 205 10) + (1 : Int32))) _ h
    · have h := (if_neg hc10).symm.trans h
      refine M_bipush (pc := 30) (v := 10) dX12_number_30 (by decide) ?_
      refine M_iload_n (pc := 32) dX12_number_32 rfl ?_
      refine M_imul (pc := 33) dX12_number_33 ?_
      refine M_aload_n (pc := 34) dX12_number_34 rfl ?_
      refine M_getR (pc := 35) dX12_number_35 f_X12_29 at_11 (gc_205_8 hp).1 ?_
      refine M_aload_n (pc := 38) dX12_number_38 rfl ?_
      refine M_getI (pc := 39) dX12_number_39 f_X12_81 at_11 ?_
      obtain ⟨v11, hv12, h⟩ := bnd h
      refine M_aldB (pc := 42) dX12_number_42 (gc_205_8 hp).2 hv12 ?_
      refine M_iadd (pc := 43) dX12_number_43 ?_
      refine M_bipush (pc := 44) (v := 48) dX12_number_44 (by decide) ?_
      refine M_isub (pc := 46) dX12_number_46 ?_
      refine M_goto (pc := 47) (tgt := 51) dX12_number_47 (by decide) ?_
      refine M_istore_n (pc := 51) (ls' := [some (.ref 205), some (.int x1), some (.int x2), some (.int ((((10 : Int32) * x3) + v11) - (48 : Int32)))]) dX12_number_51 (by decide) rfl ?_
      refine M_aload_n (pc := 52) dX12_number_52 rfl ?_
      refine M_dup (pc := 53) dX12_number_53 rfl ?_
      refine M_getI (pc := 54) dX12_number_54 f_X12_81 at_11 ?_
      refine M_iconst (pc := 57) (v := 1) dX12_number_57 (by decide) ?_
      refine M_iadd (pc := 58) dX12_number_58 ?_
      refine M_putI (pc := 59) dX12_number_59 f_X12_81 at_11 rfl ⟨rfl, rfl⟩ ?_
      refine M_goto (pc := 62) (tgt := 6) dX12_number_62 (by decide) ?_
      exact ih ((((10 : Int32) * x3) + v11) - (48 : Int32)) (up2 I 205 10 ((I 205 10) + (1 : Int32))) _ h
set_option maxRecDepth 4000 in
set_option maxHeartbeats 4000000 in
theorem C_X12_number {g : gX} {d : Nat} {P : Nat → Nat → Option Nat} {I : HI} {x1 : Int32} {x2 : Int32} {J : HJ} (hp : Wp P) {r : Int32 × HI} (h : F_X12_number I x1 x2 = some r) : Cm g mX12_number (d + 2) [.ref 205, .int x1, .int x2] (NT, I, J, P) (some (.int r.1)) (NT, r.2, J, P) := by
  unfold F_X12_number at h
  refine Cm.of (by decide) (by simp [Value.category]) (Nat.le_of_ble_eq_true rfl) (Nat.le_refl _) (ls := [some (.ref 205), some (.int x1), some (.int x2), none]) rfl ?_
  refine M_aload_n (pc := 0) dX12_number_0 rfl ?_
  obtain ⟨r1, hr2, h⟩ := bnd h
  refine M_callVv (pc := 1) dX12_number_1 v_X12_94 rfl rfl at_11 (Nat.le_of_ble_eq_true rfl) (C_X12_blanks (d := d + 0) hp hr2) (Nat.le_refl _) ?_
  refine M_iconst (pc := 4) (v := 0) dX12_number_4 (by decide) ?_
  refine M_istore_n (pc := 5) (ls' := [some (.ref 205), some (.int x1), some (.int x2), some (.int (0 : Int32))]) dX12_number_5 (by decide) rfl ?_
  exact LC_X12_number_6 (P := P) hp (0 : Int32) r1 _ h
def F_X12_after (I : HI) (s1 : Nat) (x2 : Int32) (x3 : Int32) : Option (Int32 × HI) :=
  (F_X12_letters I) >>= fun r1 => (F_X12_isWord r1 s1) >>= fun r3 => if r3 = 0 then some ((-1 : Int32), r1) else (F_X12_number r1 x2 x3) >>= fun r6 => some (r6.1, r6.2)
set_option maxRecDepth 4000 in
set_option maxHeartbeats 4000000 in
theorem C_X12_after {g : gX} {d : Nat} {P : Nat → Nat → Option Nat} {I : HI} {s1 : Nat} {x2 : Int32} {x3 : Int32} {J : HJ} (hp : Wp P) (hs1 : s1 < NS) {r : Int32 × HI} (h : F_X12_after I s1 x2 x3 = some r) : Cm g mX12_after (d + 5) [.ref 205, .ref (100000 + s1), .int x2, .int x3] (NT, I, J, P) (some (.int r.1)) (NT, r.2, J, P) := by
  unfold F_X12_after at h
  refine Cm.of (by decide) (by simp [Value.category]) (Nat.le_of_ble_eq_true rfl) (Nat.le_refl _) (ls := [some (.ref 205), some (.ref (100000 + s1)), some (.int x2), some (.int x3)]) rfl ?_
  refine M_aload_n (pc := 0) dX12_after_0 rfl ?_
  obtain ⟨r1, hr2, h⟩ := bnd h
  refine M_callVv (pc := 1) dX12_after_1 v_X12_106 rfl rfl at_11 (Nat.le_of_ble_eq_true rfl) (C_X12_letters (d := d + 2) hp hr2) (Nat.le_refl _) ?_
  refine M_aload_n (pc := 4) dX12_after_4 rfl ?_
  refine M_aload_n (pc := 5) dX12_after_5 rfl ?_
  obtain ⟨r3, hr4, h⟩ := bnd h
  refine M_callVi (pc := 6) dX12_after_6 v_X12_109 rfl rfl at_11 (Nat.le_of_ble_eq_true rfl) (C_X12_isWord (d := d + 0) hp hs1 hr4) (Nat.le_refl _) ?_
  refine M_if_eq (pc := 9) (tgt := 21) dX12_after_9 (by decide) (fun hc5 => ?_) (fun hc5 => ?_)
  · have h := (if_pos hc5).symm.trans h
    refine M_iconst (pc := 21) (v := -1) dX12_after_21 (by decide) ?_
    obtain rfl := Option.some.inj h
    exact M_iret (pc := 22) dX12_after_22 rfl rfl rfl rfl
  · have h := (if_neg hc5).symm.trans h
    refine M_aload_n (pc := 12) dX12_after_12 rfl ?_
    refine M_iload_n (pc := 13) dX12_after_13 rfl ?_
    refine M_iload_n (pc := 14) dX12_after_14 rfl ?_
    obtain ⟨r6, hr7, h⟩ := bnd h
    refine M_callVi (pc := 15) dX12_after_15 v_X12_113 rfl rfl at_11 (Nat.le_of_ble_eq_true rfl) (C_X12_number (d := d + 2) hp hr7) (Nat.le_refl _) ?_
    refine M_goto (pc := 18) (tgt := 22) dX12_after_18 (by decide) ?_
    obtain rfl := Option.some.inj h
    exact M_iret (pc := 22) dX12_after_22 rfl rfl rfl rfl
def F_X12_fault (I : HI) : Option (Int32 × HI) :=
  some ((I 205 14), (up2 I 205 0 (0 : Int32)))
set_option maxRecDepth 4000 in
set_option maxHeartbeats 4000000 in
theorem C_X12_fault {g : gX} {d : Nat} {P : Nat → Nat → Option Nat} {I : HI} {J : HJ} (hp : Wp P) {r : Int32 × HI} (h : F_X12_fault I = some r) : Cm g mX12_fault (d + 0) [.ref 205] (NT, I, J, P) (some (.int r.1)) (NT, r.2, J, P) := by
  unfold F_X12_fault at h
  refine Cm.of (by decide) (by simp [Value.category]) (Nat.le_of_ble_eq_true rfl) (Nat.le_refl _) (ls := [some (.ref 205)]) rfl ?_
  refine M_aload_n (pc := 0) dX12_fault_0 rfl ?_
  refine M_iconst (pc := 1) (v := 0) dX12_fault_1 (by decide) ?_
  refine M_putI (pc := 2) dX12_fault_2 f_X12_3 at_11 rfl ⟨rfl, rfl⟩ ?_
  refine M_aload_n (pc := 5) dX12_fault_5 rfl ?_
  refine M_getIs (pc := 6) (x := (I 205 14)) dX12_fault_6 f_X12_33 at_11 (rd_ne (Or.inr (by decide))) ?_
  obtain rfl := Option.some.inj h
  exact M_iret (pc := 9) dX12_fault_9 rfl rfl rfl rfl
def F_X12_uses (I : HI) : Option (HI) :=
  some (up2 (up2 (up2 (up2 I 205 0 (0 : Int32)) 205 11 (I 205 9)) 205 9 (0 : Int32)) 205 10 (0 : Int32))
set_option maxRecDepth 4000 in
set_option maxHeartbeats 4000000 in
theorem C_X12_uses {g : gX} {d : Nat} {P : Nat → Nat → Option Nat} {I : HI} {J : HJ} (hp : Wp P) {r : HI} (h : F_X12_uses I = some r) : Cm g mX12_uses (d + 0) [.ref 205] (NT, I, J, P) none (NT, r, J, P) := by
  unfold F_X12_uses at h
  refine Cm.of (by decide) (by simp [Value.category]) (Nat.le_of_ble_eq_true rfl) (Nat.le_refl _) (ls := [some (.ref 205)]) rfl ?_
  refine M_aload_n (pc := 0) dX12_uses_0 rfl ?_
  refine M_iconst (pc := 1) (v := 0) dX12_uses_1 (by decide) ?_
  refine M_putI (pc := 2) dX12_uses_2 f_X12_3 at_11 rfl ⟨rfl, rfl⟩ ?_
  refine M_aload_n (pc := 5) dX12_uses_5 rfl ?_
  refine M_aload_n (pc := 6) dX12_uses_6 rfl ?_
  refine M_getIs (pc := 7) (x := (I 205 9)) dX12_uses_7 f_X12_78 at_11 (rd_ne (Or.inr (by decide))) ?_
  refine M_putI (pc := 10) dX12_uses_10 f_X12_84 at_11 rfl ⟨rfl, rfl⟩ ?_
  refine M_aload_n (pc := 13) dX12_uses_13 rfl ?_
  refine M_iconst (pc := 14) (v := 0) dX12_uses_14 (by decide) ?_
  refine M_putI (pc := 15) dX12_uses_15 f_X12_78 at_11 rfl ⟨rfl, rfl⟩ ?_
  refine M_aload_n (pc := 18) dX12_uses_18 rfl ?_
  refine M_iconst (pc := 19) (v := 0) dX12_uses_19 (by decide) ?_
  refine M_putI (pc := 20) dX12_uses_20 f_X12_81 at_11 rfl ⟨rfl, rfl⟩ ?_
  obtain rfl := Option.some.inj h
  exact M_vret (pc := 23) dX12_uses_23 rfl rfl rfl
def F_X12_readNumber (I : HI) (x1 : Int32) (x2 : Int32) (x3 : Int32) : Option (Int32 × HI) :=
  (F_X12_number I x2 x3) >>= fun r1 => if 0 ≤ r1.1 then if inB x1 2051 = true then if r1.1 < 0 then some ((0 : Int32), (up2 r1.2 206 (x1).toNatClampNeg r1.1)) else some ((1 : Int32), (up2 r1.2 206 (x1).toNatClampNeg r1.1)) else none else (ald 2051 (r1.2 206) x1) >>= fun v6 => if inB x1 2051 = true then if r1.1 < 0 then some ((0 : Int32), (up2 r1.2 206 (x1).toNatClampNeg v6)) else some ((1 : Int32), (up2 r1.2 206 (x1).toNatClampNeg v6)) else none
set_option maxRecDepth 4000 in
set_option maxHeartbeats 4000000 in
theorem C_X12_readNumber {g : gX} {d : Nat} {P : Nat → Nat → Option Nat} {I : HI} {x1 : Int32} {x2 : Int32} {x3 : Int32} {J : HJ} (hp : Wp P) {r : Int32 × HI} (h : F_X12_readNumber I x1 x2 x3 = some r) : Cm g mX12_readNumber (d + 3) [.ref 205, .int x1, .int x2, .int x3] (NT, I, J, P) (some (.int r.1)) (NT, r.2, J, P) := by
  unfold F_X12_readNumber at h
  refine Cm.of (by decide) (by simp [Value.category]) (Nat.le_of_ble_eq_true rfl) (Nat.le_refl _) (ls := [some (.ref 205), some (.int x1), some (.int x2), some (.int x3), none]) rfl ?_
  refine M_aload_n (pc := 0) dX12_readNumber_0 rfl ?_
  refine M_iload_n (pc := 1) dX12_readNumber_1 rfl ?_
  refine M_iload_n (pc := 2) dX12_readNumber_2 rfl ?_
  obtain ⟨r1, hr2, h⟩ := bnd h
  refine M_callVi (pc := 3) dX12_readNumber_3 v_X12_113 rfl rfl at_11 (Nat.le_of_ble_eq_true rfl) (C_X12_number (d := d + 0) hp hr2) (Nat.le_refl _) ?_
  refine M_istore (pc := 6) (ls' := [some (.ref 205), some (.int x1), some (.int x2), some (.int x3), some (.int r1.1)]) dX12_readNumber_6 (by decide) rfl ?_
  refine M_aload_n (pc := 8) dX12_readNumber_8 rfl ?_
  refine M_getR (pc := 9) dX12_readNumber_9 f_X12_13 at_11 (gc_205_1 hp).1 ?_
  refine M_iload_n (pc := 12) dX12_readNumber_12 rfl ?_
  refine M_iload (pc := 13) dX12_readNumber_13 rfl ?_
  refine M_if_ge (pc := 15) (tgt := 27) dX12_readNumber_15 (by decide) (fun hc3 => ?_) (fun hc3 => ?_)
  · have h := (if_pos hc3).symm.trans h
    refine M_iload (pc := 27) dX12_readNumber_27 rfl ?_
    obtain ⟨hq4, h⟩ := chk h
    refine M_iast (pc := 29) dX12_readNumber_29 (gc_205_1 hp).2 (inB_in hq4) ?_
    refine M_iload (pc := 30) dX12_readNumber_30 rfl ?_
    refine M_if_lt (pc := 32) (tgt := 39) dX12_readNumber_32 (by decide) (fun hc5 => ?_) (fun hc5 => ?_)
    · have h := (if_pos hc5).symm.trans h
      refine M_iconst (pc := 39) (v := 0) dX12_readNumber_39 (by decide) ?_
      obtain rfl := Option.some.inj h
      exact M_iret (pc := 40) dX12_readNumber_40 rfl rfl rfl rfl
    · have h := (if_neg hc5).symm.trans h
      refine M_iconst (pc := 35) (v := 1) dX12_readNumber_35 (by decide) ?_
      refine M_goto (pc := 36) (tgt := 40) dX12_readNumber_36 (by decide) ?_
      obtain rfl := Option.some.inj h
      exact M_iret (pc := 40) dX12_readNumber_40 rfl rfl rfl rfl
  · have h := (if_neg hc3).symm.trans h
    refine M_aload_n (pc := 18) dX12_readNumber_18 rfl ?_
    refine M_getR (pc := 19) dX12_readNumber_19 f_X12_13 at_11 (gc_205_1 hp).1 ?_
    refine M_iload_n (pc := 22) dX12_readNumber_22 rfl ?_
    obtain ⟨v6, hv7, h⟩ := bnd h
    refine M_aldI (pc := 23) dX12_readNumber_23 (gc_205_1 hp).2 hv7 ?_
    refine M_goto (pc := 24) (tgt := 29) dX12_readNumber_24 (by decide) ?_
    obtain ⟨hq8, h⟩ := chk h
    refine M_iast (pc := 29) dX12_readNumber_29 (gc_205_1 hp).2 (inB_in hq8) ?_
    refine M_iload (pc := 30) dX12_readNumber_30 rfl ?_
    refine M_if_lt (pc := 32) (tgt := 39) dX12_readNumber_32 (by decide) (fun hc9 => ?_) (fun hc9 => ?_)
    · have h := (if_pos hc9).symm.trans h
      refine M_iconst (pc := 39) (v := 0) dX12_readNumber_39 (by decide) ?_
      obtain rfl := Option.some.inj h
      exact M_iret (pc := 40) dX12_readNumber_40 rfl rfl rfl rfl
    · have h := (if_neg hc9).symm.trans h
      refine M_iconst (pc := 35) (v := 1) dX12_readNumber_35 (by decide) ?_
      refine M_goto (pc := 36) (tgt := 40) dX12_readNumber_36 (by decide) ?_
      obtain rfl := Option.some.inj h
      exact M_iret (pc := 40) dX12_readNumber_40 rfl rfl rfl rfl
def L_X12_readTastes_4 (x1 : Int32) (I : HI) : Option (Int32 × HI) :=
  (F_X12_isAt I (48 : Int32) (57 : Int32)) >>= fun r3 => if r3 = 0 then if ((I 205 10) - (I 205 12)) = (5 : Int32) then some ((1 : Int32), I) else some ((0 : Int32), I) else if (5 : Int32) ≤ ((I 205 10) - (I 205 12)) then L_X12_readTastes_4 x1 (up2 I 205 10 ((I 205 10) + (1 : Int32))) else (F_X12_at I x1 ((I 205 10) - (I 205 12))) >>= fun r8 => (ald 400 (I 211) (I 205 10)) >>= fun v10 => if inB r8 2051 = true then L_X12_readTastes_4 x1 (up2 (up2 I 206 (r8).toNatClampNeg (v10 - (48 : Int32))) 205 10 (((up2 I 206 (r8).toNatClampNeg (v10 - (48 : Int32))) 205 10) + (1 : Int32))) else none
partial_fixpoint
def F_X12_readTastes (I : HI) (x1 : Int32) : Option (Int32 × HI) :=
  (F_X12_blanks I) >>= fun r1 => L_X12_readTastes_4 x1 r1
set_option maxRecDepth 4000 in
set_option maxHeartbeats 4000000 in
theorem LC_X12_readTastes_4 {g : gX} {d : Nat} {P : Nat → Nat → Option Nat} {J : HJ} {x1 : Int32} (hp : Wp P) : ∀ (I : HI) (r : Int32 × HI), L_X12_readTastes_4 x1 I = some r → M g mX12_readTastes (d + 2) (NT, NT, 0) ((.inl (some (.int r.1))), (NT, r.2, J, P)) 4 [some (.ref 205), some (.int x1)] [] (NT, I, J, P) := by
  refine L_X12_readTastes_4.partial_correctness x1 (fun I r => M g mX12_readTastes (d + 2) (NT, NT, 0) ((.inl (some (.int r.1))), (NT, r.2, J, P)) 4 [some (.ref 205), some (.int x1)] [] (NT, I, J, P)) ?_
  intro f ih I r h
  refine M_aload_n (pc := 4) dX12_readTastes_4 rfl ?_
  refine M_bipush (pc := 5) (v := 48) dX12_readTastes_5 (by decide) ?_
  refine M_bipush (pc := 7) (v := 57) dX12_readTastes_7 (by decide) ?_
  obtain ⟨r3, hr4, h⟩ := bnd h
  refine M_callVi (pc := 9) dX12_readTastes_9 v_X12_87 rfl rfl at_11 (Nat.le_of_ble_eq_true rfl) (C_X12_isAt (d := d + 1) hp hr4) (Nat.le_refl _) ?_
  refine M_if_eq (pc := 12) (tgt := 71) dX12_readTastes_12 (by decide) (fun hc5 => ?_) (fun hc5 => ?_)
  · have h := (if_pos hc5).symm.trans h
    refine M_aload_n (pc := 71) dX12_readTastes_71 rfl ?_
    refine M_getI (pc := 72) dX12_readTastes_72 f_X12_81 at_11 ?_
    refine M_aload_n (pc := 75) dX12_readTastes_75 rfl ?_
    refine M_getI (pc := 76) dX12_readTastes_76 f_X12_91 at_11 ?_
    refine M_isub (pc := 79) dX12_readTastes_79 ?_
    refine M_iconst (pc := 80) (v := 5) dX12_readTastes_80 (by decide) ?_
    refine M_icmp_ne (pc := 81) (tgt := 88) dX12_readTastes_81 (by decide) (fun hc6 => ?_) (fun hc6 => ?_)
    · have h := (if_neg hc6).symm.trans h
      refine M_iconst (pc := 88) (v := 0) dX12_readTastes_88 (by decide) ?_
      obtain rfl := Option.some.inj h
      exact M_iret (pc := 89) dX12_readTastes_89 rfl rfl rfl rfl
    · have h := (if_pos hc6).symm.trans h
      refine M_iconst (pc := 84) (v := 1) dX12_readTastes_84 (by decide) ?_
      refine M_goto (pc := 85) (tgt := 89) dX12_readTastes_85 (by decide) ?_
      obtain rfl := Option.some.inj h
      exact M_iret (pc := 89) dX12_readTastes_89 rfl rfl rfl rfl
  · have h := (if_neg hc5).symm.trans h
    refine M_aload_n (pc := 15) dX12_readTastes_15 rfl ?_
    refine M_getI (pc := 16) dX12_readTastes_16 f_X12_81 at_11 ?_
    refine M_aload_n (pc := 19) dX12_readTastes_19 rfl ?_
    refine M_getI (pc := 20) dX12_readTastes_20 f_X12_91 at_11 ?_
    refine M_isub (pc := 23) dX12_readTastes_23 ?_
    refine M_iconst (pc := 24) (v := 5) dX12_readTastes_24 (by decide) ?_
    refine M_icmp_ge (pc := 25) (tgt := 58) dX12_readTastes_25 (by decide) (fun hc7 => ?_) (fun hc7 => ?_)
    · have h := (if_pos hc7).symm.trans h
      refine M_aload_n (pc := 58) dX12_readTastes_58 rfl ?_
      refine M_dup (pc := 59) dX12_readTastes_59 rfl ?_
      refine M_getI (pc := 60) dX12_readTastes_60 f_X12_81 at_11 ?_
      refine M_iconst (pc := 63) (v := 1) dX12_readTastes_63 (by decide) ?_
      refine M_iadd (pc := 64) dX12_readTastes_64 ?_
      refine M_putI (pc := 65) dX12_readTastes_65 f_X12_81 at_11 rfl ⟨rfl, rfl⟩ ?_
      refine M_goto (pc := 68) (tgt := 4) dX12_readTastes_68 (by decide) ?_
      exact ih (up2 I 205 10 ((I 205 10) + (1 : Int32))) _ h
    · have h := (if_neg hc7).symm.trans h
      refine M_aload_n (pc := 28) dX12_readTastes_28 rfl ?_
      refine M_getR (pc := 29) dX12_readTastes_29 f_X12_13 at_11 (gc_205_1 hp).1 ?_
      refine M_iload_n (pc := 32) dX12_readTastes_32 rfl ?_
      refine M_aload_n (pc := 33) dX12_readTastes_33 rfl ?_
      refine M_getI (pc := 34) dX12_readTastes_34 f_X12_81 at_11 ?_
      refine M_aload_n (pc := 37) dX12_readTastes_37 rfl ?_
      refine M_getI (pc := 38) dX12_readTastes_38 f_X12_91 at_11 ?_
      refine M_isub (pc := 41) dX12_readTastes_41 ?_
      obtain ⟨r8, hr9, h⟩ := bnd h
      refine M_callSi (pc := 42) dX12_readTastes_42 s_X12_66 rfl rfl (Nat.le_of_ble_eq_true rfl) (C_X12_at (d := d + 1) hp hr9) (Nat.le_refl _) ?_
      refine M_aload_n (pc := 45) dX12_readTastes_45 rfl ?_
      refine M_getR (pc := 46) dX12_readTastes_46 f_X12_29 at_11 (gc_205_8 hp).1 ?_
      refine M_aload_n (pc := 49) dX12_readTastes_49 rfl ?_
      refine M_getI (pc := 50) dX12_readTastes_50 f_X12_81 at_11 ?_
      obtain ⟨v10, hv11, h⟩ := bnd h
      refine M_aldB (pc := 53) dX12_readTastes_53 (gc_205_8 hp).2 hv11 ?_
      refine M_bipush (pc := 54) (v := 48) dX12_readTastes_54 (by decide) ?_
      refine M_isub (pc := 56) dX12_readTastes_56 ?_
      obtain ⟨hq12, h⟩ := chk h
      refine M_iast (pc := 57) dX12_readTastes_57 (gc_205_1 hp).2 (inB_in hq12) ?_
      refine M_aload_n (pc := 58) dX12_readTastes_58 rfl ?_
      refine M_dup (pc := 59) dX12_readTastes_59 rfl ?_
      refine M_getI (pc := 60) dX12_readTastes_60 f_X12_81 at_11 ?_
      refine M_iconst (pc := 63) (v := 1) dX12_readTastes_63 (by decide) ?_
      refine M_iadd (pc := 64) dX12_readTastes_64 ?_
      refine M_putI (pc := 65) dX12_readTastes_65 f_X12_81 at_11 rfl ⟨rfl, rfl⟩ ?_
      refine M_goto (pc := 68) (tgt := 4) dX12_readTastes_68 (by decide) ?_
      exact ih (up2 (up2 I 206 (r8).toNatClampNeg (v10 - (48 : Int32))) 205 10 (((up2 I 206 (r8).toNatClampNeg (v10 - (48 : Int32))) 205 10) + (1 : Int32))) _ h
set_option maxRecDepth 4000 in
set_option maxHeartbeats 4000000 in
theorem C_X12_readTastes {g : gX} {d : Nat} {P : Nat → Nat → Option Nat} {I : HI} {x1 : Int32} {J : HJ} (hp : Wp P) {r : Int32 × HI} (h : F_X12_readTastes I x1 = some r) : Cm g mX12_readTastes (d + 2) [.ref 205, .int x1] (NT, I, J, P) (some (.int r.1)) (NT, r.2, J, P) := by
  unfold F_X12_readTastes at h
  refine Cm.of (by decide) (by simp [Value.category]) (Nat.le_of_ble_eq_true rfl) (Nat.le_refl _) (ls := [some (.ref 205), some (.int x1)]) rfl ?_
  refine M_aload_n (pc := 0) dX12_readTastes_0 rfl ?_
  obtain ⟨r1, hr2, h⟩ := bnd h
  refine M_callVv (pc := 1) dX12_readTastes_1 v_X12_94 rfl rfl at_11 (Nat.le_of_ble_eq_true rfl) (C_X12_blanks (d := d + 0) hp hr2) (Nat.le_refl _) ?_
  exact LC_X12_readTastes_4 (P := P) hp r1 _ h
def F_X12_readFirst (I : HI) (x1 : Int32) : Option (Int32 × HI) :=
  (F_X12_passes I 50) >>= fun r1 => if r1.1 = 0 then some ((1 : Int32), r1.2) else (F_X12_number r1.2 (0 : Int32) (999 : Int32)) >>= fun r4 => if 0 ≤ r4.1 then (F_X12_after r4.2 51 (0 : Int32) (7 : Int32)) >>= fun r7 => if 0 ≤ r7.1 then (F_X12_passes r7.2 52) >>= fun r10 => if r10.1 = 0 then (F_X12_at r10.2 x1 (5 : Int32)) >>= fun r13 => if inB r13 2051 = true then (F_X12_at (up2 r10.2 206 (r13).toNatClampNeg r4.1) x1 (6 : Int32)) >>= fun r16 => if inB r16 2051 = true then (F_X12_at (up2 (up2 r10.2 206 (r13).toNatClampNeg r4.1) 206 (r16).toNatClampNeg r7.1) x1 (7 : Int32)) >>= fun r19 => if inB r19 2051 = true then some ((1 : Int32), (up2 (up2 (up2 r10.2 206 (r13).toNatClampNeg r4.1) 206 (r16).toNatClampNeg r7.1) 206 (r19).toNatClampNeg (-1 : Int32))) else none else none else none else (F_X12_number r10.2 (0 : Int32) (7 : Int32)) >>= fun r22 => if 0 ≤ r22.1 then (F_X12_at r22.2 x1 (5 : Int32)) >>= fun r25 => if inB r25 2051 = true then (F_X12_at (up2 r22.2 206 (r25).toNatClampNeg r4.1) x1 (6 : Int32)) >>= fun r28 => if inB r28 2051 = true then (F_X12_at (up2 (up2 r22.2 206 (r25).toNatClampNeg r4.1) 206 (r28).toNatClampNeg r7.1) x1 (7 : Int32)) >>= fun r31 => if inB r31 2051 = true then some ((1 : Int32), (up2 (up2 (up2 r22.2 206 (r25).toNatClampNeg r4.1) 206 (r28).toNatClampNeg r7.1) 206 (r31).toNatClampNeg r22.1)) else none else none else none else some ((0 : Int32), r22.2) else some ((0 : Int32), r7.2) else some ((0 : Int32), r4.2)
set_option maxRecDepth 4000 in
set_option maxHeartbeats 4000000 in
theorem C_X12_readFirst {g : gX} {d : Nat} {P : Nat → Nat → Option Nat} {I : HI} {x1 : Int32} {J : HJ} (hp : Wp P) {r : Int32 × HI} (h : F_X12_readFirst I x1 = some r) : Cm g mX12_readFirst (d + 6) [.ref 205, .int x1] (NT, I, J, P) (some (.int r.1)) (NT, r.2, J, P) := by
  unfold F_X12_readFirst at h
  refine Cm.of (by decide) (by simp [Value.category]) (Nat.le_of_ble_eq_true rfl) (Nat.le_refl _) (ls := [some (.ref 205), some (.int x1), none, none, none, none]) rfl ?_
  refine M_aload_n (pc := 0) dX12_readFirst_0 rfl ?_
  refine M_ldcS (pc := 1) (j := 50) dX12_readFirst_1 (by decide) str_X12_116 ?_
  obtain ⟨r1, hr2, h⟩ := bnd h
  refine M_callVi (pc := 3) dX12_readFirst_3 v_X12_118 rfl rfl at_11 (Nat.le_of_ble_eq_true rfl) (C_X12_passes (d := d + 0) hp (by decide) hr2) (Nat.le_refl _) ?_
  refine M_if_ne (pc := 6) (tgt := 11) dX12_readFirst_6 (by decide) (fun hc3 => ?_) (fun hc3 => ?_)
  · have h := (if_neg hc3).symm.trans h
    refine M_aload_n (pc := 11) dX12_readFirst_11 rfl ?_
    refine M_iconst (pc := 12) (v := 0) dX12_readFirst_12 (by decide) ?_
    refine M_sipush (pc := 13) (v := 999) dX12_readFirst_13 (by decide) ?_
    obtain ⟨r4, hr5, h⟩ := bnd h
    refine M_callVi (pc := 16) dX12_readFirst_16 v_X12_113 rfl rfl at_11 (Nat.le_of_ble_eq_true rfl) (C_X12_number (d := d + 3) hp hr5) (Nat.le_refl _) ?_
    refine M_istore_n (pc := 19) (ls' := [some (.ref 205), some (.int x1), some (.int r4.1), none, none, none]) dX12_readFirst_19 (by decide) rfl ?_
    refine M_iload_n (pc := 20) dX12_readFirst_20 rfl ?_
    refine M_if_ge (pc := 21) (tgt := 28) dX12_readFirst_21 (by decide) (fun hc6 => ?_) (fun hc6 => ?_)
    · have h := (if_pos hc6).symm.trans h
      refine M_aload_n (pc := 28) dX12_readFirst_28 rfl ?_
      refine M_ldcS (pc := 29) (j := 51) dX12_readFirst_29 (by decide) str_X12_121 ?_
      refine M_iconst (pc := 31) (v := 0) dX12_readFirst_31 (by decide) ?_
      refine M_bipush (pc := 32) (v := 7) dX12_readFirst_32 (by decide) ?_
      obtain ⟨r7, hr8, h⟩ := bnd h
      refine M_callVi (pc := 34) dX12_readFirst_34 v_X12_122 rfl rfl at_11 (Nat.le_of_ble_eq_true rfl) (C_X12_after (d := d + 0) hp (by decide) hr8) (Nat.le_refl _) ?_
      refine M_istore_n (pc := 37) (ls' := [some (.ref 205), some (.int x1), some (.int r4.1), some (.int r7.1), none, none]) dX12_readFirst_37 (by decide) rfl ?_
      refine M_iload_n (pc := 38) dX12_readFirst_38 rfl ?_
      refine M_if_ge (pc := 39) (tgt := 44) dX12_readFirst_39 (by decide) (fun hc9 => ?_) (fun hc9 => ?_)
      · have h := (if_pos hc9).symm.trans h
        refine M_aload_n (pc := 44) dX12_readFirst_44 rfl ?_
        refine M_ldcS (pc := 45) (j := 52) dX12_readFirst_45 (by decide) str_X12_126 ?_
        obtain ⟨r10, hr11, h⟩ := bnd h
        refine M_callVi (pc := 47) dX12_readFirst_47 v_X12_118 rfl rfl at_11 (Nat.le_of_ble_eq_true rfl) (C_X12_passes (d := d + 0) hp (by decide) hr11) (Nat.le_refl _) ?_
        refine M_istore (pc := 50) (ls' := [some (.ref 205), some (.int x1), some (.int r4.1), some (.int r7.1), some (.int r10.1), none]) dX12_readFirst_50 (by decide) rfl ?_
        refine M_iload (pc := 52) dX12_readFirst_52 rfl ?_
        refine M_if_eq (pc := 54) (tgt := 67) dX12_readFirst_54 (by decide) (fun hc12 => ?_) (fun hc12 => ?_)
        · have h := (if_pos hc12).symm.trans h
          refine M_iconst (pc := 67) (v := -1) dX12_readFirst_67 (by decide) ?_
          refine M_istore (pc := 68) (ls' := [some (.ref 205), some (.int x1), some (.int r4.1), some (.int r7.1), some (.int r10.1), some (.int (-1 : Int32))]) dX12_readFirst_68 (by decide) rfl ?_
          refine M_iload (pc := 70) dX12_readFirst_70 rfl ?_
          refine M_if_eq (pc := 72) (tgt := 82) dX12_readFirst_72 (by decide) (fun _ => ?_) (fun q => absurd hc12 q)
          refine M_aload_n (pc := 82) dX12_readFirst_82 rfl ?_
          refine M_getR (pc := 83) dX12_readFirst_83 f_X12_13 at_11 (gc_205_1 hp).1 ?_
          refine M_iload_n (pc := 86) dX12_readFirst_86 rfl ?_
          refine M_iconst (pc := 87) (v := 5) dX12_readFirst_87 (by decide) ?_
          obtain ⟨r13, hr14, h⟩ := bnd h
          refine M_callSi (pc := 88) dX12_readFirst_88 s_X12_66 rfl rfl (Nat.le_of_ble_eq_true rfl) (C_X12_at (d := d + 5) hp hr14) (Nat.le_refl _) ?_
          refine M_iload_n (pc := 91) dX12_readFirst_91 rfl ?_
          obtain ⟨hq15, h⟩ := chk h
          refine M_iast (pc := 92) dX12_readFirst_92 (gc_205_1 hp).2 (inB_in hq15) ?_
          refine M_aload_n (pc := 93) dX12_readFirst_93 rfl ?_
          refine M_getR (pc := 94) dX12_readFirst_94 f_X12_13 at_11 (gc_205_1 hp).1 ?_
          refine M_iload_n (pc := 97) dX12_readFirst_97 rfl ?_
          refine M_bipush (pc := 98) (v := 6) dX12_readFirst_98 (by decide) ?_
          obtain ⟨r16, hr17, h⟩ := bnd h
          refine M_callSi (pc := 100) dX12_readFirst_100 s_X12_66 rfl rfl (Nat.le_of_ble_eq_true rfl) (C_X12_at (d := d + 5) hp hr17) (Nat.le_refl _) ?_
          refine M_iload_n (pc := 103) dX12_readFirst_103 rfl ?_
          obtain ⟨hq18, h⟩ := chk h
          refine M_iast (pc := 104) dX12_readFirst_104 (gc_205_1 hp).2 (inB_in hq18) ?_
          refine M_aload_n (pc := 105) dX12_readFirst_105 rfl ?_
          refine M_getR (pc := 106) dX12_readFirst_106 f_X12_13 at_11 (gc_205_1 hp).1 ?_
          refine M_iload_n (pc := 109) dX12_readFirst_109 rfl ?_
          refine M_bipush (pc := 110) (v := 7) dX12_readFirst_110 (by decide) ?_
          obtain ⟨r19, hr20, h⟩ := bnd h
          refine M_callSi (pc := 112) dX12_readFirst_112 s_X12_66 rfl rfl (Nat.le_of_ble_eq_true rfl) (C_X12_at (d := d + 5) hp hr20) (Nat.le_refl _) ?_
          refine M_iload (pc := 115) dX12_readFirst_115 rfl ?_
          obtain ⟨hq21, h⟩ := chk h
          refine M_iast (pc := 117) dX12_readFirst_117 (gc_205_1 hp).2 (inB_in hq21) ?_
          refine M_iconst (pc := 118) (v := 1) dX12_readFirst_118 (by decide) ?_
          obtain rfl := Option.some.inj h
          exact M_iret (pc := 119) dX12_readFirst_119 rfl rfl rfl rfl
        · have h := (if_neg hc12).symm.trans h
          refine M_aload_n (pc := 57) dX12_readFirst_57 rfl ?_
          refine M_iconst (pc := 58) (v := 0) dX12_readFirst_58 (by decide) ?_
          refine M_bipush (pc := 59) (v := 7) dX12_readFirst_59 (by decide) ?_
          obtain ⟨r22, hr23, h⟩ := bnd h
          refine M_callVi (pc := 61) dX12_readFirst_61 v_X12_113 rfl rfl at_11 (Nat.le_of_ble_eq_true rfl) (C_X12_number (d := d + 3) hp hr23) (Nat.le_refl _) ?_
          refine M_goto (pc := 64) (tgt := 68) dX12_readFirst_64 (by decide) ?_
          refine M_istore (pc := 68) (ls' := [some (.ref 205), some (.int x1), some (.int r4.1), some (.int r7.1), some (.int r10.1), some (.int r22.1)]) dX12_readFirst_68 (by decide) rfl ?_
          refine M_iload (pc := 70) dX12_readFirst_70 rfl ?_
          refine M_if_eq (pc := 72) (tgt := 82) dX12_readFirst_72 (by decide) (fun q => absurd q hc12) (fun _ => ?_)
          refine M_iload (pc := 75) dX12_readFirst_75 rfl ?_
          refine M_if_ge (pc := 77) (tgt := 82) dX12_readFirst_77 (by decide) (fun hc24 => ?_) (fun hc24 => ?_)
          · have h := (if_pos hc24).symm.trans h
            refine M_aload_n (pc := 82) dX12_readFirst_82 rfl ?_
            refine M_getR (pc := 83) dX12_readFirst_83 f_X12_13 at_11 (gc_205_1 hp).1 ?_
            refine M_iload_n (pc := 86) dX12_readFirst_86 rfl ?_
            refine M_iconst (pc := 87) (v := 5) dX12_readFirst_87 (by decide) ?_
            obtain ⟨r25, hr26, h⟩ := bnd h
            refine M_callSi (pc := 88) dX12_readFirst_88 s_X12_66 rfl rfl (Nat.le_of_ble_eq_true rfl) (C_X12_at (d := d + 5) hp hr26) (Nat.le_refl _) ?_
            refine M_iload_n (pc := 91) dX12_readFirst_91 rfl ?_
            obtain ⟨hq27, h⟩ := chk h
            refine M_iast (pc := 92) dX12_readFirst_92 (gc_205_1 hp).2 (inB_in hq27) ?_
            refine M_aload_n (pc := 93) dX12_readFirst_93 rfl ?_
            refine M_getR (pc := 94) dX12_readFirst_94 f_X12_13 at_11 (gc_205_1 hp).1 ?_
            refine M_iload_n (pc := 97) dX12_readFirst_97 rfl ?_
            refine M_bipush (pc := 98) (v := 6) dX12_readFirst_98 (by decide) ?_
            obtain ⟨r28, hr29, h⟩ := bnd h
            refine M_callSi (pc := 100) dX12_readFirst_100 s_X12_66 rfl rfl (Nat.le_of_ble_eq_true rfl) (C_X12_at (d := d + 5) hp hr29) (Nat.le_refl _) ?_
            refine M_iload_n (pc := 103) dX12_readFirst_103 rfl ?_
            obtain ⟨hq30, h⟩ := chk h
            refine M_iast (pc := 104) dX12_readFirst_104 (gc_205_1 hp).2 (inB_in hq30) ?_
            refine M_aload_n (pc := 105) dX12_readFirst_105 rfl ?_
            refine M_getR (pc := 106) dX12_readFirst_106 f_X12_13 at_11 (gc_205_1 hp).1 ?_
            refine M_iload_n (pc := 109) dX12_readFirst_109 rfl ?_
            refine M_bipush (pc := 110) (v := 7) dX12_readFirst_110 (by decide) ?_
            obtain ⟨r31, hr32, h⟩ := bnd h
            refine M_callSi (pc := 112) dX12_readFirst_112 s_X12_66 rfl rfl (Nat.le_of_ble_eq_true rfl) (C_X12_at (d := d + 5) hp hr32) (Nat.le_refl _) ?_
            refine M_iload (pc := 115) dX12_readFirst_115 rfl ?_
            obtain ⟨hq33, h⟩ := chk h
            refine M_iast (pc := 117) dX12_readFirst_117 (gc_205_1 hp).2 (inB_in hq33) ?_
            refine M_iconst (pc := 118) (v := 1) dX12_readFirst_118 (by decide) ?_
            obtain rfl := Option.some.inj h
            exact M_iret (pc := 119) dX12_readFirst_119 rfl rfl rfl rfl
          · have h := (if_neg hc24).symm.trans h
            refine M_iconst (pc := 80) (v := 0) dX12_readFirst_80 (by decide) ?_
            obtain rfl := Option.some.inj h
            exact M_iret (pc := 81) dX12_readFirst_81 rfl rfl rfl rfl
      · have h := (if_neg hc9).symm.trans h
        refine M_iconst (pc := 42) (v := 0) dX12_readFirst_42 (by decide) ?_
        obtain rfl := Option.some.inj h
        exact M_iret (pc := 43) dX12_readFirst_43 rfl rfl rfl rfl
    · have h := (if_neg hc6).symm.trans h
      refine M_iconst (pc := 24) (v := -1) dX12_readFirst_24 (by decide) ?_
      refine M_goto (pc := 25) (tgt := 37) dX12_readFirst_25 (by decide) ?_
      refine M_istore_n (pc := 37) (ls' := [some (.ref 205), some (.int x1), some (.int r4.1), some (.int (-1 : Int32)), none, none]) dX12_readFirst_37 (by decide) rfl ?_
      refine M_iload_n (pc := 38) dX12_readFirst_38 rfl ?_
      refine M_if_ge (pc := 39) (tgt := 44) dX12_readFirst_39 (by decide) (fun hc34 => absurd hc34 (by decide)) (fun hc34 => ?_)
      refine M_iconst (pc := 42) (v := 0) dX12_readFirst_42 (by decide) ?_
      obtain rfl := Option.some.inj h
      exact M_iret (pc := 43) dX12_readFirst_43 rfl rfl rfl rfl
  · have h := (if_pos hc3).symm.trans h
    refine M_iconst (pc := 9) (v := 1) dX12_readFirst_9 (by decide) ?_
    obtain rfl := Option.some.inj h
    exact M_iret (pc := 10) dX12_readFirst_10 rfl rfl rfl rfl
def L_X12_readDish_23 (x1 : Int32) (x2 : Int32) (I : HI) : Option (Int32 × HI) :=
  if (8 : Int32) ≤ x2 then (F_X12_readFirst I x1) >>= fun r8 => if r8.1 = 0 then some ((0 : Int32), r8.2) else some ((1 : Int32), (up2 r8.2 206 0 ((r8.2 206 0) + (1 : Int32)))) else (F_X12_at I x1 x2) >>= fun r11 => if inB r11 2051 = true then L_X12_readDish_23 x1 (x2 + (1 : Int32)) (up2 I 206 (r11).toNatClampNeg (-1 : Int32)) else none
partial_fixpoint
def F_X12_readDish (I : HI) : Option (Int32 × HI) :=
  (F_X12_dishes I) >>= fun r1 => if r1 = (12 : Int32) then some ((0 : Int32), I) else (F_X12_readTastes I r1) >>= fun r4 => if r4.1 = 0 then some ((0 : Int32), r4.2) else L_X12_readDish_23 r1 (5 : Int32) r4.2
set_option maxRecDepth 4000 in
set_option maxHeartbeats 4000000 in
theorem LC_X12_readDish_23 {g : gX} {d : Nat} {P : Nat → Nat → Option Nat} {J : HJ} {x1 : Int32} (hp : Wp P) : ∀ (x2 : Int32) (I : HI) (r : Int32 × HI), L_X12_readDish_23 x1 x2 I = some r → M g mX12_readDish (d + 7) (NT, NT, 0) ((.inl (some (.int r.1))), (NT, r.2, J, P)) 23 [some (.ref 205), some (.int x1), some (.int x2)] [] (NT, I, J, P) := by
  refine L_X12_readDish_23.partial_correctness x1 (fun x2 I r => M g mX12_readDish (d + 7) (NT, NT, 0) ((.inl (some (.int r.1))), (NT, r.2, J, P)) 23 [some (.ref 205), some (.int x1), some (.int x2)] [] (NT, I, J, P)) ?_
  intro f ih x2 I r h
  refine M_iload_n (pc := 23) dX12_readDish_23 rfl ?_
  refine M_bipush (pc := 24) (v := 8) dX12_readDish_24 (by decide) ?_
  refine M_icmp_ge (pc := 26) (tgt := 46) dX12_readDish_26 (by decide) (fun hc7 => ?_) (fun hc7 => ?_)
  · have h := (if_pos hc7).symm.trans h
    refine M_aload_n (pc := 46) dX12_readDish_46 rfl ?_
    refine M_iload_n (pc := 47) dX12_readDish_47 rfl ?_
    obtain ⟨r8, hr9, h⟩ := bnd h
    refine M_callVi (pc := 48) dX12_readDish_48 v_X12_132 rfl rfl at_11 (Nat.le_of_ble_eq_true rfl) (C_X12_readFirst (d := d + 0) hp hr9) (Nat.le_refl _) ?_
    refine M_if_ne (pc := 51) (tgt := 56) dX12_readDish_51 (by decide) (fun hc10 => ?_) (fun hc10 => ?_)
    · have h := (if_neg hc10).symm.trans h
      refine M_aload_n (pc := 56) dX12_readDish_56 rfl ?_
      refine M_getR (pc := 57) dX12_readDish_57 f_X12_13 at_11 (gc_205_1 hp).1 ?_
      refine M_iconst (pc := 60) (v := 0) dX12_readDish_60 (by decide) ?_
      refine M_dup2 (pc := 61) dX12_readDish_61 rfl rfl ?_
      refine M_ildc (pc := 62) (j := 0) dX12_readDish_62 (gc_205_1 hp).2 (by decide) (by decide) ?_
      refine M_iconst (pc := 63) (v := 1) dX12_readDish_63 (by decide) ?_
      refine M_iadd (pc := 64) dX12_readDish_64 ?_
      refine M_istc (pc := 65) (j := 0) dX12_readDish_65 (gc_205_1 hp).2 (by decide) (by decide) ?_
      refine M_iconst (pc := 66) (v := 1) dX12_readDish_66 (by decide) ?_
      obtain rfl := Option.some.inj h
      exact M_iret (pc := 67) dX12_readDish_67 rfl rfl rfl rfl
    · have h := (if_pos hc10).symm.trans h
      refine M_iconst (pc := 54) (v := 0) dX12_readDish_54 (by decide) ?_
      obtain rfl := Option.some.inj h
      exact M_iret (pc := 55) dX12_readDish_55 rfl rfl rfl rfl
  · have h := (if_neg hc7).symm.trans h
    refine M_aload_n (pc := 29) dX12_readDish_29 rfl ?_
    refine M_getR (pc := 30) dX12_readDish_30 f_X12_13 at_11 (gc_205_1 hp).1 ?_
    refine M_iload_n (pc := 33) dX12_readDish_33 rfl ?_
    refine M_iload_n (pc := 34) dX12_readDish_34 rfl ?_
    obtain ⟨r11, hr12, h⟩ := bnd h
    refine M_callSi (pc := 35) dX12_readDish_35 s_X12_66 rfl rfl (Nat.le_of_ble_eq_true rfl) (C_X12_at (d := d + 6) hp hr12) (Nat.le_refl _) ?_
    refine M_iconst (pc := 38) (v := -1) dX12_readDish_38 (by decide) ?_
    obtain ⟨hq13, h⟩ := chk h
    refine M_iast (pc := 39) dX12_readDish_39 (gc_205_1 hp).2 (inB_in hq13) ?_
    refine M_iinc (pc := 40) (v := (x2 + (1 : Int32))) (ls' := [some (.ref 205), some (.int x1), some (.int (x2 + (1 : Int32)))]) dX12_readDish_40 rfl rfl (by decide) rfl ?_
    refine M_goto (pc := 43) (tgt := 23) dX12_readDish_43 (by decide) ?_
    exact ih (x2 + (1 : Int32)) (up2 I 206 (r11).toNatClampNeg (-1 : Int32)) _ h
set_option maxRecDepth 4000 in
set_option maxHeartbeats 4000000 in
theorem C_X12_readDish {g : gX} {d : Nat} {P : Nat → Nat → Option Nat} {I : HI} {J : HJ} (hp : Wp P) {r : Int32 × HI} (h : F_X12_readDish I = some r) : Cm g mX12_readDish (d + 7) [.ref 205] (NT, I, J, P) (some (.int r.1)) (NT, r.2, J, P) := by
  unfold F_X12_readDish at h
  refine Cm.of (by decide) (by simp [Value.category]) (Nat.le_of_ble_eq_true rfl) (Nat.le_refl _) (ls := [some (.ref 205), none, none]) rfl ?_
  refine M_aload_n (pc := 0) dX12_readDish_0 rfl ?_
  obtain ⟨r1, hr2, h⟩ := bnd h
  refine M_callVi (pc := 1) dX12_readDish_1 v_X12_62 rfl rfl at_11 (Nat.le_of_ble_eq_true rfl) (C_X12_dishes (d := d + 6) hp hr2) (Nat.le_refl _) ?_
  refine M_istore_n (pc := 4) (ls' := [some (.ref 205), some (.int r1), none]) dX12_readDish_4 (by decide) rfl ?_
  refine M_iload_n (pc := 5) dX12_readDish_5 rfl ?_
  refine M_bipush (pc := 6) (v := 12) dX12_readDish_6 (by decide) ?_
  refine M_icmp_eq (pc := 8) (tgt := 19) dX12_readDish_8 (by decide) (fun hc3 => ?_) (fun hc3 => ?_)
  · have h := (if_pos hc3).symm.trans h
    refine M_iconst (pc := 19) (v := 0) dX12_readDish_19 (by decide) ?_
    obtain rfl := Option.some.inj h
    exact M_iret (pc := 20) dX12_readDish_20 rfl rfl rfl rfl
  · have h := (if_neg hc3).symm.trans h
    refine M_aload_n (pc := 11) dX12_readDish_11 rfl ?_
    refine M_iload_n (pc := 12) dX12_readDish_12 rfl ?_
    obtain ⟨r4, hr5, h⟩ := bnd h
    refine M_callVi (pc := 13) dX12_readDish_13 v_X12_128 rfl rfl at_11 (Nat.le_of_ble_eq_true rfl) (C_X12_readTastes (d := d + 4) hp hr5) (Nat.le_refl _) ?_
    refine M_if_ne (pc := 16) (tgt := 21) dX12_readDish_16 (by decide) (fun hc6 => ?_) (fun hc6 => ?_)
    · have h := (if_neg hc6).symm.trans h
      refine M_iconst (pc := 21) (v := 5) dX12_readDish_21 (by decide) ?_
      refine M_istore_n (pc := 22) (ls' := [some (.ref 205), some (.int r1), some (.int (5 : Int32))]) dX12_readDish_22 (by decide) rfl ?_
      exact LC_X12_readDish_23 (P := P) hp (5 : Int32) r4.2 _ h
    · have h := (if_pos hc6).symm.trans h
      refine M_iconst (pc := 19) (v := 0) dX12_readDish_19 (by decide) ?_
      obtain rfl := Option.some.inj h
      exact M_iret (pc := 20) dX12_readDish_20 rfl rfl rfl rfl
def F_X12_readToday (I : HI) : Option (Int32 × HI) :=
  (F_X12_readNumber I (3 : Int32) (0 : Int32) (999 : Int32)) >>= fun r1 => if r1.1 = 0 then some ((0 : Int32), r1.2) else some ((1 : Int32), (up2 r1.2 206 4 (r1.2 206 3)))
set_option maxRecDepth 4000 in
set_option maxHeartbeats 4000000 in
theorem C_X12_readToday {g : gX} {d : Nat} {P : Nat → Nat → Option Nat} {I : HI} {J : HJ} (hp : Wp P) {r : Int32 × HI} (h : F_X12_readToday I = some r) : Cm g mX12_readToday (d + 4) [.ref 205] (NT, I, J, P) (some (.int r.1)) (NT, r.2, J, P) := by
  unfold F_X12_readToday at h
  refine Cm.of (by decide) (by simp [Value.category]) (Nat.le_of_ble_eq_true rfl) (Nat.le_refl _) (ls := [some (.ref 205)]) rfl ?_
  refine M_aload_n (pc := 0) dX12_readToday_0 rfl ?_
  refine M_iconst (pc := 1) (v := 3) dX12_readToday_1 (by decide) ?_
  refine M_iconst (pc := 2) (v := 0) dX12_readToday_2 (by decide) ?_
  refine M_sipush (pc := 3) (v := 999) dX12_readToday_3 (by decide) ?_
  obtain ⟨r1, hr2, h⟩ := bnd h
  refine M_callVi (pc := 6) dX12_readToday_6 v_X12_135 rfl rfl at_11 (Nat.le_of_ble_eq_true rfl) (C_X12_readNumber (d := d + 0) hp hr2) (Nat.le_refl _) ?_
  refine M_if_ne (pc := 9) (tgt := 14) dX12_readToday_9 (by decide) (fun hc3 => ?_) (fun hc3 => ?_)
  · have h := (if_neg hc3).symm.trans h
    refine M_aload_n (pc := 14) dX12_readToday_14 rfl ?_
    refine M_getR (pc := 15) dX12_readToday_15 f_X12_13 at_11 (gc_205_1 hp).1 ?_
    refine M_iconst (pc := 18) (v := 4) dX12_readToday_18 (by decide) ?_
    refine M_aload_n (pc := 19) dX12_readToday_19 rfl ?_
    refine M_getR (pc := 20) dX12_readToday_20 f_X12_13 at_11 (gc_205_1 hp).1 ?_
    refine M_iconst (pc := 23) (v := 3) dX12_readToday_23 (by decide) ?_
    refine M_ildc (pc := 24) (j := 3) dX12_readToday_24 (gc_205_1 hp).2 (by decide) (by decide) ?_
    refine M_istc (pc := 25) (j := 4) dX12_readToday_25 (gc_205_1 hp).2 (by decide) (by decide) ?_
    refine M_iconst (pc := 26) (v := 1) dX12_readToday_26 (by decide) ?_
    obtain rfl := Option.some.inj h
    exact M_iret (pc := 27) dX12_readToday_27 rfl rfl rfl rfl
  · have h := (if_pos hc3).symm.trans h
    refine M_iconst (pc := 12) (v := 0) dX12_readToday_12 (by decide) ?_
    obtain rfl := Option.some.inj h
    exact M_iret (pc := 13) dX12_readToday_13 rfl rfl rfl rfl
def F_X12_readWar (I : HI) : Option (Int32 × HI) :=
  (F_X12_number I (0 : Int32) (999 : Int32)) >>= fun r1 => if 0 ≤ r1.1 then (F_X12_after r1.2 53 r1.1 (999 : Int32)) >>= fun r4 => if 0 ≤ r4.1 then some ((1 : Int32), (up2 (up2 r4.2 206 9 r1.1) 206 10 r4.1)) else some ((0 : Int32), r4.2) else some ((0 : Int32), r1.2)
set_option maxRecDepth 4000 in
set_option maxHeartbeats 4000000 in
theorem C_X12_readWar {g : gX} {d : Nat} {P : Nat → Nat → Option Nat} {I : HI} {J : HJ} (hp : Wp P) {r : Int32 × HI} (h : F_X12_readWar I = some r) : Cm g mX12_readWar (d + 6) [.ref 205] (NT, I, J, P) (some (.int r.1)) (NT, r.2, J, P) := by
  unfold F_X12_readWar at h
  refine Cm.of (by decide) (by simp [Value.category]) (Nat.le_of_ble_eq_true rfl) (Nat.le_refl _) (ls := [some (.ref 205), none, none]) rfl ?_
  refine M_aload_n (pc := 0) dX12_readWar_0 rfl ?_
  refine M_iconst (pc := 1) (v := 0) dX12_readWar_1 (by decide) ?_
  refine M_sipush (pc := 2) (v := 999) dX12_readWar_2 (by decide) ?_
  obtain ⟨r1, hr2, h⟩ := bnd h
  refine M_callVi (pc := 5) dX12_readWar_5 v_X12_113 rfl rfl at_11 (Nat.le_of_ble_eq_true rfl) (C_X12_number (d := d + 3) hp hr2) (Nat.le_refl _) ?_
  refine M_istore_n (pc := 8) (ls' := [some (.ref 205), some (.int r1.1), none]) dX12_readWar_8 (by decide) rfl ?_
  refine M_iload_n (pc := 9) dX12_readWar_9 rfl ?_
  refine M_if_ge (pc := 10) (tgt := 17) dX12_readWar_10 (by decide) (fun hc3 => ?_) (fun hc3 => ?_)
  · have h := (if_pos hc3).symm.trans h
    refine M_aload_n (pc := 17) dX12_readWar_17 rfl ?_
    refine M_ldcS (pc := 18) (j := 53) dX12_readWar_18 (by decide) str_X12_138 ?_
    refine M_iload_n (pc := 20) dX12_readWar_20 rfl ?_
    refine M_sipush (pc := 21) (v := 999) dX12_readWar_21 (by decide) ?_
    obtain ⟨r4, hr5, h⟩ := bnd h
    refine M_callVi (pc := 24) dX12_readWar_24 v_X12_122 rfl rfl at_11 (Nat.le_of_ble_eq_true rfl) (C_X12_after (d := d + 0) hp (by decide) hr5) (Nat.le_refl _) ?_
    refine M_istore_n (pc := 27) (ls' := [some (.ref 205), some (.int r1.1), some (.int r4.1)]) dX12_readWar_27 (by decide) rfl ?_
    refine M_iload_n (pc := 28) dX12_readWar_28 rfl ?_
    refine M_if_ge (pc := 29) (tgt := 34) dX12_readWar_29 (by decide) (fun hc6 => ?_) (fun hc6 => ?_)
    · have h := (if_pos hc6).symm.trans h
      refine M_aload_n (pc := 34) dX12_readWar_34 rfl ?_
      refine M_getR (pc := 35) dX12_readWar_35 f_X12_13 at_11 (gc_205_1 hp).1 ?_
      refine M_bipush (pc := 38) (v := 9) dX12_readWar_38 (by decide) ?_
      refine M_iload_n (pc := 40) dX12_readWar_40 rfl ?_
      refine M_istc (pc := 41) (j := 9) dX12_readWar_41 (gc_205_1 hp).2 (by decide) (by decide) ?_
      refine M_aload_n (pc := 42) dX12_readWar_42 rfl ?_
      refine M_getR (pc := 43) dX12_readWar_43 f_X12_13 at_11 (gc_205_1 hp).1 ?_
      refine M_bipush (pc := 46) (v := 10) dX12_readWar_46 (by decide) ?_
      refine M_iload_n (pc := 48) dX12_readWar_48 rfl ?_
      refine M_istc (pc := 49) (j := 10) dX12_readWar_49 (gc_205_1 hp).2 (by decide) (by decide) ?_
      refine M_iconst (pc := 50) (v := 1) dX12_readWar_50 (by decide) ?_
      obtain rfl := Option.some.inj h
      exact M_iret (pc := 51) dX12_readWar_51 rfl rfl rfl rfl
    · have h := (if_neg hc6).symm.trans h
      refine M_iconst (pc := 32) (v := 0) dX12_readWar_32 (by decide) ?_
      obtain rfl := Option.some.inj h
      exact M_iret (pc := 33) dX12_readWar_33 rfl rfl rfl rfl
  · have h := (if_neg hc3).symm.trans h
    refine M_iconst (pc := 13) (v := -1) dX12_readWar_13 (by decide) ?_
    refine M_goto (pc := 14) (tgt := 27) dX12_readWar_14 (by decide) ?_
    refine M_istore_n (pc := 27) (ls' := [some (.ref 205), some (.int r1.1), some (.int (-1 : Int32))]) dX12_readWar_27 (by decide) rfl ?_
    refine M_iload_n (pc := 28) dX12_readWar_28 rfl ?_
    refine M_if_ge (pc := 29) (tgt := 34) dX12_readWar_29 (by decide) (fun hc7 => absurd hc7 (by decide)) (fun hc7 => ?_)
    refine M_iconst (pc := 32) (v := 0) dX12_readWar_32 (by decide) ?_
    obtain rfl := Option.some.inj h
    exact M_iret (pc := 33) dX12_readWar_33 rfl rfl rfl rfl
def F_X12_readLifeLine (I : HI) : Option (Int32 × HI) :=
  (F_X12_isWord I 54) >>= fun r1 => if r1 = 0 then (F_X12_isWord I 55) >>= fun r4 => if r4 = 0 then (F_X12_isWord I 56) >>= fun r7 => if r7 = 0 then (F_X12_isWord I 57) >>= fun r10 => if r10 = 0 then (F_X12_isWord I 58) >>= fun r13 => if r13 = 0 then (F_X12_isWord I 59) >>= fun r16 => if r16 = 0 then (F_X12_isWord I 60) >>= fun r19 => if r19 = 0 then some ((0 : Int32), I) else (F_X12_readNumber I (13 : Int32) (0 : Int32) (50 : Int32)) >>= fun r22 => if r22.1 = 0 then some ((0 : Int32), r22.2) else some ((1 : Int32), r22.2) else (F_X12_readNumber I (12 : Int32) (0 : Int32) (7 : Int32)) >>= fun r25 => if r25.1 = 0 ∨ r25.1 = 1 then some (r25.1, r25.2) else none else (F_X12_readNumber I (11 : Int32) (0 : Int32) (100 : Int32)) >>= fun r28 => if r28.1 = 0 ∨ r28.1 = 1 then some (r28.1, r28.2) else none else (F_X12_readNumber I (8 : Int32) (0 : Int32) (45 : Int32)) >>= fun r31 => if r31.1 = 0 ∨ r31.1 = 1 then some (r31.1, r31.2) else none else (F_X12_readWar I) >>= fun r34 => if r34.1 = 0 ∨ r34.1 = 1 then some (r34.1, r34.2) else none else (F_X12_readToday I) >>= fun r37 => if r37.1 = 0 ∨ r37.1 = 1 then some (r37.1, r37.2) else none else (F_X12_readDish I) >>= fun r40 => if r40.1 = 0 ∨ r40.1 = 1 then some (r40.1, r40.2) else none
set_option maxRecDepth 4000 in
set_option maxHeartbeats 4000000 in
theorem C_X12_readLifeLine {g : gX} {d : Nat} {P : Nat → Nat → Option Nat} {I : HI} {J : HJ} (hp : Wp P) {r : Int32 × HI} (h : F_X12_readLifeLine I = some r) : Cm g mX12_readLifeLine (d + 8) [.ref 205] (NT, I, J, P) (some (.int r.1)) (NT, r.2, J, P) := by
  unfold F_X12_readLifeLine at h
  refine Cm.of (by decide) (by simp [Value.category]) (Nat.le_of_ble_eq_true rfl) (Nat.le_refl _) (ls := [some (.ref 205)]) rfl ?_
  refine M_aload_n (pc := 0) dX12_readLifeLine_0 rfl ?_
  refine M_ldcS (pc := 1) (j := 54) dX12_readLifeLine_1 (by decide) str_X12_140 ?_
  obtain ⟨r1, hr2, h⟩ := bnd h
  refine M_callVi (pc := 3) dX12_readLifeLine_3 v_X12_109 rfl rfl at_11 (Nat.le_of_ble_eq_true rfl) (C_X12_isWord (d := d + 3) hp (by decide) hr2) (Nat.le_refl _) ?_
  refine M_if_eq (pc := 6) (tgt := 14) dX12_readLifeLine_6 (by decide) (fun hc3 => ?_) (fun hc3 => ?_)
  · have h := (if_pos hc3).symm.trans h
    refine M_aload_n (pc := 14) dX12_readLifeLine_14 rfl ?_
    refine M_ldcS (pc := 15) (j := 55) dX12_readLifeLine_15 (by decide) str_X12_146 ?_
    obtain ⟨r4, hr5, h⟩ := bnd h
    refine M_callVi (pc := 17) dX12_readLifeLine_17 v_X12_109 rfl rfl at_11 (Nat.le_of_ble_eq_true rfl) (C_X12_isWord (d := d + 3) hp (by decide) hr5) (Nat.le_refl _) ?_
    refine M_if_eq (pc := 20) (tgt := 28) dX12_readLifeLine_20 (by decide) (fun hc6 => ?_) (fun hc6 => ?_)
    · have h := (if_pos hc6).symm.trans h
      refine M_aload_n (pc := 28) dX12_readLifeLine_28 rfl ?_
      refine M_ldcS (pc := 29) (j := 56) dX12_readLifeLine_29 (by decide) str_X12_151 ?_
      obtain ⟨r7, hr8, h⟩ := bnd h
      refine M_callVi (pc := 31) dX12_readLifeLine_31 v_X12_109 rfl rfl at_11 (Nat.le_of_ble_eq_true rfl) (C_X12_isWord (d := d + 3) hp (by decide) hr8) (Nat.le_refl _) ?_
      refine M_if_eq (pc := 34) (tgt := 42) dX12_readLifeLine_34 (by decide) (fun hc9 => ?_) (fun hc9 => ?_)
      · have h := (if_pos hc9).symm.trans h
        refine M_aload_n (pc := 42) dX12_readLifeLine_42 rfl ?_
        refine M_ldcS (pc := 43) (j := 57) dX12_readLifeLine_43 (by decide) str_X12_156 ?_
        obtain ⟨r10, hr11, h⟩ := bnd h
        refine M_callVi (pc := 45) dX12_readLifeLine_45 v_X12_109 rfl rfl at_11 (Nat.le_of_ble_eq_true rfl) (C_X12_isWord (d := d + 3) hp (by decide) hr11) (Nat.le_refl _) ?_
        refine M_if_eq (pc := 48) (tgt := 61) dX12_readLifeLine_48 (by decide) (fun hc12 => ?_) (fun hc12 => ?_)
        · have h := (if_pos hc12).symm.trans h
          refine M_aload_n (pc := 61) dX12_readLifeLine_61 rfl ?_
          refine M_ldcS (pc := 62) (j := 58) dX12_readLifeLine_62 (by decide) str_X12_158 ?_
          obtain ⟨r13, hr14, h⟩ := bnd h
          refine M_callVi (pc := 64) dX12_readLifeLine_64 v_X12_109 rfl rfl at_11 (Nat.le_of_ble_eq_true rfl) (C_X12_isWord (d := d + 3) hp (by decide) hr14) (Nat.le_refl _) ?_
          refine M_if_eq (pc := 67) (tgt := 80) dX12_readLifeLine_67 (by decide) (fun hc15 => ?_) (fun hc15 => ?_)
          · have h := (if_pos hc15).symm.trans h
            refine M_aload_n (pc := 80) dX12_readLifeLine_80 rfl ?_
            refine M_ldcS (pc := 81) (j := 59) dX12_readLifeLine_81 (by decide) str_X12_160 ?_
            obtain ⟨r16, hr17, h⟩ := bnd h
            refine M_callVi (pc := 83) dX12_readLifeLine_83 v_X12_109 rfl rfl at_11 (Nat.le_of_ble_eq_true rfl) (C_X12_isWord (d := d + 3) hp (by decide) hr17) (Nat.le_refl _) ?_
            refine M_if_eq (pc := 86) (tgt := 99) dX12_readLifeLine_86 (by decide) (fun hc18 => ?_) (fun hc18 => ?_)
            · have h := (if_pos hc18).symm.trans h
              refine M_aload_n (pc := 99) dX12_readLifeLine_99 rfl ?_
              refine M_ldcS (pc := 100) (j := 60) dX12_readLifeLine_100 (by decide) str_X12_162 ?_
              obtain ⟨r19, hr20, h⟩ := bnd h
              refine M_callVi (pc := 102) dX12_readLifeLine_102 v_X12_109 rfl rfl at_11 (Nat.le_of_ble_eq_true rfl) (C_X12_isWord (d := d + 3) hp (by decide) hr20) (Nat.le_refl _) ?_
              refine M_if_eq (pc := 105) (tgt := 124) dX12_readLifeLine_105 (by decide) (fun hc21 => ?_) (fun hc21 => ?_)
              · have h := (if_pos hc21).symm.trans h
                refine M_iconst (pc := 124) (v := 0) dX12_readLifeLine_124 (by decide) ?_
                obtain rfl := Option.some.inj h
                exact M_iret (pc := 125) dX12_readLifeLine_125 rfl rfl rfl rfl
              · have h := (if_neg hc21).symm.trans h
                refine M_aload_n (pc := 108) dX12_readLifeLine_108 rfl ?_
                refine M_bipush (pc := 109) (v := 13) dX12_readLifeLine_109 (by decide) ?_
                refine M_iconst (pc := 111) (v := 0) dX12_readLifeLine_111 (by decide) ?_
                refine M_bipush (pc := 112) (v := 50) dX12_readLifeLine_112 (by decide) ?_
                obtain ⟨r22, hr23, h⟩ := bnd h
                refine M_callVi (pc := 114) dX12_readLifeLine_114 v_X12_135 rfl rfl at_11 (Nat.le_of_ble_eq_true rfl) (C_X12_readNumber (d := d + 4) hp hr23) (Nat.le_refl _) ?_
                refine M_if_eq (pc := 117) (tgt := 124) dX12_readLifeLine_117 (by decide) (fun hc24 => ?_) (fun hc24 => ?_)
                · have h := (if_pos hc24).symm.trans h
                  refine M_iconst (pc := 124) (v := 0) dX12_readLifeLine_124 (by decide) ?_
                  obtain rfl := Option.some.inj h
                  exact M_iret (pc := 125) dX12_readLifeLine_125 rfl rfl rfl rfl
                · have h := (if_neg hc24).symm.trans h
                  refine M_iconst (pc := 120) (v := 1) dX12_readLifeLine_120 (by decide) ?_
                  refine M_goto (pc := 121) (tgt := 125) dX12_readLifeLine_121 (by decide) ?_
                  obtain rfl := Option.some.inj h
                  exact M_iret (pc := 125) dX12_readLifeLine_125 rfl rfl rfl rfl
            · have h := (if_neg hc18).symm.trans h
              refine M_aload_n (pc := 89) dX12_readLifeLine_89 rfl ?_
              refine M_bipush (pc := 90) (v := 12) dX12_readLifeLine_90 (by decide) ?_
              refine M_iconst (pc := 92) (v := 0) dX12_readLifeLine_92 (by decide) ?_
              refine M_bipush (pc := 93) (v := 7) dX12_readLifeLine_93 (by decide) ?_
              obtain ⟨r25, hr26, h⟩ := bnd h
              refine M_callVi (pc := 95) dX12_readLifeLine_95 v_X12_135 rfl rfl at_11 (Nat.le_of_ble_eq_true rfl) (C_X12_readNumber (d := d + 4) hp hr26) (Nat.le_refl _) ?_
              obtain ⟨hq27, h⟩ := chk h
              obtain rfl := Option.some.inj h
              exact M_iret (pc := 98) dX12_readLifeLine_98 rfl (by rcases hq27 with q | q <;> rw [q] <;> rfl) rfl rfl
          · have h := (if_neg hc15).symm.trans h
            refine M_aload_n (pc := 70) dX12_readLifeLine_70 rfl ?_
            refine M_bipush (pc := 71) (v := 11) dX12_readLifeLine_71 (by decide) ?_
            refine M_iconst (pc := 73) (v := 0) dX12_readLifeLine_73 (by decide) ?_
            refine M_bipush (pc := 74) (v := 100) dX12_readLifeLine_74 (by decide) ?_
            obtain ⟨r28, hr29, h⟩ := bnd h
            refine M_callVi (pc := 76) dX12_readLifeLine_76 v_X12_135 rfl rfl at_11 (Nat.le_of_ble_eq_true rfl) (C_X12_readNumber (d := d + 4) hp hr29) (Nat.le_refl _) ?_
            obtain ⟨hq30, h⟩ := chk h
            obtain rfl := Option.some.inj h
            exact M_iret (pc := 79) dX12_readLifeLine_79 rfl (by rcases hq30 with q | q <;> rw [q] <;> rfl) rfl rfl
        · have h := (if_neg hc12).symm.trans h
          refine M_aload_n (pc := 51) dX12_readLifeLine_51 rfl ?_
          refine M_bipush (pc := 52) (v := 8) dX12_readLifeLine_52 (by decide) ?_
          refine M_iconst (pc := 54) (v := 0) dX12_readLifeLine_54 (by decide) ?_
          refine M_bipush (pc := 55) (v := 45) dX12_readLifeLine_55 (by decide) ?_
          obtain ⟨r31, hr32, h⟩ := bnd h
          refine M_callVi (pc := 57) dX12_readLifeLine_57 v_X12_135 rfl rfl at_11 (Nat.le_of_ble_eq_true rfl) (C_X12_readNumber (d := d + 4) hp hr32) (Nat.le_refl _) ?_
          obtain ⟨hq33, h⟩ := chk h
          obtain rfl := Option.some.inj h
          exact M_iret (pc := 60) dX12_readLifeLine_60 rfl (by rcases hq33 with q | q <;> rw [q] <;> rfl) rfl rfl
      · have h := (if_neg hc9).symm.trans h
        refine M_aload_n (pc := 37) dX12_readLifeLine_37 rfl ?_
        obtain ⟨r34, hr35, h⟩ := bnd h
        refine M_callVi (pc := 38) dX12_readLifeLine_38 v_X12_153 rfl rfl at_11 (Nat.le_of_ble_eq_true rfl) (C_X12_readWar (d := d + 1) hp hr35) (Nat.le_refl _) ?_
        obtain ⟨hq36, h⟩ := chk h
        obtain rfl := Option.some.inj h
        exact M_iret (pc := 41) dX12_readLifeLine_41 rfl (by rcases hq36 with q | q <;> rw [q] <;> rfl) rfl rfl
    · have h := (if_neg hc6).symm.trans h
      refine M_aload_n (pc := 23) dX12_readLifeLine_23 rfl ?_
      obtain ⟨r37, hr38, h⟩ := bnd h
      refine M_callVi (pc := 24) dX12_readLifeLine_24 v_X12_148 rfl rfl at_11 (Nat.le_of_ble_eq_true rfl) (C_X12_readToday (d := d + 3) hp hr38) (Nat.le_refl _) ?_
      obtain ⟨hq39, h⟩ := chk h
      obtain rfl := Option.some.inj h
      exact M_iret (pc := 27) dX12_readLifeLine_27 rfl (by rcases hq39 with q | q <;> rw [q] <;> rfl) rfl rfl
  · have h := (if_neg hc3).symm.trans h
    refine M_aload_n (pc := 9) dX12_readLifeLine_9 rfl ?_
    obtain ⟨r40, hr41, h⟩ := bnd h
    refine M_callVi (pc := 10) dX12_readLifeLine_10 v_X12_142 rfl rfl at_11 (Nat.le_of_ble_eq_true rfl) (C_X12_readDish (d := d + 0) hp hr41) (Nat.le_refl _) ?_
    obtain ⟨hq42, h⟩ := chk h
    obtain rfl := Option.some.inj h
    exact M_iret (pc := 13) dX12_readLifeLine_13 rfl (by rcases hq42 with q | q <;> rw [q] <;> rfl) rfl rfl
def F_X12_emits (I : HI) (x1 : Int32) (x2 : Int32) : Option (HI) :=
  if inB ((1251 : Int32) + ((2 : Int32) * (I 205 16))) 2051 = true then if inB (((1251 : Int32) + ((2 : Int32) * ((up2 I 206 (((1251 : Int32) + ((2 : Int32) * (I 205 16)))).toNatClampNeg x1) 205 16))) + (1 : Int32)) 2051 = true then some (up2 (up2 (up2 I 206 (((1251 : Int32) + ((2 : Int32) * (I 205 16)))).toNatClampNeg x1) 206 ((((1251 : Int32) + ((2 : Int32) * ((up2 I 206 (((1251 : Int32) + ((2 : Int32) * (I 205 16)))).toNatClampNeg x1) 205 16))) + (1 : Int32))).toNatClampNeg x2) 205 16 (((up2 (up2 I 206 (((1251 : Int32) + ((2 : Int32) * (I 205 16)))).toNatClampNeg x1) 206 ((((1251 : Int32) + ((2 : Int32) * ((up2 I 206 (((1251 : Int32) + ((2 : Int32) * (I 205 16)))).toNatClampNeg x1) 205 16))) + (1 : Int32))).toNatClampNeg x2) 205 16) + (1 : Int32))) else none else none
set_option maxRecDepth 4000 in
set_option maxHeartbeats 4000000 in
theorem C_X12_emits {g : gX} {d : Nat} {P : Nat → Nat → Option Nat} {I : HI} {x1 : Int32} {x2 : Int32} {J : HJ} (hp : Wp P) {r : HI} (h : F_X12_emits I x1 x2 = some r) : Cm g mX12_emits (d + 0) [.ref 205, .int x1, .int x2] (NT, I, J, P) none (NT, r, J, P) := by
  unfold F_X12_emits at h
  refine Cm.of (by decide) (by simp [Value.category]) (Nat.le_of_ble_eq_true rfl) (Nat.le_refl _) (ls := [some (.ref 205), some (.int x1), some (.int x2)]) rfl ?_
  refine M_aload_n (pc := 0) dX12_emits_0 rfl ?_
  refine M_getR (pc := 1) dX12_emits_1 f_X12_13 at_11 (gc_205_1 hp).1 ?_
  refine M_sipush (pc := 4) (v := 1251) dX12_emits_4 (by decide) ?_
  refine M_iconst (pc := 7) (v := 2) dX12_emits_7 (by decide) ?_
  refine M_aload_n (pc := 8) dX12_emits_8 rfl ?_
  refine M_getI (pc := 9) dX12_emits_9 f_X12_164 at_11 ?_
  refine M_imul (pc := 12) dX12_emits_12 ?_
  refine M_iadd (pc := 13) dX12_emits_13 ?_
  refine M_iload_n (pc := 14) dX12_emits_14 rfl ?_
  obtain ⟨hq1, h⟩ := chk h
  refine M_iast (pc := 15) dX12_emits_15 (gc_205_1 hp).2 (inB_in hq1) ?_
  refine M_aload_n (pc := 16) dX12_emits_16 rfl ?_
  refine M_getR (pc := 17) dX12_emits_17 f_X12_13 at_11 (gc_205_1 hp).1 ?_
  refine M_sipush (pc := 20) (v := 1251) dX12_emits_20 (by decide) ?_
  refine M_iconst (pc := 23) (v := 2) dX12_emits_23 (by decide) ?_
  refine M_aload_n (pc := 24) dX12_emits_24 rfl ?_
  refine M_getI (pc := 25) dX12_emits_25 f_X12_164 at_11 ?_
  refine M_imul (pc := 28) dX12_emits_28 ?_
  refine M_iadd (pc := 29) dX12_emits_29 ?_
  refine M_iconst (pc := 30) (v := 1) dX12_emits_30 (by decide) ?_
  refine M_iadd (pc := 31) dX12_emits_31 ?_
  refine M_iload_n (pc := 32) dX12_emits_32 rfl ?_
  obtain ⟨hq2, h⟩ := chk h
  refine M_iast (pc := 33) dX12_emits_33 (gc_205_1 hp).2 (inB_in hq2) ?_
  refine M_aload_n (pc := 34) dX12_emits_34 rfl ?_
  refine M_dup (pc := 35) dX12_emits_35 rfl ?_
  refine M_getI (pc := 36) dX12_emits_36 f_X12_164 at_11 ?_
  refine M_iconst (pc := 39) (v := 1) dX12_emits_39 (by decide) ?_
  refine M_iadd (pc := 40) dX12_emits_40 ?_
  refine M_putI (pc := 41) dX12_emits_41 f_X12_164 at_11 rfl ⟨rfl, rfl⟩ ?_
  obtain rfl := Option.some.inj h
  exact M_vret (pc := 44) dX12_emits_44 rfl rfl rfl
def F_X12_wordOfPart (I : HI) : Option (Int32) :=
  (F_X12_isWord I 54) >>= fun r1 => if r1 = 0 then (F_X12_isWord I 61) >>= fun r4 => if r4 = 0 then (F_X12_isWord I 62) >>= fun r7 => if r7 = 0 then (F_X12_isWord I 63) >>= fun r10 => if r10 = 0 then (F_X12_isWord I 64) >>= fun r13 => if r13 = 0 then (F_X12_isWord I 65) >>= fun r16 => if r16 = 0 then some (-1 : Int32) else some (5 : Int32) else some (4 : Int32) else some (3 : Int32) else some (2 : Int32) else some (1 : Int32) else some (0 : Int32)
set_option maxRecDepth 4000 in
set_option maxHeartbeats 4000000 in
theorem C_X12_wordOfPart {g : gX} {d : Nat} {P : Nat → Nat → Option Nat} {I : HI} {J : HJ} (hp : Wp P) {r : Int32} (h : F_X12_wordOfPart I = some r) : Cm g mX12_wordOfPart (d + 5) [.ref 205] (NT, I, J, P) (some (.int r)) (NT, I, J, P) := by
  unfold F_X12_wordOfPart at h
  refine Cm.of (by decide) (by simp [Value.category]) (Nat.le_of_ble_eq_true rfl) (Nat.le_refl _) (ls := [some (.ref 205)]) rfl ?_
  refine M_aload_n (pc := 0) dX12_wordOfPart_0 rfl ?_
  refine M_ldcS (pc := 1) (j := 54) dX12_wordOfPart_1 (by decide) str_X12_140 ?_
  obtain ⟨r1, hr2, h⟩ := bnd h
  refine M_callVi (pc := 3) dX12_wordOfPart_3 v_X12_109 rfl rfl at_11 (Nat.le_of_ble_eq_true rfl) (C_X12_isWord (d := d + 0) hp (by decide) hr2) (Nat.le_refl _) ?_
  refine M_if_eq (pc := 6) (tgt := 11) dX12_wordOfPart_6 (by decide) (fun hc3 => ?_) (fun hc3 => ?_)
  · have h := (if_pos hc3).symm.trans h
    refine M_aload_n (pc := 11) dX12_wordOfPart_11 rfl ?_
    refine M_ldcS (pc := 12) (j := 61) dX12_wordOfPart_12 (by decide) str_X12_167 ?_
    obtain ⟨r4, hr5, h⟩ := bnd h
    refine M_callVi (pc := 14) dX12_wordOfPart_14 v_X12_109 rfl rfl at_11 (Nat.le_of_ble_eq_true rfl) (C_X12_isWord (d := d + 0) hp (by decide) hr5) (Nat.le_refl _) ?_
    refine M_if_eq (pc := 17) (tgt := 22) dX12_wordOfPart_17 (by decide) (fun hc6 => ?_) (fun hc6 => ?_)
    · have h := (if_pos hc6).symm.trans h
      refine M_aload_n (pc := 22) dX12_wordOfPart_22 rfl ?_
      refine M_ldcS (pc := 23) (j := 62) dX12_wordOfPart_23 (by decide) str_X12_169 ?_
      obtain ⟨r7, hr8, h⟩ := bnd h
      refine M_callVi (pc := 25) dX12_wordOfPart_25 v_X12_109 rfl rfl at_11 (Nat.le_of_ble_eq_true rfl) (C_X12_isWord (d := d + 0) hp (by decide) hr8) (Nat.le_refl _) ?_
      refine M_if_eq (pc := 28) (tgt := 33) dX12_wordOfPart_28 (by decide) (fun hc9 => ?_) (fun hc9 => ?_)
      · have h := (if_pos hc9).symm.trans h
        refine M_aload_n (pc := 33) dX12_wordOfPart_33 rfl ?_
        refine M_ldcS (pc := 34) (j := 63) dX12_wordOfPart_34 (by decide) str_X12_171 ?_
        obtain ⟨r10, hr11, h⟩ := bnd h
        refine M_callVi (pc := 36) dX12_wordOfPart_36 v_X12_109 rfl rfl at_11 (Nat.le_of_ble_eq_true rfl) (C_X12_isWord (d := d + 0) hp (by decide) hr11) (Nat.le_refl _) ?_
        refine M_if_eq (pc := 39) (tgt := 44) dX12_wordOfPart_39 (by decide) (fun hc12 => ?_) (fun hc12 => ?_)
        · have h := (if_pos hc12).symm.trans h
          refine M_aload_n (pc := 44) dX12_wordOfPart_44 rfl ?_
          refine M_ldcS (pc := 45) (j := 64) dX12_wordOfPart_45 (by decide) str_X12_173 ?_
          obtain ⟨r13, hr14, h⟩ := bnd h
          refine M_callVi (pc := 47) dX12_wordOfPart_47 v_X12_109 rfl rfl at_11 (Nat.le_of_ble_eq_true rfl) (C_X12_isWord (d := d + 0) hp (by decide) hr14) (Nat.le_refl _) ?_
          refine M_if_eq (pc := 50) (tgt := 55) dX12_wordOfPart_50 (by decide) (fun hc15 => ?_) (fun hc15 => ?_)
          · have h := (if_pos hc15).symm.trans h
            refine M_aload_n (pc := 55) dX12_wordOfPart_55 rfl ?_
            refine M_ldcS (pc := 56) (j := 65) dX12_wordOfPart_56 (by decide) str_X12_175 ?_
            obtain ⟨r16, hr17, h⟩ := bnd h
            refine M_callVi (pc := 58) dX12_wordOfPart_58 v_X12_109 rfl rfl at_11 (Nat.le_of_ble_eq_true rfl) (C_X12_isWord (d := d + 0) hp (by decide) hr17) (Nat.le_refl _) ?_
            refine M_if_eq (pc := 61) (tgt := 68) dX12_wordOfPart_61 (by decide) (fun hc18 => ?_) (fun hc18 => ?_)
            · have h := (if_pos hc18).symm.trans h
              refine M_iconst (pc := 68) (v := -1) dX12_wordOfPart_68 (by decide) ?_
              obtain rfl := Option.some.inj h
              exact M_iret (pc := 69) dX12_wordOfPart_69 rfl rfl rfl rfl
            · have h := (if_neg hc18).symm.trans h
              refine M_iconst (pc := 64) (v := 5) dX12_wordOfPart_64 (by decide) ?_
              refine M_goto (pc := 65) (tgt := 69) dX12_wordOfPart_65 (by decide) ?_
              obtain rfl := Option.some.inj h
              exact M_iret (pc := 69) dX12_wordOfPart_69 rfl rfl rfl rfl
          · have h := (if_neg hc15).symm.trans h
            refine M_iconst (pc := 53) (v := 4) dX12_wordOfPart_53 (by decide) ?_
            obtain rfl := Option.some.inj h
            exact M_iret (pc := 54) dX12_wordOfPart_54 rfl rfl rfl rfl
        · have h := (if_neg hc12).symm.trans h
          refine M_iconst (pc := 42) (v := 3) dX12_wordOfPart_42 (by decide) ?_
          obtain rfl := Option.some.inj h
          exact M_iret (pc := 43) dX12_wordOfPart_43 rfl rfl rfl rfl
      · have h := (if_neg hc9).symm.trans h
        refine M_iconst (pc := 31) (v := 2) dX12_wordOfPart_31 (by decide) ?_
        obtain rfl := Option.some.inj h
        exact M_iret (pc := 32) dX12_wordOfPart_32 rfl rfl rfl rfl
    · have h := (if_neg hc6).symm.trans h
      refine M_iconst (pc := 20) (v := 1) dX12_wordOfPart_20 (by decide) ?_
      obtain rfl := Option.some.inj h
      exact M_iret (pc := 21) dX12_wordOfPart_21 rfl rfl rfl rfl
  · have h := (if_neg hc3).symm.trans h
    refine M_iconst (pc := 9) (v := 0) dX12_wordOfPart_9 (by decide) ?_
    obtain rfl := Option.some.inj h
    exact M_iret (pc := 10) dX12_wordOfPart_10 rfl rfl rfl rfl
def F_X12_readPart (I : HI) : Option (Int32 × HI) :=
  (F_X12_letters I) >>= fun r1 => if (r1 205 10) = (r1 205 12) then (F_X12_number r1 (0 : Int32) (999 : Int32)) >>= fun r13 => (F_X12_emits r13.2 (9 : Int32) r13.1) >>= fun r17 => if r13.1 < 0 then some ((0 : Int32), r17) else some ((1 : Int32), r17) else (F_X12_wordOfPart r1) >>= fun r5 => (F_X12_emits r1 r5 (0 : Int32)) >>= fun r9 => if r5 < 0 then some ((0 : Int32), r9) else some ((1 : Int32), r9)
set_option maxRecDepth 4000 in
set_option maxHeartbeats 4000000 in
theorem C_X12_readPart {g : gX} {d : Nat} {P : Nat → Nat → Option Nat} {I : HI} {J : HJ} (hp : Wp P) {r : Int32 × HI} (h : F_X12_readPart I = some r) : Cm g mX12_readPart (d + 6) [.ref 205] (NT, I, J, P) (some (.int r.1)) (NT, r.2, J, P) := by
  unfold F_X12_readPart at h
  refine Cm.of (by decide) (by simp [Value.category]) (Nat.le_of_ble_eq_true rfl) (Nat.le_refl _) (ls := [some (.ref 205), none, none]) rfl ?_
  refine M_aload_n (pc := 0) dX12_readPart_0 rfl ?_
  obtain ⟨r1, hr2, h⟩ := bnd h
  refine M_callVv (pc := 1) dX12_readPart_1 v_X12_106 rfl rfl at_11 (Nat.le_of_ble_eq_true rfl) (C_X12_letters (d := d + 3) hp hr2) (Nat.le_refl _) ?_
  refine M_aload_n (pc := 4) dX12_readPart_4 rfl ?_
  refine M_getI (pc := 5) dX12_readPart_5 f_X12_81 at_11 ?_
  refine M_aload_n (pc := 8) dX12_readPart_8 rfl ?_
  refine M_getI (pc := 9) dX12_readPart_9 f_X12_91 at_11 ?_
  refine M_icmp_ne (pc := 12) (tgt := 19) dX12_readPart_12 (by decide) (fun hc3 => ?_) (fun hc3 => ?_)
  · have h := (if_neg hc3).symm.trans h
    refine M_iconst (pc := 19) (v := 0) dX12_readPart_19 (by decide) ?_
    refine M_istore_n (pc := 20) (ls' := [some (.ref 205), some (.int (0 : Int32)), none]) dX12_readPart_20 (by decide) rfl ?_
    refine M_iload_n (pc := 21) dX12_readPart_21 rfl ?_
    refine M_if_eq (pc := 22) (tgt := 36) dX12_readPart_22 (by decide) (fun hc4 => ?_) (fun hc4 => absurd hc4 (by decide))
    refine M_aload_n (pc := 36) dX12_readPart_36 rfl ?_
    obtain ⟨r5, hr6, h⟩ := bnd h
    refine M_callVi (pc := 37) dX12_readPart_37 v_X12_177 rfl rfl at_11 (Nat.le_of_ble_eq_true rfl) (C_X12_wordOfPart (d := d + 0) hp hr6) (Nat.le_refl _) ?_
    refine M_istore_n (pc := 40) (ls' := [some (.ref 205), some (.int (0 : Int32)), some (.int r5)]) dX12_readPart_40 (by decide) rfl ?_
    refine M_aload_n (pc := 41) dX12_readPart_41 rfl ?_
    refine M_iload_n (pc := 42) dX12_readPart_42 rfl ?_
    refine M_if_eq (pc := 43) (tgt := 51) dX12_readPart_43 (by decide) (fun hc7 => ?_) (fun hc7 => absurd hc7 (by decide))
    refine M_iload_n (pc := 51) dX12_readPart_51 rfl ?_
    refine M_iload_n (pc := 52) dX12_readPart_52 rfl ?_
    refine M_if_eq (pc := 53) (tgt := 60) dX12_readPart_53 (by decide) (fun hc8 => ?_) (fun hc8 => absurd hc8 (by decide))
    refine M_iconst (pc := 60) (v := 0) dX12_readPart_60 (by decide) ?_
    obtain ⟨r9, hr10, h⟩ := bnd h
    refine M_callVv (pc := 61) dX12_readPart_61 v_X12_180 rfl rfl at_11 (Nat.le_of_ble_eq_true rfl) (C_X12_emits (d := d + 5) hp hr10) (Nat.le_refl _) ?_
    refine M_iload_n (pc := 64) dX12_readPart_64 rfl ?_
    refine M_if_lt (pc := 65) (tgt := 72) dX12_readPart_65 (by decide) (fun hc11 => ?_) (fun hc11 => ?_)
    · have h := (if_pos hc11).symm.trans h
      refine M_iconst (pc := 72) (v := 0) dX12_readPart_72 (by decide) ?_
      obtain rfl := Option.some.inj h
      exact M_iret (pc := 73) dX12_readPart_73 rfl rfl rfl rfl
    · have h := (if_neg hc11).symm.trans h
      refine M_iconst (pc := 68) (v := 1) dX12_readPart_68 (by decide) ?_
      refine M_goto (pc := 69) (tgt := 73) dX12_readPart_69 (by decide) ?_
      obtain rfl := Option.some.inj h
      exact M_iret (pc := 73) dX12_readPart_73 rfl rfl rfl rfl
  · have h := (if_pos hc3).symm.trans h
    refine M_iconst (pc := 15) (v := 1) dX12_readPart_15 (by decide) ?_
    refine M_goto (pc := 16) (tgt := 20) dX12_readPart_16 (by decide) ?_
    refine M_istore_n (pc := 20) (ls' := [some (.ref 205), some (.int (1 : Int32)), none]) dX12_readPart_20 (by decide) rfl ?_
    refine M_iload_n (pc := 21) dX12_readPart_21 rfl ?_
    refine M_if_eq (pc := 22) (tgt := 36) dX12_readPart_22 (by decide) (fun hc12 => absurd hc12 (by decide)) (fun hc12 => ?_)
    refine M_aload_n (pc := 25) dX12_readPart_25 rfl ?_
    refine M_iconst (pc := 26) (v := 0) dX12_readPart_26 (by decide) ?_
    refine M_sipush (pc := 27) (v := 999) dX12_readPart_27 (by decide) ?_
    obtain ⟨r13, hr14, h⟩ := bnd h
    refine M_callVi (pc := 30) dX12_readPart_30 v_X12_113 rfl rfl at_11 (Nat.le_of_ble_eq_true rfl) (C_X12_number (d := d + 3) hp hr14) (Nat.le_refl _) ?_
    refine M_goto (pc := 33) (tgt := 40) dX12_readPart_33 (by decide) ?_
    refine M_istore_n (pc := 40) (ls' := [some (.ref 205), some (.int (1 : Int32)), some (.int r13.1)]) dX12_readPart_40 (by decide) rfl ?_
    refine M_aload_n (pc := 41) dX12_readPart_41 rfl ?_
    refine M_iload_n (pc := 42) dX12_readPart_42 rfl ?_
    refine M_if_eq (pc := 43) (tgt := 51) dX12_readPart_43 (by decide) (fun hc15 => absurd hc15 (by decide)) (fun hc15 => ?_)
    refine M_bipush (pc := 46) (v := 9) dX12_readPart_46 (by decide) ?_
    refine M_goto (pc := 48) (tgt := 52) dX12_readPart_48 (by decide) ?_
    refine M_iload_n (pc := 52) dX12_readPart_52 rfl ?_
    refine M_if_eq (pc := 53) (tgt := 60) dX12_readPart_53 (by decide) (fun hc16 => absurd hc16 (by decide)) (fun hc16 => ?_)
    refine M_iload_n (pc := 56) dX12_readPart_56 rfl ?_
    refine M_goto (pc := 57) (tgt := 61) dX12_readPart_57 (by decide) ?_
    obtain ⟨r17, hr18, h⟩ := bnd h
    refine M_callVv (pc := 61) dX12_readPart_61 v_X12_180 rfl rfl at_11 (Nat.le_of_ble_eq_true rfl) (C_X12_emits (d := d + 5) hp hr18) (Nat.le_refl _) ?_
    refine M_iload_n (pc := 64) dX12_readPart_64 rfl ?_
    refine M_if_lt (pc := 65) (tgt := 72) dX12_readPart_65 (by decide) (fun hc19 => ?_) (fun hc19 => ?_)
    · have h := (if_pos hc19).symm.trans h
      refine M_iconst (pc := 72) (v := 0) dX12_readPart_72 (by decide) ?_
      obtain rfl := Option.some.inj h
      exact M_iret (pc := 73) dX12_readPart_73 rfl rfl rfl rfl
    · have h := (if_neg hc19).symm.trans h
      refine M_iconst (pc := 68) (v := 1) dX12_readPart_68 (by decide) ?_
      refine M_goto (pc := 69) (tgt := 73) dX12_readPart_69 (by decide) ?_
      obtain rfl := Option.some.inj h
      exact M_iret (pc := 73) dX12_readPart_73 rfl rfl rfl rfl
def L_X12_readSum_9 (I : HI) : Option (Int32 × HI) :=
  (F_X12_sign I (43 : Int32)) >>= fun r4 => if r4.1 = 0 then some ((1 : Int32), r4.2) else (F_X12_readPart r4.2) >>= fun r7 => if r7.1 = 0 then some ((0 : Int32), r7.2) else (F_X12_emits r7.2 (10 : Int32) (0 : Int32)) >>= fun r10 => L_X12_readSum_9 r10
partial_fixpoint
def F_X12_readSum (I : HI) : Option (Int32 × HI) :=
  (F_X12_readPart I) >>= fun r1 => if r1.1 = 0 then some ((0 : Int32), r1.2) else L_X12_readSum_9 r1.2
set_option maxRecDepth 4000 in
set_option maxHeartbeats 4000000 in
theorem LC_X12_readSum_9 {g : gX} {d : Nat} {P : Nat → Nat → Option Nat} {J : HJ}  (hp : Wp P) : ∀ (I : HI) (r : Int32 × HI), L_X12_readSum_9  I = some r → M g mX12_readSum (d + 7) (NT, NT, 0) ((.inl (some (.int r.1))), (NT, r.2, J, P)) 9 [some (.ref 205)] [] (NT, I, J, P) := by
  refine L_X12_readSum_9.partial_correctness  (fun I r => M g mX12_readSum (d + 7) (NT, NT, 0) ((.inl (some (.int r.1))), (NT, r.2, J, P)) 9 [some (.ref 205)] [] (NT, I, J, P)) ?_
  intro f ih I r h
  refine M_aload_n (pc := 9) dX12_readSum_9 rfl ?_
  refine M_bipush (pc := 10) (v := 43) dX12_readSum_10 (by decide) ?_
  obtain ⟨r4, hr5, h⟩ := bnd h
  refine M_callVi (pc := 12) dX12_readSum_12 v_X12_187 rfl rfl at_11 (Nat.le_of_ble_eq_true rfl) (C_X12_sign (d := d + 4) hp hr5) (Nat.le_refl _) ?_
  refine M_if_eq (pc := 15) (tgt := 37) dX12_readSum_15 (by decide) (fun hc6 => ?_) (fun hc6 => ?_)
  · have h := (if_pos hc6).symm.trans h
    refine M_iconst (pc := 37) (v := 1) dX12_readSum_37 (by decide) ?_
    obtain rfl := Option.some.inj h
    exact M_iret (pc := 38) dX12_readSum_38 rfl rfl rfl rfl
  · have h := (if_neg hc6).symm.trans h
    refine M_aload_n (pc := 18) dX12_readSum_18 rfl ?_
    obtain ⟨r7, hr8, h⟩ := bnd h
    refine M_callVi (pc := 19) dX12_readSum_19 v_X12_184 rfl rfl at_11 (Nat.le_of_ble_eq_true rfl) (C_X12_readPart (d := d + 0) hp hr8) (Nat.le_refl _) ?_
    refine M_if_ne (pc := 22) (tgt := 27) dX12_readSum_22 (by decide) (fun hc9 => ?_) (fun hc9 => ?_)
    · have h := (if_neg hc9).symm.trans h
      refine M_aload_n (pc := 27) dX12_readSum_27 rfl ?_
      refine M_bipush (pc := 28) (v := 10) dX12_readSum_28 (by decide) ?_
      refine M_iconst (pc := 30) (v := 0) dX12_readSum_30 (by decide) ?_
      obtain ⟨r10, hr11, h⟩ := bnd h
      refine M_callVv (pc := 31) dX12_readSum_31 v_X12_180 rfl rfl at_11 (Nat.le_of_ble_eq_true rfl) (C_X12_emits (d := d + 6) hp hr11) (Nat.le_refl _) ?_
      refine M_goto (pc := 34) (tgt := 9) dX12_readSum_34 (by decide) ?_
      exact ih r10 _ h
    · have h := (if_pos hc9).symm.trans h
      refine M_iconst (pc := 25) (v := 0) dX12_readSum_25 (by decide) ?_
      obtain rfl := Option.some.inj h
      exact M_iret (pc := 26) dX12_readSum_26 rfl rfl rfl rfl
set_option maxRecDepth 4000 in
set_option maxHeartbeats 4000000 in
theorem C_X12_readSum {g : gX} {d : Nat} {P : Nat → Nat → Option Nat} {I : HI} {J : HJ} (hp : Wp P) {r : Int32 × HI} (h : F_X12_readSum I = some r) : Cm g mX12_readSum (d + 7) [.ref 205] (NT, I, J, P) (some (.int r.1)) (NT, r.2, J, P) := by
  unfold F_X12_readSum at h
  refine Cm.of (by decide) (by simp [Value.category]) (Nat.le_of_ble_eq_true rfl) (Nat.le_refl _) (ls := [some (.ref 205)]) rfl ?_
  refine M_aload_n (pc := 0) dX12_readSum_0 rfl ?_
  obtain ⟨r1, hr2, h⟩ := bnd h
  refine M_callVi (pc := 1) dX12_readSum_1 v_X12_184 rfl rfl at_11 (Nat.le_of_ble_eq_true rfl) (C_X12_readPart (d := d + 0) hp hr2) (Nat.le_refl _) ?_
  refine M_if_ne (pc := 4) (tgt := 9) dX12_readSum_4 (by decide) (fun hc3 => ?_) (fun hc3 => ?_)
  · have h := (if_neg hc3).symm.trans h
    exact LC_X12_readSum_9 (P := P) hp r1.2 _ h
  · have h := (if_pos hc3).symm.trans h
    refine M_iconst (pc := 7) (v := 0) dX12_readSum_7 (by decide) ?_
    obtain rfl := Option.some.inj h
    exact M_iret (pc := 8) dX12_readSum_8 rfl rfl rfl rfl
def F_X12_readTag (I : HI) : Option (Int32 × HI) :=
  (F_X12_letters I) >>= fun r1 => (F_X12_isWord r1 66) >>= fun r3 => if r3 = 0 then (F_X12_isWord r1 56) >>= fun r6 => if r6 = 0 then (F_X12_isWord r1 67) >>= fun r9 => if r9 = 0 then some ((0 : Int32), (up2 r1 205 10 (r1 205 12))) else (F_X12_emits r1 (8 : Int32) (0 : Int32)) >>= fun r15 => some ((1 : Int32), r15) else (F_X12_emits r1 (7 : Int32) (0 : Int32)) >>= fun r19 => some ((1 : Int32), r19) else (F_X12_emits r1 (6 : Int32) (0 : Int32)) >>= fun r23 => some ((1 : Int32), r23)
set_option maxRecDepth 4000 in
set_option maxHeartbeats 4000000 in
theorem C_X12_readTag {g : gX} {d : Nat} {P : Nat → Nat → Option Nat} {I : HI} {J : HJ} (hp : Wp P) {r : Int32 × HI} (h : F_X12_readTag I = some r) : Cm g mX12_readTag (d + 5) [.ref 205] (NT, I, J, P) (some (.int r.1)) (NT, r.2, J, P) := by
  unfold F_X12_readTag at h
  refine Cm.of (by decide) (by simp [Value.category]) (Nat.le_of_ble_eq_true rfl) (Nat.le_refl _) (ls := [some (.ref 205), none]) rfl ?_
  refine M_aload_n (pc := 0) dX12_readTag_0 rfl ?_
  obtain ⟨r1, hr2, h⟩ := bnd h
  refine M_callVv (pc := 1) dX12_readTag_1 v_X12_106 rfl rfl at_11 (Nat.le_of_ble_eq_true rfl) (C_X12_letters (d := d + 2) hp hr2) (Nat.le_refl _) ?_
  refine M_aload_n (pc := 4) dX12_readTag_4 rfl ?_
  refine M_ldcS (pc := 5) (j := 66) dX12_readTag_5 (by decide) str_X12_190 ?_
  obtain ⟨r3, hr4, h⟩ := bnd h
  refine M_callVi (pc := 7) dX12_readTag_7 v_X12_109 rfl rfl at_11 (Nat.le_of_ble_eq_true rfl) (C_X12_isWord (d := d + 0) hp (by decide) hr4) (Nat.le_refl _) ?_
  refine M_if_eq (pc := 10) (tgt := 18) dX12_readTag_10 (by decide) (fun hc5 => ?_) (fun hc5 => ?_)
  · have h := (if_pos hc5).symm.trans h
    refine M_aload_n (pc := 18) dX12_readTag_18 rfl ?_
    refine M_ldcS (pc := 19) (j := 56) dX12_readTag_19 (by decide) str_X12_151 ?_
    obtain ⟨r6, hr7, h⟩ := bnd h
    refine M_callVi (pc := 21) dX12_readTag_21 v_X12_109 rfl rfl at_11 (Nat.le_of_ble_eq_true rfl) (C_X12_isWord (d := d + 0) hp (by decide) hr7) (Nat.le_refl _) ?_
    refine M_if_eq (pc := 24) (tgt := 32) dX12_readTag_24 (by decide) (fun hc8 => ?_) (fun hc8 => ?_)
    · have h := (if_pos hc8).symm.trans h
      refine M_aload_n (pc := 32) dX12_readTag_32 rfl ?_
      refine M_ldcS (pc := 33) (j := 67) dX12_readTag_33 (by decide) str_X12_192 ?_
      obtain ⟨r9, hr10, h⟩ := bnd h
      refine M_callVi (pc := 35) dX12_readTag_35 v_X12_109 rfl rfl at_11 (Nat.le_of_ble_eq_true rfl) (C_X12_isWord (d := d + 0) hp (by decide) hr10) (Nat.le_refl _) ?_
      refine M_if_eq (pc := 38) (tgt := 46) dX12_readTag_38 (by decide) (fun hc11 => ?_) (fun hc11 => ?_)
      · have h := (if_pos hc11).symm.trans h
        refine M_iconst (pc := 46) (v := -1) dX12_readTag_46 (by decide) ?_
        refine M_istore_n (pc := 47) (ls' := [some (.ref 205), some (.int (-1 : Int32))]) dX12_readTag_47 (by decide) rfl ?_
        refine M_iload_n (pc := 48) dX12_readTag_48 rfl ?_
        refine M_if_lt (pc := 49) (tgt := 61) dX12_readTag_49 (by decide) (fun hc12 => ?_) (fun hc12 => absurd hc12 (by decide))
        refine M_aload_n (pc := 61) dX12_readTag_61 rfl ?_
        refine M_aload_n (pc := 62) dX12_readTag_62 rfl ?_
        refine M_getI (pc := 63) dX12_readTag_63 f_X12_91 at_11 ?_
        refine M_putI (pc := 66) dX12_readTag_66 f_X12_81 at_11 rfl ⟨rfl, rfl⟩ ?_
        refine M_iload_n (pc := 69) dX12_readTag_69 rfl ?_
        refine M_if_lt (pc := 70) (tgt := 77) dX12_readTag_70 (by decide) (fun hc13 => ?_) (fun hc13 => absurd hc13 (by decide))
        refine M_iconst (pc := 77) (v := 0) dX12_readTag_77 (by decide) ?_
        obtain rfl := Option.some.inj h
        exact M_iret (pc := 78) dX12_readTag_78 rfl rfl rfl rfl
      · have h := (if_neg hc11).symm.trans h
        refine M_bipush (pc := 41) (v := 8) dX12_readTag_41 (by decide) ?_
        refine M_goto (pc := 43) (tgt := 47) dX12_readTag_43 (by decide) ?_
        refine M_istore_n (pc := 47) (ls' := [some (.ref 205), some (.int (8 : Int32))]) dX12_readTag_47 (by decide) rfl ?_
        refine M_iload_n (pc := 48) dX12_readTag_48 rfl ?_
        refine M_if_lt (pc := 49) (tgt := 61) dX12_readTag_49 (by decide) (fun hc14 => absurd hc14 (by decide)) (fun hc14 => ?_)
        refine M_aload_n (pc := 52) dX12_readTag_52 rfl ?_
        refine M_iload_n (pc := 53) dX12_readTag_53 rfl ?_
        refine M_iconst (pc := 54) (v := 0) dX12_readTag_54 (by decide) ?_
        obtain ⟨r15, hr16, h⟩ := bnd h
        refine M_callVv (pc := 55) dX12_readTag_55 v_X12_180 rfl rfl at_11 (Nat.le_of_ble_eq_true rfl) (C_X12_emits (d := d + 4) hp hr16) (Nat.le_refl _) ?_
        refine M_goto (pc := 58) (tgt := 69) dX12_readTag_58 (by decide) ?_
        refine M_iload_n (pc := 69) dX12_readTag_69 rfl ?_
        refine M_if_lt (pc := 70) (tgt := 77) dX12_readTag_70 (by decide) (fun hc17 => absurd hc17 (by decide)) (fun hc17 => ?_)
        refine M_iconst (pc := 73) (v := 1) dX12_readTag_73 (by decide) ?_
        refine M_goto (pc := 74) (tgt := 78) dX12_readTag_74 (by decide) ?_
        obtain rfl := Option.some.inj h
        exact M_iret (pc := 78) dX12_readTag_78 rfl rfl rfl rfl
    · have h := (if_neg hc8).symm.trans h
      refine M_bipush (pc := 27) (v := 7) dX12_readTag_27 (by decide) ?_
      refine M_goto (pc := 29) (tgt := 47) dX12_readTag_29 (by decide) ?_
      refine M_istore_n (pc := 47) (ls' := [some (.ref 205), some (.int (7 : Int32))]) dX12_readTag_47 (by decide) rfl ?_
      refine M_iload_n (pc := 48) dX12_readTag_48 rfl ?_
      refine M_if_lt (pc := 49) (tgt := 61) dX12_readTag_49 (by decide) (fun hc18 => absurd hc18 (by decide)) (fun hc18 => ?_)
      refine M_aload_n (pc := 52) dX12_readTag_52 rfl ?_
      refine M_iload_n (pc := 53) dX12_readTag_53 rfl ?_
      refine M_iconst (pc := 54) (v := 0) dX12_readTag_54 (by decide) ?_
      obtain ⟨r19, hr20, h⟩ := bnd h
      refine M_callVv (pc := 55) dX12_readTag_55 v_X12_180 rfl rfl at_11 (Nat.le_of_ble_eq_true rfl) (C_X12_emits (d := d + 4) hp hr20) (Nat.le_refl _) ?_
      refine M_goto (pc := 58) (tgt := 69) dX12_readTag_58 (by decide) ?_
      refine M_iload_n (pc := 69) dX12_readTag_69 rfl ?_
      refine M_if_lt (pc := 70) (tgt := 77) dX12_readTag_70 (by decide) (fun hc21 => absurd hc21 (by decide)) (fun hc21 => ?_)
      refine M_iconst (pc := 73) (v := 1) dX12_readTag_73 (by decide) ?_
      refine M_goto (pc := 74) (tgt := 78) dX12_readTag_74 (by decide) ?_
      obtain rfl := Option.some.inj h
      exact M_iret (pc := 78) dX12_readTag_78 rfl rfl rfl rfl
  · have h := (if_neg hc5).symm.trans h
    refine M_bipush (pc := 13) (v := 6) dX12_readTag_13 (by decide) ?_
    refine M_goto (pc := 15) (tgt := 47) dX12_readTag_15 (by decide) ?_
    refine M_istore_n (pc := 47) (ls' := [some (.ref 205), some (.int (6 : Int32))]) dX12_readTag_47 (by decide) rfl ?_
    refine M_iload_n (pc := 48) dX12_readTag_48 rfl ?_
    refine M_if_lt (pc := 49) (tgt := 61) dX12_readTag_49 (by decide) (fun hc22 => absurd hc22 (by decide)) (fun hc22 => ?_)
    refine M_aload_n (pc := 52) dX12_readTag_52 rfl ?_
    refine M_iload_n (pc := 53) dX12_readTag_53 rfl ?_
    refine M_iconst (pc := 54) (v := 0) dX12_readTag_54 (by decide) ?_
    obtain ⟨r23, hr24, h⟩ := bnd h
    refine M_callVv (pc := 55) dX12_readTag_55 v_X12_180 rfl rfl at_11 (Nat.le_of_ble_eq_true rfl) (C_X12_emits (d := d + 4) hp hr24) (Nat.le_refl _) ?_
    refine M_goto (pc := 58) (tgt := 69) dX12_readTag_58 (by decide) ?_
    refine M_iload_n (pc := 69) dX12_readTag_69 rfl ?_
    refine M_if_lt (pc := 70) (tgt := 77) dX12_readTag_70 (by decide) (fun hc25 => absurd hc25 (by decide)) (fun hc25 => ?_)
    refine M_iconst (pc := 73) (v := 1) dX12_readTag_73 (by decide) ?_
    refine M_goto (pc := 74) (tgt := 78) dX12_readTag_74 (by decide) ?_
    obtain rfl := Option.some.inj h
    exact M_iret (pc := 78) dX12_readTag_78 rfl rfl rfl rfl
def L_X12_readAllOf_9 (rc : HI → Option (Int32 × HI)) (I : HI) : Option (Int32 × HI) :=
  (F_X12_passes I 69) >>= fun r4 => if r4.1 = 0 then some ((1 : Int32), r4.2) else (rc r4.2) >>= fun r7 => if r7.1 = 0 then some ((0 : Int32), r7.2) else (F_X12_emits r7.2 (14 : Int32) (0 : Int32)) >>= fun r10 => L_X12_readAllOf_9 rc r10
partial_fixpoint
def F_X12_readAllOf (rc : HI → Option (Int32 × HI)) (I : HI) : Option (Int32 × HI) :=
  (rc I) >>= fun r1 => if r1.1 = 0 then some ((0 : Int32), r1.2) else L_X12_readAllOf_9 rc r1.2
set_option maxRecDepth 4000 in
set_option maxHeartbeats 4000000 in
theorem LC_X12_readAllOf_9 {g : gX} {d : Nat} {P : Nat → Nat → Option Nat} {J : HJ} {rc : HI → Option (Int32 × HI)} (hp : Wp P) (hrc : ∀ (e : Nat) {J : HJ} (I : HI)  (r : Int32 × HI), rc I = some r → Cm g mX12_readAtom (d + e + 8) [.ref 205] (NT, I, J, P) (some (.int r.1)) (NT, r.2, J, P)) : ∀ (I : HI) (r : Int32 × HI), L_X12_readAllOf_9 rc I = some r → M g mX12_readAllOf (d + 9) (NT, NT, 0) ((.inl (some (.int r.1))), (NT, r.2, J, P)) 9 [some (.ref 205)] [] (NT, I, J, P) := by
  refine L_X12_readAllOf_9.partial_correctness rc (fun I r => M g mX12_readAllOf (d + 9) (NT, NT, 0) ((.inl (some (.int r.1))), (NT, r.2, J, P)) 9 [some (.ref 205)] [] (NT, I, J, P)) ?_
  intro f ih I r h
  refine M_aload_n (pc := 9) dX12_readAllOf_9 rfl ?_
  refine M_ldcS (pc := 10) (j := 69) dX12_readAllOf_10 (by decide) str_X12_211 ?_
  obtain ⟨r4, hr5, h⟩ := bnd h
  refine M_callVi (pc := 12) dX12_readAllOf_12 v_X12_118 rfl rfl at_11 (Nat.le_of_ble_eq_true rfl) (C_X12_passes (d := d + 3) hp (by decide) hr5) (Nat.le_refl _) ?_
  refine M_if_eq (pc := 15) (tgt := 37) dX12_readAllOf_15 (by decide) (fun hc6 => ?_) (fun hc6 => ?_)
  · have h := (if_pos hc6).symm.trans h
    refine M_iconst (pc := 37) (v := 1) dX12_readAllOf_37 (by decide) ?_
    obtain rfl := Option.some.inj h
    exact M_iret (pc := 38) dX12_readAllOf_38 rfl rfl rfl rfl
  · have h := (if_neg hc6).symm.trans h
    refine M_aload_n (pc := 18) dX12_readAllOf_18 rfl ?_
    obtain ⟨r7, hr8, h⟩ := bnd h
    refine M_callVi (pc := 19) dX12_readAllOf_19 v_X12_202 rfl rfl at_11 (Nat.le_of_ble_eq_true rfl) (hrc 0 _  _ hr8) (Nat.le_refl _) ?_
    refine M_if_ne (pc := 22) (tgt := 27) dX12_readAllOf_22 (by decide) (fun hc9 => ?_) (fun hc9 => ?_)
    · have h := (if_neg hc9).symm.trans h
      refine M_aload_n (pc := 27) dX12_readAllOf_27 rfl ?_
      refine M_bipush (pc := 28) (v := 14) dX12_readAllOf_28 (by decide) ?_
      refine M_iconst (pc := 30) (v := 0) dX12_readAllOf_30 (by decide) ?_
      obtain ⟨r10, hr11, h⟩ := bnd h
      refine M_callVv (pc := 31) dX12_readAllOf_31 v_X12_180 rfl rfl at_11 (Nat.le_of_ble_eq_true rfl) (C_X12_emits (d := d + 8) hp hr11) (Nat.le_refl _) ?_
      refine M_goto (pc := 34) (tgt := 9) dX12_readAllOf_34 (by decide) ?_
      exact ih r10 _ h
    · have h := (if_pos hc9).symm.trans h
      refine M_iconst (pc := 25) (v := 0) dX12_readAllOf_25 (by decide) ?_
      obtain rfl := Option.some.inj h
      exact M_iret (pc := 26) dX12_readAllOf_26 rfl rfl rfl rfl
set_option maxRecDepth 4000 in
set_option maxHeartbeats 4000000 in
theorem C_X12_readAllOf {g : gX} {d : Nat} {P : Nat → Nat → Option Nat} {rc : HI → Option (Int32 × HI)} {I : HI} {J : HJ} (hp : Wp P) (hrc : ∀ (e : Nat) {J : HJ} (I : HI)  (r : Int32 × HI), rc I = some r → Cm g mX12_readAtom (d + e + 8) [.ref 205] (NT, I, J, P) (some (.int r.1)) (NT, r.2, J, P)) {r : Int32 × HI} (h : F_X12_readAllOf rc I = some r) : Cm g mX12_readAllOf (d + 9) [.ref 205] (NT, I, J, P) (some (.int r.1)) (NT, r.2, J, P) := by
  unfold F_X12_readAllOf at h
  refine Cm.of (by decide) (by simp [Value.category]) (Nat.le_of_ble_eq_true rfl) (Nat.le_refl _) (ls := [some (.ref 205)]) rfl ?_
  refine M_aload_n (pc := 0) dX12_readAllOf_0 rfl ?_
  obtain ⟨r1, hr2, h⟩ := bnd h
  refine M_callVi (pc := 1) dX12_readAllOf_1 v_X12_202 rfl rfl at_11 (Nat.le_of_ble_eq_true rfl) (hrc 0 _  _ hr2) (Nat.le_refl _) ?_
  refine M_if_ne (pc := 4) (tgt := 9) dX12_readAllOf_4 (by decide) (fun hc3 => ?_) (fun hc3 => ?_)
  · have h := (if_neg hc3).symm.trans h
    exact LC_X12_readAllOf_9 (P := P) hp hrc r1.2 _ h
  · have h := (if_pos hc3).symm.trans h
    refine M_iconst (pc := 7) (v := 0) dX12_readAllOf_7 (by decide) ?_
    obtain rfl := Option.some.inj h
    exact M_iret (pc := 8) dX12_readAllOf_8 rfl rfl rfl rfl
def L_X12_readCond_9 (rc : HI → Option (Int32 × HI)) (I : HI) : Option (Int32 × HI) :=
  (F_X12_passes I 70) >>= fun r4 => if r4.1 = 0 then some ((1 : Int32), r4.2) else (F_X12_readAllOf rc r4.2) >>= fun r7 => if r7.1 = 0 then some ((0 : Int32), r7.2) else (F_X12_emits r7.2 (15 : Int32) (0 : Int32)) >>= fun r10 => L_X12_readCond_9 rc r10
partial_fixpoint
def F_X12_readCond (rc : HI → Option (Int32 × HI)) (I : HI) : Option (Int32 × HI) :=
  (F_X12_readAllOf rc I) >>= fun r1 => if r1.1 = 0 then some ((0 : Int32), r1.2) else L_X12_readCond_9 rc r1.2
set_option maxRecDepth 4000 in
set_option maxHeartbeats 4000000 in
theorem LC_X12_readCond_9 {g : gX} {d : Nat} {P : Nat → Nat → Option Nat} {J : HJ} {rc : HI → Option (Int32 × HI)} (hp : Wp P) (hrc : ∀ (e : Nat) {J : HJ} (I : HI)  (r : Int32 × HI), rc I = some r → Cm g mX12_readAtom (d + e + 8) [.ref 205] (NT, I, J, P) (some (.int r.1)) (NT, r.2, J, P)) : ∀ (I : HI) (r : Int32 × HI), L_X12_readCond_9 rc I = some r → M g mX12_readCond (d + 10) (NT, NT, 0) ((.inl (some (.int r.1))), (NT, r.2, J, P)) 9 [some (.ref 205)] [] (NT, I, J, P) := by
  refine L_X12_readCond_9.partial_correctness rc (fun I r => M g mX12_readCond (d + 10) (NT, NT, 0) ((.inl (some (.int r.1))), (NT, r.2, J, P)) 9 [some (.ref 205)] [] (NT, I, J, P)) ?_
  intro f ih I r h
  refine M_aload_n (pc := 9) dX12_readCond_9 rfl ?_
  refine M_ldcS (pc := 10) (j := 70) dX12_readCond_10 (by decide) str_X12_216 ?_
  obtain ⟨r4, hr5, h⟩ := bnd h
  refine M_callVi (pc := 12) dX12_readCond_12 v_X12_118 rfl rfl at_11 (Nat.le_of_ble_eq_true rfl) (C_X12_passes (d := d + 4) hp (by decide) hr5) (Nat.le_refl _) ?_
  refine M_if_eq (pc := 15) (tgt := 37) dX12_readCond_15 (by decide) (fun hc6 => ?_) (fun hc6 => ?_)
  · have h := (if_pos hc6).symm.trans h
    refine M_iconst (pc := 37) (v := 1) dX12_readCond_37 (by decide) ?_
    obtain rfl := Option.some.inj h
    exact M_iret (pc := 38) dX12_readCond_38 rfl rfl rfl rfl
  · have h := (if_neg hc6).symm.trans h
    refine M_aload_n (pc := 18) dX12_readCond_18 rfl ?_
    obtain ⟨r7, hr8, h⟩ := bnd h
    refine M_callVi (pc := 19) dX12_readCond_19 v_X12_213 rfl rfl at_11 (Nat.le_of_ble_eq_true rfl) (C_X12_readAllOf (d := d + 0) hp (fun e {J} I r h9 => by have q := hrc (e + 0) (J := J) I r h9; rw [show d + (e + 0) + 8 = d + 0 + e + 8 by omega] at q; exact q) hr8) (Nat.le_refl _) ?_
    refine M_if_ne (pc := 22) (tgt := 27) dX12_readCond_22 (by decide) (fun hc9 => ?_) (fun hc9 => ?_)
    · have h := (if_neg hc9).symm.trans h
      refine M_aload_n (pc := 27) dX12_readCond_27 rfl ?_
      refine M_bipush (pc := 28) (v := 15) dX12_readCond_28 (by decide) ?_
      refine M_iconst (pc := 30) (v := 0) dX12_readCond_30 (by decide) ?_
      obtain ⟨r10, hr11, h⟩ := bnd h
      refine M_callVv (pc := 31) dX12_readCond_31 v_X12_180 rfl rfl at_11 (Nat.le_of_ble_eq_true rfl) (C_X12_emits (d := d + 9) hp hr11) (Nat.le_refl _) ?_
      refine M_goto (pc := 34) (tgt := 9) dX12_readCond_34 (by decide) ?_
      exact ih r10 _ h
    · have h := (if_pos hc9).symm.trans h
      refine M_iconst (pc := 25) (v := 0) dX12_readCond_25 (by decide) ?_
      obtain rfl := Option.some.inj h
      exact M_iret (pc := 26) dX12_readCond_26 rfl rfl rfl rfl
set_option maxRecDepth 4000 in
set_option maxHeartbeats 4000000 in
theorem C_X12_readCond {g : gX} {d : Nat} {P : Nat → Nat → Option Nat} {rc : HI → Option (Int32 × HI)} {I : HI} {J : HJ} (hp : Wp P) (hrc : ∀ (e : Nat) {J : HJ} (I : HI)  (r : Int32 × HI), rc I = some r → Cm g mX12_readAtom (d + e + 8) [.ref 205] (NT, I, J, P) (some (.int r.1)) (NT, r.2, J, P)) {r : Int32 × HI} (h : F_X12_readCond rc I = some r) : Cm g mX12_readCond (d + 10) [.ref 205] (NT, I, J, P) (some (.int r.1)) (NT, r.2, J, P) := by
  unfold F_X12_readCond at h
  refine Cm.of (by decide) (by simp [Value.category]) (Nat.le_of_ble_eq_true rfl) (Nat.le_refl _) (ls := [some (.ref 205)]) rfl ?_
  refine M_aload_n (pc := 0) dX12_readCond_0 rfl ?_
  obtain ⟨r1, hr2, h⟩ := bnd h
  refine M_callVi (pc := 1) dX12_readCond_1 v_X12_213 rfl rfl at_11 (Nat.le_of_ble_eq_true rfl) (C_X12_readAllOf (d := d + 0) hp (fun e {J} I r h9 => by have q := hrc (e + 0) (J := J) I r h9; rw [show d + (e + 0) + 8 = d + 0 + e + 8 by omega] at q; exact q) hr2) (Nat.le_refl _) ?_
  refine M_if_ne (pc := 4) (tgt := 9) dX12_readCond_4 (by decide) (fun hc3 => ?_) (fun hc3 => ?_)
  · have h := (if_neg hc3).symm.trans h
    exact LC_X12_readCond_9 (P := P) hp hrc r1.2 _ h
  · have h := (if_pos hc3).symm.trans h
    refine M_iconst (pc := 7) (v := 0) dX12_readCond_7 (by decide) ?_
    obtain rfl := Option.some.inj h
    exact M_iret (pc := 8) dX12_readCond_8 rfl rfl rfl rfl
def L_X12_farOf_5 (I : HI) (x1 : Int32) (x2 : Int32) (x3 : Int32) (x4 : Int32) : Option (Int32) :=
  if (5 : Int32) ≤ x4 then some x3 else (F_X12_of I x1 x4) >>= fun r2 => (F_X12_of I x2 x4) >>= fun r4 => L_X12_farOf_5 I x1 x2 (x3 + (if 0 ≤ (r2 - r4) then (r2 - r4) else 0 - (r2 - r4))) (x4 + (1 : Int32))
partial_fixpoint
def F_X12_farOf (I : HI) (x1 : Int32) (x2 : Int32) : Option (Int32) :=
  L_X12_farOf_5 I x1 x2 (0 : Int32) (0 : Int32)
set_option maxRecDepth 4000 in
set_option maxHeartbeats 4000000 in
theorem LC_X12_farOf_5 {g : gX} {d : Nat} {P : Nat → Nat → Option Nat} {J : HJ} {I : HI} {x1 : Int32} {x2 : Int32} (hp : Wp P) : ∀ (x3 : Int32) (x4 : Int32) (r : Int32), L_X12_farOf_5 I x1 x2 x3 x4 = some r → M g mX12_farOf (d + 2) (NT, NT, 0) ((.inl (some (.int r))), (NT, I, J, P)) 5 [some (.ref 205), some (.int x1), some (.int x2), some (.int x3), some (.int x4)] [] (NT, I, J, P) := by
  refine L_X12_farOf_5.partial_correctness I x1 x2 (fun x3 x4 r => M g mX12_farOf (d + 2) (NT, NT, 0) ((.inl (some (.int r))), (NT, I, J, P)) 5 [some (.ref 205), some (.int x1), some (.int x2), some (.int x3), some (.int x4)] [] (NT, I, J, P)) ?_
  intro f ih x3 x4 r h
  refine M_iload (pc := 5) dX12_farOf_5 rfl ?_
  refine M_iconst (pc := 7) (v := 5) dX12_farOf_7 (by decide) ?_
  refine M_icmp_ge (pc := 8) (tgt := 38) dX12_farOf_8 (by decide) (fun hc1 => ?_) (fun hc1 => ?_)
  · have h := (if_pos hc1).symm.trans h
    refine M_iload_n (pc := 38) dX12_farOf_38 rfl ?_
    obtain rfl := Option.some.inj h
    exact M_iret (pc := 39) dX12_farOf_39 rfl rfl rfl rfl
  · have h := (if_neg hc1).symm.trans h
    refine M_iload_n (pc := 11) dX12_farOf_11 rfl ?_
    refine M_aload_n (pc := 12) dX12_farOf_12 rfl ?_
    refine M_iload_n (pc := 13) dX12_farOf_13 rfl ?_
    refine M_iload (pc := 14) dX12_farOf_14 rfl ?_
    obtain ⟨r2, hr3, h⟩ := bnd h
    refine M_callVi (pc := 16) dX12_farOf_16 v_X12_70 rfl rfl at_11 (Nat.le_of_ble_eq_true rfl) (C_X12_of (d := d + 0) hp hr3) (Nat.le_refl _) ?_
    refine M_aload_n (pc := 19) dX12_farOf_19 rfl ?_
    refine M_iload_n (pc := 20) dX12_farOf_20 rfl ?_
    refine M_iload (pc := 21) dX12_farOf_21 rfl ?_
    obtain ⟨r4, hr5, h⟩ := bnd h
    refine M_callVi (pc := 23) dX12_farOf_23 v_X12_70 rfl rfl at_11 (Nat.le_of_ble_eq_true rfl) (C_X12_of (d := d + 0) hp hr5) (Nat.le_refl _) ?_
    refine M_isub (pc := 26) dX12_farOf_26 ?_
    refine M_mabs (pc := 27) dX12_farOf_27 mm_X12_246.1 mm_X12_246.2.1 mm_X12_246.2.2.1 mm_X12_246.2.2.2 (Nat.le_of_ble_eq_true rfl) ?_
    refine M_iadd (pc := 30) dX12_farOf_30 ?_
    refine M_istore_n (pc := 31) (ls' := [some (.ref 205), some (.int x1), some (.int x2), some (.int (x3 + (if 0 ≤ (r2 - r4) then (r2 - r4) else 0 - (r2 - r4)))), some (.int x4)]) dX12_farOf_31 (by decide) rfl ?_
    refine M_iinc (pc := 32) (v := (x4 + (1 : Int32))) (ls' := [some (.ref 205), some (.int x1), some (.int x2), some (.int (x3 + (if 0 ≤ (r2 - r4) then (r2 - r4) else 0 - (r2 - r4)))), some (.int (x4 + (1 : Int32)))]) dX12_farOf_32 rfl rfl (by decide) rfl ?_
    refine M_goto (pc := 35) (tgt := 5) dX12_farOf_35 (by decide) ?_
    exact ih (x3 + (if 0 ≤ (r2 - r4) then (r2 - r4) else 0 - (r2 - r4))) (x4 + (1 : Int32)) _ h
set_option maxRecDepth 4000 in
set_option maxHeartbeats 4000000 in
theorem C_X12_farOf {g : gX} {d : Nat} {P : Nat → Nat → Option Nat} {I : HI} {x1 : Int32} {x2 : Int32} {J : HJ} (hp : Wp P) {r : Int32} (h : F_X12_farOf I x1 x2 = some r) : Cm g mX12_farOf (d + 2) [.ref 205, .int x1, .int x2] (NT, I, J, P) (some (.int r)) (NT, I, J, P) := by
  unfold F_X12_farOf at h
  refine Cm.of (by decide) (by simp [Value.category]) (Nat.le_of_ble_eq_true rfl) (Nat.le_refl _) (ls := [some (.ref 205), some (.int x1), some (.int x2), none, none]) rfl ?_
  refine M_iconst (pc := 0) (v := 0) dX12_farOf_0 (by decide) ?_
  refine M_istore_n (pc := 1) (ls' := [some (.ref 205), some (.int x1), some (.int x2), some (.int (0 : Int32)), none]) dX12_farOf_1 (by decide) rfl ?_
  refine M_iconst (pc := 2) (v := 0) dX12_farOf_2 (by decide) ?_
  refine M_istore (pc := 3) (ls' := [some (.ref 205), some (.int x1), some (.int x2), some (.int (0 : Int32)), some (.int (0 : Int32))]) dX12_farOf_3 (by decide) rfl ?_
  exact LC_X12_farOf_5 (P := P) hp (0 : Int32) (0 : Int32) _ h
def L_X12_callsBy_25 (I : HI) (x1 : Int32) (x2 : Int32) (x3 : Int32) (x4 : Int32) : Option (Int32) :=
  (F_X12_dishes I) >>= fun r4 => if r4 ≤ x4 then some x2 else (F_X12_isNew I x4) >>= fun r7 => if r7 = 0 then (F_X12_farOf I x1 x4) >>= fun r10 => if x3 ≤ r10 then L_X12_callsBy_25 I x1 x2 (if r10 < x3 then r10 else x3) (x4 + (1 : Int32)) else L_X12_callsBy_25 I x1 x4 (if r10 < x3 then r10 else x3) (x4 + (1 : Int32)) else if x3 ≤ (1000000 : Int32) then L_X12_callsBy_25 I x1 x2 (if (1000000 : Int32) < x3 then (1000000 : Int32) else x3) (x4 + (1 : Int32)) else L_X12_callsBy_25 I x1 x4 (if (1000000 : Int32) < x3 then (1000000 : Int32) else x3) (x4 + (1 : Int32))
partial_fixpoint
def F_X12_callsBy (I : HI) (x1 : Int32) : Option (Int32) :=
  (F_X12_isNew I x1) >>= fun r1 => if r1 = 0 then some x1 else L_X12_callsBy_25 I x1 (-1 : Int32) ((I 206 8) + (1 : Int32)) (0 : Int32)
set_option maxRecDepth 4000 in
set_option maxHeartbeats 4000000 in
theorem LC_X12_callsBy_25 {g : gX} {d : Nat} {P : Nat → Nat → Option Nat} {J : HJ} {I : HI} {x1 : Int32} (hp : Wp P) : ∀ (x2 : Int32) (x3 : Int32) (x4 : Int32) (r : Int32), L_X12_callsBy_25 I x1 x2 x3 x4 = some r → M g mX12_callsBy (d + 3) (NT, NT, 0) ((.inl (some (.int r))), (NT, I, J, P)) 25 [some (.ref 205), some (.int x1), some (.int x2), some (.int x3), some (.int x4), none] [] (NT, I, J, P) := by
  refine L_X12_callsBy_25.partial_correctness I x1 (fun x2 x3 x4 r => M g mX12_callsBy (d + 3) (NT, NT, 0) ((.inl (some (.int r))), (NT, I, J, P)) 25 [some (.ref 205), some (.int x1), some (.int x2), some (.int x3), some (.int x4), none] [] (NT, I, J, P)) ?_
  intro f ih x2 x3 x4 r h
  refine M_iload (pc := 25) dX12_callsBy_25 rfl ?_
  refine M_aload_n (pc := 27) dX12_callsBy_27 rfl ?_
  obtain ⟨r4, hr5, h⟩ := bnd h
  refine M_callVi (pc := 28) dX12_callsBy_28 v_X12_62 rfl rfl at_11 (Nat.le_of_ble_eq_true rfl) (C_X12_dishes (d := d + 2) hp hr5) (Nat.le_refl _) ?_
  refine M_icmp_ge (pc := 31) (tgt := 83) dX12_callsBy_31 (by decide) (fun hc6 => ?_) (fun hc6 => ?_)
  · have h := (if_pos hc6).symm.trans h
    refine M_iload_n (pc := 83) dX12_callsBy_83 rfl ?_
    obtain rfl := Option.some.inj h
    exact M_iret (pc := 84) dX12_callsBy_84 rfl rfl rfl rfl
  · have h := (if_neg hc6).symm.trans h
    refine M_aload_n (pc := 34) dX12_callsBy_34 rfl ?_
    refine M_iload (pc := 35) dX12_callsBy_35 rfl ?_
    obtain ⟨r7, hr8, h⟩ := bnd h
    refine M_callVi (pc := 37) dX12_callsBy_37 v_X12_252 rfl rfl at_11 (Nat.le_of_ble_eq_true rfl) (C_X12_isNew (d := d + 0) hp hr8) (Nat.le_refl _) ?_
    refine M_if_eq (pc := 40) (tgt := 48) dX12_callsBy_40 (by decide) (fun hc9 => ?_) (fun hc9 => ?_)
    · have h := (if_pos hc9).symm.trans h
      refine M_aload_n (pc := 48) dX12_callsBy_48 rfl ?_
      refine M_iload_n (pc := 49) dX12_callsBy_49 rfl ?_
      refine M_iload (pc := 50) dX12_callsBy_50 rfl ?_
      obtain ⟨r10, hr11, h⟩ := bnd h
      refine M_callVi (pc := 52) dX12_callsBy_52 v_X12_256 rfl rfl at_11 (Nat.le_of_ble_eq_true rfl) (C_X12_farOf (d := d + 0) hp hr11) (Nat.le_refl _) ?_
      refine M_istore (pc := 55) (ls' := [some (.ref 205), some (.int x1), some (.int x2), some (.int x3), some (.int x4), some (.int r10)]) dX12_callsBy_55 (by decide) rfl ?_
      refine M_iload (pc := 57) dX12_callsBy_57 rfl ?_
      refine M_iload_n (pc := 59) dX12_callsBy_59 rfl ?_
      refine M_icmp_ge (pc := 60) (tgt := 68) dX12_callsBy_60 (by decide) (fun hc12 => ?_) (fun hc12 => ?_)
      · have h := (if_pos hc12).symm.trans h
        refine M_iload_n (pc := 68) dX12_callsBy_68 rfl ?_
        refine M_istore_n (pc := 69) (ls' := [some (.ref 205), some (.int x1), some (.int x2), some (.int x3), some (.int x4), some (.int r10)]) dX12_callsBy_69 (by decide) rfl ?_
        refine M_iload_n (pc := 70) dX12_callsBy_70 rfl ?_
        refine M_iload (pc := 71) dX12_callsBy_71 rfl ?_
        refine M_mmin (pc := 73) dX12_callsBy_73 mm_X12_259.1 mm_X12_259.2.1 mm_X12_259.2.2.1 mm_X12_259.2.2.2 (Nat.le_of_ble_eq_true rfl) ?_
        refine M_istore_n (pc := 76) (ls' := [some (.ref 205), some (.int x1), some (.int x2), some (.int (if r10 < x3 then r10 else x3)), some (.int x4), some (.int r10)]) dX12_callsBy_76 (by decide) rfl ?_
        refine M_iinc (pc := 77) (v := (x4 + (1 : Int32))) (ls' := [some (.ref 205), some (.int x1), some (.int x2), some (.int (if r10 < x3 then r10 else x3)), some (.int (x4 + (1 : Int32))), some (.int r10)]) dX12_callsBy_77 rfl rfl (by decide) rfl ?_
        refine M_goto (pc := 80) (tgt := 25) dX12_callsBy_80 (by decide) ?_
        refine M_mask (pc := 25) [true, true, true, true, true, false] rfl ?_
        exact ih x2 (if r10 < x3 then r10 else x3) (x4 + (1 : Int32)) _ h
      · have h := (if_neg hc12).symm.trans h
        refine M_iload (pc := 63) dX12_callsBy_63 rfl ?_
        refine M_goto (pc := 65) (tgt := 69) dX12_callsBy_65 (by decide) ?_
        refine M_istore_n (pc := 69) (ls' := [some (.ref 205), some (.int x1), some (.int x4), some (.int x3), some (.int x4), some (.int r10)]) dX12_callsBy_69 (by decide) rfl ?_
        refine M_iload_n (pc := 70) dX12_callsBy_70 rfl ?_
        refine M_iload (pc := 71) dX12_callsBy_71 rfl ?_
        refine M_mmin (pc := 73) dX12_callsBy_73 mm_X12_259.1 mm_X12_259.2.1 mm_X12_259.2.2.1 mm_X12_259.2.2.2 (Nat.le_of_ble_eq_true rfl) ?_
        refine M_istore_n (pc := 76) (ls' := [some (.ref 205), some (.int x1), some (.int x4), some (.int (if r10 < x3 then r10 else x3)), some (.int x4), some (.int r10)]) dX12_callsBy_76 (by decide) rfl ?_
        refine M_iinc (pc := 77) (v := (x4 + (1 : Int32))) (ls' := [some (.ref 205), some (.int x1), some (.int x4), some (.int (if r10 < x3 then r10 else x3)), some (.int (x4 + (1 : Int32))), some (.int r10)]) dX12_callsBy_77 rfl rfl (by decide) rfl ?_
        refine M_goto (pc := 80) (tgt := 25) dX12_callsBy_80 (by decide) ?_
        refine M_mask (pc := 25) [true, true, true, true, true, false] rfl ?_
        exact ih x4 (if r10 < x3 then r10 else x3) (x4 + (1 : Int32)) _ h
    · have h := (if_neg hc9).symm.trans h
      refine M_ldc (pc := 43) (v := 1000000) dX12_callsBy_43 w_1645 ?_
      refine M_goto (pc := 45) (tgt := 55) dX12_callsBy_45 (by decide) ?_
      refine M_istore (pc := 55) (ls' := [some (.ref 205), some (.int x1), some (.int x2), some (.int x3), some (.int x4), some (.int (1000000 : Int32))]) dX12_callsBy_55 (by decide) rfl ?_
      refine M_iload (pc := 57) dX12_callsBy_57 rfl ?_
      refine M_iload_n (pc := 59) dX12_callsBy_59 rfl ?_
      refine M_icmp_ge (pc := 60) (tgt := 68) dX12_callsBy_60 (by decide) (fun hc13 => ?_) (fun hc13 => ?_)
      · have h := (if_pos hc13).symm.trans h
        refine M_iload_n (pc := 68) dX12_callsBy_68 rfl ?_
        refine M_istore_n (pc := 69) (ls' := [some (.ref 205), some (.int x1), some (.int x2), some (.int x3), some (.int x4), some (.int (1000000 : Int32))]) dX12_callsBy_69 (by decide) rfl ?_
        refine M_iload_n (pc := 70) dX12_callsBy_70 rfl ?_
        refine M_iload (pc := 71) dX12_callsBy_71 rfl ?_
        refine M_mmin (pc := 73) dX12_callsBy_73 mm_X12_259.1 mm_X12_259.2.1 mm_X12_259.2.2.1 mm_X12_259.2.2.2 (Nat.le_of_ble_eq_true rfl) ?_
        refine M_istore_n (pc := 76) (ls' := [some (.ref 205), some (.int x1), some (.int x2), some (.int (if (1000000 : Int32) < x3 then (1000000 : Int32) else x3)), some (.int x4), some (.int (1000000 : Int32))]) dX12_callsBy_76 (by decide) rfl ?_
        refine M_iinc (pc := 77) (v := (x4 + (1 : Int32))) (ls' := [some (.ref 205), some (.int x1), some (.int x2), some (.int (if (1000000 : Int32) < x3 then (1000000 : Int32) else x3)), some (.int (x4 + (1 : Int32))), some (.int (1000000 : Int32))]) dX12_callsBy_77 rfl rfl (by decide) rfl ?_
        refine M_goto (pc := 80) (tgt := 25) dX12_callsBy_80 (by decide) ?_
        refine M_mask (pc := 25) [true, true, true, true, true, false] rfl ?_
        exact ih x2 (if (1000000 : Int32) < x3 then (1000000 : Int32) else x3) (x4 + (1 : Int32)) _ h
      · have h := (if_neg hc13).symm.trans h
        refine M_iload (pc := 63) dX12_callsBy_63 rfl ?_
        refine M_goto (pc := 65) (tgt := 69) dX12_callsBy_65 (by decide) ?_
        refine M_istore_n (pc := 69) (ls' := [some (.ref 205), some (.int x1), some (.int x4), some (.int x3), some (.int x4), some (.int (1000000 : Int32))]) dX12_callsBy_69 (by decide) rfl ?_
        refine M_iload_n (pc := 70) dX12_callsBy_70 rfl ?_
        refine M_iload (pc := 71) dX12_callsBy_71 rfl ?_
        refine M_mmin (pc := 73) dX12_callsBy_73 mm_X12_259.1 mm_X12_259.2.1 mm_X12_259.2.2.1 mm_X12_259.2.2.2 (Nat.le_of_ble_eq_true rfl) ?_
        refine M_istore_n (pc := 76) (ls' := [some (.ref 205), some (.int x1), some (.int x4), some (.int (if (1000000 : Int32) < x3 then (1000000 : Int32) else x3)), some (.int x4), some (.int (1000000 : Int32))]) dX12_callsBy_76 (by decide) rfl ?_
        refine M_iinc (pc := 77) (v := (x4 + (1 : Int32))) (ls' := [some (.ref 205), some (.int x1), some (.int x4), some (.int (if (1000000 : Int32) < x3 then (1000000 : Int32) else x3)), some (.int (x4 + (1 : Int32))), some (.int (1000000 : Int32))]) dX12_callsBy_77 rfl rfl (by decide) rfl ?_
        refine M_goto (pc := 80) (tgt := 25) dX12_callsBy_80 (by decide) ?_
        refine M_mask (pc := 25) [true, true, true, true, true, false] rfl ?_
        exact ih x4 (if (1000000 : Int32) < x3 then (1000000 : Int32) else x3) (x4 + (1 : Int32)) _ h
set_option maxRecDepth 4000 in
set_option maxHeartbeats 4000000 in
theorem C_X12_callsBy {g : gX} {d : Nat} {P : Nat → Nat → Option Nat} {I : HI} {x1 : Int32} {J : HJ} (hp : Wp P) {r : Int32} (h : F_X12_callsBy I x1 = some r) : Cm g mX12_callsBy (d + 3) [.ref 205, .int x1] (NT, I, J, P) (some (.int r)) (NT, I, J, P) := by
  unfold F_X12_callsBy at h
  refine Cm.of (by decide) (by simp [Value.category]) (Nat.le_of_ble_eq_true rfl) (Nat.le_refl _) (ls := [some (.ref 205), some (.int x1), none, none, none, none]) rfl ?_
  refine M_aload_n (pc := 0) dX12_callsBy_0 rfl ?_
  refine M_iload_n (pc := 1) dX12_callsBy_1 rfl ?_
  obtain ⟨r1, hr2, h⟩ := bnd h
  refine M_callVi (pc := 2) dX12_callsBy_2 v_X12_252 rfl rfl at_11 (Nat.le_of_ble_eq_true rfl) (C_X12_isNew (d := d + 0) hp hr2) (Nat.le_refl _) ?_
  refine M_if_ne (pc := 5) (tgt := 10) dX12_callsBy_5 (by decide) (fun hc3 => ?_) (fun hc3 => ?_)
  · have h := (if_neg hc3).symm.trans h
    refine M_iconst (pc := 10) (v := -1) dX12_callsBy_10 (by decide) ?_
    refine M_istore_n (pc := 11) (ls' := [some (.ref 205), some (.int x1), some (.int (-1 : Int32)), none, none, none]) dX12_callsBy_11 (by decide) rfl ?_
    refine M_aload_n (pc := 12) dX12_callsBy_12 rfl ?_
    refine M_getR (pc := 13) dX12_callsBy_13 f_X12_13 at_11 (gc_205_1 hp).1 ?_
    refine M_bipush (pc := 16) (v := 8) dX12_callsBy_16 (by decide) ?_
    refine M_ildc (pc := 18) (j := 8) dX12_callsBy_18 (gc_205_1 hp).2 (by decide) (by decide) ?_
    refine M_iconst (pc := 19) (v := 1) dX12_callsBy_19 (by decide) ?_
    refine M_iadd (pc := 20) dX12_callsBy_20 ?_
    refine M_istore_n (pc := 21) (ls' := [some (.ref 205), some (.int x1), some (.int (-1 : Int32)), some (.int ((I 206 8) + (1 : Int32))), none, none]) dX12_callsBy_21 (by decide) rfl ?_
    refine M_iconst (pc := 22) (v := 0) dX12_callsBy_22 (by decide) ?_
    refine M_istore (pc := 23) (ls' := [some (.ref 205), some (.int x1), some (.int (-1 : Int32)), some (.int ((I 206 8) + (1 : Int32))), some (.int (0 : Int32)), none]) dX12_callsBy_23 (by decide) rfl ?_
    exact LC_X12_callsBy_25 (P := P) hp (-1 : Int32) ((I 206 8) + (1 : Int32)) (0 : Int32) _ h
  · have h := (if_pos hc3).symm.trans h
    refine M_iload_n (pc := 8) dX12_callsBy_8 rfl ?_
    obtain rfl := Option.some.inj h
    exact M_iret (pc := 9) dX12_callsBy_9 rfl rfl rfl rfl
def F_X12_isInWar (I : HI) (x1 : Int32) : Option (Int32) :=
  (F_X12_isNew I x1) >>= fun r1 => if r1 = 0 then (F_X12_of I x1 (5 : Int32)) >>= fun r4 => (F_X12_in I r4 (I 206 9) (I 206 10)) >>= fun r6 => if r6 = 0 then some (0 : Int32) else some (1 : Int32) else some (0 : Int32)
set_option maxRecDepth 4000 in
set_option maxHeartbeats 4000000 in
theorem C_X12_isInWar {g : gX} {d : Nat} {P : Nat → Nat → Option Nat} {I : HI} {x1 : Int32} {J : HJ} (hp : Wp P) {r : Int32} (h : F_X12_isInWar I x1 = some r) : Cm g mX12_isInWar (d + 3) [.ref 205, .int x1] (NT, I, J, P) (some (.int r)) (NT, I, J, P) := by
  unfold F_X12_isInWar at h
  refine Cm.of (by decide) (by simp [Value.category]) (Nat.le_of_ble_eq_true rfl) (Nat.le_refl _) (ls := [some (.ref 205), some (.int x1)]) rfl ?_
  refine M_aload_n (pc := 0) dX12_isInWar_0 rfl ?_
  refine M_iload_n (pc := 1) dX12_isInWar_1 rfl ?_
  obtain ⟨r1, hr2, h⟩ := bnd h
  refine M_callVi (pc := 2) dX12_isInWar_2 v_X12_252 rfl rfl at_11 (Nat.le_of_ble_eq_true rfl) (C_X12_isNew (d := d + 0) hp hr2) (Nat.le_refl _) ?_
  refine M_if_ne (pc := 5) (tgt := 38) dX12_isInWar_5 (by decide) (fun hc3 => ?_) (fun hc3 => ?_)
  · have h := (if_neg hc3).symm.trans h
    refine M_iconst (pc := 38) (v := 0) dX12_isInWar_38 (by decide) ?_
    obtain rfl := Option.some.inj h
    exact M_iret (pc := 39) dX12_isInWar_39 rfl rfl rfl rfl
  · have h := (if_pos hc3).symm.trans h
    refine M_aload_n (pc := 8) dX12_isInWar_8 rfl ?_
    refine M_iload_n (pc := 9) dX12_isInWar_9 rfl ?_
    refine M_iconst (pc := 10) (v := 5) dX12_isInWar_10 (by decide) ?_
    obtain ⟨r4, hr5, h⟩ := bnd h
    refine M_callVi (pc := 11) dX12_isInWar_11 v_X12_70 rfl rfl at_11 (Nat.le_of_ble_eq_true rfl) (C_X12_of (d := d + 1) hp hr5) (Nat.le_refl _) ?_
    refine M_aload_n (pc := 14) dX12_isInWar_14 rfl ?_
    refine M_getR (pc := 15) dX12_isInWar_15 f_X12_13 at_11 (gc_205_1 hp).1 ?_
    refine M_bipush (pc := 18) (v := 9) dX12_isInWar_18 (by decide) ?_
    refine M_ildc (pc := 20) (j := 9) dX12_isInWar_20 (gc_205_1 hp).2 (by decide) (by decide) ?_
    refine M_aload_n (pc := 21) dX12_isInWar_21 rfl ?_
    refine M_getR (pc := 22) dX12_isInWar_22 f_X12_13 at_11 (gc_205_1 hp).1 ?_
    refine M_bipush (pc := 25) (v := 10) dX12_isInWar_25 (by decide) ?_
    refine M_ildc (pc := 27) (j := 10) dX12_isInWar_27 (gc_205_1 hp).2 (by decide) (by decide) ?_
    obtain ⟨r6, hr7, h⟩ := bnd h
    refine M_callSi (pc := 28) dX12_isInWar_28 s_X12_73 rfl rfl (Nat.le_of_ble_eq_true rfl) (C_X12_in (d := d + 2) hp hr7) (Nat.le_refl _) ?_
    refine M_if_eq (pc := 31) (tgt := 38) dX12_isInWar_31 (by decide) (fun hc8 => ?_) (fun hc8 => ?_)
    · have h := (if_pos hc8).symm.trans h
      refine M_iconst (pc := 38) (v := 0) dX12_isInWar_38 (by decide) ?_
      obtain rfl := Option.some.inj h
      exact M_iret (pc := 39) dX12_isInWar_39 rfl rfl rfl rfl
    · have h := (if_neg hc8).symm.trans h
      refine M_iconst (pc := 34) (v := 1) dX12_isInWar_34 (by decide) ?_
      refine M_goto (pc := 35) (tgt := 39) dX12_isInWar_35 (by decide) ?_
      obtain rfl := Option.some.inj h
      exact M_iret (pc := 39) dX12_isInWar_39 rfl rfl rfl rfl
def F_X12_factOf (I : HI) (x1 : Int32) (x2 : Int32) (x3 : Int32) (x4 : Int32) : Option (Int32) :=
  if x1 = (0 : Int32) then some x3 else if x1 = (1 : Int32) then if x4 = (-1 : Int32) then some (I 206 3) else (F_X12_of I x4 (5 : Int32)) >>= fun r4 => some r4 else if x1 = (2 : Int32) then if x4 = (-1 : Int32) then some (I 206 12) else (F_X12_of I x4 (6 : Int32)) >>= fun r8 => some r8 else if x1 = (3 : Int32) then if x4 = (-1 : Int32) then some (9 : Int32) else (F_X12_of I x4 (7 : Int32)) >>= fun r12 => if r12 = (-1 : Int32) then some (9 : Int32) else (F_X12_of I x4 (7 : Int32)) >>= fun r15 => some r15 else if x1 = (4 : Int32) then some (I 206 5) else if x1 = (5 : Int32) then some (I 206 6) else if x1 = (6 : Int32) then (F_X12_isNew I x3) >>= fun r20 => if r20 = 0 then some (0 : Int32) else some (1 : Int32) else if x1 = (7 : Int32) then if x4 = (-1 : Int32) then some (0 : Int32) else (F_X12_isInWar I x4) >>= fun r25 => if r25 = 0 then some (0 : Int32) else some (1 : Int32) else if x1 = (8 : Int32) then if x4 = (-1 : Int32) then some (0 : Int32) else (F_X12_of I x4 (7 : Int32)) >>= fun r30 => if r30 = (-1 : Int32) then some (1 : Int32) else some (0 : Int32) else some x2
set_option maxRecDepth 4000 in
set_option maxHeartbeats 4000000 in
theorem C_X12_factOf {g : gX} {d : Nat} {P : Nat → Nat → Option Nat} {I : HI} {x1 : Int32} {x2 : Int32} {x3 : Int32} {x4 : Int32} {J : HJ} (hp : Wp P) {r : Int32} (h : F_X12_factOf I x1 x2 x3 x4 = some r) : Cm g mX12_factOf (d + 4) [.ref 205, .int x1, .int x2, .int x3, .int x4] (NT, I, J, P) (some (.int r)) (NT, I, J, P) := by
  unfold F_X12_factOf at h
  refine Cm.of (by decide) (by simp [Value.category]) (Nat.le_of_ble_eq_true rfl) (Nat.le_refl _) (ls := [some (.ref 205), some (.int x1), some (.int x2), some (.int x3), some (.int x4)]) rfl ?_
  refine M_iload_n (pc := 0) dX12_factOf_0 rfl ?_
  by_cases hc1 : x1 = (0 : Int32)
  · have h := (if_pos hc1).symm.trans h
    refine M_tableIn (pc := 1) (x := x1) (tgt := 52) dX12_factOf_1 (by rw [hc1]; decide) (by rw [hc1]; decide) (by rw [hc1]; rfl) (by decide) ?_
    refine M_iload_n (pc := 52) dX12_factOf_52 rfl ?_
    obtain rfl := Option.some.inj h
    exact M_iret (pc := 53) dX12_factOf_53 rfl rfl rfl rfl
  have h := (if_neg hc1).symm.trans h
  by_cases hc2 : x1 = (1 : Int32)
  · have h := (if_pos hc2).symm.trans h
    refine M_tableIn (pc := 1) (x := x1) (tgt := 54) dX12_factOf_1 (by rw [hc2]; decide) (by rw [hc2]; decide) (by rw [hc2]; rfl) (by decide) ?_
    refine M_iload (pc := 54) dX12_factOf_54 rfl ?_
    refine M_iconst (pc := 56) (v := -1) dX12_factOf_56 (by decide) ?_
    refine M_icmp_ne (pc := 57) (tgt := 69) dX12_factOf_57 (by decide) (fun hc3 => ?_) (fun hc3 => ?_)
    · have h := (if_neg hc3).symm.trans h
      refine M_aload_n (pc := 69) dX12_factOf_69 rfl ?_
      refine M_iload (pc := 70) dX12_factOf_70 rfl ?_
      refine M_iconst (pc := 72) (v := 5) dX12_factOf_72 (by decide) ?_
      obtain ⟨r4, hr5, h⟩ := bnd h
      refine M_callVi (pc := 73) dX12_factOf_73 v_X12_70 rfl rfl at_11 (Nat.le_of_ble_eq_true rfl) (C_X12_of (d := d + 2) hp hr5) (Nat.le_refl _) ?_
      obtain rfl := Option.some.inj h
      exact M_iret (pc := 76) dX12_factOf_76 rfl rfl rfl rfl
    · have h := (if_pos hc3).symm.trans h
      refine M_aload_n (pc := 60) dX12_factOf_60 rfl ?_
      refine M_getR (pc := 61) dX12_factOf_61 f_X12_13 at_11 (gc_205_1 hp).1 ?_
      refine M_iconst (pc := 64) (v := 3) dX12_factOf_64 (by decide) ?_
      refine M_ildc (pc := 65) (j := 3) dX12_factOf_65 (gc_205_1 hp).2 (by decide) (by decide) ?_
      refine M_goto (pc := 66) (tgt := 76) dX12_factOf_66 (by decide) ?_
      obtain rfl := Option.some.inj h
      exact M_iret (pc := 76) dX12_factOf_76 rfl rfl rfl rfl
  have h := (if_neg hc2).symm.trans h
  by_cases hc6 : x1 = (2 : Int32)
  · have h := (if_pos hc6).symm.trans h
    refine M_tableIn (pc := 1) (x := x1) (tgt := 77) dX12_factOf_1 (by rw [hc6]; decide) (by rw [hc6]; decide) (by rw [hc6]; rfl) (by decide) ?_
    refine M_iload (pc := 77) dX12_factOf_77 rfl ?_
    refine M_iconst (pc := 79) (v := -1) dX12_factOf_79 (by decide) ?_
    refine M_icmp_ne (pc := 80) (tgt := 93) dX12_factOf_80 (by decide) (fun hc7 => ?_) (fun hc7 => ?_)
    · have h := (if_neg hc7).symm.trans h
      refine M_aload_n (pc := 93) dX12_factOf_93 rfl ?_
      refine M_iload (pc := 94) dX12_factOf_94 rfl ?_
      refine M_bipush (pc := 96) (v := 6) dX12_factOf_96 (by decide) ?_
      obtain ⟨r8, hr9, h⟩ := bnd h
      refine M_callVi (pc := 98) dX12_factOf_98 v_X12_70 rfl rfl at_11 (Nat.le_of_ble_eq_true rfl) (C_X12_of (d := d + 2) hp hr9) (Nat.le_refl _) ?_
      obtain rfl := Option.some.inj h
      exact M_iret (pc := 101) dX12_factOf_101 rfl rfl rfl rfl
    · have h := (if_pos hc7).symm.trans h
      refine M_aload_n (pc := 83) dX12_factOf_83 rfl ?_
      refine M_getR (pc := 84) dX12_factOf_84 f_X12_13 at_11 (gc_205_1 hp).1 ?_
      refine M_bipush (pc := 87) (v := 12) dX12_factOf_87 (by decide) ?_
      refine M_ildc (pc := 89) (j := 12) dX12_factOf_89 (gc_205_1 hp).2 (by decide) (by decide) ?_
      refine M_goto (pc := 90) (tgt := 101) dX12_factOf_90 (by decide) ?_
      obtain rfl := Option.some.inj h
      exact M_iret (pc := 101) dX12_factOf_101 rfl rfl rfl rfl
  have h := (if_neg hc6).symm.trans h
  by_cases hc10 : x1 = (3 : Int32)
  · have h := (if_pos hc10).symm.trans h
    refine M_tableIn (pc := 1) (x := x1) (tgt := 102) dX12_factOf_1 (by rw [hc10]; decide) (by rw [hc10]; decide) (by rw [hc10]; rfl) (by decide) ?_
    refine M_iload (pc := 102) dX12_factOf_102 rfl ?_
    refine M_iconst (pc := 104) (v := -1) dX12_factOf_104 (by decide) ?_
    refine M_icmp_eq (pc := 105) (tgt := 120) dX12_factOf_105 (by decide) (fun hc11 => ?_) (fun hc11 => ?_)
    · have h := (if_pos hc11).symm.trans h
      refine M_bipush (pc := 120) (v := 9) dX12_factOf_120 (by decide) ?_
      refine M_goto (pc := 122) (tgt := 133) dX12_factOf_122 (by decide) ?_
      obtain rfl := Option.some.inj h
      exact M_iret (pc := 133) dX12_factOf_133 rfl rfl rfl rfl
    · have h := (if_neg hc11).symm.trans h
      refine M_aload_n (pc := 108) dX12_factOf_108 rfl ?_
      refine M_iload (pc := 109) dX12_factOf_109 rfl ?_
      refine M_bipush (pc := 111) (v := 7) dX12_factOf_111 (by decide) ?_
      obtain ⟨r12, hr13, h⟩ := bnd h
      refine M_callVi (pc := 113) dX12_factOf_113 v_X12_70 rfl rfl at_11 (Nat.le_of_ble_eq_true rfl) (C_X12_of (d := d + 2) hp hr13) (Nat.le_refl _) ?_
      refine M_iconst (pc := 116) (v := -1) dX12_factOf_116 (by decide) ?_
      refine M_icmp_ne (pc := 117) (tgt := 125) dX12_factOf_117 (by decide) (fun hc14 => ?_) (fun hc14 => ?_)
      · have h := (if_neg hc14).symm.trans h
        refine M_aload_n (pc := 125) dX12_factOf_125 rfl ?_
        refine M_iload (pc := 126) dX12_factOf_126 rfl ?_
        refine M_bipush (pc := 128) (v := 7) dX12_factOf_128 (by decide) ?_
        obtain ⟨r15, hr16, h⟩ := bnd h
        refine M_callVi (pc := 130) dX12_factOf_130 v_X12_70 rfl rfl at_11 (Nat.le_of_ble_eq_true rfl) (C_X12_of (d := d + 2) hp hr16) (Nat.le_refl _) ?_
        obtain rfl := Option.some.inj h
        exact M_iret (pc := 133) dX12_factOf_133 rfl rfl rfl rfl
      · have h := (if_pos hc14).symm.trans h
        refine M_bipush (pc := 120) (v := 9) dX12_factOf_120 (by decide) ?_
        refine M_goto (pc := 122) (tgt := 133) dX12_factOf_122 (by decide) ?_
        obtain rfl := Option.some.inj h
        exact M_iret (pc := 133) dX12_factOf_133 rfl rfl rfl rfl
  have h := (if_neg hc10).symm.trans h
  by_cases hc17 : x1 = (4 : Int32)
  · have h := (if_pos hc17).symm.trans h
    refine M_tableIn (pc := 1) (x := x1) (tgt := 134) dX12_factOf_1 (by rw [hc17]; decide) (by rw [hc17]; decide) (by rw [hc17]; rfl) (by decide) ?_
    refine M_aload_n (pc := 134) dX12_factOf_134 rfl ?_
    refine M_getR (pc := 135) dX12_factOf_135 f_X12_13 at_11 (gc_205_1 hp).1 ?_
    refine M_iconst (pc := 138) (v := 5) dX12_factOf_138 (by decide) ?_
    refine M_ildc (pc := 139) (j := 5) dX12_factOf_139 (gc_205_1 hp).2 (by decide) (by decide) ?_
    obtain rfl := Option.some.inj h
    exact M_iret (pc := 140) dX12_factOf_140 rfl rfl rfl rfl
  have h := (if_neg hc17).symm.trans h
  by_cases hc18 : x1 = (5 : Int32)
  · have h := (if_pos hc18).symm.trans h
    refine M_tableIn (pc := 1) (x := x1) (tgt := 141) dX12_factOf_1 (by rw [hc18]; decide) (by rw [hc18]; decide) (by rw [hc18]; rfl) (by decide) ?_
    refine M_aload_n (pc := 141) dX12_factOf_141 rfl ?_
    refine M_getR (pc := 142) dX12_factOf_142 f_X12_13 at_11 (gc_205_1 hp).1 ?_
    refine M_bipush (pc := 145) (v := 6) dX12_factOf_145 (by decide) ?_
    refine M_ildc (pc := 147) (j := 6) dX12_factOf_147 (gc_205_1 hp).2 (by decide) (by decide) ?_
    obtain rfl := Option.some.inj h
    exact M_iret (pc := 148) dX12_factOf_148 rfl rfl rfl rfl
  have h := (if_neg hc18).symm.trans h
  by_cases hc19 : x1 = (6 : Int32)
  · have h := (if_pos hc19).symm.trans h
    refine M_tableIn (pc := 1) (x := x1) (tgt := 149) dX12_factOf_1 (by rw [hc19]; decide) (by rw [hc19]; decide) (by rw [hc19]; rfl) (by decide) ?_
    refine M_aload_n (pc := 149) dX12_factOf_149 rfl ?_
    refine M_iload_n (pc := 150) dX12_factOf_150 rfl ?_
    obtain ⟨r20, hr21, h⟩ := bnd h
    refine M_callVi (pc := 151) dX12_factOf_151 v_X12_252 rfl rfl at_11 (Nat.le_of_ble_eq_true rfl) (C_X12_isNew (d := d + 1) hp hr21) (Nat.le_refl _) ?_
    refine M_if_eq (pc := 154) (tgt := 161) dX12_factOf_154 (by decide) (fun hc22 => ?_) (fun hc22 => ?_)
    · have h := (if_pos hc22).symm.trans h
      refine M_iconst (pc := 161) (v := 0) dX12_factOf_161 (by decide) ?_
      obtain rfl := Option.some.inj h
      exact M_iret (pc := 162) dX12_factOf_162 rfl rfl rfl rfl
    · have h := (if_neg hc22).symm.trans h
      refine M_iconst (pc := 157) (v := 1) dX12_factOf_157 (by decide) ?_
      refine M_goto (pc := 158) (tgt := 162) dX12_factOf_158 (by decide) ?_
      obtain rfl := Option.some.inj h
      exact M_iret (pc := 162) dX12_factOf_162 rfl rfl rfl rfl
  have h := (if_neg hc19).symm.trans h
  by_cases hc23 : x1 = (7 : Int32)
  · have h := (if_pos hc23).symm.trans h
    refine M_tableIn (pc := 1) (x := x1) (tgt := 163) dX12_factOf_1 (by rw [hc23]; decide) (by rw [hc23]; decide) (by rw [hc23]; rfl) (by decide) ?_
    refine M_iload (pc := 163) dX12_factOf_163 rfl ?_
    refine M_iconst (pc := 165) (v := -1) dX12_factOf_165 (by decide) ?_
    refine M_icmp_eq (pc := 166) (tgt := 182) dX12_factOf_166 (by decide) (fun hc24 => ?_) (fun hc24 => ?_)
    · have h := (if_pos hc24).symm.trans h
      refine M_iconst (pc := 182) (v := 0) dX12_factOf_182 (by decide) ?_
      obtain rfl := Option.some.inj h
      exact M_iret (pc := 183) dX12_factOf_183 rfl rfl rfl rfl
    · have h := (if_neg hc24).symm.trans h
      refine M_aload_n (pc := 169) dX12_factOf_169 rfl ?_
      refine M_iload (pc := 170) dX12_factOf_170 rfl ?_
      obtain ⟨r25, hr26, h⟩ := bnd h
      refine M_callVi (pc := 172) dX12_factOf_172 v_X12_262 rfl rfl at_11 (Nat.le_of_ble_eq_true rfl) (C_X12_isInWar (d := d + 0) hp hr26) (Nat.le_refl _) ?_
      refine M_if_eq (pc := 175) (tgt := 182) dX12_factOf_175 (by decide) (fun hc27 => ?_) (fun hc27 => ?_)
      · have h := (if_pos hc27).symm.trans h
        refine M_iconst (pc := 182) (v := 0) dX12_factOf_182 (by decide) ?_
        obtain rfl := Option.some.inj h
        exact M_iret (pc := 183) dX12_factOf_183 rfl rfl rfl rfl
      · have h := (if_neg hc27).symm.trans h
        refine M_iconst (pc := 178) (v := 1) dX12_factOf_178 (by decide) ?_
        refine M_goto (pc := 179) (tgt := 183) dX12_factOf_179 (by decide) ?_
        obtain rfl := Option.some.inj h
        exact M_iret (pc := 183) dX12_factOf_183 rfl rfl rfl rfl
  have h := (if_neg hc23).symm.trans h
  by_cases hc28 : x1 = (8 : Int32)
  · have h := (if_pos hc28).symm.trans h
    refine M_tableIn (pc := 1) (x := x1) (tgt := 184) dX12_factOf_1 (by rw [hc28]; decide) (by rw [hc28]; decide) (by rw [hc28]; rfl) (by decide) ?_
    refine M_iload (pc := 184) dX12_factOf_184 rfl ?_
    refine M_iconst (pc := 186) (v := -1) dX12_factOf_186 (by decide) ?_
    refine M_icmp_eq (pc := 187) (tgt := 206) dX12_factOf_187 (by decide) (fun hc29 => ?_) (fun hc29 => ?_)
    · have h := (if_pos hc29).symm.trans h
      refine M_iconst (pc := 206) (v := 0) dX12_factOf_206 (by decide) ?_
      obtain rfl := Option.some.inj h
      exact M_iret (pc := 207) dX12_factOf_207 rfl rfl rfl rfl
    · have h := (if_neg hc29).symm.trans h
      refine M_aload_n (pc := 190) dX12_factOf_190 rfl ?_
      refine M_iload (pc := 191) dX12_factOf_191 rfl ?_
      refine M_bipush (pc := 193) (v := 7) dX12_factOf_193 (by decide) ?_
      obtain ⟨r30, hr31, h⟩ := bnd h
      refine M_callVi (pc := 195) dX12_factOf_195 v_X12_70 rfl rfl at_11 (Nat.le_of_ble_eq_true rfl) (C_X12_of (d := d + 2) hp hr31) (Nat.le_refl _) ?_
      refine M_iconst (pc := 198) (v := -1) dX12_factOf_198 (by decide) ?_
      refine M_icmp_ne (pc := 199) (tgt := 206) dX12_factOf_199 (by decide) (fun hc32 => ?_) (fun hc32 => ?_)
      · have h := (if_neg hc32).symm.trans h
        refine M_iconst (pc := 206) (v := 0) dX12_factOf_206 (by decide) ?_
        obtain rfl := Option.some.inj h
        exact M_iret (pc := 207) dX12_factOf_207 rfl rfl rfl rfl
      · have h := (if_pos hc32).symm.trans h
        refine M_iconst (pc := 202) (v := 1) dX12_factOf_202 (by decide) ?_
        refine M_goto (pc := 203) (tgt := 207) dX12_factOf_203 (by decide) ?_
        obtain rfl := Option.some.inj h
        exact M_iret (pc := 207) dX12_factOf_207 rfl rfl rfl rfl
  have h := (if_neg hc28).symm.trans h
  refine M_tableOut (pc := 1) (x := x1) (tgt := 208) dX12_factOf_1 (sw_out 9 (by decide) (fun j hj => match j, hj with
    | 0, _ => sw_ne hc1 (by decide)
    | 1, _ => sw_ne hc2 (by decide)
    | 2, _ => sw_ne hc6 (by decide)
    | 3, _ => sw_ne hc10 (by decide)
    | 4, _ => sw_ne hc17 (by decide)
    | 5, _ => sw_ne hc18 (by decide)
    | 6, _ => sw_ne hc19 (by decide)
    | 7, _ => sw_ne hc23 (by decide)
    | 8, _ => sw_ne hc28 (by decide)
    | j + 9, hj => absurd hj (by omega))) (by decide) ?_
  refine M_iload_n (pc := 208) dX12_factOf_208 rfl ?_
  obtain rfl := Option.some.inj h
  exact M_iret (pc := 209) dX12_factOf_209 rfl rfl rfl rfl
def L_X12_holdsLine_23 (x2 : Int32) (x3 : Int32) (x5 : Int32) (x4 : Int32) (x6 : Int32) (I : HI) : Option (Int32 × HI) :=
  (ald 2051 (I 206) (x5 + (3 : Int32))) >>= fun v3 => if v3 ≤ x6 then if x4 = 0 then some ((1 : Int32), I) else if (I 213 0) = (1 : Int32) then some ((1 : Int32), I) else some ((0 : Int32), I) else (ald 2051 (I 206) ((402 : Int32) + ((2 : Int32) * x6))) >>= fun v8 => if (9 : Int32) < v8 then if v8 = (13 : Int32) then (ald 400 (I 213) (x4 - (1 : Int32))) >>= fun v55 => if inB (x4 - (1 : Int32)) 400 = true then L_X12_holdsLine_23 x2 x3 x5 x4 (x6 + (1 : Int32)) (up2 I 213 ((x4 - (1 : Int32))).toNatClampNeg ((1 : Int32) - v55)) else none else (ald 400 (I 213) ((x4 + (-1 : Int32)) - (1 : Int32))) >>= fun v12 => (ald 400 (I 213) (x4 + (-1 : Int32))) >>= fun v14 => if v8 = (11 : Int32) then if v14 ≤ v12 then if v8 = (10 : Int32) then if inB ((x4 + (-1 : Int32)) - (1 : Int32)) 400 = true then L_X12_holdsLine_23 x2 x3 x5 (x4 + (-1 : Int32)) (x6 + (1 : Int32)) (up2 I 213 (((x4 + (-1 : Int32)) - (1 : Int32))).toNatClampNeg (v12 + v14)) else none else if inB ((x4 + (-1 : Int32)) - (1 : Int32)) 400 = true then L_X12_holdsLine_23 x2 x3 x5 (x4 + (-1 : Int32)) (x6 + (1 : Int32)) (up2 I 213 (((x4 + (-1 : Int32)) - (1 : Int32))).toNatClampNeg (0 : Int32)) else none else if v8 = (10 : Int32) then if inB ((x4 + (-1 : Int32)) - (1 : Int32)) 400 = true then L_X12_holdsLine_23 x2 x3 x5 (x4 + (-1 : Int32)) (x6 + (1 : Int32)) (up2 I 213 (((x4 + (-1 : Int32)) - (1 : Int32))).toNatClampNeg (v12 + v14)) else none else if inB ((x4 + (-1 : Int32)) - (1 : Int32)) 400 = true then L_X12_holdsLine_23 x2 x3 x5 (x4 + (-1 : Int32)) (x6 + (1 : Int32)) (up2 I 213 (((x4 + (-1 : Int32)) - (1 : Int32))).toNatClampNeg (1 : Int32)) else none else if v8 = (12 : Int32) then if v12 ≤ v14 then if v8 = (10 : Int32) then if inB ((x4 + (-1 : Int32)) - (1 : Int32)) 400 = true then L_X12_holdsLine_23 x2 x3 x5 (x4 + (-1 : Int32)) (x6 + (1 : Int32)) (up2 I 213 (((x4 + (-1 : Int32)) - (1 : Int32))).toNatClampNeg (v12 + v14)) else none else if inB ((x4 + (-1 : Int32)) - (1 : Int32)) 400 = true then L_X12_holdsLine_23 x2 x3 x5 (x4 + (-1 : Int32)) (x6 + (1 : Int32)) (up2 I 213 (((x4 + (-1 : Int32)) - (1 : Int32))).toNatClampNeg (0 : Int32)) else none else if v8 = (10 : Int32) then if inB ((x4 + (-1 : Int32)) - (1 : Int32)) 400 = true then L_X12_holdsLine_23 x2 x3 x5 (x4 + (-1 : Int32)) (x6 + (1 : Int32)) (up2 I 213 (((x4 + (-1 : Int32)) - (1 : Int32))).toNatClampNeg (v12 + v14)) else none else if inB ((x4 + (-1 : Int32)) - (1 : Int32)) 400 = true then L_X12_holdsLine_23 x2 x3 x5 (x4 + (-1 : Int32)) (x6 + (1 : Int32)) (up2 I 213 (((x4 + (-1 : Int32)) - (1 : Int32))).toNatClampNeg (1 : Int32)) else none else if v8 = (14 : Int32) then if (v12 + v14) = (2 : Int32) then if v8 = (10 : Int32) then if inB ((x4 + (-1 : Int32)) - (1 : Int32)) 400 = true then L_X12_holdsLine_23 x2 x3 x5 (x4 + (-1 : Int32)) (x6 + (1 : Int32)) (up2 I 213 (((x4 + (-1 : Int32)) - (1 : Int32))).toNatClampNeg (v12 + v14)) else none else if inB ((x4 + (-1 : Int32)) - (1 : Int32)) 400 = true then L_X12_holdsLine_23 x2 x3 x5 (x4 + (-1 : Int32)) (x6 + (1 : Int32)) (up2 I 213 (((x4 + (-1 : Int32)) - (1 : Int32))).toNatClampNeg (1 : Int32)) else none else if v8 = (10 : Int32) then if inB ((x4 + (-1 : Int32)) - (1 : Int32)) 400 = true then L_X12_holdsLine_23 x2 x3 x5 (x4 + (-1 : Int32)) (x6 + (1 : Int32)) (up2 I 213 (((x4 + (-1 : Int32)) - (1 : Int32))).toNatClampNeg (v12 + v14)) else none else if inB ((x4 + (-1 : Int32)) - (1 : Int32)) 400 = true then L_X12_holdsLine_23 x2 x3 x5 (x4 + (-1 : Int32)) (x6 + (1 : Int32)) (up2 I 213 (((x4 + (-1 : Int32)) - (1 : Int32))).toNatClampNeg (0 : Int32)) else none else if (v12 + v14) ≤ 0 then if v8 = (10 : Int32) then if inB ((x4 + (-1 : Int32)) - (1 : Int32)) 400 = true then L_X12_holdsLine_23 x2 x3 x5 (x4 + (-1 : Int32)) (x6 + (1 : Int32)) (up2 I 213 (((x4 + (-1 : Int32)) - (1 : Int32))).toNatClampNeg (v12 + v14)) else none else if inB ((x4 + (-1 : Int32)) - (1 : Int32)) 400 = true then L_X12_holdsLine_23 x2 x3 x5 (x4 + (-1 : Int32)) (x6 + (1 : Int32)) (up2 I 213 (((x4 + (-1 : Int32)) - (1 : Int32))).toNatClampNeg (0 : Int32)) else none else if v8 = (10 : Int32) then if inB ((x4 + (-1 : Int32)) - (1 : Int32)) 400 = true then L_X12_holdsLine_23 x2 x3 x5 (x4 + (-1 : Int32)) (x6 + (1 : Int32)) (up2 I 213 (((x4 + (-1 : Int32)) - (1 : Int32))).toNatClampNeg (v12 + v14)) else none else if inB ((x4 + (-1 : Int32)) - (1 : Int32)) 400 = true then L_X12_holdsLine_23 x2 x3 x5 (x4 + (-1 : Int32)) (x6 + (1 : Int32)) (up2 I 213 (((x4 + (-1 : Int32)) - (1 : Int32))).toNatClampNeg (1 : Int32)) else none else (ald 2051 (I 206) (((402 : Int32) + ((2 : Int32) * x6)) + (1 : Int32))) >>= fun v58 => (F_X12_factOf I v8 v58 x2 x3) >>= fun r60 => if inB x4 400 = true then L_X12_holdsLine_23 x2 x3 x5 (x4 + (1 : Int32)) (x6 + (1 : Int32)) (up2 I 213 (x4).toNatClampNeg r60) else none
partial_fixpoint
def F_X12_holdsLine (I : HI) (x1 : Int32) (x2 : Int32) (x3 : Int32) : Option (Int32 × HI) :=
  (ald 2051 (I 206) (((354 : Int32) + ((4 : Int32) * x1)) + (2 : Int32))) >>= fun v1 => L_X12_holdsLine_23 x2 x3 ((354 : Int32) + ((4 : Int32) * x1)) (0 : Int32) v1 I
set_option maxRecDepth 4000 in
set_option maxHeartbeats 4000000 in
theorem LC_X12_holdsLine_23 {g : gX} {d : Nat} {P : Nat → Nat → Option Nat} {J : HJ} {x2 : Int32} {x3 : Int32} {x5 : Int32} (hp : Wp P) : ∀ (x4 : Int32) (x6 : Int32) (I : HI) (r : Int32 × HI), L_X12_holdsLine_23 x2 x3 x5 x4 x6 I = some r → M g mX12_holdsLine (d + 5) (NT, NT, 0) ((.inl (some (.int r.1))), (NT, r.2, J, P)) 23 [some (.ref 205), none, some (.int x2), some (.int x3), some (.int x4), some (.int x5), some (.int x6), none, none, none, none] [] (NT, I, J, P) := by
  refine L_X12_holdsLine_23.partial_correctness x2 x3 x5 (fun x4 x6 I r => M g mX12_holdsLine (d + 5) (NT, NT, 0) ((.inl (some (.int r.1))), (NT, r.2, J, P)) 23 [some (.ref 205), none, some (.int x2), some (.int x3), some (.int x4), some (.int x5), some (.int x6), none, none, none, none] [] (NT, I, J, P)) ?_
  intro f ih x4 x6 I r h
  refine M_iload (pc := 23) dX12_holdsLine_23 rfl ?_
  refine M_aload_n (pc := 25) dX12_holdsLine_25 rfl ?_
  refine M_getR (pc := 26) dX12_holdsLine_26 f_X12_13 at_11 (gc_205_1 hp).1 ?_
  refine M_iload (pc := 29) dX12_holdsLine_29 rfl ?_
  refine M_iconst (pc := 31) (v := 3) dX12_holdsLine_31 (by decide) ?_
  refine M_iadd (pc := 32) dX12_holdsLine_32 ?_
  obtain ⟨v3, hv4, h⟩ := bnd h
  refine M_aldI (pc := 33) dX12_holdsLine_33 (gc_205_1 hp).2 hv4 ?_
  refine M_icmp_ge (pc := 34) (tgt := 271) dX12_holdsLine_34 (by decide) (fun hc5 => ?_) (fun hc5 => ?_)
  · have h := (if_pos hc5).symm.trans h
    refine M_iload (pc := 271) dX12_holdsLine_271 rfl ?_
    refine M_if_eq (pc := 273) (tgt := 286) dX12_holdsLine_273 (by decide) (fun hc6 => ?_) (fun hc6 => ?_)
    · have h := (if_pos hc6).symm.trans h
      refine M_iconst (pc := 286) (v := 1) dX12_holdsLine_286 (by decide) ?_
      refine M_goto (pc := 287) (tgt := 291) dX12_holdsLine_287 (by decide) ?_
      obtain rfl := Option.some.inj h
      exact M_iret (pc := 291) dX12_holdsLine_291 rfl rfl rfl rfl
    · have h := (if_neg hc6).symm.trans h
      refine M_aload_n (pc := 276) dX12_holdsLine_276 rfl ?_
      refine M_getR (pc := 277) dX12_holdsLine_277 f_X12_39 at_11 (gc_205_17 hp).1 ?_
      refine M_iconst (pc := 280) (v := 0) dX12_holdsLine_280 (by decide) ?_
      refine M_ildc (pc := 281) (j := 0) dX12_holdsLine_281 (gc_205_17 hp).2 (by decide) (by decide) ?_
      refine M_iconst (pc := 282) (v := 1) dX12_holdsLine_282 (by decide) ?_
      refine M_icmp_ne (pc := 283) (tgt := 290) dX12_holdsLine_283 (by decide) (fun hc7 => ?_) (fun hc7 => ?_)
      · have h := (if_neg hc7).symm.trans h
        refine M_iconst (pc := 290) (v := 0) dX12_holdsLine_290 (by decide) ?_
        obtain rfl := Option.some.inj h
        exact M_iret (pc := 291) dX12_holdsLine_291 rfl rfl rfl rfl
      · have h := (if_pos hc7).symm.trans h
        refine M_iconst (pc := 286) (v := 1) dX12_holdsLine_286 (by decide) ?_
        refine M_goto (pc := 287) (tgt := 291) dX12_holdsLine_287 (by decide) ?_
        obtain rfl := Option.some.inj h
        exact M_iret (pc := 291) dX12_holdsLine_291 rfl rfl rfl rfl
  · have h := (if_neg hc5).symm.trans h
    refine M_aload_n (pc := 37) dX12_holdsLine_37 rfl ?_
    refine M_getR (pc := 38) dX12_holdsLine_38 f_X12_13 at_11 (gc_205_1 hp).1 ?_
    refine M_sipush (pc := 41) (v := 402) dX12_holdsLine_41 (by decide) ?_
    refine M_iconst (pc := 44) (v := 2) dX12_holdsLine_44 (by decide) ?_
    refine M_iload (pc := 45) dX12_holdsLine_45 rfl ?_
    refine M_imul (pc := 47) dX12_holdsLine_47 ?_
    refine M_iadd (pc := 48) dX12_holdsLine_48 ?_
    obtain ⟨v8, hv9, h⟩ := bnd h
    refine M_aldI (pc := 49) dX12_holdsLine_49 (gc_205_1 hp).2 hv9 ?_
    refine M_istore (pc := 50) (ls' := [some (.ref 205), none, some (.int x2), some (.int x3), some (.int x4), some (.int x5), some (.int x6), some (.int v8), none, none, none]) dX12_holdsLine_50 (by decide) rfl ?_
    refine M_iload (pc := 52) dX12_holdsLine_52 rfl ?_
    refine M_bipush (pc := 54) (v := 9) dX12_holdsLine_54 (by decide) ?_
    refine M_icmp_gt (pc := 56) (tgt := 95) dX12_holdsLine_56 (by decide) (fun hc10 => ?_) (fun hc10 => ?_)
    · have h := (if_pos hc10).symm.trans h
      refine M_iload (pc := 95) dX12_holdsLine_95 rfl ?_
      refine M_bipush (pc := 97) (v := 13) dX12_holdsLine_97 (by decide) ?_
      refine M_icmp_ne (pc := 99) (tgt := 125) dX12_holdsLine_99 (by decide) (fun hc11 => ?_) (fun hc11 => ?_)
      · have h := (if_neg hc11).symm.trans h
        refine M_iinc (pc := 125) (v := (x4 + (-1 : Int32))) (ls' := [some (.ref 205), none, some (.int x2), some (.int x3), some (.int (x4 + (-1 : Int32))), some (.int x5), some (.int x6), some (.int v8), none, none, none]) dX12_holdsLine_125 rfl rfl (by decide) rfl ?_
        refine M_aload_n (pc := 128) dX12_holdsLine_128 rfl ?_
        refine M_getR (pc := 129) dX12_holdsLine_129 f_X12_39 at_11 (gc_205_17 hp).1 ?_
        refine M_iload (pc := 132) dX12_holdsLine_132 rfl ?_
        refine M_iconst (pc := 134) (v := 1) dX12_holdsLine_134 (by decide) ?_
        refine M_isub (pc := 135) dX12_holdsLine_135 ?_
        obtain ⟨v12, hv13, h⟩ := bnd h
        refine M_aldI (pc := 136) dX12_holdsLine_136 (gc_205_17 hp).2 hv13 ?_
        refine M_istore (pc := 137) (ls' := [some (.ref 205), none, some (.int x2), some (.int x3), some (.int (x4 + (-1 : Int32))), some (.int x5), some (.int x6), some (.int v8), some (.int v12), none, none]) dX12_holdsLine_137 (by decide) rfl ?_
        refine M_aload_n (pc := 139) dX12_holdsLine_139 rfl ?_
        refine M_getR (pc := 140) dX12_holdsLine_140 f_X12_39 at_11 (gc_205_17 hp).1 ?_
        refine M_iload (pc := 143) dX12_holdsLine_143 rfl ?_
        obtain ⟨v14, hv15, h⟩ := bnd h
        refine M_aldI (pc := 145) dX12_holdsLine_145 (gc_205_17 hp).2 hv15 ?_
        refine M_istore (pc := 146) (ls' := [some (.ref 205), none, some (.int x2), some (.int x3), some (.int (x4 + (-1 : Int32))), some (.int x5), some (.int x6), some (.int v8), some (.int v12), some (.int v14), none]) dX12_holdsLine_146 (by decide) rfl ?_
        refine M_iload (pc := 148) dX12_holdsLine_148 rfl ?_
        refine M_bipush (pc := 150) (v := 11) dX12_holdsLine_150 (by decide) ?_
        refine M_icmp_ne (pc := 152) (tgt := 170) dX12_holdsLine_152 (by decide) (fun hc16 => ?_) (fun hc16 => ?_)
        · have h := (if_neg hc16).symm.trans h
          refine M_iload (pc := 170) dX12_holdsLine_170 rfl ?_
          refine M_bipush (pc := 172) (v := 12) dX12_holdsLine_172 (by decide) ?_
          refine M_icmp_ne (pc := 174) (tgt := 192) dX12_holdsLine_174 (by decide) (fun hc17 => ?_) (fun hc17 => ?_)
          · have h := (if_neg hc17).symm.trans h
            refine M_iload (pc := 192) dX12_holdsLine_192 rfl ?_
            refine M_bipush (pc := 194) (v := 14) dX12_holdsLine_194 (by decide) ?_
            refine M_icmp_ne (pc := 196) (tgt := 216) dX12_holdsLine_196 (by decide) (fun hc18 => ?_) (fun hc18 => ?_)
            · have h := (if_neg hc18).symm.trans h
              refine M_iload (pc := 216) dX12_holdsLine_216 rfl ?_
              refine M_iload (pc := 218) dX12_holdsLine_218 rfl ?_
              refine M_iadd (pc := 220) dX12_holdsLine_220 ?_
              refine M_if_le (pc := 221) (tgt := 228) dX12_holdsLine_221 (by decide) (fun hc19 => ?_) (fun hc19 => ?_)
              · have h := (if_pos hc19).symm.trans h
                refine M_iconst (pc := 228) (v := 0) dX12_holdsLine_228 (by decide) ?_
                refine M_istore (pc := 229) (ls' := [some (.ref 205), none, some (.int x2), some (.int x3), some (.int (x4 + (-1 : Int32))), some (.int x5), some (.int x6), some (.int v8), some (.int v12), some (.int v14), some (.int (0 : Int32))]) dX12_holdsLine_229 (by decide) rfl ?_
                refine M_aload_n (pc := 231) dX12_holdsLine_231 rfl ?_
                refine M_getR (pc := 232) dX12_holdsLine_232 f_X12_39 at_11 (gc_205_17 hp).1 ?_
                refine M_iload (pc := 235) dX12_holdsLine_235 rfl ?_
                refine M_iconst (pc := 237) (v := 1) dX12_holdsLine_237 (by decide) ?_
                refine M_isub (pc := 238) dX12_holdsLine_238 ?_
                refine M_iload (pc := 239) dX12_holdsLine_239 rfl ?_
                refine M_bipush (pc := 241) (v := 10) dX12_holdsLine_241 (by decide) ?_
                refine M_icmp_ne (pc := 243) (tgt := 254) dX12_holdsLine_243 (by decide) (fun hc20 => ?_) (fun hc20 => ?_)
                · have h := (if_neg hc20).symm.trans h
                  refine M_iload (pc := 254) dX12_holdsLine_254 rfl ?_
                  refine M_if_eq (pc := 256) (tgt := 263) dX12_holdsLine_256 (by decide) (fun hc21 => ?_) (fun hc21 => absurd hc21 (by decide))
                  refine M_iconst (pc := 263) (v := 0) dX12_holdsLine_263 (by decide) ?_
                  obtain ⟨hq22, h⟩ := chk h
                  refine M_iast (pc := 264) dX12_holdsLine_264 (gc_205_17 hp).2 (inB_in hq22) ?_
                  refine M_iinc (pc := 265) (v := (x6 + (1 : Int32))) (ls' := [some (.ref 205), none, some (.int x2), some (.int x3), some (.int (x4 + (-1 : Int32))), some (.int x5), some (.int (x6 + (1 : Int32))), some (.int v8), some (.int v12), some (.int v14), some (.int (0 : Int32))]) dX12_holdsLine_265 rfl rfl (by decide) rfl ?_
                  refine M_goto (pc := 268) (tgt := 23) dX12_holdsLine_268 (by decide) ?_
                  refine M_mask (pc := 23) [true, false, true, true, true, true, true, false, false, false, false] rfl ?_
                  exact ih (x4 + (-1 : Int32)) (x6 + (1 : Int32)) (up2 I 213 (((x4 + (-1 : Int32)) - (1 : Int32))).toNatClampNeg (0 : Int32)) _ h
                · have h := (if_pos hc20).symm.trans h
                  refine M_iload (pc := 246) dX12_holdsLine_246 rfl ?_
                  refine M_iload (pc := 248) dX12_holdsLine_248 rfl ?_
                  refine M_iadd (pc := 250) dX12_holdsLine_250 ?_
                  refine M_goto (pc := 251) (tgt := 264) dX12_holdsLine_251 (by decide) ?_
                  obtain ⟨hq23, h⟩ := chk h
                  refine M_iast (pc := 264) dX12_holdsLine_264 (gc_205_17 hp).2 (inB_in hq23) ?_
                  refine M_iinc (pc := 265) (v := (x6 + (1 : Int32))) (ls' := [some (.ref 205), none, some (.int x2), some (.int x3), some (.int (x4 + (-1 : Int32))), some (.int x5), some (.int (x6 + (1 : Int32))), some (.int v8), some (.int v12), some (.int v14), some (.int (0 : Int32))]) dX12_holdsLine_265 rfl rfl (by decide) rfl ?_
                  refine M_goto (pc := 268) (tgt := 23) dX12_holdsLine_268 (by decide) ?_
                  refine M_mask (pc := 23) [true, false, true, true, true, true, true, false, false, false, false] rfl ?_
                  exact ih (x4 + (-1 : Int32)) (x6 + (1 : Int32)) (up2 I 213 (((x4 + (-1 : Int32)) - (1 : Int32))).toNatClampNeg (v12 + v14)) _ h
              · have h := (if_neg hc19).symm.trans h
                refine M_iconst (pc := 224) (v := 1) dX12_holdsLine_224 (by decide) ?_
                refine M_goto (pc := 225) (tgt := 229) dX12_holdsLine_225 (by decide) ?_
                refine M_istore (pc := 229) (ls' := [some (.ref 205), none, some (.int x2), some (.int x3), some (.int (x4 + (-1 : Int32))), some (.int x5), some (.int x6), some (.int v8), some (.int v12), some (.int v14), some (.int (1 : Int32))]) dX12_holdsLine_229 (by decide) rfl ?_
                refine M_aload_n (pc := 231) dX12_holdsLine_231 rfl ?_
                refine M_getR (pc := 232) dX12_holdsLine_232 f_X12_39 at_11 (gc_205_17 hp).1 ?_
                refine M_iload (pc := 235) dX12_holdsLine_235 rfl ?_
                refine M_iconst (pc := 237) (v := 1) dX12_holdsLine_237 (by decide) ?_
                refine M_isub (pc := 238) dX12_holdsLine_238 ?_
                refine M_iload (pc := 239) dX12_holdsLine_239 rfl ?_
                refine M_bipush (pc := 241) (v := 10) dX12_holdsLine_241 (by decide) ?_
                refine M_icmp_ne (pc := 243) (tgt := 254) dX12_holdsLine_243 (by decide) (fun hc24 => ?_) (fun hc24 => ?_)
                · have h := (if_neg hc24).symm.trans h
                  refine M_iload (pc := 254) dX12_holdsLine_254 rfl ?_
                  refine M_if_eq (pc := 256) (tgt := 263) dX12_holdsLine_256 (by decide) (fun hc25 => absurd hc25 (by decide)) (fun hc25 => ?_)
                  refine M_iconst (pc := 259) (v := 1) dX12_holdsLine_259 (by decide) ?_
                  refine M_goto (pc := 260) (tgt := 264) dX12_holdsLine_260 (by decide) ?_
                  obtain ⟨hq26, h⟩ := chk h
                  refine M_iast (pc := 264) dX12_holdsLine_264 (gc_205_17 hp).2 (inB_in hq26) ?_
                  refine M_iinc (pc := 265) (v := (x6 + (1 : Int32))) (ls' := [some (.ref 205), none, some (.int x2), some (.int x3), some (.int (x4 + (-1 : Int32))), some (.int x5), some (.int (x6 + (1 : Int32))), some (.int v8), some (.int v12), some (.int v14), some (.int (1 : Int32))]) dX12_holdsLine_265 rfl rfl (by decide) rfl ?_
                  refine M_goto (pc := 268) (tgt := 23) dX12_holdsLine_268 (by decide) ?_
                  refine M_mask (pc := 23) [true, false, true, true, true, true, true, false, false, false, false] rfl ?_
                  exact ih (x4 + (-1 : Int32)) (x6 + (1 : Int32)) (up2 I 213 (((x4 + (-1 : Int32)) - (1 : Int32))).toNatClampNeg (1 : Int32)) _ h
                · have h := (if_pos hc24).symm.trans h
                  refine M_iload (pc := 246) dX12_holdsLine_246 rfl ?_
                  refine M_iload (pc := 248) dX12_holdsLine_248 rfl ?_
                  refine M_iadd (pc := 250) dX12_holdsLine_250 ?_
                  refine M_goto (pc := 251) (tgt := 264) dX12_holdsLine_251 (by decide) ?_
                  obtain ⟨hq27, h⟩ := chk h
                  refine M_iast (pc := 264) dX12_holdsLine_264 (gc_205_17 hp).2 (inB_in hq27) ?_
                  refine M_iinc (pc := 265) (v := (x6 + (1 : Int32))) (ls' := [some (.ref 205), none, some (.int x2), some (.int x3), some (.int (x4 + (-1 : Int32))), some (.int x5), some (.int (x6 + (1 : Int32))), some (.int v8), some (.int v12), some (.int v14), some (.int (1 : Int32))]) dX12_holdsLine_265 rfl rfl (by decide) rfl ?_
                  refine M_goto (pc := 268) (tgt := 23) dX12_holdsLine_268 (by decide) ?_
                  refine M_mask (pc := 23) [true, false, true, true, true, true, true, false, false, false, false] rfl ?_
                  exact ih (x4 + (-1 : Int32)) (x6 + (1 : Int32)) (up2 I 213 (((x4 + (-1 : Int32)) - (1 : Int32))).toNatClampNeg (v12 + v14)) _ h
            · have h := (if_pos hc18).symm.trans h
              refine M_iload (pc := 199) dX12_holdsLine_199 rfl ?_
              refine M_iload (pc := 201) dX12_holdsLine_201 rfl ?_
              refine M_iadd (pc := 203) dX12_holdsLine_203 ?_
              refine M_iconst (pc := 204) (v := 2) dX12_holdsLine_204 (by decide) ?_
              refine M_icmp_ne (pc := 205) (tgt := 212) dX12_holdsLine_205 (by decide) (fun hc28 => ?_) (fun hc28 => ?_)
              · have h := (if_neg hc28).symm.trans h
                refine M_iconst (pc := 212) (v := 0) dX12_holdsLine_212 (by decide) ?_
                refine M_goto (pc := 213) (tgt := 229) dX12_holdsLine_213 (by decide) ?_
                refine M_istore (pc := 229) (ls' := [some (.ref 205), none, some (.int x2), some (.int x3), some (.int (x4 + (-1 : Int32))), some (.int x5), some (.int x6), some (.int v8), some (.int v12), some (.int v14), some (.int (0 : Int32))]) dX12_holdsLine_229 (by decide) rfl ?_
                refine M_aload_n (pc := 231) dX12_holdsLine_231 rfl ?_
                refine M_getR (pc := 232) dX12_holdsLine_232 f_X12_39 at_11 (gc_205_17 hp).1 ?_
                refine M_iload (pc := 235) dX12_holdsLine_235 rfl ?_
                refine M_iconst (pc := 237) (v := 1) dX12_holdsLine_237 (by decide) ?_
                refine M_isub (pc := 238) dX12_holdsLine_238 ?_
                refine M_iload (pc := 239) dX12_holdsLine_239 rfl ?_
                refine M_bipush (pc := 241) (v := 10) dX12_holdsLine_241 (by decide) ?_
                refine M_icmp_ne (pc := 243) (tgt := 254) dX12_holdsLine_243 (by decide) (fun hc29 => ?_) (fun hc29 => ?_)
                · have h := (if_neg hc29).symm.trans h
                  refine M_iload (pc := 254) dX12_holdsLine_254 rfl ?_
                  refine M_if_eq (pc := 256) (tgt := 263) dX12_holdsLine_256 (by decide) (fun hc30 => ?_) (fun hc30 => absurd hc30 (by decide))
                  refine M_iconst (pc := 263) (v := 0) dX12_holdsLine_263 (by decide) ?_
                  obtain ⟨hq31, h⟩ := chk h
                  refine M_iast (pc := 264) dX12_holdsLine_264 (gc_205_17 hp).2 (inB_in hq31) ?_
                  refine M_iinc (pc := 265) (v := (x6 + (1 : Int32))) (ls' := [some (.ref 205), none, some (.int x2), some (.int x3), some (.int (x4 + (-1 : Int32))), some (.int x5), some (.int (x6 + (1 : Int32))), some (.int v8), some (.int v12), some (.int v14), some (.int (0 : Int32))]) dX12_holdsLine_265 rfl rfl (by decide) rfl ?_
                  refine M_goto (pc := 268) (tgt := 23) dX12_holdsLine_268 (by decide) ?_
                  refine M_mask (pc := 23) [true, false, true, true, true, true, true, false, false, false, false] rfl ?_
                  exact ih (x4 + (-1 : Int32)) (x6 + (1 : Int32)) (up2 I 213 (((x4 + (-1 : Int32)) - (1 : Int32))).toNatClampNeg (0 : Int32)) _ h
                · have h := (if_pos hc29).symm.trans h
                  refine M_iload (pc := 246) dX12_holdsLine_246 rfl ?_
                  refine M_iload (pc := 248) dX12_holdsLine_248 rfl ?_
                  refine M_iadd (pc := 250) dX12_holdsLine_250 ?_
                  refine M_goto (pc := 251) (tgt := 264) dX12_holdsLine_251 (by decide) ?_
                  obtain ⟨hq32, h⟩ := chk h
                  refine M_iast (pc := 264) dX12_holdsLine_264 (gc_205_17 hp).2 (inB_in hq32) ?_
                  refine M_iinc (pc := 265) (v := (x6 + (1 : Int32))) (ls' := [some (.ref 205), none, some (.int x2), some (.int x3), some (.int (x4 + (-1 : Int32))), some (.int x5), some (.int (x6 + (1 : Int32))), some (.int v8), some (.int v12), some (.int v14), some (.int (0 : Int32))]) dX12_holdsLine_265 rfl rfl (by decide) rfl ?_
                  refine M_goto (pc := 268) (tgt := 23) dX12_holdsLine_268 (by decide) ?_
                  refine M_mask (pc := 23) [true, false, true, true, true, true, true, false, false, false, false] rfl ?_
                  exact ih (x4 + (-1 : Int32)) (x6 + (1 : Int32)) (up2 I 213 (((x4 + (-1 : Int32)) - (1 : Int32))).toNatClampNeg (v12 + v14)) _ h
              · have h := (if_pos hc28).symm.trans h
                refine M_iconst (pc := 208) (v := 1) dX12_holdsLine_208 (by decide) ?_
                refine M_goto (pc := 209) (tgt := 229) dX12_holdsLine_209 (by decide) ?_
                refine M_istore (pc := 229) (ls' := [some (.ref 205), none, some (.int x2), some (.int x3), some (.int (x4 + (-1 : Int32))), some (.int x5), some (.int x6), some (.int v8), some (.int v12), some (.int v14), some (.int (1 : Int32))]) dX12_holdsLine_229 (by decide) rfl ?_
                refine M_aload_n (pc := 231) dX12_holdsLine_231 rfl ?_
                refine M_getR (pc := 232) dX12_holdsLine_232 f_X12_39 at_11 (gc_205_17 hp).1 ?_
                refine M_iload (pc := 235) dX12_holdsLine_235 rfl ?_
                refine M_iconst (pc := 237) (v := 1) dX12_holdsLine_237 (by decide) ?_
                refine M_isub (pc := 238) dX12_holdsLine_238 ?_
                refine M_iload (pc := 239) dX12_holdsLine_239 rfl ?_
                refine M_bipush (pc := 241) (v := 10) dX12_holdsLine_241 (by decide) ?_
                refine M_icmp_ne (pc := 243) (tgt := 254) dX12_holdsLine_243 (by decide) (fun hc33 => ?_) (fun hc33 => ?_)
                · have h := (if_neg hc33).symm.trans h
                  refine M_iload (pc := 254) dX12_holdsLine_254 rfl ?_
                  refine M_if_eq (pc := 256) (tgt := 263) dX12_holdsLine_256 (by decide) (fun hc34 => absurd hc34 (by decide)) (fun hc34 => ?_)
                  refine M_iconst (pc := 259) (v := 1) dX12_holdsLine_259 (by decide) ?_
                  refine M_goto (pc := 260) (tgt := 264) dX12_holdsLine_260 (by decide) ?_
                  obtain ⟨hq35, h⟩ := chk h
                  refine M_iast (pc := 264) dX12_holdsLine_264 (gc_205_17 hp).2 (inB_in hq35) ?_
                  refine M_iinc (pc := 265) (v := (x6 + (1 : Int32))) (ls' := [some (.ref 205), none, some (.int x2), some (.int x3), some (.int (x4 + (-1 : Int32))), some (.int x5), some (.int (x6 + (1 : Int32))), some (.int v8), some (.int v12), some (.int v14), some (.int (1 : Int32))]) dX12_holdsLine_265 rfl rfl (by decide) rfl ?_
                  refine M_goto (pc := 268) (tgt := 23) dX12_holdsLine_268 (by decide) ?_
                  refine M_mask (pc := 23) [true, false, true, true, true, true, true, false, false, false, false] rfl ?_
                  exact ih (x4 + (-1 : Int32)) (x6 + (1 : Int32)) (up2 I 213 (((x4 + (-1 : Int32)) - (1 : Int32))).toNatClampNeg (1 : Int32)) _ h
                · have h := (if_pos hc33).symm.trans h
                  refine M_iload (pc := 246) dX12_holdsLine_246 rfl ?_
                  refine M_iload (pc := 248) dX12_holdsLine_248 rfl ?_
                  refine M_iadd (pc := 250) dX12_holdsLine_250 ?_
                  refine M_goto (pc := 251) (tgt := 264) dX12_holdsLine_251 (by decide) ?_
                  obtain ⟨hq36, h⟩ := chk h
                  refine M_iast (pc := 264) dX12_holdsLine_264 (gc_205_17 hp).2 (inB_in hq36) ?_
                  refine M_iinc (pc := 265) (v := (x6 + (1 : Int32))) (ls' := [some (.ref 205), none, some (.int x2), some (.int x3), some (.int (x4 + (-1 : Int32))), some (.int x5), some (.int (x6 + (1 : Int32))), some (.int v8), some (.int v12), some (.int v14), some (.int (1 : Int32))]) dX12_holdsLine_265 rfl rfl (by decide) rfl ?_
                  refine M_goto (pc := 268) (tgt := 23) dX12_holdsLine_268 (by decide) ?_
                  refine M_mask (pc := 23) [true, false, true, true, true, true, true, false, false, false, false] rfl ?_
                  exact ih (x4 + (-1 : Int32)) (x6 + (1 : Int32)) (up2 I 213 (((x4 + (-1 : Int32)) - (1 : Int32))).toNatClampNeg (v12 + v14)) _ h
          · have h := (if_pos hc17).symm.trans h
            refine M_iload (pc := 177) dX12_holdsLine_177 rfl ?_
            refine M_iload (pc := 179) dX12_holdsLine_179 rfl ?_
            refine M_icmp_le (pc := 181) (tgt := 188) dX12_holdsLine_181 (by decide) (fun hc37 => ?_) (fun hc37 => ?_)
            · have h := (if_pos hc37).symm.trans h
              refine M_iconst (pc := 188) (v := 0) dX12_holdsLine_188 (by decide) ?_
              refine M_goto (pc := 189) (tgt := 229) dX12_holdsLine_189 (by decide) ?_
              refine M_istore (pc := 229) (ls' := [some (.ref 205), none, some (.int x2), some (.int x3), some (.int (x4 + (-1 : Int32))), some (.int x5), some (.int x6), some (.int v8), some (.int v12), some (.int v14), some (.int (0 : Int32))]) dX12_holdsLine_229 (by decide) rfl ?_
              refine M_aload_n (pc := 231) dX12_holdsLine_231 rfl ?_
              refine M_getR (pc := 232) dX12_holdsLine_232 f_X12_39 at_11 (gc_205_17 hp).1 ?_
              refine M_iload (pc := 235) dX12_holdsLine_235 rfl ?_
              refine M_iconst (pc := 237) (v := 1) dX12_holdsLine_237 (by decide) ?_
              refine M_isub (pc := 238) dX12_holdsLine_238 ?_
              refine M_iload (pc := 239) dX12_holdsLine_239 rfl ?_
              refine M_bipush (pc := 241) (v := 10) dX12_holdsLine_241 (by decide) ?_
              refine M_icmp_ne (pc := 243) (tgt := 254) dX12_holdsLine_243 (by decide) (fun hc38 => ?_) (fun hc38 => ?_)
              · have h := (if_neg hc38).symm.trans h
                refine M_iload (pc := 254) dX12_holdsLine_254 rfl ?_
                refine M_if_eq (pc := 256) (tgt := 263) dX12_holdsLine_256 (by decide) (fun hc39 => ?_) (fun hc39 => absurd hc39 (by decide))
                refine M_iconst (pc := 263) (v := 0) dX12_holdsLine_263 (by decide) ?_
                obtain ⟨hq40, h⟩ := chk h
                refine M_iast (pc := 264) dX12_holdsLine_264 (gc_205_17 hp).2 (inB_in hq40) ?_
                refine M_iinc (pc := 265) (v := (x6 + (1 : Int32))) (ls' := [some (.ref 205), none, some (.int x2), some (.int x3), some (.int (x4 + (-1 : Int32))), some (.int x5), some (.int (x6 + (1 : Int32))), some (.int v8), some (.int v12), some (.int v14), some (.int (0 : Int32))]) dX12_holdsLine_265 rfl rfl (by decide) rfl ?_
                refine M_goto (pc := 268) (tgt := 23) dX12_holdsLine_268 (by decide) ?_
                refine M_mask (pc := 23) [true, false, true, true, true, true, true, false, false, false, false] rfl ?_
                exact ih (x4 + (-1 : Int32)) (x6 + (1 : Int32)) (up2 I 213 (((x4 + (-1 : Int32)) - (1 : Int32))).toNatClampNeg (0 : Int32)) _ h
              · have h := (if_pos hc38).symm.trans h
                refine M_iload (pc := 246) dX12_holdsLine_246 rfl ?_
                refine M_iload (pc := 248) dX12_holdsLine_248 rfl ?_
                refine M_iadd (pc := 250) dX12_holdsLine_250 ?_
                refine M_goto (pc := 251) (tgt := 264) dX12_holdsLine_251 (by decide) ?_
                obtain ⟨hq41, h⟩ := chk h
                refine M_iast (pc := 264) dX12_holdsLine_264 (gc_205_17 hp).2 (inB_in hq41) ?_
                refine M_iinc (pc := 265) (v := (x6 + (1 : Int32))) (ls' := [some (.ref 205), none, some (.int x2), some (.int x3), some (.int (x4 + (-1 : Int32))), some (.int x5), some (.int (x6 + (1 : Int32))), some (.int v8), some (.int v12), some (.int v14), some (.int (0 : Int32))]) dX12_holdsLine_265 rfl rfl (by decide) rfl ?_
                refine M_goto (pc := 268) (tgt := 23) dX12_holdsLine_268 (by decide) ?_
                refine M_mask (pc := 23) [true, false, true, true, true, true, true, false, false, false, false] rfl ?_
                exact ih (x4 + (-1 : Int32)) (x6 + (1 : Int32)) (up2 I 213 (((x4 + (-1 : Int32)) - (1 : Int32))).toNatClampNeg (v12 + v14)) _ h
            · have h := (if_neg hc37).symm.trans h
              refine M_iconst (pc := 184) (v := 1) dX12_holdsLine_184 (by decide) ?_
              refine M_goto (pc := 185) (tgt := 229) dX12_holdsLine_185 (by decide) ?_
              refine M_istore (pc := 229) (ls' := [some (.ref 205), none, some (.int x2), some (.int x3), some (.int (x4 + (-1 : Int32))), some (.int x5), some (.int x6), some (.int v8), some (.int v12), some (.int v14), some (.int (1 : Int32))]) dX12_holdsLine_229 (by decide) rfl ?_
              refine M_aload_n (pc := 231) dX12_holdsLine_231 rfl ?_
              refine M_getR (pc := 232) dX12_holdsLine_232 f_X12_39 at_11 (gc_205_17 hp).1 ?_
              refine M_iload (pc := 235) dX12_holdsLine_235 rfl ?_
              refine M_iconst (pc := 237) (v := 1) dX12_holdsLine_237 (by decide) ?_
              refine M_isub (pc := 238) dX12_holdsLine_238 ?_
              refine M_iload (pc := 239) dX12_holdsLine_239 rfl ?_
              refine M_bipush (pc := 241) (v := 10) dX12_holdsLine_241 (by decide) ?_
              refine M_icmp_ne (pc := 243) (tgt := 254) dX12_holdsLine_243 (by decide) (fun hc42 => ?_) (fun hc42 => ?_)
              · have h := (if_neg hc42).symm.trans h
                refine M_iload (pc := 254) dX12_holdsLine_254 rfl ?_
                refine M_if_eq (pc := 256) (tgt := 263) dX12_holdsLine_256 (by decide) (fun hc43 => absurd hc43 (by decide)) (fun hc43 => ?_)
                refine M_iconst (pc := 259) (v := 1) dX12_holdsLine_259 (by decide) ?_
                refine M_goto (pc := 260) (tgt := 264) dX12_holdsLine_260 (by decide) ?_
                obtain ⟨hq44, h⟩ := chk h
                refine M_iast (pc := 264) dX12_holdsLine_264 (gc_205_17 hp).2 (inB_in hq44) ?_
                refine M_iinc (pc := 265) (v := (x6 + (1 : Int32))) (ls' := [some (.ref 205), none, some (.int x2), some (.int x3), some (.int (x4 + (-1 : Int32))), some (.int x5), some (.int (x6 + (1 : Int32))), some (.int v8), some (.int v12), some (.int v14), some (.int (1 : Int32))]) dX12_holdsLine_265 rfl rfl (by decide) rfl ?_
                refine M_goto (pc := 268) (tgt := 23) dX12_holdsLine_268 (by decide) ?_
                refine M_mask (pc := 23) [true, false, true, true, true, true, true, false, false, false, false] rfl ?_
                exact ih (x4 + (-1 : Int32)) (x6 + (1 : Int32)) (up2 I 213 (((x4 + (-1 : Int32)) - (1 : Int32))).toNatClampNeg (1 : Int32)) _ h
              · have h := (if_pos hc42).symm.trans h
                refine M_iload (pc := 246) dX12_holdsLine_246 rfl ?_
                refine M_iload (pc := 248) dX12_holdsLine_248 rfl ?_
                refine M_iadd (pc := 250) dX12_holdsLine_250 ?_
                refine M_goto (pc := 251) (tgt := 264) dX12_holdsLine_251 (by decide) ?_
                obtain ⟨hq45, h⟩ := chk h
                refine M_iast (pc := 264) dX12_holdsLine_264 (gc_205_17 hp).2 (inB_in hq45) ?_
                refine M_iinc (pc := 265) (v := (x6 + (1 : Int32))) (ls' := [some (.ref 205), none, some (.int x2), some (.int x3), some (.int (x4 + (-1 : Int32))), some (.int x5), some (.int (x6 + (1 : Int32))), some (.int v8), some (.int v12), some (.int v14), some (.int (1 : Int32))]) dX12_holdsLine_265 rfl rfl (by decide) rfl ?_
                refine M_goto (pc := 268) (tgt := 23) dX12_holdsLine_268 (by decide) ?_
                refine M_mask (pc := 23) [true, false, true, true, true, true, true, false, false, false, false] rfl ?_
                exact ih (x4 + (-1 : Int32)) (x6 + (1 : Int32)) (up2 I 213 (((x4 + (-1 : Int32)) - (1 : Int32))).toNatClampNeg (v12 + v14)) _ h
        · have h := (if_pos hc16).symm.trans h
          refine M_iload (pc := 155) dX12_holdsLine_155 rfl ?_
          refine M_iload (pc := 157) dX12_holdsLine_157 rfl ?_
          refine M_icmp_ge (pc := 159) (tgt := 166) dX12_holdsLine_159 (by decide) (fun hc46 => ?_) (fun hc46 => ?_)
          · have h := (if_pos hc46).symm.trans h
            refine M_iconst (pc := 166) (v := 0) dX12_holdsLine_166 (by decide) ?_
            refine M_goto (pc := 167) (tgt := 229) dX12_holdsLine_167 (by decide) ?_
            refine M_istore (pc := 229) (ls' := [some (.ref 205), none, some (.int x2), some (.int x3), some (.int (x4 + (-1 : Int32))), some (.int x5), some (.int x6), some (.int v8), some (.int v12), some (.int v14), some (.int (0 : Int32))]) dX12_holdsLine_229 (by decide) rfl ?_
            refine M_aload_n (pc := 231) dX12_holdsLine_231 rfl ?_
            refine M_getR (pc := 232) dX12_holdsLine_232 f_X12_39 at_11 (gc_205_17 hp).1 ?_
            refine M_iload (pc := 235) dX12_holdsLine_235 rfl ?_
            refine M_iconst (pc := 237) (v := 1) dX12_holdsLine_237 (by decide) ?_
            refine M_isub (pc := 238) dX12_holdsLine_238 ?_
            refine M_iload (pc := 239) dX12_holdsLine_239 rfl ?_
            refine M_bipush (pc := 241) (v := 10) dX12_holdsLine_241 (by decide) ?_
            refine M_icmp_ne (pc := 243) (tgt := 254) dX12_holdsLine_243 (by decide) (fun hc47 => ?_) (fun hc47 => ?_)
            · have h := (if_neg hc47).symm.trans h
              refine M_iload (pc := 254) dX12_holdsLine_254 rfl ?_
              refine M_if_eq (pc := 256) (tgt := 263) dX12_holdsLine_256 (by decide) (fun hc48 => ?_) (fun hc48 => absurd hc48 (by decide))
              refine M_iconst (pc := 263) (v := 0) dX12_holdsLine_263 (by decide) ?_
              obtain ⟨hq49, h⟩ := chk h
              refine M_iast (pc := 264) dX12_holdsLine_264 (gc_205_17 hp).2 (inB_in hq49) ?_
              refine M_iinc (pc := 265) (v := (x6 + (1 : Int32))) (ls' := [some (.ref 205), none, some (.int x2), some (.int x3), some (.int (x4 + (-1 : Int32))), some (.int x5), some (.int (x6 + (1 : Int32))), some (.int v8), some (.int v12), some (.int v14), some (.int (0 : Int32))]) dX12_holdsLine_265 rfl rfl (by decide) rfl ?_
              refine M_goto (pc := 268) (tgt := 23) dX12_holdsLine_268 (by decide) ?_
              refine M_mask (pc := 23) [true, false, true, true, true, true, true, false, false, false, false] rfl ?_
              exact ih (x4 + (-1 : Int32)) (x6 + (1 : Int32)) (up2 I 213 (((x4 + (-1 : Int32)) - (1 : Int32))).toNatClampNeg (0 : Int32)) _ h
            · have h := (if_pos hc47).symm.trans h
              refine M_iload (pc := 246) dX12_holdsLine_246 rfl ?_
              refine M_iload (pc := 248) dX12_holdsLine_248 rfl ?_
              refine M_iadd (pc := 250) dX12_holdsLine_250 ?_
              refine M_goto (pc := 251) (tgt := 264) dX12_holdsLine_251 (by decide) ?_
              obtain ⟨hq50, h⟩ := chk h
              refine M_iast (pc := 264) dX12_holdsLine_264 (gc_205_17 hp).2 (inB_in hq50) ?_
              refine M_iinc (pc := 265) (v := (x6 + (1 : Int32))) (ls' := [some (.ref 205), none, some (.int x2), some (.int x3), some (.int (x4 + (-1 : Int32))), some (.int x5), some (.int (x6 + (1 : Int32))), some (.int v8), some (.int v12), some (.int v14), some (.int (0 : Int32))]) dX12_holdsLine_265 rfl rfl (by decide) rfl ?_
              refine M_goto (pc := 268) (tgt := 23) dX12_holdsLine_268 (by decide) ?_
              refine M_mask (pc := 23) [true, false, true, true, true, true, true, false, false, false, false] rfl ?_
              exact ih (x4 + (-1 : Int32)) (x6 + (1 : Int32)) (up2 I 213 (((x4 + (-1 : Int32)) - (1 : Int32))).toNatClampNeg (v12 + v14)) _ h
          · have h := (if_neg hc46).symm.trans h
            refine M_iconst (pc := 162) (v := 1) dX12_holdsLine_162 (by decide) ?_
            refine M_goto (pc := 163) (tgt := 229) dX12_holdsLine_163 (by decide) ?_
            refine M_istore (pc := 229) (ls' := [some (.ref 205), none, some (.int x2), some (.int x3), some (.int (x4 + (-1 : Int32))), some (.int x5), some (.int x6), some (.int v8), some (.int v12), some (.int v14), some (.int (1 : Int32))]) dX12_holdsLine_229 (by decide) rfl ?_
            refine M_aload_n (pc := 231) dX12_holdsLine_231 rfl ?_
            refine M_getR (pc := 232) dX12_holdsLine_232 f_X12_39 at_11 (gc_205_17 hp).1 ?_
            refine M_iload (pc := 235) dX12_holdsLine_235 rfl ?_
            refine M_iconst (pc := 237) (v := 1) dX12_holdsLine_237 (by decide) ?_
            refine M_isub (pc := 238) dX12_holdsLine_238 ?_
            refine M_iload (pc := 239) dX12_holdsLine_239 rfl ?_
            refine M_bipush (pc := 241) (v := 10) dX12_holdsLine_241 (by decide) ?_
            refine M_icmp_ne (pc := 243) (tgt := 254) dX12_holdsLine_243 (by decide) (fun hc51 => ?_) (fun hc51 => ?_)
            · have h := (if_neg hc51).symm.trans h
              refine M_iload (pc := 254) dX12_holdsLine_254 rfl ?_
              refine M_if_eq (pc := 256) (tgt := 263) dX12_holdsLine_256 (by decide) (fun hc52 => absurd hc52 (by decide)) (fun hc52 => ?_)
              refine M_iconst (pc := 259) (v := 1) dX12_holdsLine_259 (by decide) ?_
              refine M_goto (pc := 260) (tgt := 264) dX12_holdsLine_260 (by decide) ?_
              obtain ⟨hq53, h⟩ := chk h
              refine M_iast (pc := 264) dX12_holdsLine_264 (gc_205_17 hp).2 (inB_in hq53) ?_
              refine M_iinc (pc := 265) (v := (x6 + (1 : Int32))) (ls' := [some (.ref 205), none, some (.int x2), some (.int x3), some (.int (x4 + (-1 : Int32))), some (.int x5), some (.int (x6 + (1 : Int32))), some (.int v8), some (.int v12), some (.int v14), some (.int (1 : Int32))]) dX12_holdsLine_265 rfl rfl (by decide) rfl ?_
              refine M_goto (pc := 268) (tgt := 23) dX12_holdsLine_268 (by decide) ?_
              refine M_mask (pc := 23) [true, false, true, true, true, true, true, false, false, false, false] rfl ?_
              exact ih (x4 + (-1 : Int32)) (x6 + (1 : Int32)) (up2 I 213 (((x4 + (-1 : Int32)) - (1 : Int32))).toNatClampNeg (1 : Int32)) _ h
            · have h := (if_pos hc51).symm.trans h
              refine M_iload (pc := 246) dX12_holdsLine_246 rfl ?_
              refine M_iload (pc := 248) dX12_holdsLine_248 rfl ?_
              refine M_iadd (pc := 250) dX12_holdsLine_250 ?_
              refine M_goto (pc := 251) (tgt := 264) dX12_holdsLine_251 (by decide) ?_
              obtain ⟨hq54, h⟩ := chk h
              refine M_iast (pc := 264) dX12_holdsLine_264 (gc_205_17 hp).2 (inB_in hq54) ?_
              refine M_iinc (pc := 265) (v := (x6 + (1 : Int32))) (ls' := [some (.ref 205), none, some (.int x2), some (.int x3), some (.int (x4 + (-1 : Int32))), some (.int x5), some (.int (x6 + (1 : Int32))), some (.int v8), some (.int v12), some (.int v14), some (.int (1 : Int32))]) dX12_holdsLine_265 rfl rfl (by decide) rfl ?_
              refine M_goto (pc := 268) (tgt := 23) dX12_holdsLine_268 (by decide) ?_
              refine M_mask (pc := 23) [true, false, true, true, true, true, true, false, false, false, false] rfl ?_
              exact ih (x4 + (-1 : Int32)) (x6 + (1 : Int32)) (up2 I 213 (((x4 + (-1 : Int32)) - (1 : Int32))).toNatClampNeg (v12 + v14)) _ h
      · have h := (if_pos hc11).symm.trans h
        refine M_aload_n (pc := 102) dX12_holdsLine_102 rfl ?_
        refine M_getR (pc := 103) dX12_holdsLine_103 f_X12_39 at_11 (gc_205_17 hp).1 ?_
        refine M_iload (pc := 106) dX12_holdsLine_106 rfl ?_
        refine M_iconst (pc := 108) (v := 1) dX12_holdsLine_108 (by decide) ?_
        refine M_isub (pc := 109) dX12_holdsLine_109 ?_
        refine M_iconst (pc := 110) (v := 1) dX12_holdsLine_110 (by decide) ?_
        refine M_aload_n (pc := 111) dX12_holdsLine_111 rfl ?_
        refine M_getR (pc := 112) dX12_holdsLine_112 f_X12_39 at_11 (gc_205_17 hp).1 ?_
        refine M_iload (pc := 115) dX12_holdsLine_115 rfl ?_
        refine M_iconst (pc := 117) (v := 1) dX12_holdsLine_117 (by decide) ?_
        refine M_isub (pc := 118) dX12_holdsLine_118 ?_
        obtain ⟨v55, hv56, h⟩ := bnd h
        refine M_aldI (pc := 119) dX12_holdsLine_119 (gc_205_17 hp).2 hv56 ?_
        refine M_isub (pc := 120) dX12_holdsLine_120 ?_
        obtain ⟨hq57, h⟩ := chk h
        refine M_iast (pc := 121) dX12_holdsLine_121 (gc_205_17 hp).2 (inB_in hq57) ?_
        refine M_goto (pc := 122) (tgt := 265) dX12_holdsLine_122 (by decide) ?_
        refine M_iinc (pc := 265) (v := (x6 + (1 : Int32))) (ls' := [some (.ref 205), none, some (.int x2), some (.int x3), some (.int x4), some (.int x5), some (.int (x6 + (1 : Int32))), some (.int v8), none, none, none]) dX12_holdsLine_265 rfl rfl (by decide) rfl ?_
        refine M_goto (pc := 268) (tgt := 23) dX12_holdsLine_268 (by decide) ?_
        refine M_mask (pc := 23) [true, false, true, true, true, true, true, false, false, false, false] rfl ?_
        exact ih x4 (x6 + (1 : Int32)) (up2 I 213 ((x4 - (1 : Int32))).toNatClampNeg ((1 : Int32) - v55)) _ h
    · have h := (if_neg hc10).symm.trans h
      refine M_aload_n (pc := 59) dX12_holdsLine_59 rfl ?_
      refine M_getR (pc := 60) dX12_holdsLine_60 f_X12_39 at_11 (gc_205_17 hp).1 ?_
      refine M_iload (pc := 63) dX12_holdsLine_63 rfl ?_
      refine M_aload_n (pc := 65) dX12_holdsLine_65 rfl ?_
      refine M_iload (pc := 66) dX12_holdsLine_66 rfl ?_
      refine M_aload_n (pc := 68) dX12_holdsLine_68 rfl ?_
      refine M_getR (pc := 69) dX12_holdsLine_69 f_X12_13 at_11 (gc_205_1 hp).1 ?_
      refine M_sipush (pc := 72) (v := 402) dX12_holdsLine_72 (by decide) ?_
      refine M_iconst (pc := 75) (v := 2) dX12_holdsLine_75 (by decide) ?_
      refine M_iload (pc := 76) dX12_holdsLine_76 rfl ?_
      refine M_imul (pc := 78) dX12_holdsLine_78 ?_
      refine M_iadd (pc := 79) dX12_holdsLine_79 ?_
      refine M_iconst (pc := 80) (v := 1) dX12_holdsLine_80 (by decide) ?_
      refine M_iadd (pc := 81) dX12_holdsLine_81 ?_
      obtain ⟨v58, hv59, h⟩ := bnd h
      refine M_aldI (pc := 82) dX12_holdsLine_82 (gc_205_1 hp).2 hv59 ?_
      refine M_iload_n (pc := 83) dX12_holdsLine_83 rfl ?_
      refine M_iload_n (pc := 84) dX12_holdsLine_84 rfl ?_
      obtain ⟨r60, hr61, h⟩ := bnd h
      refine M_callVi (pc := 85) dX12_holdsLine_85 v_X12_265 rfl rfl at_11 (Nat.le_of_ble_eq_true rfl) (C_X12_factOf (d := d + 0) hp hr61) (Nat.le_refl _) ?_
      obtain ⟨hq62, h⟩ := chk h
      refine M_iast (pc := 88) dX12_holdsLine_88 (gc_205_17 hp).2 (inB_in hq62) ?_
      refine M_iinc (pc := 89) (v := (x4 + (1 : Int32))) (ls' := [some (.ref 205), none, some (.int x2), some (.int x3), some (.int (x4 + (1 : Int32))), some (.int x5), some (.int x6), some (.int v8), none, none, none]) dX12_holdsLine_89 rfl rfl (by decide) rfl ?_
      refine M_goto (pc := 92) (tgt := 265) dX12_holdsLine_92 (by decide) ?_
      refine M_iinc (pc := 265) (v := (x6 + (1 : Int32))) (ls' := [some (.ref 205), none, some (.int x2), some (.int x3), some (.int (x4 + (1 : Int32))), some (.int x5), some (.int (x6 + (1 : Int32))), some (.int v8), none, none, none]) dX12_holdsLine_265 rfl rfl (by decide) rfl ?_
      refine M_goto (pc := 268) (tgt := 23) dX12_holdsLine_268 (by decide) ?_
      refine M_mask (pc := 23) [true, false, true, true, true, true, true, false, false, false, false] rfl ?_
      exact ih (x4 + (1 : Int32)) (x6 + (1 : Int32)) (up2 I 213 (x4).toNatClampNeg r60) _ h
set_option maxRecDepth 4000 in
set_option maxHeartbeats 4000000 in
theorem C_X12_holdsLine {g : gX} {d : Nat} {P : Nat → Nat → Option Nat} {I : HI} {x1 : Int32} {x2 : Int32} {x3 : Int32} {J : HJ} (hp : Wp P) {r : Int32 × HI} (h : F_X12_holdsLine I x1 x2 x3 = some r) : Cm g mX12_holdsLine (d + 5) [.ref 205, .int x1, .int x2, .int x3] (NT, I, J, P) (some (.int r.1)) (NT, r.2, J, P) := by
  unfold F_X12_holdsLine at h
  refine Cm.of (by decide) (by simp [Value.category]) (Nat.le_of_ble_eq_true rfl) (Nat.le_refl _) (ls := [some (.ref 205), some (.int x1), some (.int x2), some (.int x3), none, none, none, none, none, none, none]) rfl ?_
  refine M_iconst (pc := 0) (v := 0) dX12_holdsLine_0 (by decide) ?_
  refine M_istore (pc := 1) (ls' := [some (.ref 205), some (.int x1), some (.int x2), some (.int x3), some (.int (0 : Int32)), none, none, none, none, none, none]) dX12_holdsLine_1 (by decide) rfl ?_
  refine M_sipush (pc := 3) (v := 354) dX12_holdsLine_3 (by decide) ?_
  refine M_iconst (pc := 6) (v := 4) dX12_holdsLine_6 (by decide) ?_
  refine M_iload_n (pc := 7) dX12_holdsLine_7 rfl ?_
  refine M_imul (pc := 8) dX12_holdsLine_8 ?_
  refine M_iadd (pc := 9) dX12_holdsLine_9 ?_
  refine M_istore (pc := 10) (ls' := [some (.ref 205), some (.int x1), some (.int x2), some (.int x3), some (.int (0 : Int32)), some (.int ((354 : Int32) + ((4 : Int32) * x1))), none, none, none, none, none]) dX12_holdsLine_10 (by decide) rfl ?_
  refine M_aload_n (pc := 12) dX12_holdsLine_12 rfl ?_
  refine M_getR (pc := 13) dX12_holdsLine_13 f_X12_13 at_11 (gc_205_1 hp).1 ?_
  refine M_iload (pc := 16) dX12_holdsLine_16 rfl ?_
  refine M_iconst (pc := 18) (v := 2) dX12_holdsLine_18 (by decide) ?_
  refine M_iadd (pc := 19) dX12_holdsLine_19 ?_
  obtain ⟨v1, hv2, h⟩ := bnd h
  refine M_aldI (pc := 20) dX12_holdsLine_20 (gc_205_1 hp).2 hv2 ?_
  refine M_istore (pc := 21) (ls' := [some (.ref 205), some (.int x1), some (.int x2), some (.int x3), some (.int (0 : Int32)), some (.int ((354 : Int32) + ((4 : Int32) * x1))), some (.int v1), none, none, none, none]) dX12_holdsLine_21 (by decide) rfl ?_
  refine M_mask (pc := 23) [true, false, true, true, true, true, true, false, false, false, false] rfl ?_
  exact LC_X12_holdsLine_23 (P := P) hp (0 : Int32) v1 I _ h
