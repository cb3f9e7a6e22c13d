def L_X12_laysLeast_34 (x1 : Int32) (x2 : Int32) (x3 : Int32) (x4 : Int32) (I : HI) : Option (Int32 × HI) :=
  (F_X12_dishes I) >>= fun r8 => if r8 ≤ x4 then some (x4, I) else if x1 ≤ x3 then some (x4, I) else (ald 4096 (I 216) x2) >>= fun v12 => (F_X12_farBy I x3 x2 x4) >>= fun r14 => if inB x2 4096 = true then L_X12_laysLeast_34 x1 x2 x3 (x4 + (1 : Int32)) (up2 I 216 (x2).toNatClampNeg (if r14 < v12 then r14 else v12)) else none
partial_fixpoint
def L_X12_laysLeast_5 (x1 : Int32) (x2 : Int32) (I : HI) : Option (HI) :=
  if x2 < 0 then some I else (F_J6_bitCount_0f7a4 I x2) >>= fun r4 => if r4 < x1 then if inB x2 4096 = true then (L_X12_laysLeast_34 x1 x2 r4 (0 : Int32) (up2 I 216 (x2).toNatClampNeg (1000000 : Int32))) >>= fun r17 => L_X12_laysLeast_5 x1 (x2 + (-1 : Int32)) r17.2 else none else if inB x2 4096 = true then (L_X12_laysLeast_34 x1 x2 r4 (0 : Int32) (up2 I 216 (x2).toNatClampNeg (0 : Int32))) >>= fun r20 => L_X12_laysLeast_5 x1 (x2 + (-1 : Int32)) r20.2 else none
partial_fixpoint
def F_X12_laysLeast (I : HI) (x1 : Int32) : Option (HI) :=
  (F_X12_allDishes I) >>= fun r1 => L_X12_laysLeast_5 x1 r1 I
set_option maxRecDepth 4000 in
set_option maxHeartbeats 4000000 in
theorem LC_X12_laysLeast_34 {g : gX} {d : Nat} {R : rX} {P : Nat → Nat → Option Nat} {J : HJ} {x1 : Int32} {x2 : Int32} {x3 : Int32} (hp : Wp P) : ∀ (x4 : Int32) (I : HI) (r : Int32 × HI), L_X12_laysLeast_34 x1 x2 x3 x4 I = some r → M g mX12_laysLeast (d + 4) (NT, NT, 0) R 77 [some (.ref 205), some (.int x1), some (.int x2), some (.int x3), some (.int r.1)] [] (NT, r.2, J, P) → M g mX12_laysLeast (d + 4) (NT, NT, 0) R 34 [some (.ref 205), some (.int x1), some (.int x2), some (.int x3), some (.int x4)] [] (NT, I, J, P) := by
  refine L_X12_laysLeast_34.partial_correctness x1 x2 x3 (fun x4 I r => M g mX12_laysLeast (d + 4) (NT, NT, 0) R 77 [some (.ref 205), some (.int x1), some (.int x2), some (.int x3), some (.int r.1)] [] (NT, r.2, J, P) → M g mX12_laysLeast (d + 4) (NT, NT, 0) R 34 [some (.ref 205), some (.int x1), some (.int x2), some (.int x3), some (.int x4)] [] (NT, I, J, P)) ?_
  intro f ih x4 I r h hk
  refine M_iload (pc := 34) dX12_laysLeast_34 rfl ?_
  refine M_aload_n (pc := 36) dX12_laysLeast_36 rfl ?_
  obtain ⟨r8, hr9, h⟩ := bnd h
  refine M_callVi (pc := 37) dX12_laysLeast_37 v_X12_62 rfl rfl at_11 (Nat.le_of_ble_eq_true rfl) (C_X12_dishes (d := d + 3) hp hr9) (Nat.le_refl _) ?_
  refine M_icmp_ge (pc := 40) (tgt := 77) dX12_laysLeast_40 (by decide) (fun hc10 => ?_) (fun hc10 => ?_)
  · have h := (if_pos hc10).symm.trans h
    obtain rfl := Option.some.inj h
    exact hk
  · have h := (if_neg hc10).symm.trans h
    refine M_iload_n (pc := 43) dX12_laysLeast_43 rfl ?_
    refine M_iload_n (pc := 44) dX12_laysLeast_44 rfl ?_
    refine M_icmp_ge (pc := 45) (tgt := 77) dX12_laysLeast_45 (by decide) (fun hc11 => ?_) (fun hc11 => ?_)
    · have h := (if_pos hc11).symm.trans h
      obtain rfl := Option.some.inj h
      exact hk
    · have h := (if_neg hc11).symm.trans h
      refine M_aload_n (pc := 48) dX12_laysLeast_48 rfl ?_
      refine M_getR (pc := 49) dX12_laysLeast_49 f_X12_48 at_11 (gc_205_20 hp).1 ?_
      refine M_iload_n (pc := 52) dX12_laysLeast_52 rfl ?_
      refine M_aload_n (pc := 53) dX12_laysLeast_53 rfl ?_
      refine M_getR (pc := 54) dX12_laysLeast_54 f_X12_48 at_11 (gc_205_20 hp).1 ?_
      refine M_iload_n (pc := 57) dX12_laysLeast_57 rfl ?_
      obtain ⟨v12, hv13, h⟩ := bnd h
      refine M_aldI (pc := 58) dX12_laysLeast_58 (gc_205_20 hp).2 hv13 ?_
      refine M_aload_n (pc := 59) dX12_laysLeast_59 rfl ?_
      refine M_iload_n (pc := 60) dX12_laysLeast_60 rfl ?_
      refine M_iload_n (pc := 61) dX12_laysLeast_61 rfl ?_
      refine M_iload (pc := 62) dX12_laysLeast_62 rfl ?_
      obtain ⟨r14, hr15, h⟩ := bnd h
      refine M_callVi (pc := 64) dX12_laysLeast_64 v_X12_371 rfl rfl at_11 (Nat.le_of_ble_eq_true rfl) (C_X12_farBy (d := d + 0) hp hr15) (Nat.le_refl _) ?_
      refine M_mmin (pc := 67) dX12_laysLeast_67 mm_X12_259.1 mm_X12_259.2.1 mm_X12_259.2.2.1 mm_X12_259.2.2.2 (Nat.le_of_ble_eq_true rfl) ?_
      obtain ⟨hq16, h⟩ := chk h
      refine M_iast (pc := 70) dX12_laysLeast_70 (gc_205_20 hp).2 (inB_in hq16) ?_
      refine M_iinc (pc := 71) (v := (x4 + (1 : Int32))) (ls' := [some (.ref 205), some (.int x1), some (.int x2), some (.int x3), some (.int (x4 + (1 : Int32)))]) dX12_laysLeast_71 rfl rfl (by decide) rfl ?_
      refine M_goto (pc := 74) (tgt := 34) dX12_laysLeast_74 (by decide) ?_
      exact ih (x4 + (1 : Int32)) (up2 I 216 (x2).toNatClampNeg (if r14 < v12 then r14 else v12)) _ h hk
set_option maxRecDepth 4000 in
set_option maxHeartbeats 4000000 in
theorem LC_X12_laysLeast_5 {g : gX} {d : Nat} {P : Nat → Nat → Option Nat} {J : HJ} {x1 : Int32} (hp : Wp P) : ∀ (x2 : Int32) (I : HI) (r : HI), L_X12_laysLeast_5 x1 x2 I = some r → M g mX12_laysLeast (d + 4) (NT, NT, 0) ((.inl none), (NT, r, J, P)) 5 [some (.ref 205), some (.int x1), some (.int x2), none, none] [] (NT, I, J, P) := by
  refine L_X12_laysLeast_5.partial_correctness x1 (fun x2 I r => M g mX12_laysLeast (d + 4) (NT, NT, 0) ((.inl none), (NT, r, J, P)) 5 [some (.ref 205), some (.int x1), some (.int x2), none, none] [] (NT, I, J, P)) ?_
  intro f ih x2 I r h
  refine M_iload_n (pc := 5) dX12_laysLeast_5 rfl ?_
  refine M_if_lt (pc := 6) (tgt := 83) dX12_laysLeast_6 (by decide) (fun hc3 => ?_) (fun hc3 => ?_)
  · have h := (if_pos hc3).symm.trans h
    obtain rfl := Option.some.inj h
    exact M_vret (pc := 83) dX12_laysLeast_83 rfl rfl rfl
  · have h := (if_neg hc3).symm.trans h
    refine M_iload_n (pc := 9) dX12_laysLeast_9 rfl ?_
    obtain ⟨r4, hr5, h⟩ := bnd h
    refine M_callSi (pc := 10) dX12_laysLeast_10 s_X12_329 rfl rfl (Nat.le_of_ble_eq_true rfl) (C_J6_bitCount_0f7a4 (d := d + 3) hp hr5) (Nat.le_refl _) ?_
    refine M_istore_n (pc := 13) (ls' := [some (.ref 205), some (.int x1), some (.int x2), some (.int r4), none]) dX12_laysLeast_13 (by decide) rfl ?_
    refine M_aload_n (pc := 14) dX12_laysLeast_14 rfl ?_
    refine M_getR (pc := 15) dX12_laysLeast_15 f_X12_48 at_11 (gc_205_20 hp).1 ?_
    refine M_iload_n (pc := 18) dX12_laysLeast_18 rfl ?_
    refine M_iload_n (pc := 19) dX12_laysLeast_19 rfl ?_
    refine M_iload_n (pc := 20) dX12_laysLeast_20 rfl ?_
    refine M_icmp_lt (pc := 21) (tgt := 28) dX12_laysLeast_21 (by decide) (fun hc6 => ?_) (fun hc6 => ?_)
    · have h := (if_pos hc6).symm.trans h
      refine M_ldc (pc := 28) (v := 1000000) dX12_laysLeast_28 w_1645 ?_
      obtain ⟨hq7, h⟩ := chk h
      refine M_iast (pc := 30) dX12_laysLeast_30 (gc_205_20 hp).2 (inB_in hq7) ?_
      refine M_iconst (pc := 31) (v := 0) dX12_laysLeast_31 (by decide) ?_
      refine M_istore (pc := 32) (ls' := [some (.ref 205), some (.int x1), some (.int x2), some (.int r4), some (.int (0 : Int32))]) dX12_laysLeast_32 (by decide) rfl ?_
      obtain ⟨r17, hr18, h⟩ := bnd h
      refine LC_X12_laysLeast_34 (P := P) hp (0 : Int32) (up2 I 216 (x2).toNatClampNeg (1000000 : Int32)) _ hr18 ?_
      refine M_iinc (pc := 77) (v := (x2 + (-1 : Int32))) (ls' := [some (.ref 205), some (.int x1), some (.int (x2 + (-1 : Int32))), some (.int r4), some (.int r17.1)]) dX12_laysLeast_77 rfl rfl (by decide) rfl ?_
      refine M_goto (pc := 80) (tgt := 5) dX12_laysLeast_80 (by decide) ?_
      refine M_mask (pc := 5) [true, true, true, false, false] rfl ?_
      exact ih (x2 + (-1 : Int32)) r17.2 _ h
    · have h := (if_neg hc6).symm.trans h
      refine M_iconst (pc := 24) (v := 0) dX12_laysLeast_24 (by decide) ?_
      refine M_goto (pc := 25) (tgt := 30) dX12_laysLeast_25 (by decide) ?_
      obtain ⟨hq19, h⟩ := chk h
      refine M_iast (pc := 30) dX12_laysLeast_30 (gc_205_20 hp).2 (inB_in hq19) ?_
      refine M_iconst (pc := 31) (v := 0) dX12_laysLeast_31 (by decide) ?_
      refine M_istore (pc := 32) (ls' := [some (.ref 205), some (.int x1), some (.int x2), some (.int r4), some (.int (0 : Int32))]) dX12_laysLeast_32 (by decide) rfl ?_
      obtain ⟨r20, hr21, h⟩ := bnd h
      refine LC_X12_laysLeast_34 (P := P) hp (0 : Int32) (up2 I 216 (x2).toNatClampNeg (0 : Int32)) _ hr21 ?_
      refine M_iinc (pc := 77) (v := (x2 + (-1 : Int32))) (ls' := [some (.ref 205), some (.int x1), some (.int (x2 + (-1 : Int32))), some (.int r4), some (.int r20.1)]) dX12_laysLeast_77 rfl rfl (by decide) rfl ?_
      refine M_goto (pc := 80) (tgt := 5) dX12_laysLeast_80 (by decide) ?_
      refine M_mask (pc := 5) [true, true, true, false, false] rfl ?_
      exact ih (x2 + (-1 : Int32)) r20.2 _ h
set_option maxRecDepth 4000 in
set_option maxHeartbeats 4000000 in
theorem C_X12_laysLeast {g : gX} {d : Nat} {P : Nat → Nat → Option Nat} {I : HI} {x1 : Int32} {J : HJ} (hp : Wp P) {r : HI} (h : F_X12_laysLeast I x1 = some r) : Cm g mX12_laysLeast (d + 4) [.ref 205, .int x1] (NT, I, J, P) none (NT, r, J, P) := by
  unfold F_X12_laysLeast at h
  refine Cm.of (by decide) (by simp [Value.category]) (Nat.le_of_ble_eq_true rfl) (Nat.le_refl _) (ls := [some (.ref 205), some (.int x1), none, none, none]) rfl ?_
  refine M_aload_n (pc := 0) dX12_laysLeast_0 rfl ?_
  obtain ⟨r1, hr2, h⟩ := bnd h
  refine M_callVi (pc := 1) dX12_laysLeast_1 v_X12_340 rfl rfl at_11 (Nat.le_of_ble_eq_true rfl) (C_X12_allDishes (d := d + 2) hp hr2) (Nat.le_refl _) ?_
  refine M_istore_n (pc := 4) (ls' := [some (.ref 205), some (.int x1), some (.int r1), none, none]) dX12_laysLeast_4 (by decide) rfl ?_
  exact LC_X12_laysLeast_5 (P := P) hp r1 I _ h
def L_X12_jars_90 (I : HI) (x1 : Int32) (x3 : Int32) (x5 : Int32) (x4 : Int32) : Option (Int32) :=
  (F_X12_farBy I x5 x3 x4) >>= fun r19 => (ald 4096 (I 216) x3) >>= fun v21 => if r19 = v21 then some x4 else L_X12_jars_90 I x1 x3 x5 (x4 + (1 : Int32))
partial_fixpoint
def L_X12_jars_81 (I : HI) (x1 : Int32) (x3 : Int32) (x4 : Int32) (x5 : Int32) : Option (Int32 × HI) :=
  if x1 < x5 then some (x4, I) else (L_X12_jars_90 I x1 x3 x5 (0 : Int32)) >>= fun r24 => L_X12_jars_81 I x1 (x3 ||| ((1 : Int32) <<< (r24 &&& 31))) r24 (x5 + (1 : Int32))
partial_fixpoint
def F_X12_jars (I : HI) (x1 : Int32) : Option (Int32 × HI) :=
  (F_X12_uses I) >>= fun r1 => (F_X12_areJars r1) >>= fun r3 => if r3 = 0 then (F_X12_throwsIf r1 (1 : Int32) (1 : Int32)) >>= fun r26 => if r26.1 = 0 then (F_X12_dishes r26.2) >>= fun r29 => if ((r26.2 205 11) / (5 : Int32)) ≤ r29 then (F_X12_laysLeast r26.2 ((r26.2 205 11) / (5 : Int32))) >>= fun r32 => if x1 = (-1 : Int32) then some ((r32 216 0), r32) else (F_X12_in r32 x1 (0 : Int32) (((r26.2 205 11) / (5 : Int32)) - (1 : Int32))) >>= fun r35 => if r35 = 0 then some ((-1 : Int32), r32) else L_X12_jars_81 r32 x1 (0 : Int32) (0 : Int32) (0 : Int32) else some ((-1 : Int32), r26.2) else some ((0 : Int32), r26.2) else (F_X12_throwsIf r1 (0 : Int32) (1 : Int32)) >>= fun r6 => if r6.1 = 0 then (F_X12_dishes r6.2) >>= fun r9 => if ((r6.2 205 11) / (5 : Int32)) ≤ r9 then (F_X12_laysLeast r6.2 ((r6.2 205 11) / (5 : Int32))) >>= fun r12 => if x1 = (-1 : Int32) then some ((r12 216 0), r12) else (F_X12_in r12 x1 (0 : Int32) (((r6.2 205 11) / (5 : Int32)) - (1 : Int32))) >>= fun r15 => if r15 = 0 then some ((-1 : Int32), r12) else L_X12_jars_81 r12 x1 (0 : Int32) (0 : Int32) (0 : Int32) else some ((-1 : Int32), r6.2) else some ((0 : Int32), r6.2)
set_option maxRecDepth 4000 in
set_option maxHeartbeats 4000000 in
theorem LC_X12_jars_90 {g : gX} {d : Nat} {R : rX} {P : Nat → Nat → Option Nat} {J : HJ} {I : HI} {x1 : Int32} {x3 : Int32} {x5 : Int32} (hp : Wp P) : ∀ (x4 : Int32) (r : Int32), L_X12_jars_90 I x1 x3 x5 x4 = some r → M g mX12_jars (d + 5) (NT, NT, 0) R 114 [some (.ref 205), some (.int x1), none, some (.int x3), some (.int r), some (.int x5)] [] (NT, I, J, P) → M g mX12_jars (d + 5) (NT, NT, 0) R 90 [some (.ref 205), some (.int x1), none, some (.int x3), some (.int x4), some (.int x5)] [] (NT, I, J, P) := by
  refine L_X12_jars_90.partial_correctness I x1 x3 x5 (fun x4 r => M g mX12_jars (d + 5) (NT, NT, 0) R 114 [some (.ref 205), some (.int x1), none, some (.int x3), some (.int r), some (.int x5)] [] (NT, I, J, P) → M g mX12_jars (d + 5) (NT, NT, 0) R 90 [some (.ref 205), some (.int x1), none, some (.int x3), some (.int x4), some (.int x5)] [] (NT, I, J, P)) ?_
  intro f ih x4 r h hk
  refine M_aload_n (pc := 90) dX12_jars_90 rfl ?_
  refine M_iload (pc := 91) dX12_jars_91 rfl ?_
  refine M_iload_n (pc := 93) dX12_jars_93 rfl ?_
  refine M_iload (pc := 94) dX12_jars_94 rfl ?_
  obtain ⟨r19, hr20, h⟩ := bnd h
  refine M_callVi (pc := 96) dX12_jars_96 v_X12_371 rfl rfl at_11 (Nat.le_of_ble_eq_true rfl) (C_X12_farBy (d := d + 1) hp hr20) (Nat.le_refl _) ?_
  refine M_aload_n (pc := 99) dX12_jars_99 rfl ?_
  refine M_getR (pc := 100) dX12_jars_100 f_X12_48 at_11 (gc_205_20 hp).1 ?_
  refine M_iload_n (pc := 103) dX12_jars_103 rfl ?_
  obtain ⟨v21, hv22, h⟩ := bnd h
  refine M_aldI (pc := 104) dX12_jars_104 (gc_205_20 hp).2 hv22 ?_
  refine M_icmp_eq (pc := 105) (tgt := 114) dX12_jars_105 (by decide) (fun hc23 => ?_) (fun hc23 => ?_)
  · have h := (if_pos hc23).symm.trans h
    obtain rfl := Option.some.inj h
    exact hk
  · have h := (if_neg hc23).symm.trans h
    refine M_iinc (pc := 108) (v := (x4 + (1 : Int32))) (ls' := [some (.ref 205), some (.int x1), none, some (.int x3), some (.int (x4 + (1 : Int32))), some (.int x5)]) dX12_jars_108 rfl rfl (by decide) rfl ?_
    refine M_goto (pc := 111) (tgt := 90) dX12_jars_111 (by decide) ?_
    exact ih (x4 + (1 : Int32)) _ h hk
set_option maxRecDepth 4000 in
set_option maxHeartbeats 4000000 in
theorem LC_X12_jars_81 {g : gX} {d : Nat} {P : Nat → Nat → Option Nat} {J : HJ} {I : HI} {x1 : Int32} (hp : Wp P) : ∀ (x3 : Int32) (x4 : Int32) (x5 : Int32) (r : Int32 × HI), L_X12_jars_81 I x1 x3 x4 x5 = some r → M g mX12_jars (d + 5) (NT, NT, 0) ((.inl (some (.int r.1))), (NT, r.2, J, P)) 81 [some (.ref 205), some (.int x1), none, some (.int x3), some (.int x4), some (.int x5)] [] (NT, I, J, P) := by
  refine L_X12_jars_81.partial_correctness I x1 (fun x3 x4 x5 r => M g mX12_jars (d + 5) (NT, NT, 0) ((.inl (some (.int r.1))), (NT, r.2, J, P)) 81 [some (.ref 205), some (.int x1), none, some (.int x3), some (.int x4), some (.int x5)] [] (NT, I, J, P)) ?_
  intro f ih x3 x4 x5 r h
  refine M_iload (pc := 81) dX12_jars_81 rfl ?_
  refine M_iload_n (pc := 83) dX12_jars_83 rfl ?_
  refine M_icmp_gt (pc := 84) (tgt := 127) dX12_jars_84 (by decide) (fun hc18 => ?_) (fun hc18 => ?_)
  · have h := (if_pos hc18).symm.trans h
    refine M_iload (pc := 127) dX12_jars_127 rfl ?_
    obtain rfl := Option.some.inj h
    exact M_iret (pc := 129) dX12_jars_129 rfl rfl rfl rfl
  · have h := (if_neg hc18).symm.trans h
    refine M_iconst (pc := 87) (v := 0) dX12_jars_87 (by decide) ?_
    refine M_istore (pc := 88) (ls' := [some (.ref 205), some (.int x1), none, some (.int x3), some (.int (0 : Int32)), some (.int x5)]) dX12_jars_88 (by decide) rfl ?_
    obtain ⟨r24, hr25, h⟩ := bnd h
    refine LC_X12_jars_90 (P := P) hp (0 : Int32) _ hr25 ?_
    refine M_iload_n (pc := 114) dX12_jars_114 rfl ?_
    refine M_iconst (pc := 115) (v := 1) dX12_jars_115 (by decide) ?_
    refine M_iload (pc := 116) dX12_jars_116 rfl ?_
    refine M_ishl (pc := 118) dX12_jars_118 ?_
    refine M_ior (pc := 119) dX12_jars_119 ?_
    refine M_istore_n (pc := 120) (ls' := [some (.ref 205), some (.int x1), none, some (.int (x3 ||| ((1 : Int32) <<< (r24 &&& 31)))), some (.int r24), some (.int x5)]) dX12_jars_120 (by decide) rfl ?_
    refine M_iinc (pc := 121) (v := (x5 + (1 : Int32))) (ls' := [some (.ref 205), some (.int x1), none, some (.int (x3 ||| ((1 : Int32) <<< (r24 &&& 31)))), some (.int r24), some (.int (x5 + (1 : Int32)))]) dX12_jars_121 rfl rfl (by decide) rfl ?_
    refine M_goto (pc := 124) (tgt := 81) dX12_jars_124 (by decide) ?_
    exact ih (x3 ||| ((1 : Int32) <<< (r24 &&& 31))) r24 (x5 + (1 : Int32)) _ h
set_option maxRecDepth 4000 in
set_option maxHeartbeats 4000000 in
theorem C_X12_jars {g : gX} {d : Nat} {P : Nat → Nat → Option Nat} {I : HI} {x1 : Int32} {J : HJ} (hp : Wp P) {r : Int32 × HI} (h : F_X12_jars I x1 = some r) : Cm g mX12_jars (d + 5) [.ref 205, .int x1] (NT, I, J, P) (some (.int r.1)) (NT, r.2, J, P) := by
  unfold F_X12_jars at h
  refine Cm.of (by decide) (by simp [Value.category]) (Nat.le_of_ble_eq_true rfl) (Nat.le_refl _) (ls := [some (.ref 205), some (.int x1), none, none, none, none]) rfl ?_
  refine M_aload_n (pc := 0) dX12_jars_0 rfl ?_
  obtain ⟨r1, hr2, h⟩ := bnd h
  refine M_callVv (pc := 1) dX12_jars_1 v_X12_232 rfl rfl at_11 (Nat.le_of_ble_eq_true rfl) (C_X12_uses (d := d + 4) hp hr2) (Nat.le_refl _) ?_
  refine M_aload_n (pc := 4) dX12_jars_4 rfl ?_
  refine M_aload_n (pc := 5) dX12_jars_5 rfl ?_
  obtain ⟨r3, hr4, h⟩ := bnd h
  refine M_callVi (pc := 6) dX12_jars_6 v_X12_375 rfl rfl at_11 (Nat.le_of_ble_eq_true rfl) (C_X12_areJars (d := d + 3) hp hr4) (Nat.le_refl _) ?_
  refine M_if_ne (pc := 9) (tgt := 16) dX12_jars_9 (by decide) (fun hc5 => ?_) (fun hc5 => ?_)
  · have h := (if_neg hc5).symm.trans h
    refine M_iconst (pc := 16) (v := 0) dX12_jars_16 (by decide) ?_
    refine M_iconst (pc := 17) (v := 1) dX12_jars_17 (by decide) ?_
    obtain ⟨r6, hr7, h⟩ := bnd h
    refine M_callVi (pc := 18) dX12_jars_18 v_X12_243 rfl rfl at_11 (Nat.le_of_ble_eq_true rfl) (C_X12_throwsIf (d := d + 4) hp hr7) (Nat.le_refl _) ?_
    refine M_if_eq (pc := 21) (tgt := 26) dX12_jars_21 (by decide) (fun hc8 => ?_) (fun hc8 => ?_)
    · have h := (if_pos hc8).symm.trans h
      refine M_aload_n (pc := 26) dX12_jars_26 rfl ?_
      refine M_getI (pc := 27) dX12_jars_27 f_X12_84 at_11 ?_
      refine M_iconst (pc := 30) (v := 5) dX12_jars_30 (by decide) ?_
      refine M_idiv (pc := 31) dX12_jars_31 (by decide) ?_
      refine M_istore_n (pc := 32) (ls' := [some (.ref 205), some (.int x1), some (.int ((r6.2 205 11) / (5 : Int32))), none, none, none]) dX12_jars_32 (by decide) rfl ?_
      refine M_iload_n (pc := 33) dX12_jars_33 rfl ?_
      refine M_aload_n (pc := 34) dX12_jars_34 rfl ?_
      obtain ⟨r9, hr10, h⟩ := bnd h
      refine M_callVi (pc := 35) dX12_jars_35 v_X12_62 rfl rfl at_11 (Nat.le_of_ble_eq_true rfl) (C_X12_dishes (d := d + 4) hp hr10) (Nat.le_refl _) ?_
      refine M_icmp_le (pc := 38) (tgt := 43) dX12_jars_38 (by decide) (fun hc11 => ?_) (fun hc11 => ?_)
      · have h := (if_pos hc11).symm.trans h
        refine M_aload_n (pc := 43) dX12_jars_43 rfl ?_
        refine M_iload_n (pc := 44) dX12_jars_44 rfl ?_
        obtain ⟨r12, hr13, h⟩ := bnd h
        refine M_callVv (pc := 45) dX12_jars_45 v_X12_378 rfl rfl at_11 (Nat.le_of_ble_eq_true rfl) (C_X12_laysLeast (d := d + 0) hp hr13) (Nat.le_refl _) ?_
        refine M_iload_n (pc := 48) dX12_jars_48 rfl ?_
        refine M_iconst (pc := 49) (v := -1) dX12_jars_49 (by decide) ?_
        refine M_icmp_ne (pc := 50) (tgt := 60) dX12_jars_50 (by decide) (fun hc14 => ?_) (fun hc14 => ?_)
        · have h := (if_neg hc14).symm.trans h
          refine M_iload_n (pc := 60) dX12_jars_60 rfl ?_
          refine M_iconst (pc := 61) (v := 0) dX12_jars_61 (by decide) ?_
          refine M_iload_n (pc := 62) dX12_jars_62 rfl ?_
          refine M_iconst (pc := 63) (v := 1) dX12_jars_63 (by decide) ?_
          refine M_isub (pc := 64) dX12_jars_64 ?_
          obtain ⟨r15, hr16, h⟩ := bnd h
          refine M_callSi (pc := 65) dX12_jars_65 s_X12_73 rfl rfl (Nat.le_of_ble_eq_true rfl) (C_X12_in (d := d + 4) hp hr16) (Nat.le_refl _) ?_
          refine M_if_ne (pc := 68) (tgt := 73) dX12_jars_68 (by decide) (fun hc17 => ?_) (fun hc17 => ?_)
          · have h := (if_neg hc17).symm.trans h
            refine M_iconst (pc := 73) (v := 0) dX12_jars_73 (by decide) ?_
            refine M_istore_n (pc := 74) (ls' := [some (.ref 205), some (.int x1), some (.int ((r6.2 205 11) / (5 : Int32))), some (.int (0 : Int32)), none, none]) dX12_jars_74 (by decide) rfl ?_
            refine M_iconst (pc := 75) (v := 0) dX12_jars_75 (by decide) ?_
            refine M_istore (pc := 76) (ls' := [some (.ref 205), some (.int x1), some (.int ((r6.2 205 11) / (5 : Int32))), some (.int (0 : Int32)), some (.int (0 : Int32)), none]) dX12_jars_76 (by decide) rfl ?_
            refine M_iconst (pc := 78) (v := 0) dX12_jars_78 (by decide) ?_
            refine M_istore (pc := 79) (ls' := [some (.ref 205), some (.int x1), some (.int ((r6.2 205 11) / (5 : Int32))), some (.int (0 : Int32)), some (.int (0 : Int32)), some (.int (0 : Int32))]) dX12_jars_79 (by decide) rfl ?_
            refine M_mask (pc := 81) [true, true, false, true, true, true] rfl ?_
            exact LC_X12_jars_81 (P := P) hp (0 : Int32) (0 : Int32) (0 : Int32) _ h
          · have h := (if_pos hc17).symm.trans h
            refine M_iconst (pc := 71) (v := -1) dX12_jars_71 (by decide) ?_
            obtain rfl := Option.some.inj h
            exact M_iret (pc := 72) dX12_jars_72 rfl rfl rfl rfl
        · have h := (if_pos hc14).symm.trans h
          refine M_aload_n (pc := 53) dX12_jars_53 rfl ?_
          refine M_getR (pc := 54) dX12_jars_54 f_X12_48 at_11 (gc_205_20 hp).1 ?_
          refine M_iconst (pc := 57) (v := 0) dX12_jars_57 (by decide) ?_
          refine M_ildc (pc := 58) (j := 0) dX12_jars_58 (gc_205_20 hp).2 (by decide) (by decide) ?_
          obtain rfl := Option.some.inj h
          exact M_iret (pc := 59) dX12_jars_59 rfl rfl rfl rfl
      · have h := (if_neg hc11).symm.trans h
        refine M_iconst (pc := 41) (v := -1) dX12_jars_41 (by decide) ?_
        obtain rfl := Option.some.inj h
        exact M_iret (pc := 42) dX12_jars_42 rfl rfl rfl rfl
    · have h := (if_neg hc8).symm.trans h
      refine M_iconst (pc := 24) (v := 0) dX12_jars_24 (by decide) ?_
      obtain rfl := Option.some.inj h
      exact M_iret (pc := 25) dX12_jars_25 rfl rfl rfl rfl
  · have h := (if_pos hc5).symm.trans h
    refine M_iconst (pc := 12) (v := 1) dX12_jars_12 (by decide) ?_
    refine M_goto (pc := 13) (tgt := 17) dX12_jars_13 (by decide) ?_
    refine M_iconst (pc := 17) (v := 1) dX12_jars_17 (by decide) ?_
    obtain ⟨r26, hr27, h⟩ := bnd h
    refine M_callVi (pc := 18) dX12_jars_18 v_X12_243 rfl rfl at_11 (Nat.le_of_ble_eq_true rfl) (C_X12_throwsIf (d := d + 4) hp hr27) (Nat.le_refl _) ?_
    refine M_if_eq (pc := 21) (tgt := 26) dX12_jars_21 (by decide) (fun hc28 => ?_) (fun hc28 => ?_)
    · have h := (if_pos hc28).symm.trans h
      refine M_aload_n (pc := 26) dX12_jars_26 rfl ?_
      refine M_getI (pc := 27) dX12_jars_27 f_X12_84 at_11 ?_
      refine M_iconst (pc := 30) (v := 5) dX12_jars_30 (by decide) ?_
      refine M_idiv (pc := 31) dX12_jars_31 (by decide) ?_
      refine M_istore_n (pc := 32) (ls' := [some (.ref 205), some (.int x1), some (.int ((r26.2 205 11) / (5 : Int32))), none, none, none]) dX12_jars_32 (by decide) rfl ?_
      refine M_iload_n (pc := 33) dX12_jars_33 rfl ?_
      refine M_aload_n (pc := 34) dX12_jars_34 rfl ?_
      obtain ⟨r29, hr30, h⟩ := bnd h
      refine M_callVi (pc := 35) dX12_jars_35 v_X12_62 rfl rfl at_11 (Nat.le_of_ble_eq_true rfl) (C_X12_dishes (d := d + 4) hp hr30) (Nat.le_refl _) ?_
      refine M_icmp_le (pc := 38) (tgt := 43) dX12_jars_38 (by decide) (fun hc31 => ?_) (fun hc31 => ?_)
      · have h := (if_pos hc31).symm.trans h
        refine M_aload_n (pc := 43) dX12_jars_43 rfl ?_
        refine M_iload_n (pc := 44) dX12_jars_44 rfl ?_
        obtain ⟨r32, hr33, h⟩ := bnd h
        refine M_callVv (pc := 45) dX12_jars_45 v_X12_378 rfl rfl at_11 (Nat.le_of_ble_eq_true rfl) (C_X12_laysLeast (d := d + 0) hp hr33) (Nat.le_refl _) ?_
        refine M_iload_n (pc := 48) dX12_jars_48 rfl ?_
        refine M_iconst (pc := 49) (v := -1) dX12_jars_49 (by decide) ?_
        refine M_icmp_ne (pc := 50) (tgt := 60) dX12_jars_50 (by decide) (fun hc34 => ?_) (fun hc34 => ?_)
        · have h := (if_neg hc34).symm.trans h
          refine M_iload_n (pc := 60) dX12_jars_60 rfl ?_
          refine M_iconst (pc := 61) (v := 0) dX12_jars_61 (by decide) ?_
          refine M_iload_n (pc := 62) dX12_jars_62 rfl ?_
          refine M_iconst (pc := 63) (v := 1) dX12_jars_63 (by decide) ?_
          refine M_isub (pc := 64) dX12_jars_64 ?_
          obtain ⟨r35, hr36, h⟩ := bnd h
          refine M_callSi (pc := 65) dX12_jars_65 s_X12_73 rfl rfl (Nat.le_of_ble_eq_true rfl) (C_X12_in (d := d + 4) hp hr36) (Nat.le_refl _) ?_
          refine M_if_ne (pc := 68) (tgt := 73) dX12_jars_68 (by decide) (fun hc37 => ?_) (fun hc37 => ?_)
          · have h := (if_neg hc37).symm.trans h
            refine M_iconst (pc := 73) (v := 0) dX12_jars_73 (by decide) ?_
            refine M_istore_n (pc := 74) (ls' := [some (.ref 205), some (.int x1), some (.int ((r26.2 205 11) / (5 : Int32))), some (.int (0 : Int32)), none, none]) dX12_jars_74 (by decide) rfl ?_
            refine M_iconst (pc := 75) (v := 0) dX12_jars_75 (by decide) ?_
            refine M_istore (pc := 76) (ls' := [some (.ref 205), some (.int x1), some (.int ((r26.2 205 11) / (5 : Int32))), some (.int (0 : Int32)), some (.int (0 : Int32)), none]) dX12_jars_76 (by decide) rfl ?_
            refine M_iconst (pc := 78) (v := 0) dX12_jars_78 (by decide) ?_
            refine M_istore (pc := 79) (ls' := [some (.ref 205), some (.int x1), some (.int ((r26.2 205 11) / (5 : Int32))), some (.int (0 : Int32)), some (.int (0 : Int32)), some (.int (0 : Int32))]) dX12_jars_79 (by decide) rfl ?_
            refine M_mask (pc := 81) [true, true, false, true, true, true] rfl ?_
            exact LC_X12_jars_81 (P := P) hp (0 : Int32) (0 : Int32) (0 : Int32) _ h
          · have h := (if_pos hc37).symm.trans h
            refine M_iconst (pc := 71) (v := -1) dX12_jars_71 (by decide) ?_
            obtain rfl := Option.some.inj h
            exact M_iret (pc := 72) dX12_jars_72 rfl rfl rfl rfl
        · have h := (if_pos hc34).symm.trans h
          refine M_aload_n (pc := 53) dX12_jars_53 rfl ?_
          refine M_getR (pc := 54) dX12_jars_54 f_X12_48 at_11 (gc_205_20 hp).1 ?_
          refine M_iconst (pc := 57) (v := 0) dX12_jars_57 (by decide) ?_
          refine M_ildc (pc := 58) (j := 0) dX12_jars_58 (gc_205_20 hp).2 (by decide) (by decide) ?_
          obtain rfl := Option.some.inj h
          exact M_iret (pc := 59) dX12_jars_59 rfl rfl rfl rfl
      · have h := (if_neg hc31).symm.trans h
        refine M_iconst (pc := 41) (v := -1) dX12_jars_41 (by decide) ?_
        obtain rfl := Option.some.inj h
        exact M_iret (pc := 42) dX12_jars_42 rfl rfl rfl rfl
    · have h := (if_neg hc28).symm.trans h
      refine M_iconst (pc := 24) (v := 0) dX12_jars_24 (by decide) ?_
      obtain rfl := Option.some.inj h
      exact M_iret (pc := 25) dX12_jars_25 rfl rfl rfl rfl
def F_X12_kitchen (I : HI) (x1 : Int32) : Option (Int32 × HI) :=
  (F_X12_noPlace (up2 I 205 0 (0 : Int32)) x1) >>= fun r1 => (F_X12_throwsIf (up2 I 205 0 (0 : Int32)) r1 (1 : Int32)) >>= fun r3 => if r3.1 = 0 then (F_X12_hadAt r3.2 (6 : Int32) x1) >>= fun r6 => some (r6, r3.2) else some ((0 : Int32), r3.2)
set_option maxRecDepth 4000 in
set_option maxHeartbeats 4000000 in
theorem C_X12_kitchen {g : gX} {d : Nat} {P : Nat → Nat → Option Nat} {I : HI} {x1 : Int32} {J : HJ} (hp : Wp P) {r : Int32 × HI} (h : F_X12_kitchen I x1 = some r) : Cm g mX12_kitchen (d + 4) [.ref 205, .int x1] (NT, I, J, P) (some (.int r.1)) (NT, r.2, J, P) := by
  unfold F_X12_kitchen at h
  refine Cm.of (by decide) (by simp [Value.category]) (Nat.le_of_ble_eq_true rfl) (Nat.le_refl _) (ls := [some (.ref 205), some (.int x1)]) rfl ?_
  refine M_aload_n (pc := 0) dX12_kitchen_0 rfl ?_
  refine M_iconst (pc := 1) (v := 0) dX12_kitchen_1 (by decide) ?_
  refine M_putI (pc := 2) dX12_kitchen_2 f_X12_3 at_11 rfl ⟨rfl, rfl⟩ ?_
  refine M_aload_n (pc := 5) dX12_kitchen_5 rfl ?_
  refine M_iload_n (pc := 6) dX12_kitchen_6 rfl ?_
  obtain ⟨r1, hr2, h⟩ := bnd h
  refine M_callSi (pc := 7) dX12_kitchen_7 s_X12_314 rfl rfl (Nat.le_of_ble_eq_true rfl) (C_X12_noPlace (d := d + 2) hp hr2) (Nat.le_refl _) ?_
  refine M_iconst (pc := 10) (v := 1) dX12_kitchen_10 (by decide) ?_
  obtain ⟨r3, hr4, h⟩ := bnd h
  refine M_callVi (pc := 11) dX12_kitchen_11 v_X12_243 rfl rfl at_11 (Nat.le_of_ble_eq_true rfl) (C_X12_throwsIf (d := d + 3) hp hr4) (Nat.le_refl _) ?_
  refine M_if_eq (pc := 14) (tgt := 19) dX12_kitchen_14 (by decide) (fun hc5 => ?_) (fun hc5 => ?_)
  · have h := (if_pos hc5).symm.trans h
    refine M_aload_n (pc := 19) dX12_kitchen_19 rfl ?_
    refine M_bipush (pc := 20) (v := 6) dX12_kitchen_20 (by decide) ?_
    refine M_iload_n (pc := 22) dX12_kitchen_22 rfl ?_
    obtain ⟨r6, hr7, h⟩ := bnd h
    refine M_callVi (pc := 23) dX12_kitchen_23 v_X12_382 rfl rfl at_11 (Nat.le_of_ble_eq_true rfl) (C_X12_hadAt (d := d + 0) hp hr7) (Nat.le_refl _) ?_
    obtain rfl := Option.some.inj h
    exact M_iret (pc := 26) dX12_kitchen_26 rfl rfl rfl rfl
  · have h := (if_neg hc5).symm.trans h
    refine M_iconst (pc := 17) (v := 0) dX12_kitchen_17 (by decide) ?_
    obtain rfl := Option.some.inj h
    exact M_iret (pc := 18) dX12_kitchen_18 rfl rfl rfl rfl
def L_X12_lover_11 (I : HI) (x1 : Int32) (x2 : Int32) (x3 : Int32) : Option (Int32 × HI) :=
  if (8 : Int32) ≤ x3 then some (x1, I) else (F_X12_hadAt I (7 : Int32) x3) >>= fun r2 => (F_J6_bitCount_0f7a4 I r2) >>= fun r4 => if r4 ≤ x2 then L_X12_lover_11 I x1 (if x2 < r4 then r4 else x2) (x3 + (1 : Int32)) else L_X12_lover_11 I x3 (if x2 < r4 then r4 else x2) (x3 + (1 : Int32))
partial_fixpoint
def F_X12_lover (I : HI) : Option (Int32 × HI) :=
  L_X12_lover_11 (up2 I 205 0 (0 : Int32)) (-1 : Int32) (0 : Int32) (0 : Int32)
set_option maxRecDepth 4000 in
set_option maxHeartbeats 4000000 in
theorem LC_X12_lover_11 {g : gX} {d : Nat} {P : Nat → Nat → Option Nat} {J : HJ} {I : HI} (hp : Wp P) : ∀ (x1 : Int32) (x2 : Int32) (x3 : Int32) (r : Int32 × HI), L_X12_lover_11 I x1 x2 x3 = some r → M g mX12_lover (d + 4) (NT, NT, 0) ((.inl (some (.int r.1))), (NT, r.2, J, P)) 11 [some (.ref 205), some (.int x1), some (.int x2), some (.int x3), none] [] (NT, I, J, P) := by
  refine L_X12_lover_11.partial_correctness I (fun x1 x2 x3 r => M g mX12_lover (d + 4) (NT, NT, 0) ((.inl (some (.int r.1))), (NT, r.2, J, P)) 11 [some (.ref 205), some (.int x1), some (.int x2), some (.int x3), none] [] (NT, I, J, P)) ?_
  intro f ih x1 x2 x3 r h
  refine M_iload_n (pc := 11) dX12_lover_11 rfl ?_
  refine M_bipush (pc := 12) (v := 8) dX12_lover_12 (by decide) ?_
  refine M_icmp_ge (pc := 14) (tgt := 54) dX12_lover_14 (by decide) (fun hc1 => ?_) (fun hc1 => ?_)
  · have h := (if_pos hc1).symm.trans h
    refine M_iload_n (pc := 54) dX12_lover_54 rfl ?_
    obtain rfl := Option.some.inj h
    exact M_iret (pc := 55) dX12_lover_55 rfl rfl rfl rfl
  · have h := (if_neg hc1).symm.trans h
    refine M_aload_n (pc := 17) dX12_lover_17 rfl ?_
    refine M_bipush (pc := 18) (v := 7) dX12_lover_18 (by decide) ?_
    refine M_iload_n (pc := 20) dX12_lover_20 rfl ?_
    obtain ⟨r2, hr3, h⟩ := bnd h
    refine M_callVi (pc := 21) dX12_lover_21 v_X12_382 rfl rfl at_11 (Nat.le_of_ble_eq_true rfl) (C_X12_hadAt (d := d + 0) hp hr3) (Nat.le_refl _) ?_
    obtain ⟨r4, hr5, h⟩ := bnd h
    refine M_callSi (pc := 24) dX12_lover_24 s_X12_329 rfl rfl (Nat.le_of_ble_eq_true rfl) (C_J6_bitCount_0f7a4 (d := d + 3) hp hr5) (Nat.le_refl _) ?_
    refine M_istore (pc := 27) (ls' := [some (.ref 205), some (.int x1), some (.int x2), some (.int x3), some (.int r4)]) dX12_lover_27 (by decide) rfl ?_
    refine M_iload (pc := 29) dX12_lover_29 rfl ?_
    refine M_iload_n (pc := 31) dX12_lover_31 rfl ?_
    refine M_icmp_le (pc := 32) (tgt := 39) dX12_lover_32 (by decide) (fun hc6 => ?_) (fun hc6 => ?_)
    · have h := (if_pos hc6).symm.trans h
      refine M_iload_n (pc := 39) dX12_lover_39 rfl ?_
      refine M_istore_n (pc := 40) (ls' := [some (.ref 205), some (.int x1), some (.int x2), some (.int x3), some (.int r4)]) dX12_lover_40 (by decide) rfl ?_
      refine M_iload_n (pc := 41) dX12_lover_41 rfl ?_
      refine M_iload (pc := 42) dX12_lover_42 rfl ?_
      refine M_mmax (pc := 44) dX12_lover_44 mm_X12_293.1 mm_X12_293.2.1 mm_X12_293.2.2.1 mm_X12_293.2.2.2 (Nat.le_of_ble_eq_true rfl) ?_
      refine M_istore_n (pc := 47) (ls' := [some (.ref 205), some (.int x1), some (.int (if x2 < r4 then r4 else x2)), some (.int x3), some (.int r4)]) dX12_lover_47 (by decide) rfl ?_
      refine M_iinc (pc := 48) (v := (x3 + (1 : Int32))) (ls' := [some (.ref 205), some (.int x1), some (.int (if x2 < r4 then r4 else x2)), some (.int (x3 + (1 : Int32))), some (.int r4)]) dX12_lover_48 rfl rfl (by decide) rfl ?_
      refine M_goto (pc := 51) (tgt := 11) dX12_lover_51 (by decide) ?_
      refine M_mask (pc := 11) [true, true, true, true, false] rfl ?_
      exact ih x1 (if x2 < r4 then r4 else x2) (x3 + (1 : Int32)) _ h
    · have h := (if_neg hc6).symm.trans h
      refine M_iload_n (pc := 35) dX12_lover_35 rfl ?_
      refine M_goto (pc := 36) (tgt := 40) dX12_lover_36 (by decide) ?_
      refine M_istore_n (pc := 40) (ls' := [some (.ref 205), some (.int x3), some (.int x2), some (.int x3), some (.int r4)]) dX12_lover_40 (by decide) rfl ?_
      refine M_iload_n (pc := 41) dX12_lover_41 rfl ?_
      refine M_iload (pc := 42) dX12_lover_42 rfl ?_
      refine M_mmax (pc := 44) dX12_lover_44 mm_X12_293.1 mm_X12_293.2.1 mm_X12_293.2.2.1 mm_X12_293.2.2.2 (Nat.le_of_ble_eq_true rfl) ?_
      refine M_istore_n (pc := 47) (ls' := [some (.ref 205), some (.int x3), some (.int (if x2 < r4 then r4 else x2)), some (.int x3), some (.int r4)]) dX12_lover_47 (by decide) rfl ?_
      refine M_iinc (pc := 48) (v := (x3 + (1 : Int32))) (ls' := [some (.ref 205), some (.int x3), some (.int (if x2 < r4 then r4 else x2)), some (.int (x3 + (1 : Int32))), some (.int r4)]) dX12_lover_48 rfl rfl (by decide) rfl ?_
      refine M_goto (pc := 51) (tgt := 11) dX12_lover_51 (by decide) ?_
      refine M_mask (pc := 11) [true, true, true, true, false] rfl ?_
      exact ih x3 (if x2 < r4 then r4 else x2) (x3 + (1 : Int32)) _ h
set_option maxRecDepth 4000 in
set_option maxHeartbeats 4000000 in
theorem C_X12_lover {g : gX} {d : Nat} {P : Nat → Nat → Option Nat} {I : HI} {J : HJ} (hp : Wp P) {r : Int32 × HI} (h : F_X12_lover I = some r) : Cm g mX12_lover (d + 4) [.ref 205] (NT, I, J, P) (some (.int r.1)) (NT, r.2, J, P) := by
  unfold F_X12_lover at h
  refine Cm.of (by decide) (by simp [Value.category]) (Nat.le_of_ble_eq_true rfl) (Nat.le_refl _) (ls := [some (.ref 205), none, none, none, none]) rfl ?_
  refine M_aload_n (pc := 0) dX12_lover_0 rfl ?_
  refine M_iconst (pc := 1) (v := 0) dX12_lover_1 (by decide) ?_
  refine M_putI (pc := 2) dX12_lover_2 f_X12_3 at_11 rfl ⟨rfl, rfl⟩ ?_
  refine M_iconst (pc := 5) (v := -1) dX12_lover_5 (by decide) ?_
  refine M_istore_n (pc := 6) (ls' := [some (.ref 205), some (.int (-1 : Int32)), none, none, none]) dX12_lover_6 (by decide) rfl ?_
  refine M_iconst (pc := 7) (v := 0) dX12_lover_7 (by decide) ?_
  refine M_istore_n (pc := 8) (ls' := [some (.ref 205), some (.int (-1 : Int32)), some (.int (0 : Int32)), none, none]) dX12_lover_8 (by decide) rfl ?_
  refine M_iconst (pc := 9) (v := 0) dX12_lover_9 (by decide) ?_
  refine M_istore_n (pc := 10) (ls' := [some (.ref 205), some (.int (-1 : Int32)), some (.int (0 : Int32)), some (.int (0 : Int32)), none]) dX12_lover_10 (by decide) rfl ?_
  exact LC_X12_lover_11 (P := P) hp (-1 : Int32) (0 : Int32) (0 : Int32) _ h
def F_X12_share (I : HI) (x1 : Int32) : Option (Int32 × HI) :=
  (F_X12_noPlace (up2 I 205 0 (0 : Int32)) x1) >>= fun r1 => (F_X12_throwsIf (up2 I 205 0 (0 : Int32)) r1 (1 : Int32)) >>= fun r3 => if r3.1 = 0 then (F_X12_dishes r3.2) >>= fun r6 => (F_X12_newOnes r3.2) >>= fun r8 => (F_J6_bitCount_0f7a4 r3.2 r8) >>= fun r10 => if (r6 - r10) = 0 then some ((0 : Int32), r3.2) else (F_X12_hadAt r3.2 (6 : Int32) x1) >>= fun r13 => (F_J6_bitCount_0f7a4 r3.2 r13) >>= fun r15 => if ¬ (r6 - r10) = 0 then some ((((100 : Int32) * r15) / (r6 - r10)), r3.2) else none else some ((0 : Int32), r3.2)
set_option maxRecDepth 4000 in
set_option maxHeartbeats 4000000 in
theorem C_X12_share {g : gX} {d : Nat} {P : Nat → Nat → Option Nat} {I : HI} {x1 : Int32} {J : HJ} (hp : Wp P) {r : Int32 × HI} (h : F_X12_share I x1 = some r) : Cm g mX12_share (d + 4) [.ref 205, .int x1] (NT, I, J, P) (some (.int r.1)) (NT, r.2, J, P) := by
  unfold F_X12_share at h
  refine Cm.of (by decide) (by simp [Value.category]) (Nat.le_of_ble_eq_true rfl) (Nat.le_refl _) (ls := [some (.ref 205), some (.int x1), none]) rfl ?_
  refine M_aload_n (pc := 0) dX12_share_0 rfl ?_
  refine M_iconst (pc := 1) (v := 0) dX12_share_1 (by decide) ?_
  refine M_putI (pc := 2) dX12_share_2 f_X12_3 at_11 rfl ⟨rfl, rfl⟩ ?_
  refine M_aload_n (pc := 5) dX12_share_5 rfl ?_
  refine M_iload_n (pc := 6) dX12_share_6 rfl ?_
  obtain ⟨r1, hr2, h⟩ := bnd h
  refine M_callSi (pc := 7) dX12_share_7 s_X12_314 rfl rfl (Nat.le_of_ble_eq_true rfl) (C_X12_noPlace (d := d + 2) hp hr2) (Nat.le_refl _) ?_
  refine M_iconst (pc := 10) (v := 1) dX12_share_10 (by decide) ?_
  obtain ⟨r3, hr4, h⟩ := bnd h
  refine M_callVi (pc := 11) dX12_share_11 v_X12_243 rfl rfl at_11 (Nat.le_of_ble_eq_true rfl) (C_X12_throwsIf (d := d + 3) hp hr4) (Nat.le_refl _) ?_
  refine M_if_eq (pc := 14) (tgt := 19) dX12_share_14 (by decide) (fun hc5 => ?_) (fun hc5 => ?_)
  · have h := (if_pos hc5).symm.trans h
    refine M_aload_n (pc := 19) dX12_share_19 rfl ?_
    obtain ⟨r6, hr7, h⟩ := bnd h
    refine M_callVi (pc := 20) dX12_share_20 v_X12_62 rfl rfl at_11 (Nat.le_of_ble_eq_true rfl) (C_X12_dishes (d := d + 3) hp hr7) (Nat.le_refl _) ?_
    refine M_aload_n (pc := 23) dX12_share_23 rfl ?_
    obtain ⟨r8, hr9, h⟩ := bnd h
    refine M_callVi (pc := 24) dX12_share_24 v_X12_287 rfl rfl at_11 (Nat.le_of_ble_eq_true rfl) (C_X12_newOnes (d := d + 0) hp hr9) (Nat.le_refl _) ?_
    obtain ⟨r10, hr11, h⟩ := bnd h
    refine M_callSi (pc := 27) dX12_share_27 s_X12_329 rfl rfl (Nat.le_of_ble_eq_true rfl) (C_J6_bitCount_0f7a4 (d := d + 3) hp hr11) (Nat.le_refl _) ?_
    refine M_isub (pc := 30) dX12_share_30 ?_
    refine M_istore_n (pc := 31) (ls' := [some (.ref 205), some (.int x1), some (.int (r6 - r10))]) dX12_share_31 (by decide) rfl ?_
    refine M_iload_n (pc := 32) dX12_share_32 rfl ?_
    refine M_if_ne (pc := 33) (tgt := 40) dX12_share_33 (by decide) (fun hc12 => ?_) (fun hc12 => ?_)
    · have h := (if_neg hc12).symm.trans h
      refine M_bipush (pc := 40) (v := 100) dX12_share_40 (by decide) ?_
      refine M_aload_n (pc := 42) dX12_share_42 rfl ?_
      refine M_bipush (pc := 43) (v := 6) dX12_share_43 (by decide) ?_
      refine M_iload_n (pc := 45) dX12_share_45 rfl ?_
      obtain ⟨r13, hr14, h⟩ := bnd h
      refine M_callVi (pc := 46) dX12_share_46 v_X12_382 rfl rfl at_11 (Nat.le_of_ble_eq_true rfl) (C_X12_hadAt (d := d + 0) hp hr14) (Nat.le_refl _) ?_
      obtain ⟨r15, hr16, h⟩ := bnd h
      refine M_callSi (pc := 49) dX12_share_49 s_X12_329 rfl rfl (Nat.le_of_ble_eq_true rfl) (C_J6_bitCount_0f7a4 (d := d + 3) hp hr16) (Nat.le_refl _) ?_
      refine M_imul (pc := 52) dX12_share_52 ?_
      refine M_iload_n (pc := 53) dX12_share_53 rfl ?_
      obtain ⟨hz17, h⟩ := chk h
      refine M_idiv (pc := 54) dX12_share_54 hz17 ?_
      obtain rfl := Option.some.inj h
      exact M_iret (pc := 55) dX12_share_55 rfl rfl rfl rfl
    · have h := (if_pos hc12).symm.trans h
      refine M_iconst (pc := 36) (v := 0) dX12_share_36 (by decide) ?_
      refine M_goto (pc := 37) (tgt := 55) dX12_share_37 (by decide) ?_
      obtain rfl := Option.some.inj h
      exact M_iret (pc := 55) dX12_share_55 rfl rfl rfl rfl
  · have h := (if_neg hc5).symm.trans h
    refine M_iconst (pc := 17) (v := 0) dX12_share_17 (by decide) ?_
    obtain rfl := Option.some.inj h
    exact M_iret (pc := 18) dX12_share_18 rfl rfl rfl rfl
