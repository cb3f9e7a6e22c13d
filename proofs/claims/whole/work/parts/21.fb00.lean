def L_X11_putBytes_3 (x1 : Int32) (x2 : Int32) (I : HI) : Option (HI) :=
  if x2 < 0 then some I else if (400 : Int32) ≤ (I 1 1) then L_X11_putBytes_3 x1 (x2 + (-8 : Int32)) I else if inB (I 1 1) 400 = true then L_X11_putBytes_3 x1 (x2 + (-8 : Int32)) (up2 (up2 I 2 ((I 1 1)).toNatClampNeg (((x1).toUInt32 >>> ((x2).toUInt32 &&& Int32.toUInt32 31)).toInt32 &&& (255 : Int32))) 1 1 (((up2 I 2 ((I 1 1)).toNatClampNeg (((x1).toUInt32 >>> ((x2).toUInt32 &&& Int32.toUInt32 31)).toInt32 &&& (255 : Int32))) 1 1) + (1 : Int32))) else none
partial_fixpoint
def F_X11_putBytes (I : HI) (x1 : Int32) : Option (HI) :=
  L_X11_putBytes_3 x1 (24 : Int32) I
set_option maxRecDepth 4000 in
set_option maxHeartbeats 4000000 in
theorem LC_X11_putBytes_3 {g : gX} {d : Nat} {P : Nat → Nat → Option Nat} {J : HJ} {x1 : Int32} (hp : Wp P) : ∀ (x2 : Int32) (I : HI) (r : HI), L_X11_putBytes_3 x1 x2 I = some r → M g mX11_putBytes (d + 0) (NT, NT, 0) ((.inl none), (NT, r, J, P)) 3 [some (.ref 1), some (.int x1), some (.int x2)] [] (NT, I, J, P) := by
  refine L_X11_putBytes_3.partial_correctness x1 (fun x2 I r => M g mX11_putBytes (d + 0) (NT, NT, 0) ((.inl none), (NT, r, J, P)) 3 [some (.ref 1), some (.int x1), some (.int x2)] [] (NT, I, J, P)) ?_
  intro f ih x2 I r h
  refine M_iload_n (pc := 3) dX11_putBytes_3 rfl ?_
  refine M_if_lt (pc := 4) (tgt := 49) dX11_putBytes_4 (by decide) (fun hc1 => ?_) (fun hc1 => ?_)
  · have h := (if_pos hc1).symm.trans h
    obtain rfl := Option.some.inj h
    exact M_vret (pc := 49) dX11_putBytes_49 rfl rfl rfl
  · have h := (if_neg hc1).symm.trans h
    refine M_aload_n (pc := 7) dX11_putBytes_7 rfl ?_
    refine M_getI (pc := 8) dX11_putBytes_8 f_X11_13 at_10 ?_
    refine M_sipush (pc := 11) (v := 400) dX11_putBytes_11 (by decide) ?_
    refine M_icmp_ge (pc := 14) (tgt := 43) dX11_putBytes_14 (by decide) (fun hc2 => ?_) (fun hc2 => ?_)
    · have h := (if_pos hc2).symm.trans h
      refine M_iinc (pc := 43) (v := (x2 + (-8 : Int32))) (ls' := [some (.ref 1), some (.int x1), some (.int (x2 + (-8 : Int32)))]) dX11_putBytes_43 rfl rfl (by decide) rfl ?_
      refine M_goto (pc := 46) (tgt := 3) dX11_putBytes_46 (by decide) ?_
      exact ih (x2 + (-8 : Int32)) I _ h
    · have h := (if_neg hc2).symm.trans h
      refine M_aload_n (pc := 17) dX11_putBytes_17 rfl ?_
      refine M_getR (pc := 18) dX11_putBytes_18 f_X11_9 at_10 (gc_1_0 hp).1 ?_
      refine M_aload_n (pc := 21) dX11_putBytes_21 rfl ?_
      refine M_getI (pc := 22) dX11_putBytes_22 f_X11_13 at_10 ?_
      refine M_iload_n (pc := 25) dX11_putBytes_25 rfl ?_
      refine M_iload_n (pc := 26) dX11_putBytes_26 rfl ?_
      refine M_iushr (pc := 27) dX11_putBytes_27 ?_
      refine M_sipush (pc := 28) (v := 255) dX11_putBytes_28 (by decide) ?_
      refine M_iand (pc := 31) dX11_putBytes_31 ?_
      obtain ⟨hq3, h⟩ := chk h
      refine M_iast (pc := 32) dX11_putBytes_32 (gc_1_0 hp).2 (inB_in hq3) ?_
      refine M_aload_n (pc := 33) dX11_putBytes_33 rfl ?_
      refine M_dup (pc := 34) dX11_putBytes_34 rfl ?_
      refine M_getI (pc := 35) dX11_putBytes_35 f_X11_13 at_10 ?_
      refine M_iconst (pc := 38) (v := 1) dX11_putBytes_38 (by decide) ?_
      refine M_iadd (pc := 39) dX11_putBytes_39 ?_
      refine M_putI (pc := 40) dX11_putBytes_40 f_X11_13 at_10 rfl ⟨rfl, rfl⟩ ?_
      refine M_iinc (pc := 43) (v := (x2 + (-8 : Int32))) (ls' := [some (.ref 1), some (.int x1), some (.int (x2 + (-8 : Int32)))]) dX11_putBytes_43 rfl rfl (by decide) rfl ?_
      refine M_goto (pc := 46) (tgt := 3) dX11_putBytes_46 (by decide) ?_
      exact ih (x2 + (-8 : Int32)) (up2 (up2 I 2 ((I 1 1)).toNatClampNeg (((x1).toUInt32 >>> ((x2).toUInt32 &&& Int32.toUInt32 31)).toInt32 &&& (255 : Int32))) 1 1 (((up2 I 2 ((I 1 1)).toNatClampNeg (((x1).toUInt32 >>> ((x2).toUInt32 &&& Int32.toUInt32 31)).toInt32 &&& (255 : Int32))) 1 1) + (1 : Int32))) _ h
set_option maxRecDepth 4000 in
set_option maxHeartbeats 4000000 in
theorem C_X11_putBytes {g : gX} {d : Nat} {P : Nat → Nat → Option Nat} {I : HI} {x1 : Int32} {J : HJ} (hp : Wp P) {r : HI} (h : F_X11_putBytes I x1 = some r) : Cm g mX11_putBytes (d + 0) [.ref 1, .int x1] (NT, I, J, P) none (NT, r, J, P) := by
  unfold F_X11_putBytes at h
  refine Cm.of (by decide) (by simp [Value.category]) (Nat.le_of_ble_eq_true rfl) (Nat.le_refl _) (ls := [some (.ref 1), some (.int x1), none]) rfl ?_
  refine M_bipush (pc := 0) (v := 24) dX11_putBytes_0 (by decide) ?_
  refine M_istore_n (pc := 2) (ls' := [some (.ref 1), some (.int x1), some (.int (24 : Int32))]) dX11_putBytes_2 (by decide) rfl ?_
  exact LC_X11_putBytes_3 (P := P) hp (24 : Int32) I _ h
