def F_X11_back (I : HI) : Option (Int32 × HI) :=
  if (I 1 10) = 0 then some ((0 : Int32), I) else (F_X3_copy I 3 116) >>= fun r2 => (F_X4_copy r2 9 122) >>= fun r4 => (F_X7_copy r4 15 128) >>= fun r6 => (F_X0_clear r6) >>= fun r8 => some ((1 : Int32), r8)
set_option maxRecDepth 4000 in
set_option maxHeartbeats 4000000 in
theorem C_X11_back {g : gX} {d : Nat} {P : Nat → Nat → Option Nat} {I : HI} {J : HJ} (hp : Wp P) {r : Int32 × HI} (h : F_X11_back I = some r) : Cm g mX11_back (d + 3) [.ref 1] (NT, I, J, P) (some (.int r.1)) (NT, r.2, J, P) := by
  unfold F_X11_back at h
  refine Cm.of (by decide) (by simp [Value.category]) (Nat.le_of_ble_eq_true rfl) (Nat.le_refl _) (ls := [some (.ref 1)]) rfl ?_
  refine M_aload_n (pc := 0) dX11_back_0 rfl ?_
  refine M_getI (pc := 1) dX11_back_1 f_X11_57 at_10 ?_
  refine M_if_ne (pc := 4) (tgt := 9) dX11_back_4 (by decide) (fun hc1 => ?_) (fun hc1 => ?_)
  · have h := (if_neg hc1).symm.trans h
    refine M_aload_n (pc := 9) dX11_back_9 rfl ?_
    refine M_getR (pc := 10) dX11_back_10 f_X11_23 at_10 (gc_1_3 hp).1 ?_
    refine M_aload_n (pc := 13) dX11_back_13 rfl ?_
    refine M_getR (pc := 14) dX11_back_14 f_X11_48 at_10 (gc_1_7 hp).1 ?_
    obtain ⟨r2, hr3, h⟩ := bnd h
    refine M_callVv (pc := 17) dX11_back_17 v_X11_106 rfl rfl (gc_1_3 hp).2 (Nat.le_of_ble_eq_true rfl) (C_X3_copy (d := d + 0) hp (gc_1_3 hp).2 (gc_1_7 hp).2 hr3) (Nat.le_refl _) ?_
    refine M_aload_n (pc := 20) dX11_back_20 rfl ?_
    refine M_getR (pc := 21) dX11_back_21 f_X11_30 at_10 (gc_1_4 hp).1 ?_
    refine M_aload_n (pc := 24) dX11_back_24 rfl ?_
    refine M_getR (pc := 25) dX11_back_25 f_X11_51 at_10 (gc_1_8 hp).1 ?_
    obtain ⟨r4, hr5, h⟩ := bnd h
    refine M_callVv (pc := 28) dX11_back_28 v_X11_142 rfl rfl (gc_1_4 hp).2 (Nat.le_of_ble_eq_true rfl) (C_X4_copy (d := d + 1) hp (gc_1_4 hp).2 (gc_1_8 hp).2 hr5) (Nat.le_refl _) ?_
    refine M_aload_n (pc := 31) dX11_back_31 rfl ?_
    refine M_getR (pc := 32) dX11_back_32 f_X11_37 at_10 (gc_1_5 hp).1 ?_
    refine M_aload_n (pc := 35) dX11_back_35 rfl ?_
    refine M_getR (pc := 36) dX11_back_36 f_X11_54 at_10 (gc_1_9 hp).1 ?_
    obtain ⟨r6, hr7, h⟩ := bnd h
    refine M_callVv (pc := 39) dX11_back_39 v_X11_417 rfl rfl (gc_1_5 hp).2 (Nat.le_of_ble_eq_true rfl) (C_X7_copy (d := d + 1) hp (gc_1_5 hp).2 (gc_1_9 hp).2 hr7) (Nat.le_refl _) ?_
    refine M_aload_n (pc := 42) dX11_back_42 rfl ?_
    refine M_getR (pc := 43) dX11_back_43 f_X11_44 at_10 (gc_1_6 hp).1 ?_
    obtain ⟨r8, hr9, h⟩ := bnd h
    refine M_callVv (pc := 46) dX11_back_46 v_X11_133 rfl rfl (gc_1_6 hp).2 (Nat.le_of_ble_eq_true rfl) (C_X0_clear (d := d + 2) hp hr9) (Nat.le_refl _) ?_
    refine M_iconst (pc := 49) (v := 1) dX11_back_49 (by decide) ?_
    obtain rfl := Option.some.inj h
    exact M_iret (pc := 50) dX11_back_50 rfl rfl rfl rfl
  · have h := (if_pos hc1).symm.trans h
    refine M_iconst (pc := 7) (v := 0) dX11_back_7 (by decide) ?_
    obtain rfl := Option.some.inj h
    exact M_iret (pc := 8) dX11_back_8 rfl rfl rfl rfl
