def F_X11_image (I : HI) : Option (HI) :=
  (F_X3_copy I 116 3) >>= fun r1 => (F_X4_copy r1 122 9) >>= fun r3 => (F_X7_copy r3 128 15) >>= fun r5 => some (up2 r5 1 10 (1 : Int32))
set_option maxRecDepth 4000 in
set_option maxHeartbeats 4000000 in
theorem C_X11_image {g : gX} {d : Nat} {P : Nat → Nat → Option Nat} {I : HI} {J : HJ} (hp : Wp P) {r : HI} (h : F_X11_image I = some r) : Cm g mX11_image (d + 3) [.ref 1] (NT, I, J, P) none (NT, r, J, P) := by
  unfold F_X11_image at h
  refine Cm.of (by decide) (by simp [Value.category]) (Nat.le_of_ble_eq_true rfl) (Nat.le_refl _) (ls := [some (.ref 1)]) rfl ?_
  refine M_aload_n (pc := 0) dX11_image_0 rfl ?_
  refine M_getR (pc := 1) dX11_image_1 f_X11_48 at_10 (gc_1_7 hp).1 ?_
  refine M_aload_n (pc := 4) dX11_image_4 rfl ?_
  refine M_getR (pc := 5) dX11_image_5 f_X11_23 at_10 (gc_1_3 hp).1 ?_
  obtain ⟨r1, hr2, h⟩ := bnd h
  refine M_callVv (pc := 8) dX11_image_8 v_X11_106 rfl rfl (gc_1_7 hp).2 (Nat.le_of_ble_eq_true rfl) (C_X3_copy (d := d + 0) hp (gc_1_7 hp).2 (gc_1_3 hp).2 hr2) (Nat.le_refl _) ?_
  refine M_aload_n (pc := 11) dX11_image_11 rfl ?_
  refine M_getR (pc := 12) dX11_image_12 f_X11_51 at_10 (gc_1_8 hp).1 ?_
  refine M_aload_n (pc := 15) dX11_image_15 rfl ?_
  refine M_getR (pc := 16) dX11_image_16 f_X11_30 at_10 (gc_1_4 hp).1 ?_
  obtain ⟨r3, hr4, h⟩ := bnd h
  refine M_callVv (pc := 19) dX11_image_19 v_X11_142 rfl rfl (gc_1_8 hp).2 (Nat.le_of_ble_eq_true rfl) (C_X4_copy (d := d + 1) hp (gc_1_8 hp).2 (gc_1_4 hp).2 hr4) (Nat.le_refl _) ?_
  refine M_aload_n (pc := 22) dX11_image_22 rfl ?_
  refine M_getR (pc := 23) dX11_image_23 f_X11_54 at_10 (gc_1_9 hp).1 ?_
  refine M_aload_n (pc := 26) dX11_image_26 rfl ?_
  refine M_getR (pc := 27) dX11_image_27 f_X11_37 at_10 (gc_1_5 hp).1 ?_
  obtain ⟨r5, hr6, h⟩ := bnd h
  refine M_callVv (pc := 30) dX11_image_30 v_X11_417 rfl rfl (gc_1_9 hp).2 (Nat.le_of_ble_eq_true rfl) (C_X7_copy (d := d + 1) hp (gc_1_9 hp).2 (gc_1_5 hp).2 hr6) (Nat.le_refl _) ?_
  refine M_aload_n (pc := 33) dX11_image_33 rfl ?_
  refine M_iconst (pc := 34) (v := 1) dX11_image_34 (by decide) ?_
  refine M_putI (pc := 35) dX11_image_35 f_X11_57 at_10 rfl ⟨rfl, rfl⟩ ?_
  obtain rfl := Option.some.inj h
  exact M_vret (pc := 38) dX11_image_38 rfl rfl rfl
