def F_X11_crust (I : HI) : Option (Int32 × HI) :=
  (F_X0_remember I 3 15) >>= fun r1 => (F_X3_comeBack r1 3) >>= fun r3 => some ((r3 3 2), r3)
set_option maxRecDepth 4000 in
set_option maxHeartbeats 4000000 in
theorem C_X11_crust {g : gX} {d : Nat} {P : Nat → Nat → Option Nat} {I : HI} {J : HJ} (hp : Wp P) {r : Int32 × HI} (h : F_X11_crust I = some r) : Cm g mX11_crust (d + 4) [.ref 1] (NT, I, J, P) (some (.int r.1)) (NT, r.2, J, P) := by
  unfold F_X11_crust at h
  refine Cm.of (by decide) (by simp [Value.category]) (Nat.le_of_ble_eq_true rfl) (Nat.le_refl _) (ls := [some (.ref 1)]) rfl ?_
  refine M_aload_n (pc := 0) dX11_crust_0 rfl ?_
  refine M_getR (pc := 1) dX11_crust_1 f_X11_44 at_10 (gc_1_6 hp).1 ?_
  refine M_aload_n (pc := 4) dX11_crust_4 rfl ?_
  refine M_getR (pc := 5) dX11_crust_5 f_X11_23 at_10 (gc_1_3 hp).1 ?_
  refine M_aload_n (pc := 8) dX11_crust_8 rfl ?_
  refine M_getR (pc := 9) dX11_crust_9 f_X11_37 at_10 (gc_1_5 hp).1 ?_
  obtain ⟨r1, hr2, h⟩ := bnd h
  refine M_callVv (pc := 12) dX11_crust_12 v_X11_228 rfl rfl (gc_1_6 hp).2 (Nat.le_of_ble_eq_true rfl) (C_X0_remember (d := d + 0) hp (gc_1_3 hp).2 (gc_1_5 hp).2 hr2) (Nat.le_refl _) ?_
  refine M_aload_n (pc := 15) dX11_crust_15 rfl ?_
  refine M_getR (pc := 16) dX11_crust_16 f_X11_23 at_10 (gc_1_3 hp).1 ?_
  obtain ⟨r3, hr4, h⟩ := bnd h
  refine M_callVv (pc := 19) dX11_crust_19 v_X11_249 rfl rfl (gc_1_3 hp).2 (Nat.le_of_ble_eq_true rfl) (C_X3_comeBack (d := d + 2) hp (gc_1_3 hp).2 hr4) (Nat.le_refl _) ?_
  refine M_aload_n (pc := 22) dX11_crust_22 rfl ?_
  refine M_getR (pc := 23) dX11_crust_23 f_X11_23 at_10 (gc_1_3 hp).1 ?_
  refine M_getI (pc := 26) dX11_crust_26 f_X11_252 (gc_1_3 hp).2 ?_
  obtain rfl := Option.some.inj h
  exact M_iret (pc := 29) dX11_crust_29 rfl rfl rfl rfl
