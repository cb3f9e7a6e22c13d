def F_X11_warlike (I : HI) : Option (Int32) :=
  (F_X1_firstIn I 4 (I 3 8) (I 3 9)) >>= fun r1 => some r1
set_option maxRecDepth 4000 in
set_option maxHeartbeats 4000000 in
theorem C_X11_warlike {g : gX} {d : Nat} {P : Nat → Nat → Option Nat} {I : HI} {J : HJ} (hp : Wp P) {r : Int32} (h : F_X11_warlike I = some r) : Cm g mX11_warlike (d + 1) [.ref 1] (NT, I, J, P) (some (.int r)) (NT, I, J, P) := by
  unfold F_X11_warlike at h
  refine Cm.of (by decide) (by simp [Value.category]) (Nat.le_of_ble_eq_true rfl) (Nat.le_refl _) (ls := [some (.ref 1)]) rfl ?_
  refine M_aload_n (pc := 0) dX11_warlike_0 rfl ?_
  refine M_getR (pc := 1) dX11_warlike_1 f_X11_23 at_10 (gc_1_3 hp).1 ?_
  refine M_getR (pc := 4) dX11_warlike_4 f_X11_148 (gc_1_3 hp).2 (gc_3_0 hp).1 ?_
  refine M_aload_n (pc := 7) dX11_warlike_7 rfl ?_
  refine M_getR (pc := 8) dX11_warlike_8 f_X11_23 at_10 (gc_1_3 hp).1 ?_
  refine M_getI (pc := 11) dX11_warlike_11 f_X11_373 (gc_1_3 hp).2 ?_
  refine M_aload_n (pc := 14) dX11_warlike_14 rfl ?_
  refine M_getR (pc := 15) dX11_warlike_15 f_X11_23 at_10 (gc_1_3 hp).1 ?_
  refine M_getI (pc := 18) dX11_warlike_18 f_X11_376 (gc_1_3 hp).2 ?_
  obtain ⟨r1, hr2, h⟩ := bnd h
  refine M_callVi (pc := 21) dX11_warlike_21 v_X11_347 rfl rfl (gc_3_0 hp).2 (Nat.le_of_ble_eq_true rfl) (C_X1_firstIn (d := d + 0) hp (gc_3_0 hp).2 hr2) (Nat.le_refl _) ?_
  obtain rfl := Option.some.inj h
  exact M_iret (pc := 24) dX11_warlike_24 rfl rfl rfl rfl
