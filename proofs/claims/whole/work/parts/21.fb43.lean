def F_X11_paysNow (I : HI) (x1 : Int32) : Option (Int32 × HI) :=
  (F_X9_put I 3 x1) >>= fun r1 => (F_X4_weigh r1 9) >>= fun r3 => some ((r3 136 2), r3)
set_option maxRecDepth 4000 in
set_option maxHeartbeats 4000000 in
theorem C_X11_paysNow {g : gX} {d : Nat} {P : Nat → Nat → Option Nat} {I : HI} {x1 : Int32} {J : HJ} (hp : Wp P) {r : Int32 × HI} (h : F_X11_paysNow I x1 = some r) : Cm g mX11_paysNow (d + 4) [.ref 1, .int x1] (NT, I, J, P) (some (.int r.1)) (NT, r.2, J, P) := by
  unfold F_X11_paysNow at h
  refine Cm.of (by decide) (by simp [Value.category]) (Nat.le_of_ble_eq_true rfl) (Nat.le_refl _) (ls := [some (.ref 1), some (.int x1)]) rfl ?_
  refine M_aload_n (pc := 0) dX11_paysNow_0 rfl ?_
  refine M_getR (pc := 1) dX11_paysNow_1 f_X11_67 at_10 (gc_1_12 hp).1 ?_
  refine M_aload_n (pc := 4) dX11_paysNow_4 rfl ?_
  refine M_getR (pc := 5) dX11_paysNow_5 f_X11_23 at_10 (gc_1_3 hp).1 ?_
  refine M_iload_n (pc := 8) dX11_paysNow_8 rfl ?_
  obtain ⟨r1, hr2, h⟩ := bnd h
  refine M_callVv (pc := 9) dX11_paysNow_9 v_X11_194 rfl rfl (gc_1_12 hp).2 (Nat.le_of_ble_eq_true rfl) (C_X9_put (d := d + 0) hp (gc_1_3 hp).2 hr2) (Nat.le_refl _) ?_
  refine M_aload_n (pc := 12) dX11_paysNow_12 rfl ?_
  refine M_getR (pc := 13) dX11_paysNow_13 f_X11_30 at_10 (gc_1_4 hp).1 ?_
  refine M_aload_n (pc := 16) dX11_paysNow_16 rfl ?_
  refine M_getR (pc := 17) dX11_paysNow_17 f_X11_67 at_10 (gc_1_12 hp).1 ?_
  obtain ⟨r3, hr4, h⟩ := bnd h
  refine M_callVv (pc := 20) dX11_paysNow_20 v_X11_198 rfl rfl (gc_1_4 hp).2 (Nat.le_of_ble_eq_true rfl) (C_X4_weigh (d := d + 0) hp (gc_1_4 hp).2 hr4) (Nat.le_refl _) ?_
  refine M_aload_n (pc := 23) dX11_paysNow_23 rfl ?_
  refine M_getR (pc := 24) dX11_paysNow_24 f_X11_67 at_10 (gc_1_12 hp).1 ?_
  refine M_getI (pc := 27) dX11_paysNow_27 f_X11_205 (gc_1_12 hp).2 ?_
  obtain rfl := Option.some.inj h
  exact M_iret (pc := 30) dX11_paysNow_30 rfl rfl rfl rfl
