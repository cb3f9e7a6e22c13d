def F_X11_left (I : HI) : Option (Int32) :=
  (F_X1_all I 4) >>= fun r1 => (F_X1_allHad I 4) >>= fun r3 => some (r1 &&& (r3 ^^^ (-1 : Int32)))
set_option maxRecDepth 4000 in
set_option maxHeartbeats 4000000 in
theorem C_X11_left {g : gX} {d : Nat} {P : Nat → Nat → Option Nat} {I : HI} {J : HJ} (hp : Wp P) {r : Int32} (h : F_X11_left I = some r) : Cm g mX11_left (d + 2) [.ref 1] (NT, I, J, P) (some (.int r)) (NT, I, J, P) := by
  unfold F_X11_left at h
  refine Cm.of (by decide) (by simp [Value.category]) (Nat.le_of_ble_eq_true rfl) (Nat.le_refl _) (ls := [some (.ref 1)]) rfl ?_
  refine M_aload_n (pc := 0) dX11_left_0 rfl ?_
  refine M_getR (pc := 1) dX11_left_1 f_X11_23 at_10 (gc_1_3 hp).1 ?_
  refine M_getR (pc := 4) dX11_left_4 f_X11_148 (gc_1_3 hp).2 (gc_3_0 hp).1 ?_
  obtain ⟨r1, hr2, h⟩ := bnd h
  refine M_callVi (pc := 7) dX11_left_7 v_X11_214 rfl rfl (gc_3_0 hp).2 (Nat.le_of_ble_eq_true rfl) (C_X1_all (d := d + 1) hp (gc_3_0 hp).2 hr2) (Nat.le_refl _) ?_
  refine M_aload_n (pc := 10) dX11_left_10 rfl ?_
  refine M_getR (pc := 11) dX11_left_11 f_X11_23 at_10 (gc_1_3 hp).1 ?_
  refine M_getR (pc := 14) dX11_left_14 f_X11_148 (gc_1_3 hp).2 (gc_3_0 hp).1 ?_
  obtain ⟨r3, hr4, h⟩ := bnd h
  refine M_callVi (pc := 17) dX11_left_17 v_X11_217 rfl rfl (gc_3_0 hp).2 (Nat.le_of_ble_eq_true rfl) (C_X1_allHad (d := d + 0) hp (gc_3_0 hp).2 hr4) (Nat.le_refl _) ?_
  refine M_iconst (pc := 20) (v := -1) dX11_left_20 (by decide) ?_
  refine M_ixor (pc := 21) dX11_left_21 ?_
  refine M_iand (pc := 22) dX11_left_22 ?_
  obtain rfl := Option.some.inj h
  exact M_iret (pc := 23) dX11_left_23 rfl rfl rfl rfl
