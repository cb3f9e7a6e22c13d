def F_X11_seed (I : HI) (x1 : Int32) : Option (Int32 × HI) :=
  some ((I 3 14), (up2 I 3 14 x1))
set_option maxRecDepth 4000 in
set_option maxHeartbeats 4000000 in
theorem C_X11_seed {g : gX} {d : Nat} {P : Nat → Nat → Option Nat} {I : HI} {x1 : Int32} {J : HJ} (hp : Wp P) {r : Int32 × HI} (h : F_X11_seed I x1 = some r) : Cm g mX11_seed (d + 0) [.ref 1, .int x1] (NT, I, J, P) (some (.int r.1)) (NT, r.2, J, P) := by
  unfold F_X11_seed at h
  refine Cm.of (by decide) (by simp [Value.category]) (Nat.le_of_ble_eq_true rfl) (Nat.le_refl _) (ls := [some (.ref 1), some (.int x1), none]) rfl ?_
  refine M_aload_n (pc := 0) dX11_seed_0 rfl ?_
  refine M_getR (pc := 1) dX11_seed_1 f_X11_23 at_10 (gc_1_3 hp).1 ?_
  refine M_getI (pc := 4) dX11_seed_4 f_X11_389 (gc_1_3 hp).2 ?_
  refine M_istore_n (pc := 7) (ls' := [some (.ref 1), some (.int x1), some (.int (I 3 14))]) dX11_seed_7 (by decide) rfl ?_
  refine M_aload_n (pc := 8) dX11_seed_8 rfl ?_
  refine M_getR (pc := 9) dX11_seed_9 f_X11_23 at_10 (gc_1_3 hp).1 ?_
  refine M_iload_n (pc := 12) dX11_seed_12 rfl ?_
  refine M_putI (pc := 13) dX11_seed_13 f_X11_389 (gc_1_3 hp).2 rfl ⟨rfl, rfl⟩ ?_
  refine M_iload_n (pc := 16) dX11_seed_16 rfl ?_
  obtain rfl := Option.some.inj h
  exact M_iret (pc := 17) dX11_seed_17 rfl rfl rfl rfl
