def F_X11_fault (I : HI) : Option (Int32) :=
  some (I 1 2)
set_option maxRecDepth 4000 in
set_option maxHeartbeats 4000000 in
theorem C_X11_fault {g : gX} {d : Nat} {P : Nat → Nat → Option Nat} {I : HI} {J : HJ} (hp : Wp P) {r : Int32} (h : F_X11_fault I = some r) : Cm g mX11_fault (d + 0) [.ref 1] (NT, I, J, P) (some (.int r)) (NT, I, J, P) := by
  unfold F_X11_fault at h
  refine Cm.of (by decide) (by simp [Value.category]) (Nat.le_of_ble_eq_true rfl) (Nat.le_refl _) (ls := [some (.ref 1)]) rfl ?_
  refine M_aload_n (pc := 0) dX11_fault_0 rfl ?_
  refine M_getI (pc := 1) dX11_fault_1 f_X11_17 at_10 ?_
  obtain rfl := Option.some.inj h
  exact M_iret (pc := 4) dX11_fault_4 rfl rfl rfl rfl
