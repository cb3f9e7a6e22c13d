def F_X11_takeTape (I : HI) : Option (Int32 × HI) :=
  some ((I 1 1), (up2 I 1 1 (0 : Int32)))
set_option maxRecDepth 4000 in
set_option maxHeartbeats 4000000 in
theorem C_X11_takeTape {g : gX} {d : Nat} {P : Nat → Nat → Option Nat} {I : HI} {J : HJ} (hp : Wp P) {r : Int32 × HI} (h : F_X11_takeTape I = some r) : Cm g mX11_takeTape (d + 0) [.ref 1] (NT, I, J, P) (some (.int r.1)) (NT, r.2, J, P) := by
  unfold F_X11_takeTape at h
  refine Cm.of (by decide) (by simp [Value.category]) (Nat.le_of_ble_eq_true rfl) (Nat.le_refl _) (ls := [some (.ref 1), none]) rfl ?_
  refine M_aload_n (pc := 0) dX11_takeTape_0 rfl ?_
  refine M_getI (pc := 1) dX11_takeTape_1 f_X11_13 at_10 ?_
  refine M_istore_n (pc := 4) (ls' := [some (.ref 1), some (.int (I 1 1))]) dX11_takeTape_4 (by decide) rfl ?_
  refine M_aload_n (pc := 5) dX11_takeTape_5 rfl ?_
  refine M_iconst (pc := 6) (v := 0) dX11_takeTape_6 (by decide) ?_
  refine M_putI (pc := 7) dX11_takeTape_7 f_X11_13 at_10 rfl ⟨rfl, rfl⟩ ?_
  refine M_iload_n (pc := 10) dX11_takeTape_10 rfl ?_
  obtain rfl := Option.some.inj h
  exact M_iret (pc := 11) dX11_takeTape_11 rfl rfl rfl rfl
