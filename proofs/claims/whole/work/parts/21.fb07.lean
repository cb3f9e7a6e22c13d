def F_X11_isPlace (I : HI) (x0 : Int32) : Option (Int32) :=
  if x0 < 0 then some (0 : Int32) else if (7 : Int32) < x0 then some (0 : Int32) else some (1 : Int32)
set_option maxRecDepth 4000 in
set_option maxHeartbeats 4000000 in
theorem C_X11_isPlace {g : gX} {d : Nat} {P : Nat → Nat → Option Nat} {I : HI} {x0 : Int32} {J : HJ} (hp : Wp P) {r : Int32} (h : F_X11_isPlace I x0 = some r) : Cm g mX11_isPlace (d + 0) [.int x0] (NT, I, J, P) (some (.int r)) (NT, I, J, P) := by
  unfold F_X11_isPlace at h
  refine Cm.of (by decide) (by simp [Value.category]) (Nat.le_of_ble_eq_true rfl) (Nat.le_refl _) (ls := [some (.int x0)]) rfl ?_
  refine M_iload_n (pc := 0) dX11_isPlace_0 rfl ?_
  refine M_if_lt (pc := 1) (tgt := 14) dX11_isPlace_1 (by decide) (fun hc1 => ?_) (fun hc1 => ?_)
  · have h := (if_pos hc1).symm.trans h
    refine M_iconst (pc := 14) (v := 0) dX11_isPlace_14 (by decide) ?_
    obtain rfl := Option.some.inj h
    exact M_iret (pc := 15) dX11_isPlace_15 rfl rfl rfl rfl
  · have h := (if_neg hc1).symm.trans h
    refine M_iload_n (pc := 4) dX11_isPlace_4 rfl ?_
    refine M_bipush (pc := 5) (v := 7) dX11_isPlace_5 (by decide) ?_
    refine M_icmp_gt (pc := 7) (tgt := 14) dX11_isPlace_7 (by decide) (fun hc2 => ?_) (fun hc2 => ?_)
    · have h := (if_pos hc2).symm.trans h
      refine M_iconst (pc := 14) (v := 0) dX11_isPlace_14 (by decide) ?_
      obtain rfl := Option.some.inj h
      exact M_iret (pc := 15) dX11_isPlace_15 rfl rfl rfl rfl
    · have h := (if_neg hc2).symm.trans h
      refine M_iconst (pc := 10) (v := 1) dX11_isPlace_10 (by decide) ?_
      refine M_goto (pc := 11) (tgt := 15) dX11_isPlace_11 (by decide) ?_
      obtain rfl := Option.some.inj h
      exact M_iret (pc := 15) dX11_isPlace_15 rfl rfl rfl rfl
