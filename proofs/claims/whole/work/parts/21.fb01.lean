def F_X11_end (I : HI) (x1 : Int32) : Option (Int32 × HI) :=
  if x1 < 0 then some ((0 : Int32), I) else if x1 ≤ (I 1 1) then some ((1 : Int32), (up2 I 1 1 x1)) else some ((0 : Int32), I)
set_option maxRecDepth 4000 in
set_option maxHeartbeats 4000000 in
theorem C_X11_end {g : gX} {d : Nat} {P : Nat → Nat → Option Nat} {I : HI} {x1 : Int32} {J : HJ} (hp : Wp P) {r : Int32 × HI} (h : F_X11_end I x1 = some r) : Cm g mX11_end (d + 0) [.ref 1, .int x1] (NT, I, J, P) (some (.int r.1)) (NT, r.2, J, P) := by
  unfold F_X11_end at h
  refine Cm.of (by decide) (by simp [Value.category]) (Nat.le_of_ble_eq_true rfl) (Nat.le_refl _) (ls := [some (.ref 1), some (.int x1)]) rfl ?_
  refine M_iload_n (pc := 0) dX11_end_0 rfl ?_
  refine M_if_lt (pc := 1) (tgt := 12) dX11_end_1 (by decide) (fun hc1 => ?_) (fun hc1 => ?_)
  · have h := (if_pos hc1).symm.trans h
    refine M_iconst (pc := 12) (v := 0) dX11_end_12 (by decide) ?_
    obtain rfl := Option.some.inj h
    exact M_iret (pc := 13) dX11_end_13 rfl rfl rfl rfl
  · have h := (if_neg hc1).symm.trans h
    refine M_iload_n (pc := 4) dX11_end_4 rfl ?_
    refine M_aload_n (pc := 5) dX11_end_5 rfl ?_
    refine M_getI (pc := 6) dX11_end_6 f_X11_13 at_10 ?_
    refine M_icmp_le (pc := 9) (tgt := 14) dX11_end_9 (by decide) (fun hc2 => ?_) (fun hc2 => ?_)
    · have h := (if_pos hc2).symm.trans h
      refine M_aload_n (pc := 14) dX11_end_14 rfl ?_
      refine M_iload_n (pc := 15) dX11_end_15 rfl ?_
      refine M_putI (pc := 16) dX11_end_16 f_X11_13 at_10 rfl ⟨rfl, rfl⟩ ?_
      refine M_iconst (pc := 19) (v := 1) dX11_end_19 (by decide) ?_
      obtain rfl := Option.some.inj h
      exact M_iret (pc := 20) dX11_end_20 rfl rfl rfl rfl
    · have h := (if_neg hc2).symm.trans h
      refine M_iconst (pc := 12) (v := 0) dX11_end_12 (by decide) ?_
      obtain rfl := Option.some.inj h
      exact M_iret (pc := 13) dX11_end_13 rfl rfl rfl rfl
