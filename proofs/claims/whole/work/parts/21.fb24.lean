def F_X11_feed (I : HI) (x1 : Int32) (x2 : Int32) (x3 : Int32) (x4 : Int32) (x5 : Int32) : Option (Int32 × HI) :=
  if (I 1 1) ≤ (380 : Int32) then (F_X11_putBytes I x1) >>= fun r2 => (F_X11_putBytes r2 x2) >>= fun r4 => (F_X11_putBytes r4 x3) >>= fun r6 => (F_X11_putBytes r6 x4) >>= fun r8 => (F_X11_putBytes r8 x5) >>= fun r10 => some ((r10 1 1), r10) else some ((-1 : Int32), I)
set_option maxRecDepth 4000 in
set_option maxHeartbeats 4000000 in
theorem C_X11_feed {g : gX} {d : Nat} {P : Nat → Nat → Option Nat} {I : HI} {x1 : Int32} {x2 : Int32} {x3 : Int32} {x4 : Int32} {x5 : Int32} {J : HJ} (hp : Wp P) {r : Int32 × HI} (h : F_X11_feed I x1 x2 x3 x4 x5 = some r) : Cm g mX11_feed (d + 1) [.ref 1, .int x1, .int x2, .int x3, .int x4, .int x5] (NT, I, J, P) (some (.int r.1)) (NT, r.2, J, P) := by
  unfold F_X11_feed at h
  refine Cm.of (by decide) (by simp [Value.category]) (Nat.le_of_ble_eq_true rfl) (Nat.le_refl _) (ls := [some (.ref 1), some (.int x1), some (.int x2), some (.int x3), some (.int x4), some (.int x5)]) rfl ?_
  refine M_aload_n (pc := 0) dX11_feed_0 rfl ?_
  refine M_getI (pc := 1) dX11_feed_1 f_X11_13 at_10 ?_
  refine M_sipush (pc := 4) (v := 380) dX11_feed_4 (by decide) ?_
  refine M_icmp_le (pc := 7) (tgt := 12) dX11_feed_7 (by decide) (fun hc1 => ?_) (fun hc1 => ?_)
  · have h := (if_pos hc1).symm.trans h
    refine M_aload_n (pc := 12) dX11_feed_12 rfl ?_
    refine M_iload_n (pc := 13) dX11_feed_13 rfl ?_
    obtain ⟨r2, hr3, h⟩ := bnd h
    refine M_callVv (pc := 14) dX11_feed_14 v_X11_99 rfl rfl at_10 (Nat.le_of_ble_eq_true rfl) (C_X11_putBytes (d := d + 0) hp hr3) (Nat.le_refl _) ?_
    refine M_aload_n (pc := 17) dX11_feed_17 rfl ?_
    refine M_iload_n (pc := 18) dX11_feed_18 rfl ?_
    obtain ⟨r4, hr5, h⟩ := bnd h
    refine M_callVv (pc := 19) dX11_feed_19 v_X11_99 rfl rfl at_10 (Nat.le_of_ble_eq_true rfl) (C_X11_putBytes (d := d + 0) hp hr5) (Nat.le_refl _) ?_
    refine M_aload_n (pc := 22) dX11_feed_22 rfl ?_
    refine M_iload_n (pc := 23) dX11_feed_23 rfl ?_
    obtain ⟨r6, hr7, h⟩ := bnd h
    refine M_callVv (pc := 24) dX11_feed_24 v_X11_99 rfl rfl at_10 (Nat.le_of_ble_eq_true rfl) (C_X11_putBytes (d := d + 0) hp hr7) (Nat.le_refl _) ?_
    refine M_aload_n (pc := 27) dX11_feed_27 rfl ?_
    refine M_iload (pc := 28) dX11_feed_28 rfl ?_
    obtain ⟨r8, hr9, h⟩ := bnd h
    refine M_callVv (pc := 30) dX11_feed_30 v_X11_99 rfl rfl at_10 (Nat.le_of_ble_eq_true rfl) (C_X11_putBytes (d := d + 0) hp hr9) (Nat.le_refl _) ?_
    refine M_aload_n (pc := 33) dX11_feed_33 rfl ?_
    refine M_iload (pc := 34) dX11_feed_34 rfl ?_
    obtain ⟨r10, hr11, h⟩ := bnd h
    refine M_callVv (pc := 36) dX11_feed_36 v_X11_99 rfl rfl at_10 (Nat.le_of_ble_eq_true rfl) (C_X11_putBytes (d := d + 0) hp hr11) (Nat.le_refl _) ?_
    refine M_aload_n (pc := 39) dX11_feed_39 rfl ?_
    refine M_getI (pc := 40) dX11_feed_40 f_X11_13 at_10 ?_
    obtain rfl := Option.some.inj h
    exact M_iret (pc := 43) dX11_feed_43 rfl rfl rfl rfl
  · have h := (if_neg hc1).symm.trans h
    refine M_iconst (pc := 10) (v := -1) dX11_feed_10 (by decide) ?_
    obtain rfl := Option.some.inj h
    exact M_iret (pc := 11) dX11_feed_11 rfl rfl rfl rfl
