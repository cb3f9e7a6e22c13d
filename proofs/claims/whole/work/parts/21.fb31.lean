def F_X11_look (I : HI) : Option (Int32 × HI) :=
  (F_X0_remember I 3 15) >>= fun r1 => (F_X3_draw r1 3) >>= fun r3 => if (r3.2 3 10) ≤ (r3.1 - r3.1 / (100 : Int32) * (100 : Int32)) then some ((((r3.2 3 3) / (10 : Int32)) + (0 : Int32)), r3.2) else some ((((r3.2 3 3) / (10 : Int32)) + (1 : Int32)), r3.2)
set_option maxRecDepth 4000 in
set_option maxHeartbeats 4000000 in
theorem C_X11_look {g : gX} {d : Nat} {P : Nat → Nat → Option Nat} {I : HI} {J : HJ} (hp : Wp P) {r : Int32 × HI} (h : F_X11_look I = some r) : Cm g mX11_look (d + 4) [.ref 1] (NT, I, J, P) (some (.int r.1)) (NT, r.2, J, P) := by
  unfold F_X11_look at h
  refine Cm.of (by decide) (by simp [Value.category]) (Nat.le_of_ble_eq_true rfl) (Nat.le_refl _) (ls := [some (.ref 1), none]) rfl ?_
  refine M_aload_n (pc := 0) dX11_look_0 rfl ?_
  refine M_getR (pc := 1) dX11_look_1 f_X11_44 at_10 (gc_1_6 hp).1 ?_
  refine M_aload_n (pc := 4) dX11_look_4 rfl ?_
  refine M_getR (pc := 5) dX11_look_5 f_X11_23 at_10 (gc_1_3 hp).1 ?_
  refine M_aload_n (pc := 8) dX11_look_8 rfl ?_
  refine M_getR (pc := 9) dX11_look_9 f_X11_37 at_10 (gc_1_5 hp).1 ?_
  obtain ⟨r1, hr2, h⟩ := bnd h
  refine M_callVv (pc := 12) dX11_look_12 v_X11_228 rfl rfl (gc_1_6 hp).2 (Nat.le_of_ble_eq_true rfl) (C_X0_remember (d := d + 0) hp (gc_1_3 hp).2 (gc_1_5 hp).2 hr2) (Nat.le_refl _) ?_
  refine M_aload_n (pc := 15) dX11_look_15 rfl ?_
  refine M_getR (pc := 16) dX11_look_16 f_X11_23 at_10 (gc_1_3 hp).1 ?_
  obtain ⟨r3, hr4, h⟩ := bnd h
  refine M_callVi (pc := 19) dX11_look_19 v_X11_277 rfl rfl (gc_1_3 hp).2 (Nat.le_of_ble_eq_true rfl) (C_X3_draw (d := d + 3) hp (gc_1_3 hp).2 hr4) (Nat.le_refl _) ?_
  refine M_bipush (pc := 22) (v := 100) dX11_look_22 (by decide) ?_
  refine M_irem (pc := 24) dX11_look_24 (by decide) ?_
  refine M_aload_n (pc := 25) dX11_look_25 rfl ?_
  refine M_getR (pc := 26) dX11_look_26 f_X11_23 at_10 (gc_1_3 hp).1 ?_
  refine M_getI (pc := 29) dX11_look_29 f_X11_280 (gc_1_3 hp).2 ?_
  refine M_icmp_ge (pc := 32) (tgt := 39) dX11_look_32 (by decide) (fun hc5 => ?_) (fun hc5 => ?_)
  · have h := (if_pos hc5).symm.trans h
    refine M_iconst (pc := 39) (v := 0) dX11_look_39 (by decide) ?_
    refine M_istore_n (pc := 40) (ls' := [some (.ref 1), some (.int (0 : Int32))]) dX11_look_40 (by decide) rfl ?_
    refine M_aload_n (pc := 41) dX11_look_41 rfl ?_
    refine M_getR (pc := 42) dX11_look_42 f_X11_23 at_10 (gc_1_3 hp).1 ?_
    refine M_getI (pc := 45) dX11_look_45 f_X11_242 (gc_1_3 hp).2 ?_
    refine M_bipush (pc := 48) (v := 10) dX11_look_48 (by decide) ?_
    refine M_idiv (pc := 50) dX11_look_50 (by decide) ?_
    refine M_iload_n (pc := 51) dX11_look_51 rfl ?_
    refine M_iadd (pc := 52) dX11_look_52 ?_
    obtain rfl := Option.some.inj h
    exact M_iret (pc := 53) dX11_look_53 rfl rfl rfl rfl
  · have h := (if_neg hc5).symm.trans h
    refine M_iconst (pc := 35) (v := 1) dX11_look_35 (by decide) ?_
    refine M_goto (pc := 36) (tgt := 40) dX11_look_36 (by decide) ?_
    refine M_istore_n (pc := 40) (ls' := [some (.ref 1), some (.int (1 : Int32))]) dX11_look_40 (by decide) rfl ?_
    refine M_aload_n (pc := 41) dX11_look_41 rfl ?_
    refine M_getR (pc := 42) dX11_look_42 f_X11_23 at_10 (gc_1_3 hp).1 ?_
    refine M_getI (pc := 45) dX11_look_45 f_X11_242 (gc_1_3 hp).2 ?_
    refine M_bipush (pc := 48) (v := 10) dX11_look_48 (by decide) ?_
    refine M_idiv (pc := 50) dX11_look_50 (by decide) ?_
    refine M_iload_n (pc := 51) dX11_look_51 rfl ?_
    refine M_iadd (pc := 52) dX11_look_52 ?_
    obtain rfl := Option.some.inj h
    exact M_iret (pc := 53) dX11_look_53 rfl rfl rfl rfl
