def F_X11_reach (I : HI) (x1 : Int32) : Option ((Int32 ⊕ String) × HI) :=
  if x1 < 0 then some ((Sum.inr "java/lang/IllegalArgumentException"), I) else if x1 ≤ (45 : Int32) then (F_X0_remember I 3 15) >>= fun r3 => some ((Sum.inl (r3 3 7)), (up2 r3 3 7 x1)) else some ((Sum.inr "java/lang/IllegalArgumentException"), I)
set_option maxRecDepth 4000 in
set_option maxHeartbeats 4000000 in
theorem C_X11_reach {g : gX} {d : Nat} {P : Nat → Nat → Option Nat} {I : HI} {x1 : Int32} {J : HJ} (hp : Wp P) {r : (Int32 ⊕ String) × HI} (h : F_X11_reach I x1 = some r) : Cx g mX11_reach (d + 6) [.ref 1, .int x1] (NT, I, J, P) ((thr_i r.1), (NT, r.2, J, P)) := by
  unfold F_X11_reach at h
  refine Cx.of (by decide) (by simp [Value.category]) (Nat.le_of_ble_eq_true rfl) (Nat.le_refl _) (ls := [some (.ref 1), some (.int x1), none]) rfl ?_
  refine M_iload_n (pc := 0) dX11_reach_0 rfl ?_
  refine M_if_lt (pc := 1) (tgt := 10) dX11_reach_1 (by decide) (fun hc1 => ?_) (fun hc1 => ?_)
  · have h := (if_pos hc1).symm.trans h
    obtain rfl := Option.some.inj h
    exact M_throwW (pc := 10) dX11_reach_10 dX11_reach_13 dX11_reach_14 dX11_reach_17 dX11_reach_20 ⟨rfl, rfl, rfl, rfl⟩ x_X11_118 (j := 9) (by decide) str_X11_270 rfl rfl
  · have h := (if_neg hc1).symm.trans h
    refine M_iload_n (pc := 4) dX11_reach_4 rfl ?_
    refine M_bipush (pc := 5) (v := 45) dX11_reach_5 (by decide) ?_
    refine M_icmp_le (pc := 7) (tgt := 21) dX11_reach_7 (by decide) (fun hc2 => ?_) (fun hc2 => ?_)
    · have h := (if_pos hc2).symm.trans h
      refine M_aload_n (pc := 21) dX11_reach_21 rfl ?_
      refine M_getR (pc := 22) dX11_reach_22 f_X11_44 at_10 (gc_1_6 hp).1 ?_
      refine M_aload_n (pc := 25) dX11_reach_25 rfl ?_
      refine M_getR (pc := 26) dX11_reach_26 f_X11_23 at_10 (gc_1_3 hp).1 ?_
      refine M_aload_n (pc := 29) dX11_reach_29 rfl ?_
      refine M_getR (pc := 30) dX11_reach_30 f_X11_37 at_10 (gc_1_5 hp).1 ?_
      obtain ⟨r3, hr4, h⟩ := bnd h
      refine M_callVv (pc := 33) dX11_reach_33 v_X11_228 rfl rfl (gc_1_6 hp).2 (Nat.le_of_ble_eq_true rfl) (C_X0_remember (d := d + 2) hp (gc_1_3 hp).2 (gc_1_5 hp).2 hr4) (Nat.le_refl _) ?_
      refine M_aload_n (pc := 36) dX11_reach_36 rfl ?_
      refine M_getR (pc := 37) dX11_reach_37 f_X11_23 at_10 (gc_1_3 hp).1 ?_
      refine M_getI (pc := 40) dX11_reach_40 f_X11_180 (gc_1_3 hp).2 ?_
      refine M_istore_n (pc := 43) (ls' := [some (.ref 1), some (.int x1), some (.int (r3 3 7))]) dX11_reach_43 (by decide) rfl ?_
      refine M_aload_n (pc := 44) dX11_reach_44 rfl ?_
      refine M_getR (pc := 45) dX11_reach_45 f_X11_23 at_10 (gc_1_3 hp).1 ?_
      refine M_iload_n (pc := 48) dX11_reach_48 rfl ?_
      refine M_putI (pc := 49) dX11_reach_49 f_X11_180 (gc_1_3 hp).2 rfl ⟨rfl, rfl⟩ ?_
      refine M_iload_n (pc := 52) dX11_reach_52 rfl ?_
      obtain rfl := Option.some.inj h
      exact M_iret (pc := 53) dX11_reach_53 rfl rfl rfl rfl
    · have h := (if_neg hc2).symm.trans h
      obtain rfl := Option.some.inj h
      exact M_throwW (pc := 10) dX11_reach_10 dX11_reach_13 dX11_reach_14 dX11_reach_17 dX11_reach_20 ⟨rfl, rfl, rfl, rfl⟩ x_X11_118 (j := 9) (by decide) str_X11_270 rfl rfl
