def F_X11_house (I : HI) (x1 : Int32) : Option ((Int32 ⊕ String) × HI) :=
  (F_X11_isPlace I x1) >>= fun r1 => if r1 = 0 then some ((Sum.inr "java/lang/IndexOutOfBoundsException"), I) else (F_X0_remember I 3 15) >>= fun r4 => some ((Sum.inl (r4 3 11)), (up2 r4 3 11 x1))
set_option maxRecDepth 4000 in
set_option maxHeartbeats 4000000 in
theorem C_X11_house {g : gX} {d : Nat} {P : Nat → Nat → Option Nat} {I : HI} {x1 : Int32} {J : HJ} (hp : Wp P) {r : (Int32 ⊕ String) × HI} (h : F_X11_house I x1 = some r) : Cx g mX11_house (d + 6) [.ref 1, .int x1] (NT, I, J, P) ((thr_i r.1), (NT, r.2, J, P)) := by
  unfold F_X11_house at h
  refine Cx.of (by decide) (by simp [Value.category]) (Nat.le_of_ble_eq_true rfl) (Nat.le_refl _) (ls := [some (.ref 1), some (.int x1), none]) rfl ?_
  refine M_iload_n (pc := 0) dX11_house_0 rfl ?_
  obtain ⟨r1, hr2, h⟩ := bnd h
  refine M_callSi (pc := 1) dX11_house_1 s_X11_255 rfl rfl (Nat.le_of_ble_eq_true rfl) (C_X11_isPlace (d := d + 5) hp hr2) (Nat.le_refl _) ?_
  refine M_if_ne (pc := 4) (tgt := 18) dX11_house_4 (by decide) (fun hc3 => ?_) (fun hc3 => ?_)
  · have h := (if_neg hc3).symm.trans h
    refine M_aload_n (pc := 18) dX11_house_18 rfl ?_
    refine M_getR (pc := 19) dX11_house_19 f_X11_44 at_10 (gc_1_6 hp).1 ?_
    refine M_aload_n (pc := 22) dX11_house_22 rfl ?_
    refine M_getR (pc := 23) dX11_house_23 f_X11_23 at_10 (gc_1_3 hp).1 ?_
    refine M_aload_n (pc := 26) dX11_house_26 rfl ?_
    refine M_getR (pc := 27) dX11_house_27 f_X11_37 at_10 (gc_1_5 hp).1 ?_
    obtain ⟨r4, hr5, h⟩ := bnd h
    refine M_callVv (pc := 30) dX11_house_30 v_X11_228 rfl rfl (gc_1_6 hp).2 (Nat.le_of_ble_eq_true rfl) (C_X0_remember (d := d + 2) hp (gc_1_3 hp).2 (gc_1_5 hp).2 hr5) (Nat.le_refl _) ?_
    refine M_aload_n (pc := 33) dX11_house_33 rfl ?_
    refine M_getR (pc := 34) dX11_house_34 f_X11_23 at_10 (gc_1_3 hp).1 ?_
    refine M_getI (pc := 37) dX11_house_37 f_X11_274 (gc_1_3 hp).2 ?_
    refine M_istore_n (pc := 40) (ls' := [some (.ref 1), some (.int x1), some (.int (r4 3 11))]) dX11_house_40 (by decide) rfl ?_
    refine M_aload_n (pc := 41) dX11_house_41 rfl ?_
    refine M_getR (pc := 42) dX11_house_42 f_X11_23 at_10 (gc_1_3 hp).1 ?_
    refine M_iload_n (pc := 45) dX11_house_45 rfl ?_
    refine M_putI (pc := 46) dX11_house_46 f_X11_274 (gc_1_3 hp).2 rfl ⟨rfl, rfl⟩ ?_
    refine M_iload_n (pc := 49) dX11_house_49 rfl ?_
    obtain rfl := Option.some.inj h
    exact M_iret (pc := 50) dX11_house_50 rfl rfl rfl rfl
  · have h := (if_pos hc3).symm.trans h
    obtain rfl := Option.some.inj h
    exact M_throwW (pc := 7) dX11_house_7 dX11_house_10 dX11_house_11 dX11_house_14 dX11_house_17 ⟨rfl, rfl, rfl, rfl⟩ x_X11_158 (j := 10) (by decide) str_X11_272 rfl rfl
