def F_X11_led (I : HI) (x1 : Int32) (x2 : Int32) : Option ((Int32 ⊕ String)) :=
  (F_X1_has I 4 x1) >>= fun r1 => if r1 = 0 then some (Sum.inr "java/lang/IndexOutOfBoundsException") else if x2 = 0 then (F_X7_rowsOf I 15 x1) >>= fun r5 => some (Sum.inl r5) else (F_X7_latestEvening I 15 x1) >>= fun r7 => some (Sum.inl r7)
set_option maxRecDepth 4000 in
set_option maxHeartbeats 4000000 in
theorem C_X11_led {g : gX} {d : Nat} {P : Nat → Nat → Option Nat} {I : HI} {x1 : Int32} {x2 : Int32} {J : HJ} (hp : Wp P) {r : (Int32 ⊕ String)} (h : F_X11_led I x1 x2 = some r) : Cx g mX11_led (d + 6) [.ref 1, .int x1, .int x2] (NT, I, J, P) ((thr_i r), (NT, I, J, P)) := by
  unfold F_X11_led at h
  refine Cx.of (by decide) (by simp [Value.category]) (Nat.le_of_ble_eq_true rfl) (Nat.le_refl _) (ls := [some (.ref 1), some (.int x1), some (.int x2)]) rfl ?_
  refine M_aload_n (pc := 0) dX11_led_0 rfl ?_
  refine M_getR (pc := 1) dX11_led_1 f_X11_23 at_10 (gc_1_3 hp).1 ?_
  refine M_getR (pc := 4) dX11_led_4 f_X11_148 (gc_1_3 hp).2 (gc_3_0 hp).1 ?_
  refine M_iload_n (pc := 7) dX11_led_7 rfl ?_
  obtain ⟨r1, hr2, h⟩ := bnd h
  refine M_callVi (pc := 8) dX11_led_8 v_X11_152 rfl rfl (gc_3_0 hp).2 (Nat.le_of_ble_eq_true rfl) (C_X1_has (d := d + 5) hp (gc_3_0 hp).2 hr2) (Nat.le_refl _) ?_
  refine M_if_ne (pc := 11) (tgt := 24) dX11_led_11 (by decide) (fun hc3 => ?_) (fun hc3 => ?_)
  · have h := (if_neg hc3).symm.trans h
    refine M_iload_n (pc := 24) dX11_led_24 rfl ?_
    refine M_if_eq (pc := 25) (tgt := 39) dX11_led_25 (by decide) (fun hc4 => ?_) (fun hc4 => ?_)
    · have h := (if_pos hc4).symm.trans h
      refine M_aload_n (pc := 39) dX11_led_39 rfl ?_
      refine M_getR (pc := 40) dX11_led_40 f_X11_37 at_10 (gc_1_5 hp).1 ?_
      refine M_iload_n (pc := 43) dX11_led_43 rfl ?_
      obtain ⟨r5, hr6, h⟩ := bnd h
      refine M_callVi (pc := 44) dX11_led_44 v_X11_405 rfl rfl (gc_1_5 hp).2 (Nat.le_of_ble_eq_true rfl) (C_X7_rowsOf (d := d + 4) hp (gc_1_5 hp).2 hr6) (Nat.le_refl _) ?_
      obtain rfl := Option.some.inj h
      exact M_iret (pc := 47) dX11_led_47 rfl rfl rfl rfl
    · have h := (if_neg hc4).symm.trans h
      refine M_aload_n (pc := 28) dX11_led_28 rfl ?_
      refine M_getR (pc := 29) dX11_led_29 f_X11_37 at_10 (gc_1_5 hp).1 ?_
      refine M_iload_n (pc := 32) dX11_led_32 rfl ?_
      obtain ⟨r7, hr8, h⟩ := bnd h
      refine M_callVi (pc := 33) dX11_led_33 v_X11_402 rfl rfl (gc_1_5 hp).2 (Nat.le_of_ble_eq_true rfl) (C_X7_latestEvening (d := d + 4) hp (gc_1_5 hp).2 hr8) (Nat.le_refl _) ?_
      refine M_goto (pc := 36) (tgt := 47) dX11_led_36 (by decide) ?_
      obtain rfl := Option.some.inj h
      exact M_iret (pc := 47) dX11_led_47 rfl rfl rfl rfl
  · have h := (if_pos hc3).symm.trans h
    obtain rfl := Option.some.inj h
    exact M_throw (pc := 14) dX11_led_14 dX11_led_17 dX11_led_18 dX11_led_20 dX11_led_23 ⟨rfl, rfl, rfl, rfl⟩ x_X11_158 (j := 3) (by decide) str_X11_160 rfl rfl
