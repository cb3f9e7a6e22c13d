def F_X11_greaterPart (I : HI) (x1 : Int32) (x2 : Int32) : Option (Int32) :=
  (ald 12 (I 6) x1) >>= fun v1 => (F_X1_firstIn I 4 (0 : Int32) v1) >>= fun r3 => (F_J6_bitCount_0f7a4 I (x2 &&& r3)) >>= fun r5 => (F_J6_bitCount_0f7a4 I x2) >>= fun r7 => some (if r5 < (r7 - r5) then (r7 - r5) else r5)
set_option maxRecDepth 4000 in
set_option maxHeartbeats 4000000 in
theorem C_X11_greaterPart {g : gX} {d : Nat} {P : Nat → Nat → Option Nat} {I : HI} {x1 : Int32} {x2 : Int32} {J : HJ} (hp : Wp P) {r : Int32} (h : F_X11_greaterPart I x1 x2 = some r) : Cm g mX11_greaterPart (d + 1) [.ref 1, .int x1, .int x2] (NT, I, J, P) (some (.int r)) (NT, I, J, P) := by
  unfold F_X11_greaterPart at h
  refine Cm.of (by decide) (by simp [Value.category]) (Nat.le_of_ble_eq_true rfl) (Nat.le_refl _) (ls := [some (.ref 1), some (.int x1), some (.int x2), none]) rfl ?_
  refine M_iload_n (pc := 0) dX11_greaterPart_0 rfl ?_
  refine M_aload_n (pc := 1) dX11_greaterPart_1 rfl ?_
  refine M_getR (pc := 2) dX11_greaterPart_2 f_X11_23 at_10 (gc_1_3 hp).1 ?_
  refine M_getR (pc := 5) dX11_greaterPart_5 f_X11_148 (gc_1_3 hp).2 (gc_3_0 hp).1 ?_
  refine M_iconst (pc := 8) (v := 0) dX11_greaterPart_8 (by decide) ?_
  refine M_aload_n (pc := 9) dX11_greaterPart_9 rfl ?_
  refine M_getR (pc := 10) dX11_greaterPart_10 f_X11_23 at_10 (gc_1_3 hp).1 ?_
  refine M_getR (pc := 13) dX11_greaterPart_13 f_X11_148 (gc_1_3 hp).2 (gc_3_0 hp).1 ?_
  refine M_getR (pc := 16) dX11_greaterPart_16 f_X11_171 (gc_3_0 hp).2 (gc_4_2 hp).1 ?_
  refine M_iload_n (pc := 19) dX11_greaterPart_19 rfl ?_
  obtain ⟨v1, hv2, h⟩ := bnd h
  refine M_aldI (pc := 20) dX11_greaterPart_20 (gc_4_2 hp).2 hv2 ?_
  obtain ⟨r3, hr4, h⟩ := bnd h
  refine M_callVi (pc := 21) dX11_greaterPart_21 v_X11_347 rfl rfl (gc_3_0 hp).2 (Nat.le_of_ble_eq_true rfl) (C_X1_firstIn (d := d + 0) hp (gc_3_0 hp).2 hr4) (Nat.le_refl _) ?_
  refine M_iand (pc := 24) dX11_greaterPart_24 ?_
  obtain ⟨r5, hr6, h⟩ := bnd h
  refine M_callSi (pc := 25) dX11_greaterPart_25 s_X11_311 rfl rfl (Nat.le_of_ble_eq_true rfl) (C_J6_bitCount_0f7a4 (d := d + 0) hp hr6) (Nat.le_refl _) ?_
  refine M_istore_n (pc := 28) (ls' := [some (.ref 1), some (.int x1), some (.int x2), some (.int r5)]) dX11_greaterPart_28 (by decide) rfl ?_
  refine M_iload_n (pc := 29) dX11_greaterPart_29 rfl ?_
  refine M_iload_n (pc := 30) dX11_greaterPart_30 rfl ?_
  obtain ⟨r7, hr8, h⟩ := bnd h
  refine M_callSi (pc := 31) dX11_greaterPart_31 s_X11_311 rfl rfl (Nat.le_of_ble_eq_true rfl) (C_J6_bitCount_0f7a4 (d := d + 0) hp hr8) (Nat.le_refl _) ?_
  refine M_iload_n (pc := 34) dX11_greaterPart_34 rfl ?_
  refine M_isub (pc := 35) dX11_greaterPart_35 ?_
  refine M_mmax (pc := 36) dX11_greaterPart_36 mm_X11_350.1 mm_X11_350.2.1 mm_X11_350.2.2.1 mm_X11_350.2.2.2 (Nat.le_of_ble_eq_true rfl) ?_
  obtain rfl := Option.some.inj h
  exact M_iret (pc := 39) dX11_greaterPart_39 rfl rfl rfl rfl
