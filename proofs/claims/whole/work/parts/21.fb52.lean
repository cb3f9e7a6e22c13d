def F_X11_order (I : HI) (x1 : Int32) (x2 : Int32) : Option ((Int32 ⊕ String) × HI) :=
  (F_X1_all I 4) >>= fun r1 => (F_J6_bitCount_0f7a4 I (x1 &&& r1)) >>= fun r3 => if r3 ≤ (6 : Int32) then (F_X8_search I 3 (x1 &&& r1) 9) >>= fun r6 => if x2 = (-1 : Int32) then some ((Sum.inl (r6 155 0)), r6) else (F_X8_nth r6 x2) >>= fun r9 => some ((Sum.inl r9), r6) else some ((Sum.inr "java/lang/IllegalArgumentException"), I)
set_option maxRecDepth 4000 in
set_option maxHeartbeats 4000000 in
theorem C_X11_order {g : gX} {d : Nat} {P : Nat → Nat → Option Nat} {I : HI} {x1 : Int32} {x2 : Int32} {J : HJ} (hp : Wp P) {r : (Int32 ⊕ String) × HI} (h : F_X11_order I x1 x2 = some r) : Cx g mX11_order (d + 18) [.ref 1, .int x1, .int x2] (NT, I, J, P) ((thr_i r.1), (NT, r.2, J, P)) := by
  unfold F_X11_order at h
  refine Cx.of (by decide) (by simp [Value.category]) (Nat.le_of_ble_eq_true rfl) (Nat.le_refl _) (ls := [some (.ref 1), some (.int x1), some (.int x2), none]) rfl ?_
  refine M_iload_n (pc := 0) dX11_order_0 rfl ?_
  refine M_aload_n (pc := 1) dX11_order_1 rfl ?_
  refine M_getR (pc := 2) dX11_order_2 f_X11_23 at_10 (gc_1_3 hp).1 ?_
  refine M_getR (pc := 5) dX11_order_5 f_X11_148 (gc_1_3 hp).2 (gc_3_0 hp).1 ?_
  obtain ⟨r1, hr2, h⟩ := bnd h
  refine M_callVi (pc := 8) dX11_order_8 v_X11_214 rfl rfl (gc_3_0 hp).2 (Nat.le_of_ble_eq_true rfl) (C_X1_all (d := d + 17) hp (gc_3_0 hp).2 hr2) (Nat.le_refl _) ?_
  refine M_iand (pc := 11) dX11_order_11 ?_
  refine M_istore_n (pc := 12) (ls' := [some (.ref 1), some (.int x1), some (.int x2), some (.int (x1 &&& r1))]) dX11_order_12 (by decide) rfl ?_
  refine M_iload_n (pc := 13) dX11_order_13 rfl ?_
  obtain ⟨r3, hr4, h⟩ := bnd h
  refine M_callSi (pc := 14) dX11_order_14 s_X11_311 rfl rfl (Nat.le_of_ble_eq_true rfl) (C_J6_bitCount_0f7a4 (d := d + 17) hp hr4) (Nat.le_refl _) ?_
  refine M_bipush (pc := 17) (v := 6) dX11_order_17 (by decide) ?_
  refine M_icmp_le (pc := 19) (tgt := 33) dX11_order_19 (by decide) (fun hc5 => ?_) (fun hc5 => ?_)
  · have h := (if_pos hc5).symm.trans h
    refine M_aload_n (pc := 33) dX11_order_33 rfl ?_
    refine M_getR (pc := 34) dX11_order_34 f_X11_88 at_10 (gc_1_15 hp).1 ?_
    refine M_aload_n (pc := 37) dX11_order_37 rfl ?_
    refine M_getR (pc := 38) dX11_order_38 f_X11_23 at_10 (gc_1_3 hp).1 ?_
    refine M_iload_n (pc := 41) dX11_order_41 rfl ?_
    refine M_aload_n (pc := 42) dX11_order_42 rfl ?_
    refine M_getR (pc := 43) dX11_order_43 f_X11_30 at_10 (gc_1_4 hp).1 ?_
    refine M_aload_n (pc := 46) dX11_order_46 rfl ?_
    refine M_getR (pc := 47) dX11_order_47 f_X11_67 at_10 (gc_1_12 hp).1 ?_
    obtain ⟨r6, hr7, h⟩ := bnd h
    refine M_callVv (pc := 50) dX11_order_50 v_X11_318 rfl rfl (gc_1_15 hp).2 (Nat.le_of_ble_eq_true rfl) (C_X8_search (d := d + 0) hp (gc_1_3 hp).2 (gc_1_4 hp).2 hr7) (Nat.le_refl _) ?_
    refine M_iload_n (pc := 53) dX11_order_53 rfl ?_
    refine M_iconst (pc := 54) (v := -1) dX11_order_54 (by decide) ?_
    refine M_icmp_ne (pc := 55) (tgt := 68) dX11_order_55 (by decide) (fun hc8 => ?_) (fun hc8 => ?_)
    · have h := (if_neg hc8).symm.trans h
      refine M_aload_n (pc := 68) dX11_order_68 rfl ?_
      refine M_getR (pc := 69) dX11_order_69 f_X11_88 at_10 (gc_1_15 hp).1 ?_
      refine M_iload_n (pc := 72) dX11_order_72 rfl ?_
      obtain ⟨r9, hr10, h⟩ := bnd h
      refine M_callVi (pc := 73) dX11_order_73 v_X11_325 rfl rfl (gc_1_15 hp).2 (Nat.le_of_ble_eq_true rfl) (C_X8_nth (d := d + 17) hp hr10) (Nat.le_refl _) ?_
      obtain rfl := Option.some.inj h
      exact M_iret (pc := 76) dX11_order_76 rfl rfl rfl rfl
    · have h := (if_pos hc8).symm.trans h
      refine M_aload_n (pc := 58) dX11_order_58 rfl ?_
      refine M_getR (pc := 59) dX11_order_59 f_X11_88 at_10 (gc_1_15 hp).1 ?_
      refine M_getI (pc := 62) dX11_order_62 f_X11_322 (gc_1_15 hp).2 ?_
      refine M_goto (pc := 65) (tgt := 76) dX11_order_65 (by decide) ?_
      obtain rfl := Option.some.inj h
      exact M_iret (pc := 76) dX11_order_76 rfl rfl rfl rfl
  · have h := (if_neg hc5).symm.trans h
    obtain rfl := Option.some.inj h
    exact M_throwW (pc := 22) dX11_order_22 dX11_order_25 dX11_order_26 dX11_order_29 dX11_order_32 ⟨rfl, rfl, rfl, rfl⟩ x_X11_118 (j := 15) (by decide) str_X11_316 rfl rfl
