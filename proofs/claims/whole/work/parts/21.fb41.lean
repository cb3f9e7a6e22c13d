def F_X11_jars (I : HI) (x1 : Int32) : Option ((Int32 ⊕ String) × HI) :=
  (F_X11_takeTape I) >>= fun r1 => if (25 : Int32) < r1.1 then some ((Sum.inr "java/lang/IllegalArgumentException"), r1.2) else if (r1.1 - r1.1 / (5 : Int32) * (5 : Int32)) = 0 then (F_X11_toldAtMost r1.2 r1.1 (9 : Int32)) >>= fun r5 => if r5 = 0 then some ((Sum.inr "java/lang/IllegalArgumentException"), r1.2) else (F_X2_search r1.2 (r1.1 / (5 : Int32)) 4) >>= fun r8 => if x1 = (-1 : Int32) then some ((Sum.inl (r8 201 0)), r8) else (F_X2_nth r8 x1) >>= fun r11 => some ((Sum.inl r11), r8) else some ((Sum.inr "java/lang/IllegalArgumentException"), r1.2)
set_option maxRecDepth 4000 in
set_option maxHeartbeats 4000000 in
theorem C_X11_jars {g : gX} {d : Nat} {P : Nat → Nat → Option Nat} {I : HI} {x1 : Int32} {J : HJ} (hp : Wp P) {r : (Int32 ⊕ String) × HI} (h : F_X11_jars I x1 = some r) : Cx g mX11_jars (d + 18) [.ref 1, .int x1] (NT, I, J, P) ((thr_i r.1), (NT, r.2, J, P)) := by
  unfold F_X11_jars at h
  refine Cx.of (by decide) (by simp [Value.category]) (Nat.le_of_ble_eq_true rfl) (Nat.le_refl _) (ls := [some (.ref 1), some (.int x1), none]) rfl ?_
  refine M_aload_n (pc := 0) dX11_jars_0 rfl ?_
  obtain ⟨r1, hr2, h⟩ := bnd h
  refine M_callVi (pc := 1) dX11_jars_1 v_X11_110 rfl rfl at_10 (Nat.le_of_ble_eq_true rfl) (C_X11_takeTape (d := d + 17) hp hr2) (Nat.le_refl _) ?_
  refine M_istore_n (pc := 4) (ls' := [some (.ref 1), some (.int x1), some (.int r1.1)]) dX11_jars_4 (by decide) rfl ?_
  refine M_iload_n (pc := 5) dX11_jars_5 rfl ?_
  refine M_bipush (pc := 6) (v := 25) dX11_jars_6 (by decide) ?_
  refine M_icmp_gt (pc := 8) (tgt := 27) dX11_jars_8 (by decide) (fun hc3 => ?_) (fun hc3 => ?_)
  · have h := (if_pos hc3).symm.trans h
    obtain rfl := Option.some.inj h
    exact M_throwW (pc := 27) dX11_jars_27 dX11_jars_30 dX11_jars_31 dX11_jars_34 dX11_jars_37 ⟨rfl, rfl, rfl, rfl⟩ x_X11_118 (j := 18) (by decide) str_X11_355 rfl rfl
  · have h := (if_neg hc3).symm.trans h
    refine M_iload_n (pc := 11) dX11_jars_11 rfl ?_
    refine M_iconst (pc := 12) (v := 5) dX11_jars_12 (by decide) ?_
    refine M_irem (pc := 13) dX11_jars_13 (by decide) ?_
    refine M_if_ne (pc := 14) (tgt := 27) dX11_jars_14 (by decide) (fun hc4 => ?_) (fun hc4 => ?_)
    · have h := (if_neg hc4).symm.trans h
      obtain rfl := Option.some.inj h
      exact M_throwW (pc := 27) dX11_jars_27 dX11_jars_30 dX11_jars_31 dX11_jars_34 dX11_jars_37 ⟨rfl, rfl, rfl, rfl⟩ x_X11_118 (j := 18) (by decide) str_X11_355 rfl rfl
    · have h := (if_pos hc4).symm.trans h
      refine M_aload_n (pc := 17) dX11_jars_17 rfl ?_
      refine M_iload_n (pc := 18) dX11_jars_18 rfl ?_
      refine M_bipush (pc := 19) (v := 9) dX11_jars_19 (by decide) ?_
      obtain ⟨r5, hr6, h⟩ := bnd h
      refine M_callVi (pc := 21) dX11_jars_21 v_X11_298 rfl rfl at_10 (Nat.le_of_ble_eq_true rfl) (C_X11_toldAtMost (d := d + 17) hp hr6) (Nat.le_refl _) ?_
      refine M_if_ne (pc := 24) (tgt := 38) dX11_jars_24 (by decide) (fun hc7 => ?_) (fun hc7 => ?_)
      · have h := (if_neg hc7).symm.trans h
        refine M_aload_n (pc := 38) dX11_jars_38 rfl ?_
        refine M_getR (pc := 39) dX11_jars_39 f_X11_95 at_10 (gc_1_16 hp).1 ?_
        refine M_aload_n (pc := 42) dX11_jars_42 rfl ?_
        refine M_getR (pc := 43) dX11_jars_43 f_X11_9 at_10 (gc_1_0 hp).1 ?_
        refine M_iload_n (pc := 46) dX11_jars_46 rfl ?_
        refine M_iconst (pc := 47) (v := 5) dX11_jars_47 (by decide) ?_
        refine M_idiv (pc := 48) dX11_jars_48 (by decide) ?_
        refine M_aload_n (pc := 49) dX11_jars_49 rfl ?_
        refine M_getR (pc := 50) dX11_jars_50 f_X11_23 at_10 (gc_1_3 hp).1 ?_
        refine M_getR (pc := 53) dX11_jars_53 f_X11_148 (gc_1_3 hp).2 (gc_3_0 hp).1 ?_
        obtain ⟨r8, hr9, h⟩ := bnd h
        refine M_callVv (pc := 56) dX11_jars_56 v_X11_357 rfl rfl (gc_1_16 hp).2 (Nat.le_of_ble_eq_true rfl) (C_X2_search (d := d + 0) hp (gc_3_0 hp).2 hr9) (Nat.le_refl _) ?_
        refine M_iload_n (pc := 59) dX11_jars_59 rfl ?_
        refine M_iconst (pc := 60) (v := -1) dX11_jars_60 (by decide) ?_
        refine M_icmp_ne (pc := 61) (tgt := 74) dX11_jars_61 (by decide) (fun hc10 => ?_) (fun hc10 => ?_)
        · have h := (if_neg hc10).symm.trans h
          refine M_aload_n (pc := 74) dX11_jars_74 rfl ?_
          refine M_getR (pc := 75) dX11_jars_75 f_X11_95 at_10 (gc_1_16 hp).1 ?_
          refine M_iload_n (pc := 78) dX11_jars_78 rfl ?_
          obtain ⟨r11, hr12, h⟩ := bnd h
          refine M_callVi (pc := 79) dX11_jars_79 v_X11_361 rfl rfl (gc_1_16 hp).2 (Nat.le_of_ble_eq_true rfl) (C_X2_nth (d := d + 17) hp hr12) (Nat.le_refl _) ?_
          obtain rfl := Option.some.inj h
          exact M_iret (pc := 82) dX11_jars_82 rfl rfl rfl rfl
        · have h := (if_pos hc10).symm.trans h
          refine M_aload_n (pc := 64) dX11_jars_64 rfl ?_
          refine M_getR (pc := 65) dX11_jars_65 f_X11_95 at_10 (gc_1_16 hp).1 ?_
          refine M_getI (pc := 68) dX11_jars_68 f_X11_360 (gc_1_16 hp).2 ?_
          refine M_goto (pc := 71) (tgt := 82) dX11_jars_71 (by decide) ?_
          obtain rfl := Option.some.inj h
          exact M_iret (pc := 82) dX11_jars_82 rfl rfl rfl rfl
      · have h := (if_pos hc7).symm.trans h
        obtain rfl := Option.some.inj h
        exact M_throwW (pc := 27) dX11_jars_27 dX11_jars_30 dX11_jars_31 dX11_jars_34 dX11_jars_37 ⟨rfl, rfl, rfl, rfl⟩ x_X11_118 (j := 18) (by decide) str_X11_355 rfl rfl
