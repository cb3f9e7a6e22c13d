def F_X11_spoon (I : HI) (x1 : Int32) : Option ((Int32 ⊕ String) × HI) :=
  (F_X1_has I 4 x1) >>= fun r1 => if r1 = 0 then some ((Sum.inr "java/lang/IndexOutOfBoundsException"), I) else if (I 3 4) < (99 : Int32) then (F_X0_remember I 3 15) >>= fun r5 => (F_X3_bite r5 3 x1 9) >>= fun r7 => (F_X7_write r7 15 (r7 3 6) x1 (r7 136 0) (r7 3 3)) >>= fun r9 => some ((Sum.inl (r9 3 3)), r9) else some ((Sum.inr "java/lang/IllegalStateException"), I)
set_option maxRecDepth 4000 in
set_option maxHeartbeats 4000000 in
theorem C_X11_spoon {g : gX} {d : Nat} {P : Nat → Nat → Option Nat} {I : HI} {x1 : Int32} {J : HJ} (hp : Wp P) {r : (Int32 ⊕ String) × HI} (h : F_X11_spoon I x1 = some r) : Cx g mX11_spoon (d + 6) [.ref 1, .int x1] (NT, I, J, P) ((thr_i r.1), (NT, r.2, J, P)) := by
  unfold F_X11_spoon at h
  refine Cx.of (by decide) (by simp [Value.category]) (Nat.le_of_ble_eq_true rfl) (Nat.le_refl _) (ls := [some (.ref 1), some (.int x1)]) rfl ?_
  refine M_aload_n (pc := 0) dX11_spoon_0 rfl ?_
  refine M_getR (pc := 1) dX11_spoon_1 f_X11_23 at_10 (gc_1_3 hp).1 ?_
  refine M_getR (pc := 4) dX11_spoon_4 f_X11_148 (gc_1_3 hp).2 (gc_3_0 hp).1 ?_
  refine M_iload_n (pc := 7) dX11_spoon_7 rfl ?_
  obtain ⟨r1, hr2, h⟩ := bnd h
  refine M_callVi (pc := 8) dX11_spoon_8 v_X11_152 rfl rfl (gc_3_0 hp).2 (Nat.le_of_ble_eq_true rfl) (C_X1_has (d := d + 5) hp (gc_3_0 hp).2 hr2) (Nat.le_refl _) ?_
  refine M_if_ne (pc := 11) (tgt := 24) dX11_spoon_11 (by decide) (fun hc3 => ?_) (fun hc3 => ?_)
  · have h := (if_neg hc3).symm.trans h
    refine M_aload_n (pc := 24) dX11_spoon_24 rfl ?_
    refine M_getR (pc := 25) dX11_spoon_25 f_X11_23 at_10 (gc_1_3 hp).1 ?_
    refine M_getI (pc := 28) dX11_spoon_28 f_X11_220 (gc_1_3 hp).2 ?_
    refine M_bipush (pc := 31) (v := 99) dX11_spoon_31 (by decide) ?_
    refine M_icmp_lt (pc := 33) (tgt := 46) dX11_spoon_33 (by decide) (fun hc4 => ?_) (fun hc4 => ?_)
    · have h := (if_pos hc4).symm.trans h
      refine M_aload_n (pc := 46) dX11_spoon_46 rfl ?_
      refine M_getR (pc := 47) dX11_spoon_47 f_X11_44 at_10 (gc_1_6 hp).1 ?_
      refine M_aload_n (pc := 50) dX11_spoon_50 rfl ?_
      refine M_getR (pc := 51) dX11_spoon_51 f_X11_23 at_10 (gc_1_3 hp).1 ?_
      refine M_aload_n (pc := 54) dX11_spoon_54 rfl ?_
      refine M_getR (pc := 55) dX11_spoon_55 f_X11_37 at_10 (gc_1_5 hp).1 ?_
      obtain ⟨r5, hr6, h⟩ := bnd h
      refine M_callVv (pc := 58) dX11_spoon_58 v_X11_228 rfl rfl (gc_1_6 hp).2 (Nat.le_of_ble_eq_true rfl) (C_X0_remember (d := d + 2) hp (gc_1_3 hp).2 (gc_1_5 hp).2 hr6) (Nat.le_refl _) ?_
      refine M_aload_n (pc := 61) dX11_spoon_61 rfl ?_
      refine M_getR (pc := 62) dX11_spoon_62 f_X11_23 at_10 (gc_1_3 hp).1 ?_
      refine M_iload_n (pc := 65) dX11_spoon_65 rfl ?_
      refine M_aload_n (pc := 66) dX11_spoon_66 rfl ?_
      refine M_getR (pc := 67) dX11_spoon_67 f_X11_30 at_10 (gc_1_4 hp).1 ?_
      refine M_aload_n (pc := 70) dX11_spoon_70 rfl ?_
      refine M_getR (pc := 71) dX11_spoon_71 f_X11_67 at_10 (gc_1_12 hp).1 ?_
      obtain ⟨r7, hr8, h⟩ := bnd h
      refine M_callVv (pc := 74) dX11_spoon_74 v_X11_232 rfl rfl (gc_1_3 hp).2 (Nat.le_of_ble_eq_true rfl) (C_X3_bite (d := d + 1) hp (gc_1_3 hp).2 (gc_1_4 hp).2 hr8) (Nat.le_refl _) ?_
      refine M_aload_n (pc := 77) dX11_spoon_77 rfl ?_
      refine M_getR (pc := 78) dX11_spoon_78 f_X11_37 at_10 (gc_1_5 hp).1 ?_
      refine M_aload_n (pc := 81) dX11_spoon_81 rfl ?_
      refine M_getR (pc := 82) dX11_spoon_82 f_X11_23 at_10 (gc_1_3 hp).1 ?_
      refine M_getI (pc := 85) dX11_spoon_85 f_X11_236 (gc_1_3 hp).2 ?_
      refine M_iload_n (pc := 88) dX11_spoon_88 rfl ?_
      refine M_aload_n (pc := 89) dX11_spoon_89 rfl ?_
      refine M_getR (pc := 90) dX11_spoon_90 f_X11_67 at_10 (gc_1_12 hp).1 ?_
      refine M_getI (pc := 93) dX11_spoon_93 f_X11_239 (gc_1_12 hp).2 ?_
      refine M_aload_n (pc := 96) dX11_spoon_96 rfl ?_
      refine M_getR (pc := 97) dX11_spoon_97 f_X11_23 at_10 (gc_1_3 hp).1 ?_
      refine M_getI (pc := 100) dX11_spoon_100 f_X11_242 (gc_1_3 hp).2 ?_
      obtain ⟨r9, hr10, h⟩ := bnd h
      refine M_callVv (pc := 103) dX11_spoon_103 v_X11_245 rfl rfl (gc_1_5 hp).2 (Nat.le_of_ble_eq_true rfl) (C_X7_write (d := d + 4) hp (gc_1_5 hp).2 hr10) (Nat.le_refl _) ?_
      refine M_aload_n (pc := 106) dX11_spoon_106 rfl ?_
      refine M_getR (pc := 107) dX11_spoon_107 f_X11_23 at_10 (gc_1_3 hp).1 ?_
      refine M_getI (pc := 110) dX11_spoon_110 f_X11_242 (gc_1_3 hp).2 ?_
      obtain rfl := Option.some.inj h
      exact M_iret (pc := 113) dX11_spoon_113 rfl rfl rfl rfl
    · have h := (if_neg hc4).symm.trans h
      obtain rfl := Option.some.inj h
      exact M_throw (pc := 36) dX11_spoon_36 dX11_spoon_39 dX11_spoon_40 dX11_spoon_42 dX11_spoon_45 ⟨rfl, rfl, rfl, rfl⟩ x_X11_223 (j := 5) (by decide) str_X11_225 rfl rfl
  · have h := (if_pos hc3).symm.trans h
    obtain rfl := Option.some.inj h
    exact M_throw (pc := 14) dX11_spoon_14 dX11_spoon_17 dX11_spoon_18 dX11_spoon_20 dX11_spoon_23 ⟨rfl, rfl, rfl, rfl⟩ x_X11_158 (j := 3) (by decide) str_X11_160 rfl rfl
