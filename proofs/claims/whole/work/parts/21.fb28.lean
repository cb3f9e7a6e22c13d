def F_X11_forget (I : HI) (x1 : Int32) : Option ((Int32 ⊕ String) × HI) :=
  (F_X1_has I 4 x1) >>= fun r1 => if r1 = 0 then some ((Sum.inr "java/lang/IndexOutOfBoundsException"), I) else (F_X1_isHad I 4 x1) >>= fun r4 => if r4 = 0 then some ((Sum.inr "java/lang/IllegalStateException"), I) else (F_X0_remember I 3 15) >>= fun r7 => (ald 12 (r7 6) x1) >>= fun v9 => (F_X1_tell r7 4 x1 (-1 : Int32) (-1 : Int32) (-1 : Int32)) >>= fun r11 => some ((Sum.inl v9), r11)
set_option maxRecDepth 4000 in
set_option maxHeartbeats 4000000 in
theorem C_X11_forget {g : gX} {d : Nat} {P : Nat → Nat → Option Nat} {I : HI} {x1 : Int32} {J : HJ} (hp : Wp P) {r : (Int32 ⊕ String) × HI} (h : F_X11_forget I x1 = some r) : Cx g mX11_forget (d + 6) [.ref 1, .int x1] (NT, I, J, P) ((thr_i r.1), (NT, r.2, J, P)) := by
  unfold F_X11_forget at h
  refine Cx.of (by decide) (by simp [Value.category]) (Nat.le_of_ble_eq_true rfl) (Nat.le_refl _) (ls := [some (.ref 1), some (.int x1), none]) rfl ?_
  refine M_aload_n (pc := 0) dX11_forget_0 rfl ?_
  refine M_getR (pc := 1) dX11_forget_1 f_X11_23 at_10 (gc_1_3 hp).1 ?_
  refine M_getR (pc := 4) dX11_forget_4 f_X11_148 (gc_1_3 hp).2 (gc_3_0 hp).1 ?_
  refine M_iload_n (pc := 7) dX11_forget_7 rfl ?_
  obtain ⟨r1, hr2, h⟩ := bnd h
  refine M_callVi (pc := 8) dX11_forget_8 v_X11_152 rfl rfl (gc_3_0 hp).2 (Nat.le_of_ble_eq_true rfl) (C_X1_has (d := d + 5) hp (gc_3_0 hp).2 hr2) (Nat.le_refl _) ?_
  refine M_if_ne (pc := 11) (tgt := 24) dX11_forget_11 (by decide) (fun hc3 => ?_) (fun hc3 => ?_)
  · have h := (if_neg hc3).symm.trans h
    refine M_aload_n (pc := 24) dX11_forget_24 rfl ?_
    refine M_getR (pc := 25) dX11_forget_25 f_X11_23 at_10 (gc_1_3 hp).1 ?_
    refine M_getR (pc := 28) dX11_forget_28 f_X11_148 (gc_1_3 hp).2 (gc_3_0 hp).1 ?_
    refine M_iload_n (pc := 31) dX11_forget_31 rfl ?_
    obtain ⟨r4, hr5, h⟩ := bnd h
    refine M_callVi (pc := 32) dX11_forget_32 v_X11_265 rfl rfl (gc_3_0 hp).2 (Nat.le_of_ble_eq_true rfl) (C_X1_isHad (d := d + 4) hp (gc_3_0 hp).2 hr5) (Nat.le_refl _) ?_
    refine M_if_ne (pc := 35) (tgt := 49) dX11_forget_35 (by decide) (fun hc6 => ?_) (fun hc6 => ?_)
    · have h := (if_neg hc6).symm.trans h
      refine M_aload_n (pc := 49) dX11_forget_49 rfl ?_
      refine M_getR (pc := 50) dX11_forget_50 f_X11_44 at_10 (gc_1_6 hp).1 ?_
      refine M_aload_n (pc := 53) dX11_forget_53 rfl ?_
      refine M_getR (pc := 54) dX11_forget_54 f_X11_23 at_10 (gc_1_3 hp).1 ?_
      refine M_aload_n (pc := 57) dX11_forget_57 rfl ?_
      refine M_getR (pc := 58) dX11_forget_58 f_X11_37 at_10 (gc_1_5 hp).1 ?_
      obtain ⟨r7, hr8, h⟩ := bnd h
      refine M_callVv (pc := 61) dX11_forget_61 v_X11_228 rfl rfl (gc_1_6 hp).2 (Nat.le_of_ble_eq_true rfl) (C_X0_remember (d := d + 2) hp (gc_1_3 hp).2 (gc_1_5 hp).2 hr8) (Nat.le_refl _) ?_
      refine M_aload_n (pc := 64) dX11_forget_64 rfl ?_
      refine M_getR (pc := 65) dX11_forget_65 f_X11_23 at_10 (gc_1_3 hp).1 ?_
      refine M_getR (pc := 68) dX11_forget_68 f_X11_148 (gc_1_3 hp).2 (gc_3_0 hp).1 ?_
      refine M_getR (pc := 71) dX11_forget_71 f_X11_171 (gc_3_0 hp).2 (gc_4_2 hp).1 ?_
      refine M_iload_n (pc := 74) dX11_forget_74 rfl ?_
      obtain ⟨v9, hv10, h⟩ := bnd h
      refine M_aldI (pc := 75) dX11_forget_75 (gc_4_2 hp).2 hv10 ?_
      refine M_istore_n (pc := 76) (ls' := [some (.ref 1), some (.int x1), some (.int v9)]) dX11_forget_76 (by decide) rfl ?_
      refine M_aload_n (pc := 77) dX11_forget_77 rfl ?_
      refine M_getR (pc := 78) dX11_forget_78 f_X11_23 at_10 (gc_1_3 hp).1 ?_
      refine M_getR (pc := 81) dX11_forget_81 f_X11_148 (gc_1_3 hp).2 (gc_3_0 hp).1 ?_
      refine M_iload_n (pc := 84) dX11_forget_84 rfl ?_
      refine M_iconst (pc := 85) (v := -1) dX11_forget_85 (by decide) ?_
      refine M_iconst (pc := 86) (v := -1) dX11_forget_86 (by decide) ?_
      refine M_iconst (pc := 87) (v := -1) dX11_forget_87 (by decide) ?_
      obtain ⟨r11, hr12, h⟩ := bnd h
      refine M_callVv (pc := 88) dX11_forget_88 v_X11_262 rfl rfl (gc_3_0 hp).2 (Nat.le_of_ble_eq_true rfl) (C_X1_tell (d := d + 4) hp (gc_3_0 hp).2 hr12) (Nat.le_refl _) ?_
      refine M_iload_n (pc := 91) dX11_forget_91 rfl ?_
      obtain rfl := Option.some.inj h
      exact M_iret (pc := 92) dX11_forget_92 rfl rfl rfl rfl
    · have h := (if_pos hc6).symm.trans h
      obtain rfl := Option.some.inj h
      exact M_throwW (pc := 38) dX11_forget_38 dX11_forget_41 dX11_forget_42 dX11_forget_45 dX11_forget_48 ⟨rfl, rfl, rfl, rfl⟩ x_X11_223 (j := 8) (by decide) str_X11_268 rfl rfl
  · have h := (if_pos hc3).symm.trans h
    obtain rfl := Option.some.inj h
    exact M_throw (pc := 14) dX11_forget_14 dX11_forget_17 dX11_forget_18 dX11_forget_20 dX11_forget_23 ⟨rfl, rfl, rfl, rfl⟩ x_X11_158 (j := 3) (by decide) str_X11_160 rfl rfl
