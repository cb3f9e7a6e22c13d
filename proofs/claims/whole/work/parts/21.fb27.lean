def F_X11_had (I : HI) (x1 : Int32) (x2 : Int32) (x3 : Int32) (x4 : Int32) : Option ((Int32 ⊕ String) × HI) :=
  (F_X1_has I 4 x1) >>= fun r1 => if r1 = 0 then some ((Sum.inr "java/lang/IndexOutOfBoundsException"), I) else (F_X11_isPlace I x3) >>= fun r4 => if r4 = 0 then some ((Sum.inr "java/lang/IndexOutOfBoundsException"), I) else if x2 < 0 then some ((Sum.inr "java/lang/IllegalArgumentException"), I) else if (9999 : Int32) < x2 then some ((Sum.inr "java/lang/IllegalArgumentException"), I) else if x4 < (-1 : Int32) then some ((Sum.inr "java/lang/IllegalArgumentException"), I) else if x4 ≤ (7 : Int32) then (F_X0_remember I 3 15) >>= fun r11 => (ald 12 (r11 6) x1) >>= fun v13 => (F_X1_tell r11 4 x1 x2 x3 x4) >>= fun r15 => some ((Sum.inl v13), r15) else some ((Sum.inr "java/lang/IllegalArgumentException"), I)
set_option maxRecDepth 4000 in
set_option maxHeartbeats 4000000 in
theorem C_X11_had {g : gX} {d : Nat} {P : Nat → Nat → Option Nat} {I : HI} {x1 : Int32} {x2 : Int32} {x3 : Int32} {x4 : Int32} {J : HJ} (hp : Wp P) {r : (Int32 ⊕ String) × HI} (h : F_X11_had I x1 x2 x3 x4 = some r) : Cx g mX11_had (d + 6) [.ref 1, .int x1, .int x2, .int x3, .int x4] (NT, I, J, P) ((thr_i r.1), (NT, r.2, J, P)) := by
  unfold F_X11_had at h
  refine Cx.of (by decide) (by simp [Value.category]) (Nat.le_of_ble_eq_true rfl) (Nat.le_refl _) (ls := [some (.ref 1), some (.int x1), some (.int x2), some (.int x3), some (.int x4), none]) rfl ?_
  refine M_aload_n (pc := 0) dX11_had_0 rfl ?_
  refine M_getR (pc := 1) dX11_had_1 f_X11_23 at_10 (gc_1_3 hp).1 ?_
  refine M_getR (pc := 4) dX11_had_4 f_X11_148 (gc_1_3 hp).2 (gc_3_0 hp).1 ?_
  refine M_iload_n (pc := 7) dX11_had_7 rfl ?_
  obtain ⟨r1, hr2, h⟩ := bnd h
  refine M_callVi (pc := 8) dX11_had_8 v_X11_152 rfl rfl (gc_3_0 hp).2 (Nat.le_of_ble_eq_true rfl) (C_X1_has (d := d + 5) hp (gc_3_0 hp).2 hr2) (Nat.le_refl _) ?_
  refine M_if_eq (pc := 11) (tgt := 21) dX11_had_11 (by decide) (fun hc3 => ?_) (fun hc3 => ?_)
  · have h := (if_pos hc3).symm.trans h
    obtain rfl := Option.some.inj h
    exact M_throwW (pc := 21) dX11_had_21 dX11_had_24 dX11_had_25 dX11_had_28 dX11_had_31 ⟨rfl, rfl, rfl, rfl⟩ x_X11_158 (j := 6) (by decide) str_X11_258 rfl rfl
  · have h := (if_neg hc3).symm.trans h
    refine M_iload_n (pc := 14) dX11_had_14 rfl ?_
    obtain ⟨r4, hr5, h⟩ := bnd h
    refine M_callSi (pc := 15) dX11_had_15 s_X11_255 rfl rfl (Nat.le_of_ble_eq_true rfl) (C_X11_isPlace (d := d + 5) hp hr5) (Nat.le_refl _) ?_
    refine M_if_ne (pc := 18) (tgt := 32) dX11_had_18 (by decide) (fun hc6 => ?_) (fun hc6 => ?_)
    · have h := (if_neg hc6).symm.trans h
      refine M_iload_n (pc := 32) dX11_had_32 rfl ?_
      refine M_if_lt (pc := 33) (tgt := 56) dX11_had_33 (by decide) (fun hc7 => ?_) (fun hc7 => ?_)
      · have h := (if_pos hc7).symm.trans h
        obtain rfl := Option.some.inj h
        exact M_throwW (pc := 56) dX11_had_56 dX11_had_59 dX11_had_60 dX11_had_63 dX11_had_66 ⟨rfl, rfl, rfl, rfl⟩ x_X11_118 (j := 7) (by decide) str_X11_260 rfl rfl
      · have h := (if_neg hc7).symm.trans h
        refine M_iload_n (pc := 36) dX11_had_36 rfl ?_
        refine M_sipush (pc := 37) (v := 9999) dX11_had_37 (by decide) ?_
        refine M_icmp_gt (pc := 40) (tgt := 56) dX11_had_40 (by decide) (fun hc8 => ?_) (fun hc8 => ?_)
        · have h := (if_pos hc8).symm.trans h
          obtain rfl := Option.some.inj h
          exact M_throwW (pc := 56) dX11_had_56 dX11_had_59 dX11_had_60 dX11_had_63 dX11_had_66 ⟨rfl, rfl, rfl, rfl⟩ x_X11_118 (j := 7) (by decide) str_X11_260 rfl rfl
        · have h := (if_neg hc8).symm.trans h
          refine M_iload (pc := 43) dX11_had_43 rfl ?_
          refine M_iconst (pc := 45) (v := -1) dX11_had_45 (by decide) ?_
          refine M_icmp_lt (pc := 46) (tgt := 56) dX11_had_46 (by decide) (fun hc9 => ?_) (fun hc9 => ?_)
          · have h := (if_pos hc9).symm.trans h
            obtain rfl := Option.some.inj h
            exact M_throwW (pc := 56) dX11_had_56 dX11_had_59 dX11_had_60 dX11_had_63 dX11_had_66 ⟨rfl, rfl, rfl, rfl⟩ x_X11_118 (j := 7) (by decide) str_X11_260 rfl rfl
          · have h := (if_neg hc9).symm.trans h
            refine M_iload (pc := 49) dX11_had_49 rfl ?_
            refine M_bipush (pc := 51) (v := 7) dX11_had_51 (by decide) ?_
            refine M_icmp_le (pc := 53) (tgt := 67) dX11_had_53 (by decide) (fun hc10 => ?_) (fun hc10 => ?_)
            · have h := (if_pos hc10).symm.trans h
              refine M_aload_n (pc := 67) dX11_had_67 rfl ?_
              refine M_getR (pc := 68) dX11_had_68 f_X11_44 at_10 (gc_1_6 hp).1 ?_
              refine M_aload_n (pc := 71) dX11_had_71 rfl ?_
              refine M_getR (pc := 72) dX11_had_72 f_X11_23 at_10 (gc_1_3 hp).1 ?_
              refine M_aload_n (pc := 75) dX11_had_75 rfl ?_
              refine M_getR (pc := 76) dX11_had_76 f_X11_37 at_10 (gc_1_5 hp).1 ?_
              obtain ⟨r11, hr12, h⟩ := bnd h
              refine M_callVv (pc := 79) dX11_had_79 v_X11_228 rfl rfl (gc_1_6 hp).2 (Nat.le_of_ble_eq_true rfl) (C_X0_remember (d := d + 2) hp (gc_1_3 hp).2 (gc_1_5 hp).2 hr12) (Nat.le_refl _) ?_
              refine M_aload_n (pc := 82) dX11_had_82 rfl ?_
              refine M_getR (pc := 83) dX11_had_83 f_X11_23 at_10 (gc_1_3 hp).1 ?_
              refine M_getR (pc := 86) dX11_had_86 f_X11_148 (gc_1_3 hp).2 (gc_3_0 hp).1 ?_
              refine M_getR (pc := 89) dX11_had_89 f_X11_171 (gc_3_0 hp).2 (gc_4_2 hp).1 ?_
              refine M_iload_n (pc := 92) dX11_had_92 rfl ?_
              obtain ⟨v13, hv14, h⟩ := bnd h
              refine M_aldI (pc := 93) dX11_had_93 (gc_4_2 hp).2 hv14 ?_
              refine M_istore (pc := 94) (ls' := [some (.ref 1), some (.int x1), some (.int x2), some (.int x3), some (.int x4), some (.int v13)]) dX11_had_94 (by decide) rfl ?_
              refine M_aload_n (pc := 96) dX11_had_96 rfl ?_
              refine M_getR (pc := 97) dX11_had_97 f_X11_23 at_10 (gc_1_3 hp).1 ?_
              refine M_getR (pc := 100) dX11_had_100 f_X11_148 (gc_1_3 hp).2 (gc_3_0 hp).1 ?_
              refine M_iload_n (pc := 103) dX11_had_103 rfl ?_
              refine M_iload_n (pc := 104) dX11_had_104 rfl ?_
              refine M_iload_n (pc := 105) dX11_had_105 rfl ?_
              refine M_iload (pc := 106) dX11_had_106 rfl ?_
              obtain ⟨r15, hr16, h⟩ := bnd h
              refine M_callVv (pc := 108) dX11_had_108 v_X11_262 rfl rfl (gc_3_0 hp).2 (Nat.le_of_ble_eq_true rfl) (C_X1_tell (d := d + 4) hp (gc_3_0 hp).2 hr16) (Nat.le_refl _) ?_
              refine M_iload (pc := 111) dX11_had_111 rfl ?_
              obtain rfl := Option.some.inj h
              exact M_iret (pc := 113) dX11_had_113 rfl rfl rfl rfl
            · have h := (if_neg hc10).symm.trans h
              obtain rfl := Option.some.inj h
              exact M_throwW (pc := 56) dX11_had_56 dX11_had_59 dX11_had_60 dX11_had_63 dX11_had_66 ⟨rfl, rfl, rfl, rfl⟩ x_X11_118 (j := 7) (by decide) str_X11_260 rfl rfl
    · have h := (if_pos hc6).symm.trans h
      obtain rfl := Option.some.inj h
      exact M_throwW (pc := 21) dX11_had_21 dX11_had_24 dX11_had_25 dX11_had_28 dX11_had_31 ⟨rfl, rfl, rfl, rfl⟩ x_X11_158 (j := 6) (by decide) str_X11_258 rfl rfl
