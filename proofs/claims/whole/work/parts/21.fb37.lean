def F_X11_share (I : HI) (x1 : Int32) : Option ((Int32 ⊕ String)) :=
  (F_X11_isPlace I x1) >>= fun r1 => if r1 = 0 then some (Sum.inr "java/lang/IndexOutOfBoundsException") else (F_X1_allHad I 4) >>= fun r4 => (F_J6_bitCount_0f7a4 I r4) >>= fun r6 => if r6 ≤ 0 then some (Sum.inl (0 : Int32)) else (F_X1_hadAt I 4 x1) >>= fun r9 => (F_J6_bitCount_0f7a4 I r9) >>= fun r11 => if ¬ r6 = 0 then some (Sum.inl ((r11 * (100 : Int32)) / r6)) else none
set_option maxRecDepth 4000 in
set_option maxHeartbeats 4000000 in
theorem C_X11_share {g : gX} {d : Nat} {P : Nat → Nat → Option Nat} {I : HI} {x1 : Int32} {J : HJ} (hp : Wp P) {r : (Int32 ⊕ String)} (h : F_X11_share I x1 = some r) : Cx g mX11_share (d + 6) [.ref 1, .int x1] (NT, I, J, P) ((thr_i r), (NT, I, J, P)) := by
  unfold F_X11_share at h
  refine Cx.of (by decide) (by simp [Value.category]) (Nat.le_of_ble_eq_true rfl) (Nat.le_refl _) (ls := [some (.ref 1), some (.int x1), none]) rfl ?_
  refine M_iload_n (pc := 0) dX11_share_0 rfl ?_
  obtain ⟨r1, hr2, h⟩ := bnd h
  refine M_callSi (pc := 1) dX11_share_1 s_X11_255 rfl rfl (Nat.le_of_ble_eq_true rfl) (C_X11_isPlace (d := d + 5) hp hr2) (Nat.le_refl _) ?_
  refine M_if_ne (pc := 4) (tgt := 18) dX11_share_4 (by decide) (fun hc3 => ?_) (fun hc3 => ?_)
  · have h := (if_neg hc3).symm.trans h
    refine M_aload_n (pc := 18) dX11_share_18 rfl ?_
    refine M_getR (pc := 19) dX11_share_19 f_X11_23 at_10 (gc_1_3 hp).1 ?_
    refine M_getR (pc := 22) dX11_share_22 f_X11_148 (gc_1_3 hp).2 (gc_3_0 hp).1 ?_
    obtain ⟨r4, hr5, h⟩ := bnd h
    refine M_callVi (pc := 25) dX11_share_25 v_X11_217 rfl rfl (gc_3_0 hp).2 (Nat.le_of_ble_eq_true rfl) (C_X1_allHad (d := d + 4) hp (gc_3_0 hp).2 hr5) (Nat.le_refl _) ?_
    obtain ⟨r6, hr7, h⟩ := bnd h
    refine M_callSi (pc := 28) dX11_share_28 s_X11_311 rfl rfl (Nat.le_of_ble_eq_true rfl) (C_J6_bitCount_0f7a4 (d := d + 5) hp hr7) (Nat.le_refl _) ?_
    refine M_istore_n (pc := 31) (ls' := [some (.ref 1), some (.int x1), some (.int r6)]) dX11_share_31 (by decide) rfl ?_
    refine M_iload_n (pc := 32) dX11_share_32 rfl ?_
    refine M_if_le (pc := 33) (tgt := 58) dX11_share_33 (by decide) (fun hc8 => ?_) (fun hc8 => ?_)
    · have h := (if_pos hc8).symm.trans h
      refine M_iconst (pc := 58) (v := 0) dX11_share_58 (by decide) ?_
      obtain rfl := Option.some.inj h
      exact M_iret (pc := 59) dX11_share_59 rfl rfl rfl rfl
    · have h := (if_neg hc8).symm.trans h
      refine M_aload_n (pc := 36) dX11_share_36 rfl ?_
      refine M_getR (pc := 37) dX11_share_37 f_X11_23 at_10 (gc_1_3 hp).1 ?_
      refine M_getR (pc := 40) dX11_share_40 f_X11_148 (gc_1_3 hp).2 (gc_3_0 hp).1 ?_
      refine M_iload_n (pc := 43) dX11_share_43 rfl ?_
      obtain ⟨r9, hr10, h⟩ := bnd h
      refine M_callVi (pc := 44) dX11_share_44 v_X11_362 rfl rfl (gc_3_0 hp).2 (Nat.le_of_ble_eq_true rfl) (C_X1_hadAt (d := d + 5) hp (gc_3_0 hp).2 hr10) (Nat.le_refl _) ?_
      obtain ⟨r11, hr12, h⟩ := bnd h
      refine M_callSi (pc := 47) dX11_share_47 s_X11_311 rfl rfl (Nat.le_of_ble_eq_true rfl) (C_J6_bitCount_0f7a4 (d := d + 5) hp hr12) (Nat.le_refl _) ?_
      refine M_bipush (pc := 50) (v := 100) dX11_share_50 (by decide) ?_
      refine M_imul (pc := 52) dX11_share_52 ?_
      refine M_iload_n (pc := 53) dX11_share_53 rfl ?_
      obtain ⟨hz13, h⟩ := chk h
      refine M_idiv (pc := 54) dX11_share_54 hz13 ?_
      refine M_goto (pc := 55) (tgt := 59) dX11_share_55 (by decide) ?_
      obtain rfl := Option.some.inj h
      exact M_iret (pc := 59) dX11_share_59 rfl rfl rfl rfl
  · have h := (if_pos hc3).symm.trans h
    obtain rfl := Option.some.inj h
    exact M_throwW (pc := 7) dX11_share_7 dX11_share_10 dX11_share_11 dX11_share_14 dX11_share_17 ⟨rfl, rfl, rfl, rfl⟩ x_X11_158 (j := 10) (by decide) str_X11_272 rfl rfl
