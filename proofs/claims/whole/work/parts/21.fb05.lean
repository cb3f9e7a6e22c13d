def F_X11_far (I : HI) (x1 : Int32) (x2 : Int32) : Option ((Int32 ⊕ String)) :=
  (F_X1_has I 4 x1) >>= fun r1 => if r1 = 0 then some (Sum.inr "java/lang/IndexOutOfBoundsException") else (F_X1_has I 4 x2) >>= fun r4 => if r4 = 0 then some (Sum.inr "java/lang/IndexOutOfBoundsException") else (F_X1_distance I 4 x1 x2) >>= fun r7 => some (Sum.inl r7)
set_option maxRecDepth 4000 in
set_option maxHeartbeats 4000000 in
theorem C_X11_far {g : gX} {d : Nat} {P : Nat → Nat → Option Nat} {I : HI} {x1 : Int32} {x2 : Int32} {J : HJ} (hp : Wp P) {r : (Int32 ⊕ String)} (h : F_X11_far I x1 x2 = some r) : Cx g mX11_far (d + 6) [.ref 1, .int x1, .int x2] (NT, I, J, P) ((thr_i r), (NT, I, J, P)) := by
  unfold F_X11_far at h
  refine Cx.of (by decide) (by simp [Value.category]) (Nat.le_of_ble_eq_true rfl) (Nat.le_refl _) (ls := [some (.ref 1), some (.int x1), some (.int x2)]) rfl ?_
  refine M_aload_n (pc := 0) dX11_far_0 rfl ?_
  refine M_getR (pc := 1) dX11_far_1 f_X11_23 at_10 (gc_1_3 hp).1 ?_
  refine M_getR (pc := 4) dX11_far_4 f_X11_148 (gc_1_3 hp).2 (gc_3_0 hp).1 ?_
  refine M_iload_n (pc := 7) dX11_far_7 rfl ?_
  obtain ⟨r1, hr2, h⟩ := bnd h
  refine M_callVi (pc := 8) dX11_far_8 v_X11_152 rfl rfl (gc_3_0 hp).2 (Nat.le_of_ble_eq_true rfl) (C_X1_has (d := d + 5) hp (gc_3_0 hp).2 hr2) (Nat.le_refl _) ?_
  refine M_if_eq (pc := 11) (tgt := 28) dX11_far_11 (by decide) (fun hc3 => ?_) (fun hc3 => ?_)
  · have h := (if_pos hc3).symm.trans h
    obtain rfl := Option.some.inj h
    exact M_throw (pc := 28) dX11_far_28 dX11_far_31 dX11_far_32 dX11_far_34 dX11_far_37 ⟨rfl, rfl, rfl, rfl⟩ x_X11_158 (j := 3) (by decide) str_X11_160 rfl rfl
  · have h := (if_neg hc3).symm.trans h
    refine M_aload_n (pc := 14) dX11_far_14 rfl ?_
    refine M_getR (pc := 15) dX11_far_15 f_X11_23 at_10 (gc_1_3 hp).1 ?_
    refine M_getR (pc := 18) dX11_far_18 f_X11_148 (gc_1_3 hp).2 (gc_3_0 hp).1 ?_
    refine M_iload_n (pc := 21) dX11_far_21 rfl ?_
    obtain ⟨r4, hr5, h⟩ := bnd h
    refine M_callVi (pc := 22) dX11_far_22 v_X11_152 rfl rfl (gc_3_0 hp).2 (Nat.le_of_ble_eq_true rfl) (C_X1_has (d := d + 5) hp (gc_3_0 hp).2 hr5) (Nat.le_refl _) ?_
    refine M_if_ne (pc := 25) (tgt := 38) dX11_far_25 (by decide) (fun hc6 => ?_) (fun hc6 => ?_)
    · have h := (if_neg hc6).symm.trans h
      refine M_aload_n (pc := 38) dX11_far_38 rfl ?_
      refine M_getR (pc := 39) dX11_far_39 f_X11_23 at_10 (gc_1_3 hp).1 ?_
      refine M_getR (pc := 42) dX11_far_42 f_X11_148 (gc_1_3 hp).2 (gc_3_0 hp).1 ?_
      refine M_iload_n (pc := 45) dX11_far_45 rfl ?_
      refine M_iload_n (pc := 46) dX11_far_46 rfl ?_
      obtain ⟨r7, hr8, h⟩ := bnd h
      refine M_callVi (pc := 47) dX11_far_47 v_X11_208 rfl rfl (gc_3_0 hp).2 (Nat.le_of_ble_eq_true rfl) (C_X1_distance (d := d + 5) hp (gc_3_0 hp).2 hr8) (Nat.le_refl _) ?_
      obtain rfl := Option.some.inj h
      exact M_iret (pc := 50) dX11_far_50 rfl rfl rfl rfl
    · have h := (if_pos hc6).symm.trans h
      obtain rfl := Option.some.inj h
      exact M_throw (pc := 28) dX11_far_28 dX11_far_31 dX11_far_32 dX11_far_34 dX11_far_37 ⟨rfl, rfl, rfl, rfl⟩ x_X11_158 (j := 3) (by decide) str_X11_160 rfl rfl
