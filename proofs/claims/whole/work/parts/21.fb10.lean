def F_X11_kitchen (I : HI) (x1 : Int32) : Option ((Int32 ⊕ String)) :=
  (F_X11_isPlace I x1) >>= fun r1 => if r1 = 0 then some (Sum.inr "java/lang/IndexOutOfBoundsException") else (F_X1_hadAt I 4 x1) >>= fun r4 => some (Sum.inl r4)
set_option maxRecDepth 4000 in
set_option maxHeartbeats 4000000 in
theorem C_X11_kitchen {g : gX} {d : Nat} {P : Nat → Nat → Option Nat} {I : HI} {x1 : Int32} {J : HJ} (hp : Wp P) {r : (Int32 ⊕ String)} (h : F_X11_kitchen I x1 = some r) : Cx g mX11_kitchen (d + 6) [.ref 1, .int x1] (NT, I, J, P) ((thr_i r), (NT, I, J, P)) := by
  unfold F_X11_kitchen at h
  refine Cx.of (by decide) (by simp [Value.category]) (Nat.le_of_ble_eq_true rfl) (Nat.le_refl _) (ls := [some (.ref 1), some (.int x1)]) rfl ?_
  refine M_iload_n (pc := 0) dX11_kitchen_0 rfl ?_
  obtain ⟨r1, hr2, h⟩ := bnd h
  refine M_callSi (pc := 1) dX11_kitchen_1 s_X11_255 rfl rfl (Nat.le_of_ble_eq_true rfl) (C_X11_isPlace (d := d + 5) hp hr2) (Nat.le_refl _) ?_
  refine M_if_ne (pc := 4) (tgt := 18) dX11_kitchen_4 (by decide) (fun hc3 => ?_) (fun hc3 => ?_)
  · have h := (if_neg hc3).symm.trans h
    refine M_aload_n (pc := 18) dX11_kitchen_18 rfl ?_
    refine M_getR (pc := 19) dX11_kitchen_19 f_X11_23 at_10 (gc_1_3 hp).1 ?_
    refine M_getR (pc := 22) dX11_kitchen_22 f_X11_148 (gc_1_3 hp).2 (gc_3_0 hp).1 ?_
    refine M_iload_n (pc := 25) dX11_kitchen_25 rfl ?_
    obtain ⟨r4, hr5, h⟩ := bnd h
    refine M_callVi (pc := 26) dX11_kitchen_26 v_X11_362 rfl rfl (gc_3_0 hp).2 (Nat.le_of_ble_eq_true rfl) (C_X1_hadAt (d := d + 5) hp (gc_3_0 hp).2 hr5) (Nat.le_refl _) ?_
    obtain rfl := Option.some.inj h
    exact M_iret (pc := 29) dX11_kitchen_29 rfl rfl rfl rfl
  · have h := (if_pos hc3).symm.trans h
    obtain rfl := Option.some.inj h
    exact M_throwW (pc := 7) dX11_kitchen_7 dX11_kitchen_10 dX11_kitchen_11 dX11_kitchen_14 dX11_kitchen_17 ⟨rfl, rfl, rfl, rfl⟩ x_X11_158 (j := 10) (by decide) str_X11_272 rfl rfl
