def L_X11_fitting_13 (I : HI) (x1 : Int32) (x2 : Int32) (x3 : Int32) : Option (Int32) :=
  if x1 ≤ x3 then some x2 else if (400 : Int32) ≤ x3 then some x2 else (ald 400 (I 2) x3) >>= fun v5 => (F_X1_inDecade I 4 v5) >>= fun r7 => (ald 400 (I 2) x3) >>= fun v9 => (F_X1_inDecade I 4 (v9 - (1 : Int32))) >>= fun r11 => L_X11_fitting_13 I x1 (x2 &&& (r7 ||| r11)) (x3 + (1 : Int32))
partial_fixpoint
def F_X11_fitting (I : HI) (x1 : Int32) : Option (Int32) :=
  (F_X1_allHad I 4) >>= fun r1 => L_X11_fitting_13 I x1 r1 (0 : Int32)
set_option maxRecDepth 4000 in
set_option maxHeartbeats 4000000 in
theorem LC_X11_fitting_13 {g : gX} {d : Nat} {P : Nat → Nat → Option Nat} {J : HJ} {I : HI} {x1 : Int32} (hp : Wp P) : ∀ (x2 : Int32) (x3 : Int32) (r : Int32), L_X11_fitting_13 I x1 x2 x3 = some r → M g mX11_fitting (d + 2) (NT, NT, 0) ((.inl (some (.int r))), (NT, I, J, P)) 13 [some (.ref 1), some (.int x1), some (.int x2), some (.int x3)] [] (NT, I, J, P) := by
  refine L_X11_fitting_13.partial_correctness I x1 (fun x2 x3 r => M g mX11_fitting (d + 2) (NT, NT, 0) ((.inl (some (.int r))), (NT, I, J, P)) 13 [some (.ref 1), some (.int x1), some (.int x2), some (.int x3)] [] (NT, I, J, P)) ?_
  intro f ih x2 x3 r h
  refine M_iload_n (pc := 13) dX11_fitting_13 rfl ?_
  refine M_iload_n (pc := 14) dX11_fitting_14 rfl ?_
  refine M_icmp_ge (pc := 15) (tgt := 69) dX11_fitting_15 (by decide) (fun hc3 => ?_) (fun hc3 => ?_)
  · have h := (if_pos hc3).symm.trans h
    refine M_iload_n (pc := 69) dX11_fitting_69 rfl ?_
    obtain rfl := Option.some.inj h
    exact M_iret (pc := 70) dX11_fitting_70 rfl rfl rfl rfl
  · have h := (if_neg hc3).symm.trans h
    refine M_iload_n (pc := 18) dX11_fitting_18 rfl ?_
    refine M_sipush (pc := 19) (v := 400) dX11_fitting_19 (by decide) ?_
    refine M_icmp_ge (pc := 22) (tgt := 69) dX11_fitting_22 (by decide) (fun hc4 => ?_) (fun hc4 => ?_)
    · have h := (if_pos hc4).symm.trans h
      refine M_iload_n (pc := 69) dX11_fitting_69 rfl ?_
      obtain rfl := Option.some.inj h
      exact M_iret (pc := 70) dX11_fitting_70 rfl rfl rfl rfl
    · have h := (if_neg hc4).symm.trans h
      refine M_iload_n (pc := 25) dX11_fitting_25 rfl ?_
      refine M_aload_n (pc := 26) dX11_fitting_26 rfl ?_
      refine M_getR (pc := 27) dX11_fitting_27 f_X11_23 at_10 (gc_1_3 hp).1 ?_
      refine M_getR (pc := 30) dX11_fitting_30 f_X11_148 (gc_1_3 hp).2 (gc_3_0 hp).1 ?_
      refine M_aload_n (pc := 33) dX11_fitting_33 rfl ?_
      refine M_getR (pc := 34) dX11_fitting_34 f_X11_9 at_10 (gc_1_0 hp).1 ?_
      refine M_iload_n (pc := 37) dX11_fitting_37 rfl ?_
      obtain ⟨v5, hv6, h⟩ := bnd h
      refine M_aldI (pc := 38) dX11_fitting_38 (gc_1_0 hp).2 hv6 ?_
      obtain ⟨r7, hr8, h⟩ := bnd h
      refine M_callVi (pc := 39) dX11_fitting_39 v_X11_341 rfl rfl (gc_3_0 hp).2 (Nat.le_of_ble_eq_true rfl) (C_X1_inDecade (d := d + 0) hp (gc_3_0 hp).2 hr8) (Nat.le_refl _) ?_
      refine M_aload_n (pc := 42) dX11_fitting_42 rfl ?_
      refine M_getR (pc := 43) dX11_fitting_43 f_X11_23 at_10 (gc_1_3 hp).1 ?_
      refine M_getR (pc := 46) dX11_fitting_46 f_X11_148 (gc_1_3 hp).2 (gc_3_0 hp).1 ?_
      refine M_aload_n (pc := 49) dX11_fitting_49 rfl ?_
      refine M_getR (pc := 50) dX11_fitting_50 f_X11_9 at_10 (gc_1_0 hp).1 ?_
      refine M_iload_n (pc := 53) dX11_fitting_53 rfl ?_
      obtain ⟨v9, hv10, h⟩ := bnd h
      refine M_aldI (pc := 54) dX11_fitting_54 (gc_1_0 hp).2 hv10 ?_
      refine M_iconst (pc := 55) (v := 1) dX11_fitting_55 (by decide) ?_
      refine M_isub (pc := 56) dX11_fitting_56 ?_
      obtain ⟨r11, hr12, h⟩ := bnd h
      refine M_callVi (pc := 57) dX11_fitting_57 v_X11_341 rfl rfl (gc_3_0 hp).2 (Nat.le_of_ble_eq_true rfl) (C_X1_inDecade (d := d + 0) hp (gc_3_0 hp).2 hr12) (Nat.le_refl _) ?_
      refine M_ior (pc := 60) dX11_fitting_60 ?_
      refine M_iand (pc := 61) dX11_fitting_61 ?_
      refine M_istore_n (pc := 62) (ls' := [some (.ref 1), some (.int x1), some (.int (x2 &&& (r7 ||| r11))), some (.int x3)]) dX11_fitting_62 (by decide) rfl ?_
      refine M_iinc (pc := 63) (v := (x3 + (1 : Int32))) (ls' := [some (.ref 1), some (.int x1), some (.int (x2 &&& (r7 ||| r11))), some (.int (x3 + (1 : Int32)))]) dX11_fitting_63 rfl rfl (by decide) rfl ?_
      refine M_goto (pc := 66) (tgt := 13) dX11_fitting_66 (by decide) ?_
      exact ih (x2 &&& (r7 ||| r11)) (x3 + (1 : Int32)) _ h
set_option maxRecDepth 4000 in
set_option maxHeartbeats 4000000 in
theorem C_X11_fitting {g : gX} {d : Nat} {P : Nat → Nat → Option Nat} {I : HI} {x1 : Int32} {J : HJ} (hp : Wp P) {r : Int32} (h : F_X11_fitting I x1 = some r) : Cm g mX11_fitting (d + 2) [.ref 1, .int x1] (NT, I, J, P) (some (.int r)) (NT, I, J, P) := by
  unfold F_X11_fitting at h
  refine Cm.of (by decide) (by simp [Value.category]) (Nat.le_of_ble_eq_true rfl) (Nat.le_refl _) (ls := [some (.ref 1), some (.int x1), none, none]) rfl ?_
  refine M_aload_n (pc := 0) dX11_fitting_0 rfl ?_
  refine M_getR (pc := 1) dX11_fitting_1 f_X11_23 at_10 (gc_1_3 hp).1 ?_
  refine M_getR (pc := 4) dX11_fitting_4 f_X11_148 (gc_1_3 hp).2 (gc_3_0 hp).1 ?_
  obtain ⟨r1, hr2, h⟩ := bnd h
  refine M_callVi (pc := 7) dX11_fitting_7 v_X11_217 rfl rfl (gc_3_0 hp).2 (Nat.le_of_ble_eq_true rfl) (C_X1_allHad (d := d + 0) hp (gc_3_0 hp).2 hr2) (Nat.le_refl _) ?_
  refine M_istore_n (pc := 10) (ls' := [some (.ref 1), some (.int x1), some (.int r1), none]) dX11_fitting_10 (by decide) rfl ?_
  refine M_iconst (pc := 11) (v := 0) dX11_fitting_11 (by decide) ?_
  refine M_istore_n (pc := 12) (ls' := [some (.ref 1), some (.int x1), some (.int r1), some (.int (0 : Int32))]) dX11_fitting_12 (by decide) rfl ?_
  exact LC_X11_fitting_13 (P := P) hp r1 (0 : Int32) _ h
