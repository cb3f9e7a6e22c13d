def L_X11_dated_18 (I : HI) (x2 : Int32) (x3 : Int32) (x4 : Int32) : Option (Int32) :=
  if (I 4 0) ≤ x4 then some x3 else if ((x2 >>> (x4 &&& 31)) &&& (1 : Int32)) = 0 then L_X11_dated_18 I x2 x3 (x4 + (1 : Int32)) else (F_X1_isHad I 4 x4) >>= fun r5 => if r5 = 0 then some (-1 : Int32) else (ald 12 (I 6) x4) >>= fun v8 => L_X11_dated_18 I x2 (if x3 < v8 then v8 else x3) (x4 + (1 : Int32))
partial_fixpoint
def F_X11_dated (I : HI) (x1 : Int32) : Option (Int32) :=
  (F_X1_all I 4) >>= fun r1 => L_X11_dated_18 I (x1 &&& r1) (-1 : Int32) (0 : Int32)
set_option maxRecDepth 4000 in
set_option maxHeartbeats 4000000 in
theorem LC_X11_dated_18 {g : gX} {d : Nat} {P : Nat → Nat → Option Nat} {J : HJ} {I : HI} {x2 : Int32} (hp : Wp P) : ∀ (x3 : Int32) (x4 : Int32) (r : Int32), L_X11_dated_18 I x2 x3 x4 = some r → M g mX11_dated (d + 2) (NT, NT, 0) ((.inl (some (.int r))), (NT, I, J, P)) 18 [some (.ref 1), none, some (.int x2), some (.int x3), some (.int x4)] [] (NT, I, J, P) := by
  refine L_X11_dated_18.partial_correctness I x2 (fun x3 x4 r => M g mX11_dated (d + 2) (NT, NT, 0) ((.inl (some (.int r))), (NT, I, J, P)) 18 [some (.ref 1), none, some (.int x2), some (.int x3), some (.int x4)] [] (NT, I, J, P)) ?_
  intro f ih x3 x4 r h
  refine M_iload (pc := 18) dX11_dated_18 rfl ?_
  refine M_aload_n (pc := 20) dX11_dated_20 rfl ?_
  refine M_getR (pc := 21) dX11_dated_21 f_X11_23 at_10 (gc_1_3 hp).1 ?_
  refine M_getR (pc := 24) dX11_dated_24 f_X11_148 (gc_1_3 hp).2 (gc_3_0 hp).1 ?_
  refine M_getI (pc := 27) dX11_dated_27 f_X11_211 (gc_3_0 hp).2 ?_
  refine M_icmp_ge (pc := 30) (tgt := 83) dX11_dated_30 (by decide) (fun hc3 => ?_) (fun hc3 => ?_)
  · have h := (if_pos hc3).symm.trans h
    refine M_iload_n (pc := 83) dX11_dated_83 rfl ?_
    obtain rfl := Option.some.inj h
    exact M_iret (pc := 84) dX11_dated_84 rfl rfl rfl rfl
  · have h := (if_neg hc3).symm.trans h
    refine M_iload_n (pc := 33) dX11_dated_33 rfl ?_
    refine M_iload (pc := 34) dX11_dated_34 rfl ?_
    refine M_ishr (pc := 36) dX11_dated_36 ?_
    refine M_iconst (pc := 37) (v := 1) dX11_dated_37 (by decide) ?_
    refine M_iand (pc := 38) dX11_dated_38 ?_
    refine M_if_eq (pc := 39) (tgt := 77) dX11_dated_39 (by decide) (fun hc4 => ?_) (fun hc4 => ?_)
    · have h := (if_pos hc4).symm.trans h
      refine M_iinc (pc := 77) (v := (x4 + (1 : Int32))) (ls' := [some (.ref 1), none, some (.int x2), some (.int x3), some (.int (x4 + (1 : Int32)))]) dX11_dated_77 rfl rfl (by decide) rfl ?_
      refine M_goto (pc := 80) (tgt := 18) dX11_dated_80 (by decide) ?_
      exact ih x3 (x4 + (1 : Int32)) _ h
    · have h := (if_neg hc4).symm.trans h
      refine M_aload_n (pc := 42) dX11_dated_42 rfl ?_
      refine M_getR (pc := 43) dX11_dated_43 f_X11_23 at_10 (gc_1_3 hp).1 ?_
      refine M_getR (pc := 46) dX11_dated_46 f_X11_148 (gc_1_3 hp).2 (gc_3_0 hp).1 ?_
      refine M_iload (pc := 49) dX11_dated_49 rfl ?_
      obtain ⟨r5, hr6, h⟩ := bnd h
      refine M_callVi (pc := 51) dX11_dated_51 v_X11_265 rfl rfl (gc_3_0 hp).2 (Nat.le_of_ble_eq_true rfl) (C_X1_isHad (d := d + 0) hp (gc_3_0 hp).2 hr6) (Nat.le_refl _) ?_
      refine M_if_ne (pc := 54) (tgt := 59) dX11_dated_54 (by decide) (fun hc7 => ?_) (fun hc7 => ?_)
      · have h := (if_neg hc7).symm.trans h
        refine M_iload_n (pc := 59) dX11_dated_59 rfl ?_
        refine M_aload_n (pc := 60) dX11_dated_60 rfl ?_
        refine M_getR (pc := 61) dX11_dated_61 f_X11_23 at_10 (gc_1_3 hp).1 ?_
        refine M_getR (pc := 64) dX11_dated_64 f_X11_148 (gc_1_3 hp).2 (gc_3_0 hp).1 ?_
        refine M_getR (pc := 67) dX11_dated_67 f_X11_171 (gc_3_0 hp).2 (gc_4_2 hp).1 ?_
        refine M_iload (pc := 70) dX11_dated_70 rfl ?_
        obtain ⟨v8, hv9, h⟩ := bnd h
        refine M_aldI (pc := 72) dX11_dated_72 (gc_4_2 hp).2 hv9 ?_
        refine M_mmax (pc := 73) dX11_dated_73 mm_X11_350.1 mm_X11_350.2.1 mm_X11_350.2.2.1 mm_X11_350.2.2.2 (Nat.le_of_ble_eq_true rfl) ?_
        refine M_istore_n (pc := 76) (ls' := [some (.ref 1), none, some (.int x2), some (.int (if x3 < v8 then v8 else x3)), some (.int x4)]) dX11_dated_76 (by decide) rfl ?_
        refine M_iinc (pc := 77) (v := (x4 + (1 : Int32))) (ls' := [some (.ref 1), none, some (.int x2), some (.int (if x3 < v8 then v8 else x3)), some (.int (x4 + (1 : Int32)))]) dX11_dated_77 rfl rfl (by decide) rfl ?_
        refine M_goto (pc := 80) (tgt := 18) dX11_dated_80 (by decide) ?_
        exact ih (if x3 < v8 then v8 else x3) (x4 + (1 : Int32)) _ h
      · have h := (if_pos hc7).symm.trans h
        refine M_iconst (pc := 57) (v := -1) dX11_dated_57 (by decide) ?_
        obtain rfl := Option.some.inj h
        exact M_iret (pc := 58) dX11_dated_58 rfl rfl rfl rfl
set_option maxRecDepth 4000 in
set_option maxHeartbeats 4000000 in
theorem C_X11_dated {g : gX} {d : Nat} {P : Nat → Nat → Option Nat} {I : HI} {x1 : Int32} {J : HJ} (hp : Wp P) {r : Int32} (h : F_X11_dated I x1 = some r) : Cm g mX11_dated (d + 2) [.ref 1, .int x1] (NT, I, J, P) (some (.int r)) (NT, I, J, P) := by
  unfold F_X11_dated at h
  refine Cm.of (by decide) (by simp [Value.category]) (Nat.le_of_ble_eq_true rfl) (Nat.le_refl _) (ls := [some (.ref 1), some (.int x1), none, none, none]) rfl ?_
  refine M_iload_n (pc := 0) dX11_dated_0 rfl ?_
  refine M_aload_n (pc := 1) dX11_dated_1 rfl ?_
  refine M_getR (pc := 2) dX11_dated_2 f_X11_23 at_10 (gc_1_3 hp).1 ?_
  refine M_getR (pc := 5) dX11_dated_5 f_X11_148 (gc_1_3 hp).2 (gc_3_0 hp).1 ?_
  obtain ⟨r1, hr2, h⟩ := bnd h
  refine M_callVi (pc := 8) dX11_dated_8 v_X11_214 rfl rfl (gc_3_0 hp).2 (Nat.le_of_ble_eq_true rfl) (C_X1_all (d := d + 1) hp (gc_3_0 hp).2 hr2) (Nat.le_refl _) ?_
  refine M_iand (pc := 11) dX11_dated_11 ?_
  refine M_istore_n (pc := 12) (ls' := [some (.ref 1), some (.int x1), some (.int (x1 &&& r1)), none, none]) dX11_dated_12 (by decide) rfl ?_
  refine M_iconst (pc := 13) (v := -1) dX11_dated_13 (by decide) ?_
  refine M_istore_n (pc := 14) (ls' := [some (.ref 1), some (.int x1), some (.int (x1 &&& r1)), some (.int (-1 : Int32)), none]) dX11_dated_14 (by decide) rfl ?_
  refine M_iconst (pc := 15) (v := 0) dX11_dated_15 (by decide) ?_
  refine M_istore (pc := 16) (ls' := [some (.ref 1), some (.int x1), some (.int (x1 &&& r1)), some (.int (-1 : Int32)), some (.int (0 : Int32))]) dX11_dated_16 (by decide) rfl ?_
  refine M_mask (pc := 18) [true, false, true, true, true] rfl ?_
  exact LC_X11_dated_18 (P := P) hp (-1 : Int32) (0 : Int32) _ h
