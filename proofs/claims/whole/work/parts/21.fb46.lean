def L_X11_passEvening_11 (b1 : Nat) (x2 : Int32) (x4 : Int32) (x3 : Int32) (x5 : Int32) (I : HI) : Option (Int32 × HI) :=
  if x4 ≤ x5 then (F_X3_comeBack I b1) >>= fun r4 => some (x3, r4) else (F_X3_drawDish I b1) >>= fun r6 => (F_X3_takes r6.2 b1 r6.1) >>= fun r8 => if r8 = 0 then L_X11_passEvening_11 b1 x2 x4 x3 (x5 + (1 : Int32)) r6.2 else (F_X3_bite r6.2 b1 r6.1 9) >>= fun r11 => if x2 = 0 then L_X11_passEvening_11 b1 x2 x4 (x3 + (1 : Int32)) (x5 + (1 : Int32)) r11 else (F_X7_write r11 15 (r11 b1 6) r6.1 (r11 136 0) (r11 b1 3)) >>= fun r14 => L_X11_passEvening_11 b1 x2 x4 (x3 + (1 : Int32)) (x5 + (1 : Int32)) r14
partial_fixpoint
def F_X11_passEvening (I : HI) (b1 : Nat) (x2 : Int32) : Option (Int32 × HI) :=
  (F_X3_drawSpoons I b1) >>= fun r1 => L_X11_passEvening_11 b1 x2 r1.1 (0 : Int32) (0 : Int32) r1.2
set_option maxRecDepth 4000 in
set_option maxHeartbeats 4000000 in
theorem LC_X11_passEvening_11 {g : gX} {d : Nat} {P : Nat → Nat → Option Nat} {J : HJ} {b1 : Nat} {x2 : Int32} {x4 : Int32} (hp : Wp P) (hb1 : OB NT b1 3) : ∀ (x3 : Int32) (x5 : Int32) (I : HI) (r : Int32 × HI), L_X11_passEvening_11 b1 x2 x4 x3 x5 I = some r → M g mX11_passEvening (d + 5) (NT, NT, 0) ((.inl (some (.int r.1))), (NT, r.2, J, P)) 11 [some (.ref 1), some (.ref b1), some (.int x2), some (.int x3), some (.int x4), some (.int x5), none] [] (NT, I, J, P) := by
  refine L_X11_passEvening_11.partial_correctness b1 x2 x4 (fun x3 x5 I r => M g mX11_passEvening (d + 5) (NT, NT, 0) ((.inl (some (.int r.1))), (NT, r.2, J, P)) 11 [some (.ref 1), some (.ref b1), some (.int x2), some (.int x3), some (.int x4), some (.int x5), none] [] (NT, I, J, P)) ?_
  intro f ih x3 x5 I r h
  refine M_iload (pc := 11) dX11_passEvening_11 rfl ?_
  refine M_iload (pc := 13) dX11_passEvening_13 rfl ?_
  refine M_icmp_ge (pc := 15) (tgt := 84) dX11_passEvening_15 (by decide) (fun hc3 => ?_) (fun hc3 => ?_)
  · have h := (if_pos hc3).symm.trans h
    refine M_aload_n (pc := 84) dX11_passEvening_84 rfl ?_
    obtain ⟨r4, hr5, h⟩ := bnd h
    refine M_callVv (pc := 85) dX11_passEvening_85 v_X11_249 rfl rfl hb1 (Nat.le_of_ble_eq_true rfl) (C_X3_comeBack (d := d + 3) hp hb1 hr5) (Nat.le_refl _) ?_
    refine M_iload_n (pc := 88) dX11_passEvening_88 rfl ?_
    obtain rfl := Option.some.inj h
    exact M_iret (pc := 89) dX11_passEvening_89 rfl rfl rfl rfl
  · have h := (if_neg hc3).symm.trans h
    refine M_aload_n (pc := 18) dX11_passEvening_18 rfl ?_
    obtain ⟨r6, hr7, h⟩ := bnd h
    refine M_callVi (pc := 19) dX11_passEvening_19 v_X11_292 rfl rfl hb1 (Nat.le_of_ble_eq_true rfl) (C_X3_drawDish (d := d + 3) hp hb1 hr7) (Nat.le_refl _) ?_
    refine M_istore (pc := 22) (ls' := [some (.ref 1), some (.ref b1), some (.int x2), some (.int x3), some (.int x4), some (.int x5), some (.int r6.1)]) dX11_passEvening_22 (by decide) rfl ?_
    refine M_aload_n (pc := 24) dX11_passEvening_24 rfl ?_
    refine M_iload (pc := 25) dX11_passEvening_25 rfl ?_
    obtain ⟨r8, hr9, h⟩ := bnd h
    refine M_callVi (pc := 27) dX11_passEvening_27 v_X11_295 rfl rfl hb1 (Nat.le_of_ble_eq_true rfl) (C_X3_takes (d := d + 3) hp hb1 hr9) (Nat.le_refl _) ?_
    refine M_if_eq (pc := 30) (tgt := 78) dX11_passEvening_30 (by decide) (fun hc10 => ?_) (fun hc10 => ?_)
    · have h := (if_pos hc10).symm.trans h
      refine M_iinc (pc := 78) (v := (x5 + (1 : Int32))) (ls' := [some (.ref 1), some (.ref b1), some (.int x2), some (.int x3), some (.int x4), some (.int (x5 + (1 : Int32))), some (.int r6.1)]) dX11_passEvening_78 rfl rfl (by decide) rfl ?_
      refine M_goto (pc := 81) (tgt := 11) dX11_passEvening_81 (by decide) ?_
      refine M_mask (pc := 11) [true, true, true, true, true, true, false] rfl ?_
      exact ih x3 (x5 + (1 : Int32)) r6.2 _ h
    · have h := (if_neg hc10).symm.trans h
      refine M_aload_n (pc := 33) dX11_passEvening_33 rfl ?_
      refine M_iload (pc := 34) dX11_passEvening_34 rfl ?_
      refine M_aload_n (pc := 36) dX11_passEvening_36 rfl ?_
      refine M_getR (pc := 37) dX11_passEvening_37 f_X11_30 at_10 (gc_1_4 hp).1 ?_
      refine M_aload_n (pc := 40) dX11_passEvening_40 rfl ?_
      refine M_getR (pc := 41) dX11_passEvening_41 f_X11_67 at_10 (gc_1_12 hp).1 ?_
      obtain ⟨r11, hr12, h⟩ := bnd h
      refine M_callVv (pc := 44) dX11_passEvening_44 v_X11_232 rfl rfl hb1 (Nat.le_of_ble_eq_true rfl) (C_X3_bite (d := d + 0) hp hb1 (gc_1_4 hp).2 hr12) (Nat.le_refl _) ?_
      refine M_iinc (pc := 47) (v := (x3 + (1 : Int32))) (ls' := [some (.ref 1), some (.ref b1), some (.int x2), some (.int (x3 + (1 : Int32))), some (.int x4), some (.int x5), some (.int r6.1)]) dX11_passEvening_47 rfl rfl (by decide) rfl ?_
      refine M_iload_n (pc := 50) dX11_passEvening_50 rfl ?_
      refine M_if_eq (pc := 51) (tgt := 78) dX11_passEvening_51 (by decide) (fun hc13 => ?_) (fun hc13 => ?_)
      · have h := (if_pos hc13).symm.trans h
        refine M_iinc (pc := 78) (v := (x5 + (1 : Int32))) (ls' := [some (.ref 1), some (.ref b1), some (.int x2), some (.int (x3 + (1 : Int32))), some (.int x4), some (.int (x5 + (1 : Int32))), some (.int r6.1)]) dX11_passEvening_78 rfl rfl (by decide) rfl ?_
        refine M_goto (pc := 81) (tgt := 11) dX11_passEvening_81 (by decide) ?_
        refine M_mask (pc := 11) [true, true, true, true, true, true, false] rfl ?_
        exact ih (x3 + (1 : Int32)) (x5 + (1 : Int32)) r11 _ h
      · have h := (if_neg hc13).symm.trans h
        refine M_aload_n (pc := 54) dX11_passEvening_54 rfl ?_
        refine M_getR (pc := 55) dX11_passEvening_55 f_X11_37 at_10 (gc_1_5 hp).1 ?_
        refine M_aload_n (pc := 58) dX11_passEvening_58 rfl ?_
        refine M_getI (pc := 59) dX11_passEvening_59 f_X11_236 hb1 ?_
        refine M_iload (pc := 62) dX11_passEvening_62 rfl ?_
        refine M_aload_n (pc := 64) dX11_passEvening_64 rfl ?_
        refine M_getR (pc := 65) dX11_passEvening_65 f_X11_67 at_10 (gc_1_12 hp).1 ?_
        refine M_getI (pc := 68) dX11_passEvening_68 f_X11_239 (gc_1_12 hp).2 ?_
        refine M_aload_n (pc := 71) dX11_passEvening_71 rfl ?_
        refine M_getI (pc := 72) dX11_passEvening_72 f_X11_242 hb1 ?_
        obtain ⟨r14, hr15, h⟩ := bnd h
        refine M_callVv (pc := 75) dX11_passEvening_75 v_X11_245 rfl rfl (gc_1_5 hp).2 (Nat.le_of_ble_eq_true rfl) (C_X7_write (d := d + 3) hp (gc_1_5 hp).2 hr15) (Nat.le_refl _) ?_
        refine M_iinc (pc := 78) (v := (x5 + (1 : Int32))) (ls' := [some (.ref 1), some (.ref b1), some (.int x2), some (.int (x3 + (1 : Int32))), some (.int x4), some (.int (x5 + (1 : Int32))), some (.int r6.1)]) dX11_passEvening_78 rfl rfl (by decide) rfl ?_
        refine M_goto (pc := 81) (tgt := 11) dX11_passEvening_81 (by decide) ?_
        refine M_mask (pc := 11) [true, true, true, true, true, true, false] rfl ?_
        exact ih (x3 + (1 : Int32)) (x5 + (1 : Int32)) r14 _ h
set_option maxRecDepth 4000 in
set_option maxHeartbeats 4000000 in
theorem C_X11_passEvening {g : gX} {d : Nat} {P : Nat → Nat → Option Nat} {I : HI} {b1 : Nat} {x2 : Int32} {J : HJ} (hp : Wp P) (hb1 : OB NT b1 3) {r : Int32 × HI} (h : F_X11_passEvening I b1 x2 = some r) : Cm g mX11_passEvening (d + 5) [.ref 1, .ref b1, .int x2] (NT, I, J, P) (some (.int r.1)) (NT, r.2, J, P) := by
  unfold F_X11_passEvening at h
  refine Cm.of (by decide) (by simp [Value.category]) (Nat.le_of_ble_eq_true rfl) (Nat.le_refl _) (ls := [some (.ref 1), some (.ref b1), some (.int x2), none, none, none, none]) rfl ?_
  refine M_iconst (pc := 0) (v := 0) dX11_passEvening_0 (by decide) ?_
  refine M_istore_n (pc := 1) (ls' := [some (.ref 1), some (.ref b1), some (.int x2), some (.int (0 : Int32)), none, none, none]) dX11_passEvening_1 (by decide) rfl ?_
  refine M_aload_n (pc := 2) dX11_passEvening_2 rfl ?_
  obtain ⟨r1, hr2, h⟩ := bnd h
  refine M_callVi (pc := 3) dX11_passEvening_3 v_X11_289 rfl rfl hb1 (Nat.le_of_ble_eq_true rfl) (C_X3_drawSpoons (d := d + 3) hp hb1 hr2) (Nat.le_refl _) ?_
  refine M_istore (pc := 6) (ls' := [some (.ref 1), some (.ref b1), some (.int x2), some (.int (0 : Int32)), some (.int r1.1), none, none]) dX11_passEvening_6 (by decide) rfl ?_
  refine M_iconst (pc := 8) (v := 0) dX11_passEvening_8 (by decide) ?_
  refine M_istore (pc := 9) (ls' := [some (.ref 1), some (.ref b1), some (.int x2), some (.int (0 : Int32)), some (.int r1.1), some (.int (0 : Int32)), none]) dX11_passEvening_9 (by decide) rfl ?_
  exact LC_X11_passEvening_11 (P := P) hp hb1 (0 : Int32) (0 : Int32) r1.2 _ h
