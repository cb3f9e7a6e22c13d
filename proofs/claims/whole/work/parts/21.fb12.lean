def L_X11_gap_4 (I : HI) (x1 : Int32) (x2 : Int32) : Option (Int32) :=
  if (I 4 0) ≤ x2 then some x1 else (F_X1_isHad I 4 x2) >>= fun r2 => if r2 = 0 then L_X11_gap_4 I x1 (x2 + (1 : Int32)) else (ald 12 (I 6) x2) >>= fun v5 => (F_X1_earliestBehind I 4 v5) >>= fun r7 => if r7 = (-1 : Int32) then L_X11_gap_4 I x1 (x2 + (1 : Int32)) else (ald 12 (I 6) r7) >>= fun v10 => (ald 12 (I 6) x2) >>= fun v12 => L_X11_gap_4 I (if x1 < (v10 - v12) then (v10 - v12) else x1) (x2 + (1 : Int32))
partial_fixpoint
def F_X11_gap (I : HI) : Option (Int32) :=
  L_X11_gap_4 I (0 : Int32) (0 : Int32)
set_option maxRecDepth 4000 in
set_option maxHeartbeats 4000000 in
theorem LC_X11_gap_4 {g : gX} {d : Nat} {P : Nat → Nat → Option Nat} {J : HJ} {I : HI} (hp : Wp P) : ∀ (x1 : Int32) (x2 : Int32) (r : Int32), L_X11_gap_4 I x1 x2 = some r → M g mX11_gap (d + 2) (NT, NT, 0) ((.inl (some (.int r))), (NT, I, J, P)) 4 [some (.ref 1), some (.int x1), some (.int x2), none] [] (NT, I, J, P) := by
  refine L_X11_gap_4.partial_correctness I (fun x1 x2 r => M g mX11_gap (d + 2) (NT, NT, 0) ((.inl (some (.int r))), (NT, I, J, P)) 4 [some (.ref 1), some (.int x1), some (.int x2), none] [] (NT, I, J, P)) ?_
  intro f ih x1 x2 r h
  refine M_iload_n (pc := 4) dX11_gap_4 rfl ?_
  refine M_aload_n (pc := 5) dX11_gap_5 rfl ?_
  refine M_getR (pc := 6) dX11_gap_6 f_X11_23 at_10 (gc_1_3 hp).1 ?_
  refine M_getR (pc := 9) dX11_gap_9 f_X11_148 (gc_1_3 hp).2 (gc_3_0 hp).1 ?_
  refine M_getI (pc := 12) dX11_gap_12 f_X11_211 (gc_3_0 hp).2 ?_
  refine M_icmp_ge (pc := 15) (tgt := 96) dX11_gap_15 (by decide) (fun hc1 => ?_) (fun hc1 => ?_)
  · have h := (if_pos hc1).symm.trans h
    refine M_iload_n (pc := 96) dX11_gap_96 rfl ?_
    obtain rfl := Option.some.inj h
    exact M_iret (pc := 97) dX11_gap_97 rfl rfl rfl rfl
  · have h := (if_neg hc1).symm.trans h
    refine M_aload_n (pc := 18) dX11_gap_18 rfl ?_
    refine M_getR (pc := 19) dX11_gap_19 f_X11_23 at_10 (gc_1_3 hp).1 ?_
    refine M_getR (pc := 22) dX11_gap_22 f_X11_148 (gc_1_3 hp).2 (gc_3_0 hp).1 ?_
    refine M_iload_n (pc := 25) dX11_gap_25 rfl ?_
    obtain ⟨r2, hr3, h⟩ := bnd h
    refine M_callVi (pc := 26) dX11_gap_26 v_X11_265 rfl rfl (gc_3_0 hp).2 (Nat.le_of_ble_eq_true rfl) (C_X1_isHad (d := d + 0) hp (gc_3_0 hp).2 hr3) (Nat.le_refl _) ?_
    refine M_if_eq (pc := 29) (tgt := 90) dX11_gap_29 (by decide) (fun hc4 => ?_) (fun hc4 => ?_)
    · have h := (if_pos hc4).symm.trans h
      refine M_iinc (pc := 90) (v := (x2 + (1 : Int32))) (ls' := [some (.ref 1), some (.int x1), some (.int (x2 + (1 : Int32))), none]) dX11_gap_90 rfl rfl (by decide) rfl ?_
      refine M_goto (pc := 93) (tgt := 4) dX11_gap_93 (by decide) ?_
      exact ih x1 (x2 + (1 : Int32)) _ h
    · have h := (if_neg hc4).symm.trans h
      refine M_aload_n (pc := 32) dX11_gap_32 rfl ?_
      refine M_getR (pc := 33) dX11_gap_33 f_X11_23 at_10 (gc_1_3 hp).1 ?_
      refine M_getR (pc := 36) dX11_gap_36 f_X11_148 (gc_1_3 hp).2 (gc_3_0 hp).1 ?_
      refine M_aload_n (pc := 39) dX11_gap_39 rfl ?_
      refine M_getR (pc := 40) dX11_gap_40 f_X11_23 at_10 (gc_1_3 hp).1 ?_
      refine M_getR (pc := 43) dX11_gap_43 f_X11_148 (gc_1_3 hp).2 (gc_3_0 hp).1 ?_
      refine M_getR (pc := 46) dX11_gap_46 f_X11_171 (gc_3_0 hp).2 (gc_4_2 hp).1 ?_
      refine M_iload_n (pc := 49) dX11_gap_49 rfl ?_
      obtain ⟨v5, hv6, h⟩ := bnd h
      refine M_aldI (pc := 50) dX11_gap_50 (gc_4_2 hp).2 hv6 ?_
      obtain ⟨r7, hr8, h⟩ := bnd h
      refine M_callVi (pc := 51) dX11_gap_51 v_X11_365 rfl rfl (gc_3_0 hp).2 (Nat.le_of_ble_eq_true rfl) (C_X1_earliestBehind (d := d + 1) hp (gc_3_0 hp).2 hr8) (Nat.le_refl _) ?_
      refine M_istore_n (pc := 54) (ls' := [some (.ref 1), some (.int x1), some (.int x2), some (.int r7)]) dX11_gap_54 (by decide) rfl ?_
      refine M_iload_n (pc := 55) dX11_gap_55 rfl ?_
      refine M_iconst (pc := 56) (v := -1) dX11_gap_56 (by decide) ?_
      refine M_icmp_eq (pc := 57) (tgt := 90) dX11_gap_57 (by decide) (fun hc9 => ?_) (fun hc9 => ?_)
      · have h := (if_pos hc9).symm.trans h
        refine M_iinc (pc := 90) (v := (x2 + (1 : Int32))) (ls' := [some (.ref 1), some (.int x1), some (.int (x2 + (1 : Int32))), some (.int r7)]) dX11_gap_90 rfl rfl (by decide) rfl ?_
        refine M_goto (pc := 93) (tgt := 4) dX11_gap_93 (by decide) ?_
        refine M_mask (pc := 4) [true, true, true, false] rfl ?_
        exact ih x1 (x2 + (1 : Int32)) _ h
      · have h := (if_neg hc9).symm.trans h
        refine M_iload_n (pc := 60) dX11_gap_60 rfl ?_
        refine M_aload_n (pc := 61) dX11_gap_61 rfl ?_
        refine M_getR (pc := 62) dX11_gap_62 f_X11_23 at_10 (gc_1_3 hp).1 ?_
        refine M_getR (pc := 65) dX11_gap_65 f_X11_148 (gc_1_3 hp).2 (gc_3_0 hp).1 ?_
        refine M_getR (pc := 68) dX11_gap_68 f_X11_171 (gc_3_0 hp).2 (gc_4_2 hp).1 ?_
        refine M_iload_n (pc := 71) dX11_gap_71 rfl ?_
        obtain ⟨v10, hv11, h⟩ := bnd h
        refine M_aldI (pc := 72) dX11_gap_72 (gc_4_2 hp).2 hv11 ?_
        refine M_aload_n (pc := 73) dX11_gap_73 rfl ?_
        refine M_getR (pc := 74) dX11_gap_74 f_X11_23 at_10 (gc_1_3 hp).1 ?_
        refine M_getR (pc := 77) dX11_gap_77 f_X11_148 (gc_1_3 hp).2 (gc_3_0 hp).1 ?_
        refine M_getR (pc := 80) dX11_gap_80 f_X11_171 (gc_3_0 hp).2 (gc_4_2 hp).1 ?_
        refine M_iload_n (pc := 83) dX11_gap_83 rfl ?_
        obtain ⟨v12, hv13, h⟩ := bnd h
        refine M_aldI (pc := 84) dX11_gap_84 (gc_4_2 hp).2 hv13 ?_
        refine M_isub (pc := 85) dX11_gap_85 ?_
        refine M_mmax (pc := 86) dX11_gap_86 mm_X11_350.1 mm_X11_350.2.1 mm_X11_350.2.2.1 mm_X11_350.2.2.2 (Nat.le_of_ble_eq_true rfl) ?_
        refine M_istore_n (pc := 89) (ls' := [some (.ref 1), some (.int (if x1 < (v10 - v12) then (v10 - v12) else x1)), some (.int x2), some (.int r7)]) dX11_gap_89 (by decide) rfl ?_
        refine M_iinc (pc := 90) (v := (x2 + (1 : Int32))) (ls' := [some (.ref 1), some (.int (if x1 < (v10 - v12) then (v10 - v12) else x1)), some (.int (x2 + (1 : Int32))), some (.int r7)]) dX11_gap_90 rfl rfl (by decide) rfl ?_
        refine M_goto (pc := 93) (tgt := 4) dX11_gap_93 (by decide) ?_
        refine M_mask (pc := 4) [true, true, true, false] rfl ?_
        exact ih (if x1 < (v10 - v12) then (v10 - v12) else x1) (x2 + (1 : Int32)) _ h
set_option maxRecDepth 4000 in
set_option maxHeartbeats 4000000 in
theorem C_X11_gap {g : gX} {d : Nat} {P : Nat → Nat → Option Nat} {I : HI} {J : HJ} (hp : Wp P) {r : Int32} (h : F_X11_gap I = some r) : Cm g mX11_gap (d + 2) [.ref 1] (NT, I, J, P) (some (.int r)) (NT, I, J, P) := by
  unfold F_X11_gap at h
  refine Cm.of (by decide) (by simp [Value.category]) (Nat.le_of_ble_eq_true rfl) (Nat.le_refl _) (ls := [some (.ref 1), none, none, none]) rfl ?_
  refine M_iconst (pc := 0) (v := 0) dX11_gap_0 (by decide) ?_
  refine M_istore_n (pc := 1) (ls' := [some (.ref 1), some (.int (0 : Int32)), none, none]) dX11_gap_1 (by decide) rfl ?_
  refine M_iconst (pc := 2) (v := 0) dX11_gap_2 (by decide) ?_
  refine M_istore_n (pc := 3) (ls' := [some (.ref 1), some (.int (0 : Int32)), some (.int (0 : Int32)), none]) dX11_gap_3 (by decide) rfl ?_
  exact LC_X11_gap_4 (P := P) hp (0 : Int32) (0 : Int32) _ h
