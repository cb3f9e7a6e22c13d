def L_X11_breaks_37 (x1 : Int32) (x2 : Int32) (I : HI) : Option ((Int32 ⊕ String) × HI) :=
  if (100 : Int32) ≤ x2 then (F_X3_takes I 130 x1) >>= fun r7 => if r7 = 0 then some ((Sum.inl (100 : Int32)), I) else some ((Sum.inl (-1 : Int32)), I) else (F_X3_takes I 130 x1) >>= fun r10 => if r10 = 0 then some ((Sum.inl x2), I) else (F_X3_bite I 130 x1 9) >>= fun r13 => L_X11_breaks_37 x1 (x2 + (1 : Int32)) r13
partial_fixpoint
def F_X11_breaks (I : HI) (x1 : Int32) : Option ((Int32 ⊕ String) × HI) :=
  (F_X1_has I 4 x1) >>= fun r1 => if r1 = 0 then some ((Sum.inr "java/lang/IndexOutOfBoundsException"), I) else (F_X3_copy I 130 3) >>= fun r4 => L_X11_breaks_37 x1 (0 : Int32) r4
set_option maxRecDepth 4000 in
set_option maxHeartbeats 4000000 in
theorem LC_X11_breaks_37 {g : gX} {d : Nat} {P : Nat → Nat → Option Nat} {J : HJ} {x1 : Int32} (hp : Wp P) : ∀ (x2 : Int32) (I : HI) (r : (Int32 ⊕ String) × HI), L_X11_breaks_37 x1 x2 I = some r → M g mX11_breaks (d + 6) (NT, NT, 1) ((thr_i r.1), (NT, r.2, J, P)) 37 [some (.ref 1), some (.int x1), some (.int x2)] [] (NT, I, J, P) := by
  refine L_X11_breaks_37.partial_correctness x1 (fun x2 I r => M g mX11_breaks (d + 6) (NT, NT, 1) ((thr_i r.1), (NT, r.2, J, P)) 37 [some (.ref 1), some (.int x1), some (.int x2)] [] (NT, I, J, P)) ?_
  intro f ih x2 I r h
  refine M_iload_n (pc := 37) dX11_breaks_37 rfl ?_
  refine M_bipush (pc := 38) (v := 100) dX11_breaks_38 (by decide) ?_
  refine M_icmp_ge (pc := 40) (tgt := 78) dX11_breaks_40 (by decide) (fun hc6 => ?_) (fun hc6 => ?_)
  · have h := (if_pos hc6).symm.trans h
    refine M_aload_n (pc := 78) dX11_breaks_78 rfl ?_
    refine M_getR (pc := 79) dX11_breaks_79 f_X11_61 at_10 (gc_1_11 hp).1 ?_
    refine M_iload_n (pc := 82) dX11_breaks_82 rfl ?_
    obtain ⟨r7, hr8, h⟩ := bnd h
    refine M_callVi (pc := 83) dX11_breaks_83 v_X11_295 rfl rfl (gc_1_11 hp).2 (Nat.le_of_ble_eq_true rfl) (C_X3_takes (d := d + 4) hp (gc_1_11 hp).2 hr8) (Nat.le_refl _) ?_
    refine M_if_eq (pc := 86) (tgt := 93) dX11_breaks_86 (by decide) (fun hc9 => ?_) (fun hc9 => ?_)
    · have h := (if_pos hc9).symm.trans h
      refine M_bipush (pc := 93) (v := 100) dX11_breaks_93 (by decide) ?_
      obtain rfl := Option.some.inj h
      exact M_iret (pc := 95) dX11_breaks_95 rfl rfl rfl rfl
    · have h := (if_neg hc9).symm.trans h
      refine M_iconst (pc := 89) (v := -1) dX11_breaks_89 (by decide) ?_
      refine M_goto (pc := 90) (tgt := 95) dX11_breaks_90 (by decide) ?_
      obtain rfl := Option.some.inj h
      exact M_iret (pc := 95) dX11_breaks_95 rfl rfl rfl rfl
  · have h := (if_neg hc6).symm.trans h
    refine M_aload_n (pc := 43) dX11_breaks_43 rfl ?_
    refine M_getR (pc := 44) dX11_breaks_44 f_X11_61 at_10 (gc_1_11 hp).1 ?_
    refine M_iload_n (pc := 47) dX11_breaks_47 rfl ?_
    obtain ⟨r10, hr11, h⟩ := bnd h
    refine M_callVi (pc := 48) dX11_breaks_48 v_X11_295 rfl rfl (gc_1_11 hp).2 (Nat.le_of_ble_eq_true rfl) (C_X3_takes (d := d + 4) hp (gc_1_11 hp).2 hr11) (Nat.le_refl _) ?_
    refine M_if_ne (pc := 51) (tgt := 56) dX11_breaks_51 (by decide) (fun hc12 => ?_) (fun hc12 => ?_)
    · have h := (if_neg hc12).symm.trans h
      refine M_aload_n (pc := 56) dX11_breaks_56 rfl ?_
      refine M_getR (pc := 57) dX11_breaks_57 f_X11_61 at_10 (gc_1_11 hp).1 ?_
      refine M_iload_n (pc := 60) dX11_breaks_60 rfl ?_
      refine M_aload_n (pc := 61) dX11_breaks_61 rfl ?_
      refine M_getR (pc := 62) dX11_breaks_62 f_X11_30 at_10 (gc_1_4 hp).1 ?_
      refine M_aload_n (pc := 65) dX11_breaks_65 rfl ?_
      refine M_getR (pc := 66) dX11_breaks_66 f_X11_67 at_10 (gc_1_12 hp).1 ?_
      obtain ⟨r13, hr14, h⟩ := bnd h
      refine M_callVv (pc := 69) dX11_breaks_69 v_X11_232 rfl rfl (gc_1_11 hp).2 (Nat.le_of_ble_eq_true rfl) (C_X3_bite (d := d + 1) hp (gc_1_11 hp).2 (gc_1_4 hp).2 hr14) (Nat.le_refl _) ?_
      refine M_iinc (pc := 72) (v := (x2 + (1 : Int32))) (ls' := [some (.ref 1), some (.int x1), some (.int (x2 + (1 : Int32)))]) dX11_breaks_72 rfl rfl (by decide) rfl ?_
      refine M_goto (pc := 75) (tgt := 37) dX11_breaks_75 (by decide) ?_
      exact ih (x2 + (1 : Int32)) r13 _ h
    · have h := (if_pos hc12).symm.trans h
      refine M_iload_n (pc := 54) dX11_breaks_54 rfl ?_
      obtain rfl := Option.some.inj h
      exact M_iret (pc := 55) dX11_breaks_55 rfl rfl rfl rfl
set_option maxRecDepth 4000 in
set_option maxHeartbeats 4000000 in
theorem C_X11_breaks {g : gX} {d : Nat} {P : Nat → Nat → Option Nat} {I : HI} {x1 : Int32} {J : HJ} (hp : Wp P) {r : (Int32 ⊕ String) × HI} (h : F_X11_breaks I x1 = some r) : Cx g mX11_breaks (d + 6) [.ref 1, .int x1] (NT, I, J, P) ((thr_i r.1), (NT, r.2, J, P)) := by
  unfold F_X11_breaks at h
  refine Cx.of (by decide) (by simp [Value.category]) (Nat.le_of_ble_eq_true rfl) (Nat.le_refl _) (ls := [some (.ref 1), some (.int x1), none]) rfl ?_
  refine M_aload_n (pc := 0) dX11_breaks_0 rfl ?_
  refine M_getR (pc := 1) dX11_breaks_1 f_X11_23 at_10 (gc_1_3 hp).1 ?_
  refine M_getR (pc := 4) dX11_breaks_4 f_X11_148 (gc_1_3 hp).2 (gc_3_0 hp).1 ?_
  refine M_iload_n (pc := 7) dX11_breaks_7 rfl ?_
  obtain ⟨r1, hr2, h⟩ := bnd h
  refine M_callVi (pc := 8) dX11_breaks_8 v_X11_152 rfl rfl (gc_3_0 hp).2 (Nat.le_of_ble_eq_true rfl) (C_X1_has (d := d + 5) hp (gc_3_0 hp).2 hr2) (Nat.le_refl _) ?_
  refine M_if_ne (pc := 11) (tgt := 24) dX11_breaks_11 (by decide) (fun hc3 => ?_) (fun hc3 => ?_)
  · have h := (if_neg hc3).symm.trans h
    refine M_aload_n (pc := 24) dX11_breaks_24 rfl ?_
    refine M_getR (pc := 25) dX11_breaks_25 f_X11_61 at_10 (gc_1_11 hp).1 ?_
    refine M_aload_n (pc := 28) dX11_breaks_28 rfl ?_
    refine M_getR (pc := 29) dX11_breaks_29 f_X11_23 at_10 (gc_1_3 hp).1 ?_
    obtain ⟨r4, hr5, h⟩ := bnd h
    refine M_callVv (pc := 32) dX11_breaks_32 v_X11_106 rfl rfl (gc_1_11 hp).2 (Nat.le_of_ble_eq_true rfl) (C_X3_copy (d := d + 3) hp (gc_1_11 hp).2 (gc_1_3 hp).2 hr5) (Nat.le_refl _) ?_
    refine M_iconst (pc := 35) (v := 0) dX11_breaks_35 (by decide) ?_
    refine M_istore_n (pc := 36) (ls' := [some (.ref 1), some (.int x1), some (.int (0 : Int32))]) dX11_breaks_36 (by decide) rfl ?_
    exact LC_X11_breaks_37 (P := P) hp (0 : Int32) r4 _ h
  · have h := (if_pos hc3).symm.trans h
    obtain rfl := Option.some.inj h
    exact M_throw (pc := 14) dX11_breaks_14 dX11_breaks_17 dX11_breaks_18 dX11_breaks_20 dX11_breaks_23 ⟨rfl, rfl, rfl, rfl⟩ x_X11_158 (j := 3) (by decide) str_X11_160 rfl rfl
