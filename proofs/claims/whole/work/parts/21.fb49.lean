def L_X11_span_31 (x1 : Int32) (x2 : Int32) (x3 : Int32) (x4 : Int32) (x5 : Int32) (I : HI) : Option ((Int32 ⊕ String) × HI) :=
  if (6 : Int32) < x5 then if x2 = 0 then some ((Sum.inl x3), I) else some ((Sum.inl x4), I) else (F_X11_tryEvenings I x1 x5) >>= fun r5 => L_X11_span_31 x1 x2 (if (r5 130 13) < x3 then (r5 130 13) else x3) (if x4 < (r5 130 13) then (r5 130 13) else x4) (x5 + (1 : Int32)) r5
partial_fixpoint
def F_X11_span (I : HI) (x1 : Int32) (x2 : Int32) : Option ((Int32 ⊕ String) × HI) :=
  if x1 < 0 then some ((Sum.inr "java/lang/IllegalArgumentException"), I) else if x1 ≤ (60 : Int32) then L_X11_span_31 x1 x2 (9999 : Int32) (0 : Int32) (1 : Int32) I else some ((Sum.inr "java/lang/IllegalArgumentException"), I)
set_option maxRecDepth 4000 in
set_option maxHeartbeats 4000000 in
theorem LC_X11_span_31 {g : gX} {d : Nat} {P : Nat → Nat → Option Nat} {J : HJ} {x1 : Int32} {x2 : Int32} (hp : Wp P) : ∀ (x3 : Int32) (x4 : Int32) (x5 : Int32) (I : HI) (r : (Int32 ⊕ String) × HI), L_X11_span_31 x1 x2 x3 x4 x5 I = some r → M g mX11_span (d + 7) (NT, NT, 1) ((thr_i r.1), (NT, r.2, J, P)) 31 [some (.ref 1), some (.int x1), some (.int x2), some (.int x3), some (.int x4), some (.int x5)] [] (NT, I, J, P) := by
  refine L_X11_span_31.partial_correctness x1 x2 (fun x3 x4 x5 I r => M g mX11_span (d + 7) (NT, NT, 1) ((thr_i r.1), (NT, r.2, J, P)) 31 [some (.ref 1), some (.int x1), some (.int x2), some (.int x3), some (.int x4), some (.int x5)] [] (NT, I, J, P)) ?_
  intro f ih x3 x4 x5 I r h
  refine M_iload (pc := 31) dX11_span_31 rfl ?_
  refine M_bipush (pc := 33) (v := 6) dX11_span_33 (by decide) ?_
  refine M_icmp_gt (pc := 35) (tgt := 77) dX11_span_35 (by decide) (fun hc3 => ?_) (fun hc3 => ?_)
  · have h := (if_pos hc3).symm.trans h
    refine M_iload_n (pc := 77) dX11_span_77 rfl ?_
    refine M_if_eq (pc := 78) (tgt := 86) dX11_span_78 (by decide) (fun hc4 => ?_) (fun hc4 => ?_)
    · have h := (if_pos hc4).symm.trans h
      refine M_iload_n (pc := 86) dX11_span_86 rfl ?_
      obtain rfl := Option.some.inj h
      exact M_iret (pc := 87) dX11_span_87 rfl rfl rfl rfl
    · have h := (if_neg hc4).symm.trans h
      refine M_iload (pc := 81) dX11_span_81 rfl ?_
      refine M_goto (pc := 83) (tgt := 87) dX11_span_83 (by decide) ?_
      obtain rfl := Option.some.inj h
      exact M_iret (pc := 87) dX11_span_87 rfl rfl rfl rfl
  · have h := (if_neg hc3).symm.trans h
    refine M_aload_n (pc := 38) dX11_span_38 rfl ?_
    refine M_iload_n (pc := 39) dX11_span_39 rfl ?_
    refine M_iload (pc := 40) dX11_span_40 rfl ?_
    obtain ⟨r5, hr6, h⟩ := bnd h
    refine M_callVv (pc := 42) dX11_span_42 v_X11_392 rfl rfl at_10 (Nat.le_of_ble_eq_true rfl) (C_X11_tryEvenings (d := d + 0) hp hr6) (Nat.le_refl _) ?_
    refine M_iload_n (pc := 45) dX11_span_45 rfl ?_
    refine M_aload_n (pc := 46) dX11_span_46 rfl ?_
    refine M_getR (pc := 47) dX11_span_47 f_X11_61 at_10 (gc_1_11 hp).1 ?_
    refine M_getI (pc := 50) dX11_span_50 f_X11_396 (gc_1_11 hp).2 ?_
    refine M_mmin (pc := 53) dX11_span_53 mm_X11_399.1 mm_X11_399.2.1 mm_X11_399.2.2.1 mm_X11_399.2.2.2 (Nat.le_of_ble_eq_true rfl) ?_
    refine M_istore_n (pc := 56) (ls' := [some (.ref 1), some (.int x1), some (.int x2), some (.int (if (r5 130 13) < x3 then (r5 130 13) else x3)), some (.int x4), some (.int x5)]) dX11_span_56 (by decide) rfl ?_
    refine M_iload (pc := 57) dX11_span_57 rfl ?_
    refine M_aload_n (pc := 59) dX11_span_59 rfl ?_
    refine M_getR (pc := 60) dX11_span_60 f_X11_61 at_10 (gc_1_11 hp).1 ?_
    refine M_getI (pc := 63) dX11_span_63 f_X11_396 (gc_1_11 hp).2 ?_
    refine M_mmax (pc := 66) dX11_span_66 mm_X11_350.1 mm_X11_350.2.1 mm_X11_350.2.2.1 mm_X11_350.2.2.2 (Nat.le_of_ble_eq_true rfl) ?_
    refine M_istore (pc := 69) (ls' := [some (.ref 1), some (.int x1), some (.int x2), some (.int (if (r5 130 13) < x3 then (r5 130 13) else x3)), some (.int (if x4 < (r5 130 13) then (r5 130 13) else x4)), some (.int x5)]) dX11_span_69 (by decide) rfl ?_
    refine M_iinc (pc := 71) (v := (x5 + (1 : Int32))) (ls' := [some (.ref 1), some (.int x1), some (.int x2), some (.int (if (r5 130 13) < x3 then (r5 130 13) else x3)), some (.int (if x4 < (r5 130 13) then (r5 130 13) else x4)), some (.int (x5 + (1 : Int32)))]) dX11_span_71 rfl rfl (by decide) rfl ?_
    refine M_goto (pc := 74) (tgt := 31) dX11_span_74 (by decide) ?_
    exact ih (if (r5 130 13) < x3 then (r5 130 13) else x3) (if x4 < (r5 130 13) then (r5 130 13) else x4) (x5 + (1 : Int32)) r5 _ h
set_option maxRecDepth 4000 in
set_option maxHeartbeats 4000000 in
theorem C_X11_span {g : gX} {d : Nat} {P : Nat → Nat → Option Nat} {I : HI} {x1 : Int32} {x2 : Int32} {J : HJ} (hp : Wp P) {r : (Int32 ⊕ String) × HI} (h : F_X11_span I x1 x2 = some r) : Cx g mX11_span (d + 7) [.ref 1, .int x1, .int x2] (NT, I, J, P) ((thr_i r.1), (NT, r.2, J, P)) := by
  unfold F_X11_span at h
  refine Cx.of (by decide) (by simp [Value.category]) (Nat.le_of_ble_eq_true rfl) (Nat.le_refl _) (ls := [some (.ref 1), some (.int x1), some (.int x2), none, none, none]) rfl ?_
  refine M_iload_n (pc := 0) dX11_span_0 rfl ?_
  refine M_if_lt (pc := 1) (tgt := 10) dX11_span_1 (by decide) (fun hc1 => ?_) (fun hc1 => ?_)
  · have h := (if_pos hc1).symm.trans h
    obtain rfl := Option.some.inj h
    exact M_throwW (pc := 10) dX11_span_10 dX11_span_13 dX11_span_14 dX11_span_17 dX11_span_20 ⟨rfl, rfl, rfl, rfl⟩ x_X11_118 (j := 11) (by decide) str_X11_283 rfl rfl
  · have h := (if_neg hc1).symm.trans h
    refine M_iload_n (pc := 4) dX11_span_4 rfl ?_
    refine M_bipush (pc := 5) (v := 60) dX11_span_5 (by decide) ?_
    refine M_icmp_le (pc := 7) (tgt := 21) dX11_span_7 (by decide) (fun hc2 => ?_) (fun hc2 => ?_)
    · have h := (if_pos hc2).symm.trans h
      refine M_sipush (pc := 21) (v := 9999) dX11_span_21 (by decide) ?_
      refine M_istore_n (pc := 24) (ls' := [some (.ref 1), some (.int x1), some (.int x2), some (.int (9999 : Int32)), none, none]) dX11_span_24 (by decide) rfl ?_
      refine M_iconst (pc := 25) (v := 0) dX11_span_25 (by decide) ?_
      refine M_istore (pc := 26) (ls' := [some (.ref 1), some (.int x1), some (.int x2), some (.int (9999 : Int32)), some (.int (0 : Int32)), none]) dX11_span_26 (by decide) rfl ?_
      refine M_iconst (pc := 28) (v := 1) dX11_span_28 (by decide) ?_
      refine M_istore (pc := 29) (ls' := [some (.ref 1), some (.int x1), some (.int x2), some (.int (9999 : Int32)), some (.int (0 : Int32)), some (.int (1 : Int32))]) dX11_span_29 (by decide) rfl ?_
      exact LC_X11_span_31 (P := P) hp (9999 : Int32) (0 : Int32) (1 : Int32) I _ h
    · have h := (if_neg hc2).symm.trans h
      obtain rfl := Option.some.inj h
      exact M_throwW (pc := 10) dX11_span_10 dX11_span_13 dX11_span_14 dX11_span_17 dX11_span_20 ⟨rfl, rfl, rfl, rfl⟩ x_X11_118 (j := 11) (by decide) str_X11_283 rfl rfl
