def L_X11_twins_22 (I : HI) (x2 : Int32) (x1 : Int32) (x3 : Int32) : Option (Int32 × Int32) :=
  if (I 4 0) ≤ x3 then some (x1, x3) else (F_X1_distance I 4 x2 x3) >>= fun r3 => if r3 = 0 then L_X11_twins_22 I x2 (x1 + (1 : Int32)) (x3 + (1 : Int32)) else L_X11_twins_22 I x2 x1 (x3 + (1 : Int32))
partial_fixpoint
def L_X11_twins_4 (I : HI) (x1 : Int32) (x2 : Int32) : Option (Int32) :=
  if (I 4 0) ≤ x2 then some x1 else (L_X11_twins_22 I x2 x1 (x2 + (1 : Int32))) >>= fun r6 => L_X11_twins_4 I r6.1 (x2 + (1 : Int32))
partial_fixpoint
def F_X11_twins (I : HI) : Option (Int32) :=
  L_X11_twins_4 I (0 : Int32) (0 : Int32)
set_option maxRecDepth 4000 in
set_option maxHeartbeats 4000000 in
theorem LC_X11_twins_22 {g : gX} {d : Nat} {R : rX} {P : Nat → Nat → Option Nat} {J : HJ} {I : HI} {x2 : Int32} (hp : Wp P) : ∀ (x1 : Int32) (x3 : Int32) (r : Int32 × Int32), L_X11_twins_22 I x2 x1 x3 = some r → M g mX11_twins (d + 1) (NT, NT, 0) R 60 [some (.ref 1), some (.int r.1), some (.int x2), some (.int r.2)] [] (NT, I, J, P) → M g mX11_twins (d + 1) (NT, NT, 0) R 22 [some (.ref 1), some (.int x1), some (.int x2), some (.int x3)] [] (NT, I, J, P) := by
  refine L_X11_twins_22.partial_correctness I x2 (fun x1 x3 r => M g mX11_twins (d + 1) (NT, NT, 0) R 60 [some (.ref 1), some (.int r.1), some (.int x2), some (.int r.2)] [] (NT, I, J, P) → M g mX11_twins (d + 1) (NT, NT, 0) R 22 [some (.ref 1), some (.int x1), some (.int x2), some (.int x3)] [] (NT, I, J, P)) ?_
  intro f ih x1 x3 r h hk
  refine M_iload_n (pc := 22) dX11_twins_22 rfl ?_
  refine M_aload_n (pc := 23) dX11_twins_23 rfl ?_
  refine M_getR (pc := 24) dX11_twins_24 f_X11_23 at_10 (gc_1_3 hp).1 ?_
  refine M_getR (pc := 27) dX11_twins_27 f_X11_148 (gc_1_3 hp).2 (gc_3_0 hp).1 ?_
  refine M_getI (pc := 30) dX11_twins_30 f_X11_211 (gc_3_0 hp).2 ?_
  refine M_icmp_ge (pc := 33) (tgt := 60) dX11_twins_33 (by decide) (fun hc2 => ?_) (fun hc2 => ?_)
  · have h := (if_pos hc2).symm.trans h
    obtain rfl := Option.some.inj h
    exact hk
  · have h := (if_neg hc2).symm.trans h
    refine M_aload_n (pc := 36) dX11_twins_36 rfl ?_
    refine M_getR (pc := 37) dX11_twins_37 f_X11_23 at_10 (gc_1_3 hp).1 ?_
    refine M_getR (pc := 40) dX11_twins_40 f_X11_148 (gc_1_3 hp).2 (gc_3_0 hp).1 ?_
    refine M_iload_n (pc := 43) dX11_twins_43 rfl ?_
    refine M_iload_n (pc := 44) dX11_twins_44 rfl ?_
    obtain ⟨r3, hr4, h⟩ := bnd h
    refine M_callVi (pc := 45) dX11_twins_45 v_X11_208 rfl rfl (gc_3_0 hp).2 (Nat.le_of_ble_eq_true rfl) (C_X1_distance (d := d + 0) hp (gc_3_0 hp).2 hr4) (Nat.le_refl _) ?_
    refine M_if_ne (pc := 48) (tgt := 54) dX11_twins_48 (by decide) (fun hc5 => ?_) (fun hc5 => ?_)
    · have h := (if_neg hc5).symm.trans h
      refine M_iinc (pc := 54) (v := (x3 + (1 : Int32))) (ls' := [some (.ref 1), some (.int x1), some (.int x2), some (.int (x3 + (1 : Int32)))]) dX11_twins_54 rfl rfl (by decide) rfl ?_
      refine M_goto (pc := 57) (tgt := 22) dX11_twins_57 (by decide) ?_
      exact ih x1 (x3 + (1 : Int32)) _ h hk
    · have h := (if_pos hc5).symm.trans h
      refine M_iinc (pc := 51) (v := (x1 + (1 : Int32))) (ls' := [some (.ref 1), some (.int (x1 + (1 : Int32))), some (.int x2), some (.int x3)]) dX11_twins_51 rfl rfl (by decide) rfl ?_
      refine M_iinc (pc := 54) (v := (x3 + (1 : Int32))) (ls' := [some (.ref 1), some (.int (x1 + (1 : Int32))), some (.int x2), some (.int (x3 + (1 : Int32)))]) dX11_twins_54 rfl rfl (by decide) rfl ?_
      refine M_goto (pc := 57) (tgt := 22) dX11_twins_57 (by decide) ?_
      exact ih (x1 + (1 : Int32)) (x3 + (1 : Int32)) _ h hk
set_option maxRecDepth 4000 in
set_option maxHeartbeats 4000000 in
theorem LC_X11_twins_4 {g : gX} {d : Nat} {P : Nat → Nat → Option Nat} {J : HJ} {I : HI} (hp : Wp P) : ∀ (x1 : Int32) (x2 : Int32) (r : Int32), L_X11_twins_4 I x1 x2 = some r → M g mX11_twins (d + 1) (NT, NT, 0) ((.inl (some (.int r))), (NT, I, J, P)) 4 [some (.ref 1), some (.int x1), some (.int x2), none] [] (NT, I, J, P) := by
  refine L_X11_twins_4.partial_correctness I (fun x1 x2 r => M g mX11_twins (d + 1) (NT, NT, 0) ((.inl (some (.int r))), (NT, I, J, P)) 4 [some (.ref 1), some (.int x1), some (.int x2), none] [] (NT, I, J, P)) ?_
  intro f ih x1 x2 r h
  refine M_iload_n (pc := 4) dX11_twins_4 rfl ?_
  refine M_aload_n (pc := 5) dX11_twins_5 rfl ?_
  refine M_getR (pc := 6) dX11_twins_6 f_X11_23 at_10 (gc_1_3 hp).1 ?_
  refine M_getR (pc := 9) dX11_twins_9 f_X11_148 (gc_1_3 hp).2 (gc_3_0 hp).1 ?_
  refine M_getI (pc := 12) dX11_twins_12 f_X11_211 (gc_3_0 hp).2 ?_
  refine M_icmp_ge (pc := 15) (tgt := 66) dX11_twins_15 (by decide) (fun hc1 => ?_) (fun hc1 => ?_)
  · have h := (if_pos hc1).symm.trans h
    refine M_iload_n (pc := 66) dX11_twins_66 rfl ?_
    obtain rfl := Option.some.inj h
    exact M_iret (pc := 67) dX11_twins_67 rfl rfl rfl rfl
  · have h := (if_neg hc1).symm.trans h
    refine M_iload_n (pc := 18) dX11_twins_18 rfl ?_
    refine M_iconst (pc := 19) (v := 1) dX11_twins_19 (by decide) ?_
    refine M_iadd (pc := 20) dX11_twins_20 ?_
    refine M_istore_n (pc := 21) (ls' := [some (.ref 1), some (.int x1), some (.int x2), some (.int (x2 + (1 : Int32)))]) dX11_twins_21 (by decide) rfl ?_
    obtain ⟨r6, hr7, h⟩ := bnd h
    refine LC_X11_twins_22 (P := P) hp x1 (x2 + (1 : Int32)) _ hr7 ?_
    refine M_iinc (pc := 60) (v := (x2 + (1 : Int32))) (ls' := [some (.ref 1), some (.int r6.1), some (.int (x2 + (1 : Int32))), some (.int r6.2)]) dX11_twins_60 rfl rfl (by decide) rfl ?_
    refine M_goto (pc := 63) (tgt := 4) dX11_twins_63 (by decide) ?_
    refine M_mask (pc := 4) [true, true, true, false] rfl ?_
    exact ih r6.1 (x2 + (1 : Int32)) _ h
set_option maxRecDepth 4000 in
set_option maxHeartbeats 4000000 in
theorem C_X11_twins {g : gX} {d : Nat} {P : Nat → Nat → Option Nat} {I : HI} {J : HJ} (hp : Wp P) {r : Int32} (h : F_X11_twins I = some r) : Cm g mX11_twins (d + 1) [.ref 1] (NT, I, J, P) (some (.int r)) (NT, I, J, P) := by
  unfold F_X11_twins at h
  refine Cm.of (by decide) (by simp [Value.category]) (Nat.le_of_ble_eq_true rfl) (Nat.le_refl _) (ls := [some (.ref 1), none, none, none]) rfl ?_
  refine M_iconst (pc := 0) (v := 0) dX11_twins_0 (by decide) ?_
  refine M_istore_n (pc := 1) (ls' := [some (.ref 1), some (.int (0 : Int32)), none, none]) dX11_twins_1 (by decide) rfl ?_
  refine M_iconst (pc := 2) (v := 0) dX11_twins_2 (by decide) ?_
  refine M_istore_n (pc := 3) (ls' := [some (.ref 1), some (.int (0 : Int32)), some (.int (0 : Int32)), none]) dX11_twins_3 (by decide) rfl ?_
  exact LC_X11_twins_4 (P := P) hp (0 : Int32) (0 : Int32) _ h
