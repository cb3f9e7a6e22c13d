def L_X11_lover_6 (I : HI) (x1 : Int32) (x2 : Int32) (x3 : Int32) : Option (Int32) :=
  if (7 : Int32) < x3 then some x1 else (F_X1_hadWith I 4 x3) >>= fun r2 => (F_J6_bitCount_0f7a4 I r2) >>= fun r4 => if r4 ≤ x2 then L_X11_lover_6 I x1 x2 (x3 + (1 : Int32)) else L_X11_lover_6 I x3 r4 (x3 + (1 : Int32))
partial_fixpoint
def F_X11_lover (I : HI) : Option (Int32) :=
  L_X11_lover_6 I (-1 : Int32) (0 : Int32) (0 : Int32)
set_option maxRecDepth 4000 in
set_option maxHeartbeats 4000000 in
theorem LC_X11_lover_6 {g : gX} {d : Nat} {P : Nat → Nat → Option Nat} {J : HJ} {I : HI} (hp : Wp P) : ∀ (x1 : Int32) (x2 : Int32) (x3 : Int32) (r : Int32), L_X11_lover_6 I x1 x2 x3 = some r → M g mX11_lover (d + 1) (NT, NT, 0) ((.inl (some (.int r))), (NT, I, J, P)) 6 [some (.ref 1), some (.int x1), some (.int x2), some (.int x3), none] [] (NT, I, J, P) := by
  refine L_X11_lover_6.partial_correctness I (fun x1 x2 x3 r => M g mX11_lover (d + 1) (NT, NT, 0) ((.inl (some (.int r))), (NT, I, J, P)) 6 [some (.ref 1), some (.int x1), some (.int x2), some (.int x3), none] [] (NT, I, J, P)) ?_
  intro f ih x1 x2 x3 r h
  refine M_iload_n (pc := 6) dX11_lover_6 rfl ?_
  refine M_bipush (pc := 7) (v := 7) dX11_lover_7 (by decide) ?_
  refine M_icmp_gt (pc := 9) (tgt := 45) dX11_lover_9 (by decide) (fun hc1 => ?_) (fun hc1 => ?_)
  · have h := (if_pos hc1).symm.trans h
    refine M_iload_n (pc := 45) dX11_lover_45 rfl ?_
    obtain rfl := Option.some.inj h
    exact M_iret (pc := 46) dX11_lover_46 rfl rfl rfl rfl
  · have h := (if_neg hc1).symm.trans h
    refine M_aload_n (pc := 12) dX11_lover_12 rfl ?_
    refine M_getR (pc := 13) dX11_lover_13 f_X11_23 at_10 (gc_1_3 hp).1 ?_
    refine M_getR (pc := 16) dX11_lover_16 f_X11_148 (gc_1_3 hp).2 (gc_3_0 hp).1 ?_
    refine M_iload_n (pc := 19) dX11_lover_19 rfl ?_
    obtain ⟨r2, hr3, h⟩ := bnd h
    refine M_callVi (pc := 20) dX11_lover_20 v_X11_368 rfl rfl (gc_3_0 hp).2 (Nat.le_of_ble_eq_true rfl) (C_X1_hadWith (d := d + 0) hp (gc_3_0 hp).2 hr3) (Nat.le_refl _) ?_
    obtain ⟨r4, hr5, h⟩ := bnd h
    refine M_callSi (pc := 23) dX11_lover_23 s_X11_311 rfl rfl (Nat.le_of_ble_eq_true rfl) (C_J6_bitCount_0f7a4 (d := d + 0) hp hr5) (Nat.le_refl _) ?_
    refine M_istore (pc := 26) (ls' := [some (.ref 1), some (.int x1), some (.int x2), some (.int x3), some (.int r4)]) dX11_lover_26 (by decide) rfl ?_
    refine M_iload (pc := 28) dX11_lover_28 rfl ?_
    refine M_iload_n (pc := 30) dX11_lover_30 rfl ?_
    refine M_icmp_le (pc := 31) (tgt := 39) dX11_lover_31 (by decide) (fun hc6 => ?_) (fun hc6 => ?_)
    · have h := (if_pos hc6).symm.trans h
      refine M_iinc (pc := 39) (v := (x3 + (1 : Int32))) (ls' := [some (.ref 1), some (.int x1), some (.int x2), some (.int (x3 + (1 : Int32))), some (.int r4)]) dX11_lover_39 rfl rfl (by decide) rfl ?_
      refine M_goto (pc := 42) (tgt := 6) dX11_lover_42 (by decide) ?_
      refine M_mask (pc := 6) [true, true, true, true, false] rfl ?_
      exact ih x1 x2 (x3 + (1 : Int32)) _ h
    · have h := (if_neg hc6).symm.trans h
      refine M_iload (pc := 34) dX11_lover_34 rfl ?_
      refine M_istore_n (pc := 36) (ls' := [some (.ref 1), some (.int x1), some (.int r4), some (.int x3), some (.int r4)]) dX11_lover_36 (by decide) rfl ?_
      refine M_iload_n (pc := 37) dX11_lover_37 rfl ?_
      refine M_istore_n (pc := 38) (ls' := [some (.ref 1), some (.int x3), some (.int r4), some (.int x3), some (.int r4)]) dX11_lover_38 (by decide) rfl ?_
      refine M_iinc (pc := 39) (v := (x3 + (1 : Int32))) (ls' := [some (.ref 1), some (.int x3), some (.int r4), some (.int (x3 + (1 : Int32))), some (.int r4)]) dX11_lover_39 rfl rfl (by decide) rfl ?_
      refine M_goto (pc := 42) (tgt := 6) dX11_lover_42 (by decide) ?_
      refine M_mask (pc := 6) [true, true, true, true, false] rfl ?_
      exact ih x3 r4 (x3 + (1 : Int32)) _ h
set_option maxRecDepth 4000 in
set_option maxHeartbeats 4000000 in
theorem C_X11_lover {g : gX} {d : Nat} {P : Nat → Nat → Option Nat} {I : HI} {J : HJ} (hp : Wp P) {r : Int32} (h : F_X11_lover I = some r) : Cm g mX11_lover (d + 1) [.ref 1] (NT, I, J, P) (some (.int r)) (NT, I, J, P) := by
  unfold F_X11_lover at h
  refine Cm.of (by decide) (by simp [Value.category]) (Nat.le_of_ble_eq_true rfl) (Nat.le_refl _) (ls := [some (.ref 1), none, none, none, none]) rfl ?_
  refine M_iconst (pc := 0) (v := -1) dX11_lover_0 (by decide) ?_
  refine M_istore_n (pc := 1) (ls' := [some (.ref 1), some (.int (-1 : Int32)), none, none, none]) dX11_lover_1 (by decide) rfl ?_
  refine M_iconst (pc := 2) (v := 0) dX11_lover_2 (by decide) ?_
  refine M_istore_n (pc := 3) (ls' := [some (.ref 1), some (.int (-1 : Int32)), some (.int (0 : Int32)), none, none]) dX11_lover_3 (by decide) rfl ?_
  refine M_iconst (pc := 4) (v := 0) dX11_lover_4 (by decide) ?_
  refine M_istore_n (pc := 5) (ls' := [some (.ref 1), some (.int (-1 : Int32)), some (.int (0 : Int32)), some (.int (0 : Int32)), none]) dX11_lover_5 (by decide) rfl ?_
  exact LC_X11_lover_6 (P := P) hp (-1 : Int32) (0 : Int32) (0 : Int32) _ h
