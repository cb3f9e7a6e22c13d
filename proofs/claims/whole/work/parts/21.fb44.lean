def L_X11_sad_6 (x1 : Int32) (x2 : Int32) (x3 : Int32) (I : HI) : Option (Int32 × HI) :=
  if (I 4 0) ≤ x3 then some (x1, I) else (F_X11_turnsNow I x3) >>= fun r2 => if x1 = (-1 : Int32) then L_X11_sad_6 x3 r2.1 (x3 + (1 : Int32)) r2.2 else if r2.1 ≤ x2 then L_X11_sad_6 x1 x2 (x3 + (1 : Int32)) r2.2 else L_X11_sad_6 x3 r2.1 (x3 + (1 : Int32)) r2.2
partial_fixpoint
def F_X11_sad (I : HI) : Option (Int32 × HI) :=
  L_X11_sad_6 (-1 : Int32) (0 : Int32) (0 : Int32) I
set_option maxRecDepth 4000 in
set_option maxHeartbeats 4000000 in
theorem LC_X11_sad_6 {g : gX} {d : Nat} {P : Nat → Nat → Option Nat} {J : HJ}  (hp : Wp P) : ∀ (x1 : Int32) (x2 : Int32) (x3 : Int32) (I : HI) (r : Int32 × HI), L_X11_sad_6  x1 x2 x3 I = some r → M g mX11_sad (d + 5) (NT, NT, 0) ((.inl (some (.int r.1))), (NT, r.2, J, P)) 6 [some (.ref 1), some (.int x1), some (.int x2), some (.int x3), none] [] (NT, I, J, P) := by
  refine L_X11_sad_6.partial_correctness  (fun x1 x2 x3 I r => M g mX11_sad (d + 5) (NT, NT, 0) ((.inl (some (.int r.1))), (NT, r.2, J, P)) 6 [some (.ref 1), some (.int x1), some (.int x2), some (.int x3), none] [] (NT, I, J, P)) ?_
  intro f ih x1 x2 x3 I r h
  refine M_iload_n (pc := 6) dX11_sad_6 rfl ?_
  refine M_aload_n (pc := 7) dX11_sad_7 rfl ?_
  refine M_getR (pc := 8) dX11_sad_8 f_X11_23 at_10 (gc_1_3 hp).1 ?_
  refine M_getR (pc := 11) dX11_sad_11 f_X11_148 (gc_1_3 hp).2 (gc_3_0 hp).1 ?_
  refine M_getI (pc := 14) dX11_sad_14 f_X11_211 (gc_3_0 hp).2 ?_
  refine M_icmp_ge (pc := 17) (tgt := 49) dX11_sad_17 (by decide) (fun hc1 => ?_) (fun hc1 => ?_)
  · have h := (if_pos hc1).symm.trans h
    refine M_iload_n (pc := 49) dX11_sad_49 rfl ?_
    obtain rfl := Option.some.inj h
    exact M_iret (pc := 50) dX11_sad_50 rfl rfl rfl rfl
  · have h := (if_neg hc1).symm.trans h
    refine M_aload_n (pc := 20) dX11_sad_20 rfl ?_
    refine M_iload_n (pc := 21) dX11_sad_21 rfl ?_
    obtain ⟨r2, hr3, h⟩ := bnd h
    refine M_callVi (pc := 22) dX11_sad_22 v_X11_187 rfl rfl at_10 (Nat.le_of_ble_eq_true rfl) (C_X11_turnsNow (d := d + 0) hp hr3) (Nat.le_refl _) ?_
    refine M_istore (pc := 25) (ls' := [some (.ref 1), some (.int x1), some (.int x2), some (.int x3), some (.int r2.1)]) dX11_sad_25 (by decide) rfl ?_
    refine M_iload_n (pc := 27) dX11_sad_27 rfl ?_
    refine M_iconst (pc := 28) (v := -1) dX11_sad_28 (by decide) ?_
    refine M_icmp_eq (pc := 29) (tgt := 38) dX11_sad_29 (by decide) (fun hc4 => ?_) (fun hc4 => ?_)
    · have h := (if_pos hc4).symm.trans h
      refine M_iload (pc := 38) dX11_sad_38 rfl ?_
      refine M_istore_n (pc := 40) (ls' := [some (.ref 1), some (.int x1), some (.int r2.1), some (.int x3), some (.int r2.1)]) dX11_sad_40 (by decide) rfl ?_
      refine M_iload_n (pc := 41) dX11_sad_41 rfl ?_
      refine M_istore_n (pc := 42) (ls' := [some (.ref 1), some (.int x3), some (.int r2.1), some (.int x3), some (.int r2.1)]) dX11_sad_42 (by decide) rfl ?_
      refine M_iinc (pc := 43) (v := (x3 + (1 : Int32))) (ls' := [some (.ref 1), some (.int x3), some (.int r2.1), some (.int (x3 + (1 : Int32))), some (.int r2.1)]) dX11_sad_43 rfl rfl (by decide) rfl ?_
      refine M_goto (pc := 46) (tgt := 6) dX11_sad_46 (by decide) ?_
      refine M_mask (pc := 6) [true, true, true, true, false] rfl ?_
      exact ih x3 r2.1 (x3 + (1 : Int32)) r2.2 _ h
    · have h := (if_neg hc4).symm.trans h
      refine M_iload (pc := 32) dX11_sad_32 rfl ?_
      refine M_iload_n (pc := 34) dX11_sad_34 rfl ?_
      refine M_icmp_le (pc := 35) (tgt := 43) dX11_sad_35 (by decide) (fun hc5 => ?_) (fun hc5 => ?_)
      · have h := (if_pos hc5).symm.trans h
        refine M_iinc (pc := 43) (v := (x3 + (1 : Int32))) (ls' := [some (.ref 1), some (.int x1), some (.int x2), some (.int (x3 + (1 : Int32))), some (.int r2.1)]) dX11_sad_43 rfl rfl (by decide) rfl ?_
        refine M_goto (pc := 46) (tgt := 6) dX11_sad_46 (by decide) ?_
        refine M_mask (pc := 6) [true, true, true, true, false] rfl ?_
        exact ih x1 x2 (x3 + (1 : Int32)) r2.2 _ h
      · have h := (if_neg hc5).symm.trans h
        refine M_iload (pc := 38) dX11_sad_38 rfl ?_
        refine M_istore_n (pc := 40) (ls' := [some (.ref 1), some (.int x1), some (.int r2.1), some (.int x3), some (.int r2.1)]) dX11_sad_40 (by decide) rfl ?_
        refine M_iload_n (pc := 41) dX11_sad_41 rfl ?_
        refine M_istore_n (pc := 42) (ls' := [some (.ref 1), some (.int x3), some (.int r2.1), some (.int x3), some (.int r2.1)]) dX11_sad_42 (by decide) rfl ?_
        refine M_iinc (pc := 43) (v := (x3 + (1 : Int32))) (ls' := [some (.ref 1), some (.int x3), some (.int r2.1), some (.int (x3 + (1 : Int32))), some (.int r2.1)]) dX11_sad_43 rfl rfl (by decide) rfl ?_
        refine M_goto (pc := 46) (tgt := 6) dX11_sad_46 (by decide) ?_
        refine M_mask (pc := 6) [true, true, true, true, false] rfl ?_
        exact ih x3 r2.1 (x3 + (1 : Int32)) r2.2 _ h
set_option maxRecDepth 4000 in
set_option maxHeartbeats 4000000 in
theorem C_X11_sad {g : gX} {d : Nat} {P : Nat → Nat → Option Nat} {I : HI} {J : HJ} (hp : Wp P) {r : Int32 × HI} (h : F_X11_sad I = some r) : Cm g mX11_sad (d + 5) [.ref 1] (NT, I, J, P) (some (.int r.1)) (NT, r.2, J, P) := by
  unfold F_X11_sad at h
  refine Cm.of (by decide) (by simp [Value.category]) (Nat.le_of_ble_eq_true rfl) (Nat.le_refl _) (ls := [some (.ref 1), none, none, none, none]) rfl ?_
  refine M_iconst (pc := 0) (v := -1) dX11_sad_0 (by decide) ?_
  refine M_istore_n (pc := 1) (ls' := [some (.ref 1), some (.int (-1 : Int32)), none, none, none]) dX11_sad_1 (by decide) rfl ?_
  refine M_iconst (pc := 2) (v := 0) dX11_sad_2 (by decide) ?_
  refine M_istore_n (pc := 3) (ls' := [some (.ref 1), some (.int (-1 : Int32)), some (.int (0 : Int32)), none, none]) dX11_sad_3 (by decide) rfl ?_
  refine M_iconst (pc := 4) (v := 0) dX11_sad_4 (by decide) ?_
  refine M_istore_n (pc := 5) (ls' := [some (.ref 1), some (.int (-1 : Int32)), some (.int (0 : Int32)), some (.int (0 : Int32)), none]) dX11_sad_5 (by decide) rfl ?_
  exact LC_X11_sad_6 (P := P) hp (-1 : Int32) (0 : Int32) (0 : Int32) I _ h
