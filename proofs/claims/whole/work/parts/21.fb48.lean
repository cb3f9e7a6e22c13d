def L_X11_tryEvenings_21 (x1 : Int32) (x3 : Int32) (I : HI) : Option (HI) :=
  if x1 ≤ x3 then some I else (F_X11_passEvening I 130 (0 : Int32)) >>= fun r4 => L_X11_tryEvenings_21 x1 (x3 + (1 : Int32)) r4.2
partial_fixpoint
def F_X11_tryEvenings (I : HI) (x1 : Int32) (x2 : Int32) : Option (HI) :=
  (F_X3_copy I 130 3) >>= fun r1 => L_X11_tryEvenings_21 x1 (0 : Int32) (up2 r1 130 14 x2)
set_option maxRecDepth 4000 in
set_option maxHeartbeats 4000000 in
theorem LC_X11_tryEvenings_21 {g : gX} {d : Nat} {P : Nat → Nat → Option Nat} {J : HJ} {x1 : Int32} (hp : Wp P) : ∀ (x3 : Int32) (I : HI) (r : HI), L_X11_tryEvenings_21 x1 x3 I = some r → M g mX11_tryEvenings (d + 6) (NT, NT, 0) ((.inl none), (NT, r, J, P)) 21 [some (.ref 1), some (.int x1), none, some (.int x3)] [] (NT, I, J, P) := by
  refine L_X11_tryEvenings_21.partial_correctness x1 (fun x3 I r => M g mX11_tryEvenings (d + 6) (NT, NT, 0) ((.inl none), (NT, r, J, P)) 21 [some (.ref 1), some (.int x1), none, some (.int x3)] [] (NT, I, J, P)) ?_
  intro f ih x3 I r h
  refine M_iload_n (pc := 21) dX11_tryEvenings_21 rfl ?_
  refine M_iload_n (pc := 22) dX11_tryEvenings_22 rfl ?_
  refine M_icmp_ge (pc := 23) (tgt := 42) dX11_tryEvenings_23 (by decide) (fun hc3 => ?_) (fun hc3 => ?_)
  · have h := (if_pos hc3).symm.trans h
    obtain rfl := Option.some.inj h
    exact M_vret (pc := 42) dX11_tryEvenings_42 rfl rfl rfl
  · have h := (if_neg hc3).symm.trans h
    refine M_aload_n (pc := 26) dX11_tryEvenings_26 rfl ?_
    refine M_aload_n (pc := 27) dX11_tryEvenings_27 rfl ?_
    refine M_getR (pc := 28) dX11_tryEvenings_28 f_X11_61 at_10 (gc_1_11 hp).1 ?_
    refine M_iconst (pc := 31) (v := 0) dX11_tryEvenings_31 (by decide) ?_
    obtain ⟨r4, hr5, h⟩ := bnd h
    refine M_callVi (pc := 32) dX11_tryEvenings_32 v_X11_285 rfl rfl at_10 (Nat.le_of_ble_eq_true rfl) (C_X11_passEvening (d := d + 0) hp (gc_1_11 hp).2 hr5) (Nat.le_refl _) ?_
    refine M_pop (pc := 35) dX11_tryEvenings_35 rfl ?_
    refine M_iinc (pc := 36) (v := (x3 + (1 : Int32))) (ls' := [some (.ref 1), some (.int x1), none, some (.int (x3 + (1 : Int32)))]) dX11_tryEvenings_36 rfl rfl (by decide) rfl ?_
    refine M_goto (pc := 39) (tgt := 21) dX11_tryEvenings_39 (by decide) ?_
    exact ih (x3 + (1 : Int32)) r4.2 _ h
set_option maxRecDepth 4000 in
set_option maxHeartbeats 4000000 in
theorem C_X11_tryEvenings {g : gX} {d : Nat} {P : Nat → Nat → Option Nat} {I : HI} {x1 : Int32} {x2 : Int32} {J : HJ} (hp : Wp P) {r : HI} (h : F_X11_tryEvenings I x1 x2 = some r) : Cm g mX11_tryEvenings (d + 6) [.ref 1, .int x1, .int x2] (NT, I, J, P) none (NT, r, J, P) := by
  unfold F_X11_tryEvenings at h
  refine Cm.of (by decide) (by simp [Value.category]) (Nat.le_of_ble_eq_true rfl) (Nat.le_refl _) (ls := [some (.ref 1), some (.int x1), some (.int x2), none]) rfl ?_
  refine M_aload_n (pc := 0) dX11_tryEvenings_0 rfl ?_
  refine M_getR (pc := 1) dX11_tryEvenings_1 f_X11_61 at_10 (gc_1_11 hp).1 ?_
  refine M_aload_n (pc := 4) dX11_tryEvenings_4 rfl ?_
  refine M_getR (pc := 5) dX11_tryEvenings_5 f_X11_23 at_10 (gc_1_3 hp).1 ?_
  obtain ⟨r1, hr2, h⟩ := bnd h
  refine M_callVv (pc := 8) dX11_tryEvenings_8 v_X11_106 rfl rfl (gc_1_11 hp).2 (Nat.le_of_ble_eq_true rfl) (C_X3_copy (d := d + 3) hp (gc_1_11 hp).2 (gc_1_3 hp).2 hr2) (Nat.le_refl _) ?_
  refine M_aload_n (pc := 11) dX11_tryEvenings_11 rfl ?_
  refine M_getR (pc := 12) dX11_tryEvenings_12 f_X11_61 at_10 (gc_1_11 hp).1 ?_
  refine M_iload_n (pc := 15) dX11_tryEvenings_15 rfl ?_
  refine M_putI (pc := 16) dX11_tryEvenings_16 f_X11_389 (gc_1_11 hp).2 rfl ⟨rfl, rfl⟩ ?_
  refine M_iconst (pc := 19) (v := 0) dX11_tryEvenings_19 (by decide) ?_
  refine M_istore_n (pc := 20) (ls' := [some (.ref 1), some (.int x1), some (.int x2), some (.int (0 : Int32))]) dX11_tryEvenings_20 (by decide) rfl ?_
  refine M_mask (pc := 21) [true, true, false, true] rfl ?_
  exact LC_X11_tryEvenings_21 (P := P) hp (0 : Int32) (up2 r1 130 14 x2) _ h
