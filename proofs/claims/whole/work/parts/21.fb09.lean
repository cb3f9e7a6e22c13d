def L_X11_arePairs_2 (I : HI) (x1 : Int32) (x2 : Int32) : Option (Int32) :=
  if x1 ≤ x2 then some (1 : Int32) else if (400 : Int32) ≤ (x2 + (1 : Int32)) then some (1 : Int32) else (ald 400 (I 2) x2) >>= fun v3 => if (99 : Int32) < v3 then some (0 : Int32) else (ald 400 (I 2) (x2 + (1 : Int32))) >>= fun v6 => (F_X11_isPlace I v6) >>= fun r8 => if r8 = 0 then some (0 : Int32) else L_X11_arePairs_2 I x1 (x2 + (2 : Int32))
partial_fixpoint
def F_X11_arePairs (I : HI) (x1 : Int32) : Option (Int32) :=
  L_X11_arePairs_2 I x1 (0 : Int32)
set_option maxRecDepth 4000 in
set_option maxHeartbeats 4000000 in
theorem LC_X11_arePairs_2 {g : gX} {d : Nat} {P : Nat → Nat → Option Nat} {J : HJ} {I : HI} {x1 : Int32} (hp : Wp P) : ∀ (x2 : Int32) (r : Int32), L_X11_arePairs_2 I x1 x2 = some r → M g mX11_arePairs (d + 1) (NT, NT, 0) ((.inl (some (.int r))), (NT, I, J, P)) 2 [some (.ref 1), some (.int x1), some (.int x2)] [] (NT, I, J, P) := by
  refine L_X11_arePairs_2.partial_correctness I x1 (fun x2 r => M g mX11_arePairs (d + 1) (NT, NT, 0) ((.inl (some (.int r))), (NT, I, J, P)) 2 [some (.ref 1), some (.int x1), some (.int x2)] [] (NT, I, J, P)) ?_
  intro f ih x2 r h
  refine M_iload_n (pc := 2) dX11_arePairs_2 rfl ?_
  refine M_iload_n (pc := 3) dX11_arePairs_3 rfl ?_
  refine M_icmp_ge (pc := 4) (tgt := 49) dX11_arePairs_4 (by decide) (fun hc1 => ?_) (fun hc1 => ?_)
  · have h := (if_pos hc1).symm.trans h
    refine M_iconst (pc := 49) (v := 1) dX11_arePairs_49 (by decide) ?_
    obtain rfl := Option.some.inj h
    exact M_iret (pc := 50) dX11_arePairs_50 rfl rfl rfl rfl
  · have h := (if_neg hc1).symm.trans h
    refine M_iload_n (pc := 7) dX11_arePairs_7 rfl ?_
    refine M_iconst (pc := 8) (v := 1) dX11_arePairs_8 (by decide) ?_
    refine M_iadd (pc := 9) dX11_arePairs_9 ?_
    refine M_sipush (pc := 10) (v := 400) dX11_arePairs_10 (by decide) ?_
    refine M_icmp_ge (pc := 13) (tgt := 49) dX11_arePairs_13 (by decide) (fun hc2 => ?_) (fun hc2 => ?_)
    · have h := (if_pos hc2).symm.trans h
      refine M_iconst (pc := 49) (v := 1) dX11_arePairs_49 (by decide) ?_
      obtain rfl := Option.some.inj h
      exact M_iret (pc := 50) dX11_arePairs_50 rfl rfl rfl rfl
    · have h := (if_neg hc2).symm.trans h
      refine M_aload_n (pc := 16) dX11_arePairs_16 rfl ?_
      refine M_getR (pc := 17) dX11_arePairs_17 f_X11_9 at_10 (gc_1_0 hp).1 ?_
      refine M_iload_n (pc := 20) dX11_arePairs_20 rfl ?_
      obtain ⟨v3, hv4, h⟩ := bnd h
      refine M_aldI (pc := 21) dX11_arePairs_21 (gc_1_0 hp).2 hv4 ?_
      refine M_bipush (pc := 22) (v := 99) dX11_arePairs_22 (by decide) ?_
      refine M_icmp_gt (pc := 24) (tgt := 41) dX11_arePairs_24 (by decide) (fun hc5 => ?_) (fun hc5 => ?_)
      · have h := (if_pos hc5).symm.trans h
        refine M_iconst (pc := 41) (v := 0) dX11_arePairs_41 (by decide) ?_
        obtain rfl := Option.some.inj h
        exact M_iret (pc := 42) dX11_arePairs_42 rfl rfl rfl rfl
      · have h := (if_neg hc5).symm.trans h
        refine M_aload_n (pc := 27) dX11_arePairs_27 rfl ?_
        refine M_getR (pc := 28) dX11_arePairs_28 f_X11_9 at_10 (gc_1_0 hp).1 ?_
        refine M_iload_n (pc := 31) dX11_arePairs_31 rfl ?_
        refine M_iconst (pc := 32) (v := 1) dX11_arePairs_32 (by decide) ?_
        refine M_iadd (pc := 33) dX11_arePairs_33 ?_
        obtain ⟨v6, hv7, h⟩ := bnd h
        refine M_aldI (pc := 34) dX11_arePairs_34 (gc_1_0 hp).2 hv7 ?_
        obtain ⟨r8, hr9, h⟩ := bnd h
        refine M_callSi (pc := 35) dX11_arePairs_35 s_X11_255 rfl rfl (Nat.le_of_ble_eq_true rfl) (C_X11_isPlace (d := d + 0) hp hr9) (Nat.le_refl _) ?_
        refine M_if_ne (pc := 38) (tgt := 43) dX11_arePairs_38 (by decide) (fun hc10 => ?_) (fun hc10 => ?_)
        · have h := (if_neg hc10).symm.trans h
          refine M_iinc (pc := 43) (v := (x2 + (2 : Int32))) (ls' := [some (.ref 1), some (.int x1), some (.int (x2 + (2 : Int32)))]) dX11_arePairs_43 rfl rfl (by decide) rfl ?_
          refine M_goto (pc := 46) (tgt := 2) dX11_arePairs_46 (by decide) ?_
          exact ih (x2 + (2 : Int32)) _ h
        · have h := (if_pos hc10).symm.trans h
          refine M_iconst (pc := 41) (v := 0) dX11_arePairs_41 (by decide) ?_
          obtain rfl := Option.some.inj h
          exact M_iret (pc := 42) dX11_arePairs_42 rfl rfl rfl rfl
set_option maxRecDepth 4000 in
set_option maxHeartbeats 4000000 in
theorem C_X11_arePairs {g : gX} {d : Nat} {P : Nat → Nat → Option Nat} {I : HI} {x1 : Int32} {J : HJ} (hp : Wp P) {r : Int32} (h : F_X11_arePairs I x1 = some r) : Cm g mX11_arePairs (d + 1) [.ref 1, .int x1] (NT, I, J, P) (some (.int r)) (NT, I, J, P) := by
  unfold F_X11_arePairs at h
  refine Cm.of (by decide) (by simp [Value.category]) (Nat.le_of_ble_eq_true rfl) (Nat.le_refl _) (ls := [some (.ref 1), some (.int x1), none]) rfl ?_
  refine M_iconst (pc := 0) (v := 0) dX11_arePairs_0 (by decide) ?_
  refine M_istore_n (pc := 1) (ls' := [some (.ref 1), some (.int x1), some (.int (0 : Int32))]) dX11_arePairs_1 (by decide) rfl ?_
  exact LC_X11_arePairs_2 (P := P) hp (0 : Int32) _ h
