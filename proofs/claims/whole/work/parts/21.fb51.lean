def L_X11_evenings_41 (x1 : Int32) (x2 : Int32) (x3 : Int32) (I : HI) : Option ((Int32 ⊕ String) × HI) :=
  if x1 ≤ x3 then some ((Sum.inl x2), I) else (F_X11_passEvening I 3 (1 : Int32)) >>= fun r6 => L_X11_evenings_41 x1 (x2 + r6.1) (x3 + (1 : Int32)) r6.2
partial_fixpoint
def F_X11_evenings (I : HI) (x1 : Int32) : Option ((Int32 ⊕ String) × HI) :=
  if x1 < (1 : Int32) then some ((Sum.inr "java/lang/IllegalArgumentException"), I) else if x1 ≤ (60 : Int32) then (F_X0_remember I 3 15) >>= fun r3 => L_X11_evenings_41 x1 (0 : Int32) (0 : Int32) r3 else some ((Sum.inr "java/lang/IllegalArgumentException"), I)
set_option maxRecDepth 4000 in
set_option maxHeartbeats 4000000 in
theorem LC_X11_evenings_41 {g : gX} {d : Nat} {P : Nat → Nat → Option Nat} {J : HJ} {x1 : Int32} (hp : Wp P) : ∀ (x2 : Int32) (x3 : Int32) (I : HI) (r : (Int32 ⊕ String) × HI), L_X11_evenings_41 x1 x2 x3 I = some r → M g mX11_evenings (d + 6) (NT, NT, 1) ((thr_i r.1), (NT, r.2, J, P)) 41 [some (.ref 1), some (.int x1), some (.int x2), some (.int x3)] [] (NT, I, J, P) := by
  refine L_X11_evenings_41.partial_correctness x1 (fun x2 x3 I r => M g mX11_evenings (d + 6) (NT, NT, 1) ((thr_i r.1), (NT, r.2, J, P)) 41 [some (.ref 1), some (.int x1), some (.int x2), some (.int x3)] [] (NT, I, J, P)) ?_
  intro f ih x2 x3 I r h
  refine M_iload_n (pc := 41) dX11_evenings_41 rfl ?_
  refine M_iload_n (pc := 42) dX11_evenings_42 rfl ?_
  refine M_icmp_ge (pc := 43) (tgt := 64) dX11_evenings_43 (by decide) (fun hc5 => ?_) (fun hc5 => ?_)
  · have h := (if_pos hc5).symm.trans h
    refine M_iload_n (pc := 64) dX11_evenings_64 rfl ?_
    obtain rfl := Option.some.inj h
    exact M_iret (pc := 65) dX11_evenings_65 rfl rfl rfl rfl
  · have h := (if_neg hc5).symm.trans h
    refine M_iload_n (pc := 46) dX11_evenings_46 rfl ?_
    refine M_aload_n (pc := 47) dX11_evenings_47 rfl ?_
    refine M_aload_n (pc := 48) dX11_evenings_48 rfl ?_
    refine M_getR (pc := 49) dX11_evenings_49 f_X11_23 at_10 (gc_1_3 hp).1 ?_
    refine M_iconst (pc := 52) (v := 1) dX11_evenings_52 (by decide) ?_
    obtain ⟨r6, hr7, h⟩ := bnd h
    refine M_callVi (pc := 53) dX11_evenings_53 v_X11_285 rfl rfl at_10 (Nat.le_of_ble_eq_true rfl) (C_X11_passEvening (d := d + 0) hp (gc_1_3 hp).2 hr7) (Nat.le_refl _) ?_
    refine M_iadd (pc := 56) dX11_evenings_56 ?_
    refine M_istore_n (pc := 57) (ls' := [some (.ref 1), some (.int x1), some (.int (x2 + r6.1)), some (.int x3)]) dX11_evenings_57 (by decide) rfl ?_
    refine M_iinc (pc := 58) (v := (x3 + (1 : Int32))) (ls' := [some (.ref 1), some (.int x1), some (.int (x2 + r6.1)), some (.int (x3 + (1 : Int32)))]) dX11_evenings_58 rfl rfl (by decide) rfl ?_
    refine M_goto (pc := 61) (tgt := 41) dX11_evenings_61 (by decide) ?_
    exact ih (x2 + r6.1) (x3 + (1 : Int32)) r6.2 _ h
set_option maxRecDepth 4000 in
set_option maxHeartbeats 4000000 in
theorem C_X11_evenings {g : gX} {d : Nat} {P : Nat → Nat → Option Nat} {I : HI} {x1 : Int32} {J : HJ} (hp : Wp P) {r : (Int32 ⊕ String) × HI} (h : F_X11_evenings I x1 = some r) : Cx g mX11_evenings (d + 6) [.ref 1, .int x1] (NT, I, J, P) ((thr_i r.1), (NT, r.2, J, P)) := by
  unfold F_X11_evenings at h
  refine Cx.of (by decide) (by simp [Value.category]) (Nat.le_of_ble_eq_true rfl) (Nat.le_refl _) (ls := [some (.ref 1), some (.int x1), none, none]) rfl ?_
  refine M_iload_n (pc := 0) dX11_evenings_0 rfl ?_
  refine M_iconst (pc := 1) (v := 1) dX11_evenings_1 (by decide) ?_
  refine M_icmp_lt (pc := 2) (tgt := 11) dX11_evenings_2 (by decide) (fun hc1 => ?_) (fun hc1 => ?_)
  · have h := (if_pos hc1).symm.trans h
    obtain rfl := Option.some.inj h
    exact M_throwW (pc := 11) dX11_evenings_11 dX11_evenings_14 dX11_evenings_15 dX11_evenings_18 dX11_evenings_21 ⟨rfl, rfl, rfl, rfl⟩ x_X11_118 (j := 11) (by decide) str_X11_283 rfl rfl
  · have h := (if_neg hc1).symm.trans h
    refine M_iload_n (pc := 5) dX11_evenings_5 rfl ?_
    refine M_bipush (pc := 6) (v := 60) dX11_evenings_6 (by decide) ?_
    refine M_icmp_le (pc := 8) (tgt := 22) dX11_evenings_8 (by decide) (fun hc2 => ?_) (fun hc2 => ?_)
    · have h := (if_pos hc2).symm.trans h
      refine M_aload_n (pc := 22) dX11_evenings_22 rfl ?_
      refine M_getR (pc := 23) dX11_evenings_23 f_X11_44 at_10 (gc_1_6 hp).1 ?_
      refine M_aload_n (pc := 26) dX11_evenings_26 rfl ?_
      refine M_getR (pc := 27) dX11_evenings_27 f_X11_23 at_10 (gc_1_3 hp).1 ?_
      refine M_aload_n (pc := 30) dX11_evenings_30 rfl ?_
      refine M_getR (pc := 31) dX11_evenings_31 f_X11_37 at_10 (gc_1_5 hp).1 ?_
      obtain ⟨r3, hr4, h⟩ := bnd h
      refine M_callVv (pc := 34) dX11_evenings_34 v_X11_228 rfl rfl (gc_1_6 hp).2 (Nat.le_of_ble_eq_true rfl) (C_X0_remember (d := d + 2) hp (gc_1_3 hp).2 (gc_1_5 hp).2 hr4) (Nat.le_refl _) ?_
      refine M_iconst (pc := 37) (v := 0) dX11_evenings_37 (by decide) ?_
      refine M_istore_n (pc := 38) (ls' := [some (.ref 1), some (.int x1), some (.int (0 : Int32)), none]) dX11_evenings_38 (by decide) rfl ?_
      refine M_iconst (pc := 39) (v := 0) dX11_evenings_39 (by decide) ?_
      refine M_istore_n (pc := 40) (ls' := [some (.ref 1), some (.int x1), some (.int (0 : Int32)), some (.int (0 : Int32))]) dX11_evenings_40 (by decide) rfl ?_
      exact LC_X11_evenings_41 (P := P) hp (0 : Int32) (0 : Int32) r3 _ h
    · have h := (if_neg hc2).symm.trans h
      obtain rfl := Option.some.inj h
      exact M_throwW (pc := 11) dX11_evenings_11 dX11_evenings_14 dX11_evenings_15 dX11_evenings_18 dX11_evenings_21 ⟨rfl, rfl, rfl, rfl⟩ x_X11_118 (j := 11) (by decide) str_X11_283 rfl rfl
