def F_X11_trial (I : HI) (x1 : Int32) (x2 : Int32) : Option ((Int32 ⊕ String) × HI) :=
  if x1 < 0 then some ((Sum.inr "java/lang/IllegalArgumentException"), I) else if x1 ≤ (60 : Int32) then (F_X11_tryEvenings I x1 (I 3 14)) >>= fun r3 => if x2 = 0 then some ((Sum.inl (r3 130 4)), r3) else some ((Sum.inl (r3 130 13)), r3) else some ((Sum.inr "java/lang/IllegalArgumentException"), I)
set_option maxRecDepth 4000 in
set_option maxHeartbeats 4000000 in
theorem C_X11_trial {g : gX} {d : Nat} {P : Nat → Nat → Option Nat} {I : HI} {x1 : Int32} {x2 : Int32} {J : HJ} (hp : Wp P) {r : (Int32 ⊕ String) × HI} (h : F_X11_trial I x1 x2 = some r) : Cx g mX11_trial (d + 7) [.ref 1, .int x1, .int x2] (NT, I, J, P) ((thr_i r.1), (NT, r.2, J, P)) := by
  unfold F_X11_trial at h
  refine Cx.of (by decide) (by simp [Value.category]) (Nat.le_of_ble_eq_true rfl) (Nat.le_refl _) (ls := [some (.ref 1), some (.int x1), some (.int x2)]) rfl ?_
  refine M_iload_n (pc := 0) dX11_trial_0 rfl ?_
  refine M_if_lt (pc := 1) (tgt := 10) dX11_trial_1 (by decide) (fun hc1 => ?_) (fun hc1 => ?_)
  · have h := (if_pos hc1).symm.trans h
    obtain rfl := Option.some.inj h
    exact M_throwW (pc := 10) dX11_trial_10 dX11_trial_13 dX11_trial_14 dX11_trial_17 dX11_trial_20 ⟨rfl, rfl, rfl, rfl⟩ x_X11_118 (j := 11) (by decide) str_X11_283 rfl rfl
  · have h := (if_neg hc1).symm.trans h
    refine M_iload_n (pc := 4) dX11_trial_4 rfl ?_
    refine M_bipush (pc := 5) (v := 60) dX11_trial_5 (by decide) ?_
    refine M_icmp_le (pc := 7) (tgt := 21) dX11_trial_7 (by decide) (fun hc2 => ?_) (fun hc2 => ?_)
    · have h := (if_pos hc2).symm.trans h
      refine M_aload_n (pc := 21) dX11_trial_21 rfl ?_
      refine M_iload_n (pc := 22) dX11_trial_22 rfl ?_
      refine M_aload_n (pc := 23) dX11_trial_23 rfl ?_
      refine M_getR (pc := 24) dX11_trial_24 f_X11_23 at_10 (gc_1_3 hp).1 ?_
      refine M_getI (pc := 27) dX11_trial_27 f_X11_389 (gc_1_3 hp).2 ?_
      obtain ⟨r3, hr4, h⟩ := bnd h
      refine M_callVv (pc := 30) dX11_trial_30 v_X11_392 rfl rfl at_10 (Nat.le_of_ble_eq_true rfl) (C_X11_tryEvenings (d := d + 0) hp hr4) (Nat.le_refl _) ?_
      refine M_iload_n (pc := 33) dX11_trial_33 rfl ?_
      refine M_if_eq (pc := 34) (tgt := 47) dX11_trial_34 (by decide) (fun hc5 => ?_) (fun hc5 => ?_)
      · have h := (if_pos hc5).symm.trans h
        refine M_aload_n (pc := 47) dX11_trial_47 rfl ?_
        refine M_getR (pc := 48) dX11_trial_48 f_X11_61 at_10 (gc_1_11 hp).1 ?_
        refine M_getI (pc := 51) dX11_trial_51 f_X11_220 (gc_1_11 hp).2 ?_
        obtain rfl := Option.some.inj h
        exact M_iret (pc := 54) dX11_trial_54 rfl rfl rfl rfl
      · have h := (if_neg hc5).symm.trans h
        refine M_aload_n (pc := 37) dX11_trial_37 rfl ?_
        refine M_getR (pc := 38) dX11_trial_38 f_X11_61 at_10 (gc_1_11 hp).1 ?_
        refine M_getI (pc := 41) dX11_trial_41 f_X11_396 (gc_1_11 hp).2 ?_
        refine M_goto (pc := 44) (tgt := 54) dX11_trial_44 (by decide) ?_
        obtain rfl := Option.some.inj h
        exact M_iret (pc := 54) dX11_trial_54 rfl rfl rfl rfl
    · have h := (if_neg hc2).symm.trans h
      obtain rfl := Option.some.inj h
      exact M_throwW (pc := 10) dX11_trial_10 dX11_trial_13 dX11_trial_14 dX11_trial_17 dX11_trial_20 ⟨rfl, rfl, rfl, rfl⟩ x_X11_118 (j := 11) (by decide) str_X11_283 rfl rfl
