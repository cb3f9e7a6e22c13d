def F_X11_unknown (I : HI) : Option ((Int32 ⊕ String) × HI) :=
  (F_X11_takeTape I) >>= fun r1 => if r1.1 ≤ (20 : Int32) then (F_X11_fitting r1.2 r1.1) >>= fun r4 => some ((Sum.inl r4), r1.2) else some ((Sum.inr "java/lang/IllegalArgumentException"), r1.2)
set_option maxRecDepth 4000 in
set_option maxHeartbeats 4000000 in
theorem C_X11_unknown {g : gX} {d : Nat} {P : Nat → Nat → Option Nat} {I : HI} {J : HJ} (hp : Wp P) {r : (Int32 ⊕ String) × HI} (h : F_X11_unknown I = some r) : Cx g mX11_unknown (d + 6) [.ref 1] (NT, I, J, P) ((thr_i r.1), (NT, r.2, J, P)) := by
  unfold F_X11_unknown at h
  refine Cx.of (by decide) (by simp [Value.category]) (Nat.le_of_ble_eq_true rfl) (Nat.le_refl _) (ls := [some (.ref 1), none]) rfl ?_
  refine M_aload_n (pc := 0) dX11_unknown_0 rfl ?_
  obtain ⟨r1, hr2, h⟩ := bnd h
  refine M_callVi (pc := 1) dX11_unknown_1 v_X11_110 rfl rfl at_10 (Nat.le_of_ble_eq_true rfl) (C_X11_takeTape (d := d + 5) hp hr2) (Nat.le_refl _) ?_
  refine M_istore_n (pc := 4) (ls' := [some (.ref 1), some (.int r1.1)]) dX11_unknown_4 (by decide) rfl ?_
  refine M_iload_n (pc := 5) dX11_unknown_5 rfl ?_
  refine M_bipush (pc := 6) (v := 20) dX11_unknown_6 (by decide) ?_
  refine M_icmp_le (pc := 8) (tgt := 22) dX11_unknown_8 (by decide) (fun hc3 => ?_) (fun hc3 => ?_)
  · have h := (if_pos hc3).symm.trans h
    refine M_aload_n (pc := 22) dX11_unknown_22 rfl ?_
    refine M_iload_n (pc := 23) dX11_unknown_23 rfl ?_
    obtain ⟨r4, hr5, h⟩ := bnd h
    refine M_callVi (pc := 24) dX11_unknown_24 v_X11_338 rfl rfl at_10 (Nat.le_of_ble_eq_true rfl) (C_X11_fitting (d := d + 3) hp hr5) (Nat.le_refl _) ?_
    obtain rfl := Option.some.inj h
    exact M_iret (pc := 27) dX11_unknown_27 rfl rfl rfl rfl
  · have h := (if_neg hc3).symm.trans h
    obtain rfl := Option.some.inj h
    exact M_throwW (pc := 11) dX11_unknown_11 dX11_unknown_14 dX11_unknown_15 dX11_unknown_18 dX11_unknown_21 ⟨rfl, rfl, rfl, rfl⟩ x_X11_118 (j := 17) (by decide) str_X11_336 rfl rfl
