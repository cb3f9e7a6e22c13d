def F_X11_company (I : HI) (x1 : Int32) : Option ((Int32 ⊕ String)) :=
  if x1 < 0 then some (Sum.inr "java/lang/IllegalArgumentException") else if x1 ≤ (7 : Int32) then (F_X1_hadWith I 4 x1) >>= fun r3 => some (Sum.inl r3) else some (Sum.inr "java/lang/IllegalArgumentException")
set_option maxRecDepth 4000 in
set_option maxHeartbeats 4000000 in
theorem C_X11_company {g : gX} {d : Nat} {P : Nat → Nat → Option Nat} {I : HI} {x1 : Int32} {J : HJ} (hp : Wp P) {r : (Int32 ⊕ String)} (h : F_X11_company I x1 = some r) : Cx g mX11_company (d + 6) [.ref 1, .int x1] (NT, I, J, P) ((thr_i r), (NT, I, J, P)) := by
  unfold F_X11_company at h
  refine Cx.of (by decide) (by simp [Value.category]) (Nat.le_of_ble_eq_true rfl) (Nat.le_refl _) (ls := [some (.ref 1), some (.int x1)]) rfl ?_
  refine M_iload_n (pc := 0) dX11_company_0 rfl ?_
  refine M_if_lt (pc := 1) (tgt := 10) dX11_company_1 (by decide) (fun hc1 => ?_) (fun hc1 => ?_)
  · have h := (if_pos hc1).symm.trans h
    obtain rfl := Option.some.inj h
    exact M_throwW (pc := 10) dX11_company_10 dX11_company_13 dX11_company_14 dX11_company_17 dX11_company_20 ⟨rfl, rfl, rfl, rfl⟩ x_X11_118 (j := 20) (by decide) str_X11_379 rfl rfl
  · have h := (if_neg hc1).symm.trans h
    refine M_iload_n (pc := 4) dX11_company_4 rfl ?_
    refine M_bipush (pc := 5) (v := 7) dX11_company_5 (by decide) ?_
    refine M_icmp_le (pc := 7) (tgt := 21) dX11_company_7 (by decide) (fun hc2 => ?_) (fun hc2 => ?_)
    · have h := (if_pos hc2).symm.trans h
      refine M_aload_n (pc := 21) dX11_company_21 rfl ?_
      refine M_getR (pc := 22) dX11_company_22 f_X11_23 at_10 (gc_1_3 hp).1 ?_
      refine M_getR (pc := 25) dX11_company_25 f_X11_148 (gc_1_3 hp).2 (gc_3_0 hp).1 ?_
      refine M_iload_n (pc := 28) dX11_company_28 rfl ?_
      obtain ⟨r3, hr4, h⟩ := bnd h
      refine M_callVi (pc := 29) dX11_company_29 v_X11_368 rfl rfl (gc_3_0 hp).2 (Nat.le_of_ble_eq_true rfl) (C_X1_hadWith (d := d + 5) hp (gc_3_0 hp).2 hr4) (Nat.le_refl _) ?_
      obtain rfl := Option.some.inj h
      exact M_iret (pc := 32) dX11_company_32 rfl rfl rfl rfl
    · have h := (if_neg hc2).symm.trans h
      obtain rfl := Option.some.inj h
      exact M_throwW (pc := 10) dX11_company_10 dX11_company_13 dX11_company_14 dX11_company_17 dX11_company_20 ⟨rfl, rfl, rfl, rfl⟩ x_X11_118 (j := 20) (by decide) str_X11_379 rfl rfl
