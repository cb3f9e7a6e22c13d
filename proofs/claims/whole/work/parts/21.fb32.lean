def L_X11_he_42 (I : HI) (x1 : Int32) (x2 : Int32) (x3 : Int32) : Option ((Int32 ⊕ String) × HI) :=
  if x1 ≤ x3 then some ((Sum.inl x2), I) else if (400 : Int32) ≤ (x3 + (1 : Int32)) then some ((Sum.inl x2), I) else (ald 400 (I 2) x3) >>= fun v10 => (ald 400 (I 2) (x3 + (1 : Int32))) >>= fun v12 => (F_X1_companyIn I 4 v10 v12) >>= fun r14 => L_X11_he_42 I x1 (x2 &&& r14) (x3 + (2 : Int32))
partial_fixpoint
def F_X11_he (I : HI) : Option ((Int32 ⊕ String) × HI) :=
  (F_X11_takeTape I) >>= fun r1 => if (40 : Int32) < r1.1 then some ((Sum.inr "java/lang/IllegalArgumentException"), r1.2) else if (r1.1 - r1.1 / (2 : Int32) * (2 : Int32)) = 0 then (F_X11_arePairs r1.2 r1.1) >>= fun r5 => if r5 = 0 then some ((Sum.inr "java/lang/IllegalArgumentException"), r1.2) else L_X11_he_42 r1.2 r1.1 (255 : Int32) (0 : Int32) else some ((Sum.inr "java/lang/IllegalArgumentException"), r1.2)
set_option maxRecDepth 4000 in
set_option maxHeartbeats 4000000 in
theorem LC_X11_he_42 {g : gX} {d : Nat} {P : Nat → Nat → Option Nat} {J : HJ} {I : HI} {x1 : Int32} (hp : Wp P) : ∀ (x2 : Int32) (x3 : Int32) (r : (Int32 ⊕ String) × HI), L_X11_he_42 I x1 x2 x3 = some r → M g mX11_he (d + 6) (NT, NT, 1) ((thr_i r.1), (NT, r.2, J, P)) 42 [some (.ref 1), some (.int x1), some (.int x2), some (.int x3)] [] (NT, I, J, P) := by
  refine L_X11_he_42.partial_correctness I x1 (fun x2 x3 r => M g mX11_he (d + 6) (NT, NT, 1) ((thr_i r.1), (NT, r.2, J, P)) 42 [some (.ref 1), some (.int x1), some (.int x2), some (.int x3)] [] (NT, I, J, P)) ?_
  intro f ih x2 x3 r h
  refine M_iload_n (pc := 42) dX11_he_42 rfl ?_
  refine M_iload_n (pc := 43) dX11_he_43 rfl ?_
  refine M_icmp_ge (pc := 44) (tgt := 89) dX11_he_44 (by decide) (fun hc8 => ?_) (fun hc8 => ?_)
  · have h := (if_pos hc8).symm.trans h
    refine M_iload_n (pc := 89) dX11_he_89 rfl ?_
    obtain rfl := Option.some.inj h
    exact M_iret (pc := 90) dX11_he_90 rfl rfl rfl rfl
  · have h := (if_neg hc8).symm.trans h
    refine M_iload_n (pc := 47) dX11_he_47 rfl ?_
    refine M_iconst (pc := 48) (v := 1) dX11_he_48 (by decide) ?_
    refine M_iadd (pc := 49) dX11_he_49 ?_
    refine M_sipush (pc := 50) (v := 400) dX11_he_50 (by decide) ?_
    refine M_icmp_ge (pc := 53) (tgt := 89) dX11_he_53 (by decide) (fun hc9 => ?_) (fun hc9 => ?_)
    · have h := (if_pos hc9).symm.trans h
      refine M_iload_n (pc := 89) dX11_he_89 rfl ?_
      obtain rfl := Option.some.inj h
      exact M_iret (pc := 90) dX11_he_90 rfl rfl rfl rfl
    · have h := (if_neg hc9).symm.trans h
      refine M_iload_n (pc := 56) dX11_he_56 rfl ?_
      refine M_aload_n (pc := 57) dX11_he_57 rfl ?_
      refine M_getR (pc := 58) dX11_he_58 f_X11_23 at_10 (gc_1_3 hp).1 ?_
      refine M_getR (pc := 61) dX11_he_61 f_X11_148 (gc_1_3 hp).2 (gc_3_0 hp).1 ?_
      refine M_aload_n (pc := 64) dX11_he_64 rfl ?_
      refine M_getR (pc := 65) dX11_he_65 f_X11_9 at_10 (gc_1_0 hp).1 ?_
      refine M_iload_n (pc := 68) dX11_he_68 rfl ?_
      obtain ⟨v10, hv11, h⟩ := bnd h
      refine M_aldI (pc := 69) dX11_he_69 (gc_1_0 hp).2 hv11 ?_
      refine M_aload_n (pc := 70) dX11_he_70 rfl ?_
      refine M_getR (pc := 71) dX11_he_71 f_X11_9 at_10 (gc_1_0 hp).1 ?_
      refine M_iload_n (pc := 74) dX11_he_74 rfl ?_
      refine M_iconst (pc := 75) (v := 1) dX11_he_75 (by decide) ?_
      refine M_iadd (pc := 76) dX11_he_76 ?_
      obtain ⟨v12, hv13, h⟩ := bnd h
      refine M_aldI (pc := 77) dX11_he_77 (gc_1_0 hp).2 hv13 ?_
      obtain ⟨r14, hr15, h⟩ := bnd h
      refine M_callVi (pc := 78) dX11_he_78 v_X11_333 rfl rfl (gc_3_0 hp).2 (Nat.le_of_ble_eq_true rfl) (C_X1_companyIn (d := d + 3) hp (gc_3_0 hp).2 hr15) (Nat.le_refl _) ?_
      refine M_iand (pc := 81) dX11_he_81 ?_
      refine M_istore_n (pc := 82) (ls' := [some (.ref 1), some (.int x1), some (.int (x2 &&& r14)), some (.int x3)]) dX11_he_82 (by decide) rfl ?_
      refine M_iinc (pc := 83) (v := (x3 + (2 : Int32))) (ls' := [some (.ref 1), some (.int x1), some (.int (x2 &&& r14)), some (.int (x3 + (2 : Int32)))]) dX11_he_83 rfl rfl (by decide) rfl ?_
      refine M_goto (pc := 86) (tgt := 42) dX11_he_86 (by decide) ?_
      exact ih (x2 &&& r14) (x3 + (2 : Int32)) _ h
set_option maxRecDepth 4000 in
set_option maxHeartbeats 4000000 in
theorem C_X11_he {g : gX} {d : Nat} {P : Nat → Nat → Option Nat} {I : HI} {J : HJ} (hp : Wp P) {r : (Int32 ⊕ String) × HI} (h : F_X11_he I = some r) : Cx g mX11_he (d + 6) [.ref 1] (NT, I, J, P) ((thr_i r.1), (NT, r.2, J, P)) := by
  unfold F_X11_he at h
  refine Cx.of (by decide) (by simp [Value.category]) (Nat.le_of_ble_eq_true rfl) (Nat.le_refl _) (ls := [some (.ref 1), none, none, none]) rfl ?_
  refine M_aload_n (pc := 0) dX11_he_0 rfl ?_
  obtain ⟨r1, hr2, h⟩ := bnd h
  refine M_callVi (pc := 1) dX11_he_1 v_X11_110 rfl rfl at_10 (Nat.le_of_ble_eq_true rfl) (C_X11_takeTape (d := d + 5) hp hr2) (Nat.le_refl _) ?_
  refine M_istore_n (pc := 4) (ls' := [some (.ref 1), some (.int r1.1), none, none]) dX11_he_4 (by decide) rfl ?_
  refine M_iload_n (pc := 5) dX11_he_5 rfl ?_
  refine M_bipush (pc := 6) (v := 40) dX11_he_6 (by decide) ?_
  refine M_icmp_gt (pc := 8) (tgt := 25) dX11_he_8 (by decide) (fun hc3 => ?_) (fun hc3 => ?_)
  · have h := (if_pos hc3).symm.trans h
    obtain rfl := Option.some.inj h
    exact M_throwW (pc := 25) dX11_he_25 dX11_he_28 dX11_he_29 dX11_he_32 dX11_he_35 ⟨rfl, rfl, rfl, rfl⟩ x_X11_118 (j := 16) (by decide) str_X11_331 rfl rfl
  · have h := (if_neg hc3).symm.trans h
    refine M_iload_n (pc := 11) dX11_he_11 rfl ?_
    refine M_iconst (pc := 12) (v := 2) dX11_he_12 (by decide) ?_
    refine M_irem (pc := 13) dX11_he_13 (by decide) ?_
    refine M_if_ne (pc := 14) (tgt := 25) dX11_he_14 (by decide) (fun hc4 => ?_) (fun hc4 => ?_)
    · have h := (if_neg hc4).symm.trans h
      obtain rfl := Option.some.inj h
      exact M_throwW (pc := 25) dX11_he_25 dX11_he_28 dX11_he_29 dX11_he_32 dX11_he_35 ⟨rfl, rfl, rfl, rfl⟩ x_X11_118 (j := 16) (by decide) str_X11_331 rfl rfl
    · have h := (if_pos hc4).symm.trans h
      refine M_aload_n (pc := 17) dX11_he_17 rfl ?_
      refine M_iload_n (pc := 18) dX11_he_18 rfl ?_
      obtain ⟨r5, hr6, h⟩ := bnd h
      refine M_callVi (pc := 19) dX11_he_19 v_X11_328 rfl rfl at_10 (Nat.le_of_ble_eq_true rfl) (C_X11_arePairs (d := d + 4) hp hr6) (Nat.le_refl _) ?_
      refine M_if_ne (pc := 22) (tgt := 36) dX11_he_22 (by decide) (fun hc7 => ?_) (fun hc7 => ?_)
      · have h := (if_neg hc7).symm.trans h
        refine M_sipush (pc := 36) (v := 255) dX11_he_36 (by decide) ?_
        refine M_istore_n (pc := 39) (ls' := [some (.ref 1), some (.int r1.1), some (.int (255 : Int32)), none]) dX11_he_39 (by decide) rfl ?_
        refine M_iconst (pc := 40) (v := 0) dX11_he_40 (by decide) ?_
        refine M_istore_n (pc := 41) (ls' := [some (.ref 1), some (.int r1.1), some (.int (255 : Int32)), some (.int (0 : Int32))]) dX11_he_41 (by decide) rfl ?_
        exact LC_X11_he_42 (P := P) hp (255 : Int32) (0 : Int32) _ h
      · have h := (if_pos hc7).symm.trans h
        obtain rfl := Option.some.inj h
        exact M_throwW (pc := 25) dX11_he_25 dX11_he_28 dX11_he_29 dX11_he_32 dX11_he_35 ⟨rfl, rfl, rfl, rfl⟩ x_X11_118 (j := 16) (by decide) str_X11_331 rfl rfl
