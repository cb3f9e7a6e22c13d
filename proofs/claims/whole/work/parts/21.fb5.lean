def L_X11_serve_47 (I : HI) (x2 : Int32) (x3 : Int32) (x4 : Int32) (x5 : Int32) : Option ((Int32 ⊕ String) × HI) :=
  if (I 4 0) ≤ x5 then some ((Sum.inl x3), I) else (F_X11_greaterPart I x5 x2) >>= fun r10 => (F_X1_isHad I 4 x5) >>= fun r12 => if r12 = 0 then L_X11_serve_47 I x2 x3 x4 (x5 + (1 : Int32)) else if x4 ≤ r10 then L_X11_serve_47 I x2 x3 x4 (x5 + (1 : Int32)) else L_X11_serve_47 I x2 x5 r10 (x5 + (1 : Int32))
partial_fixpoint
def F_X11_serve (I : HI) : Option ((Int32 ⊕ String) × HI) :=
  (F_X11_takeTape I) >>= fun r1 => if r1.1 ≤ (20 : Int32) then (F_X11_fitting r1.2 r1.1) >>= fun r4 => (F_J6_bitCount_0f7a4 r1.2 r4) >>= fun r6 => if (2 : Int32) ≤ r6 then L_X11_serve_47 r1.2 r4 (-1 : Int32) (13 : Int32) (0 : Int32) else some ((Sum.inl (-1 : Int32)), r1.2) else some ((Sum.inr "java/lang/IllegalArgumentException"), r1.2)
set_option maxRecDepth 4000 in
set_option maxHeartbeats 4000000 in
theorem LC_X11_serve_47 {g : gX} {d : Nat} {P : Nat → Nat → Option Nat} {J : HJ} {I : HI} {x2 : Int32} (hp : Wp P) : ∀ (x3 : Int32) (x4 : Int32) (x5 : Int32) (r : (Int32 ⊕ String) × HI), L_X11_serve_47 I x2 x3 x4 x5 = some r → M g mX11_serve (d + 6) (NT, NT, 1) ((thr_i r.1), (NT, r.2, J, P)) 47 [some (.ref 1), none, some (.int x2), some (.int x3), some (.int x4), some (.int x5), none] [] (NT, I, J, P) := by
  refine L_X11_serve_47.partial_correctness I x2 (fun x3 x4 x5 r => M g mX11_serve (d + 6) (NT, NT, 1) ((thr_i r.1), (NT, r.2, J, P)) 47 [some (.ref 1), none, some (.int x2), some (.int x3), some (.int x4), some (.int x5), none] [] (NT, I, J, P)) ?_
  intro f ih x3 x4 x5 r h
  refine M_iload (pc := 47) dX11_serve_47 rfl ?_
  refine M_aload_n (pc := 49) dX11_serve_49 rfl ?_
  refine M_getR (pc := 50) dX11_serve_50 f_X11_23 at_10 (gr_10_3 hp at_10).1 ?_
  refine M_getR (pc := 53) dX11_serve_53 f_X11_148 (gr_10_3 hp at_10).2 (gr_3_0 hp (gr_10_3 hp at_10).2).1 ?_
  refine M_getI (pc := 56) dX11_serve_56 f_X11_211 (gr_3_0 hp (gr_10_3 hp at_10).2).2 ?_
  refine M_icmp_ge (pc := 59) (tgt := 106) dX11_serve_59 (by decide) (fun hc9 => ?_) (fun hc9 => ?_)
  · have h := (if_pos hc9).symm.trans h
    refine M_iload_n (pc := 106) dX11_serve_106 rfl ?_
    obtain rfl := Option.some.inj h
    exact M_iret (pc := 107) dX11_serve_107 rfl rfl rfl rfl
  · have h := (if_neg hc9).symm.trans h
    refine M_aload_n (pc := 62) dX11_serve_62 rfl ?_
    refine M_iload (pc := 63) dX11_serve_63 rfl ?_
    refine M_iload_n (pc := 65) dX11_serve_65 rfl ?_
    obtain ⟨r10, hr11, h⟩ := bnd h
    refine M_callVi (pc := 66) dX11_serve_66 v_X11_344 rfl rfl at_10 (Nat.le_of_ble_eq_true rfl) (C_X11_greaterPart (d := d + 4) hp hr11) (Nat.le_refl _) ?_
    refine M_istore (pc := 69) (ls' := [some (.ref 1), none, some (.int x2), some (.int x3), some (.int x4), some (.int x5), some (.int r10)]) dX11_serve_69 (by decide) rfl ?_
    refine M_aload_n (pc := 71) dX11_serve_71 rfl ?_
    refine M_getR (pc := 72) dX11_serve_72 f_X11_23 at_10 (gr_10_3 hp at_10).1 ?_
    refine M_getR (pc := 75) dX11_serve_75 f_X11_148 (gr_10_3 hp at_10).2 (gr_3_0 hp (gr_10_3 hp at_10).2).1 ?_
    refine M_iload (pc := 78) dX11_serve_78 rfl ?_
    obtain ⟨r12, hr13, h⟩ := bnd h
    refine M_callVi (pc := 80) dX11_serve_80 v_X11_265 rfl rfl (gr_3_0 hp (gr_10_3 hp at_10).2).2 (Nat.le_of_ble_eq_true rfl) (C_X1_isHad (d := d + 4) hp (gr_3_0 hp (gr_10_3 hp at_10).2).2 hr13) (Nat.le_refl _) ?_
    refine M_if_eq (pc := 83) (tgt := 100) dX11_serve_83 (by decide) (fun hc14 => ?_) (fun hc14 => ?_)
    · have h := (if_pos hc14).symm.trans h
      refine M_iinc (pc := 100) (v := (x5 + (1 : Int32))) (ls' := [some (.ref 1), none, some (.int x2), some (.int x3), some (.int x4), some (.int (x5 + (1 : Int32))), some (.int r10)]) dX11_serve_100 rfl rfl (by decide) rfl ?_
      refine M_goto (pc := 103) (tgt := 47) dX11_serve_103 (by decide) ?_
      refine M_mask (pc := 47) [true, false, true, true, true, true, false] rfl ?_
      exact ih x3 x4 (x5 + (1 : Int32)) _ h
    · have h := (if_neg hc14).symm.trans h
      refine M_iload (pc := 86) dX11_serve_86 rfl ?_
      refine M_iload (pc := 88) dX11_serve_88 rfl ?_
      refine M_icmp_ge (pc := 90) (tgt := 100) dX11_serve_90 (by decide) (fun hc15 => ?_) (fun hc15 => ?_)
      · have h := (if_pos hc15).symm.trans h
        refine M_iinc (pc := 100) (v := (x5 + (1 : Int32))) (ls' := [some (.ref 1), none, some (.int x2), some (.int x3), some (.int x4), some (.int (x5 + (1 : Int32))), some (.int r10)]) dX11_serve_100 rfl rfl (by decide) rfl ?_
        refine M_goto (pc := 103) (tgt := 47) dX11_serve_103 (by decide) ?_
        refine M_mask (pc := 47) [true, false, true, true, true, true, false] rfl ?_
        exact ih x3 x4 (x5 + (1 : Int32)) _ h
      · have h := (if_neg hc15).symm.trans h
        refine M_iload (pc := 93) dX11_serve_93 rfl ?_
        refine M_istore (pc := 95) (ls' := [some (.ref 1), none, some (.int x2), some (.int x3), some (.int r10), some (.int x5), some (.int r10)]) dX11_serve_95 (by decide) rfl ?_
        refine M_iload (pc := 97) dX11_serve_97 rfl ?_
        refine M_istore_n (pc := 99) (ls' := [some (.ref 1), none, some (.int x2), some (.int x5), some (.int r10), some (.int x5), some (.int r10)]) dX11_serve_99 (by decide) rfl ?_
        refine M_iinc (pc := 100) (v := (x5 + (1 : Int32))) (ls' := [some (.ref 1), none, some (.int x2), some (.int x5), some (.int r10), some (.int (x5 + (1 : Int32))), some (.int r10)]) dX11_serve_100 rfl rfl (by decide) rfl ?_
        refine M_goto (pc := 103) (tgt := 47) dX11_serve_103 (by decide) ?_
        refine M_mask (pc := 47) [true, false, true, true, true, true, false] rfl ?_
        exact ih x5 r10 (x5 + (1 : Int32)) _ h
set_option maxRecDepth 4000 in
set_option maxHeartbeats 4000000 in
theorem C_X11_serve {g : gX} {d : Nat} {P : Nat → Nat → Option Nat} {I : HI} {J : HJ} (hp : Wp P) {r : (Int32 ⊕ String) × HI} (h : F_X11_serve I = some r) : Cx g mX11_serve (d + 6) [.ref 1] (NT, I, J, P) ((thr_i r.1), (NT, r.2, J, P)) := by
  unfold F_X11_serve at h
  refine Cx.of (by decide) (by simp [Value.category]) (Nat.le_of_ble_eq_true rfl) (Nat.le_refl _) (ls := [some (.ref 1), none, none, none, none, none, none]) rfl ?_
  refine M_aload_n (pc := 0) dX11_serve_0 rfl ?_
  obtain ⟨r1, hr2, h⟩ := bnd h
  refine M_callVi (pc := 1) dX11_serve_1 v_X11_110 rfl rfl at_10 (Nat.le_of_ble_eq_true rfl) (C_X11_takeTape (d := d + 5) hp hr2) (Nat.le_refl _) ?_
  refine M_istore_n (pc := 4) (ls' := [some (.ref 1), some (.int r1.1), none, none, none, none, none]) dX11_serve_4 (by decide) rfl ?_
  refine M_iload_n (pc := 5) dX11_serve_5 rfl ?_
  refine M_bipush (pc := 6) (v := 20) dX11_serve_6 (by decide) ?_
  refine M_icmp_le (pc := 8) (tgt := 22) dX11_serve_8 (by decide) (fun hc3 => ?_) (fun hc3 => ?_)
  · have h := (if_pos hc3).symm.trans h
    refine M_aload_n (pc := 22) dX11_serve_22 rfl ?_
    refine M_iload_n (pc := 23) dX11_serve_23 rfl ?_
    obtain ⟨r4, hr5, h⟩ := bnd h
    refine M_callVi (pc := 24) dX11_serve_24 v_X11_338 rfl rfl at_10 (Nat.le_of_ble_eq_true rfl) (C_X11_fitting (d := d + 3) hp hr5) (Nat.le_refl _) ?_
    refine M_istore_n (pc := 27) (ls' := [some (.ref 1), some (.int r1.1), some (.int r4), none, none, none, none]) dX11_serve_27 (by decide) rfl ?_
    refine M_iload_n (pc := 28) dX11_serve_28 rfl ?_
    obtain ⟨r6, hr7, h⟩ := bnd h
    refine M_callSi (pc := 29) dX11_serve_29 s_X11_311 rfl rfl (Nat.le_of_ble_eq_true rfl) (C_J6_bitCount_0f7a4 (d := d + 5) hp hr7) (Nat.le_refl _) ?_
    refine M_iconst (pc := 32) (v := 2) dX11_serve_32 (by decide) ?_
    refine M_icmp_ge (pc := 33) (tgt := 38) dX11_serve_33 (by decide) (fun hc8 => ?_) (fun hc8 => ?_)
    · have h := (if_pos hc8).symm.trans h
      refine M_iconst (pc := 38) (v := -1) dX11_serve_38 (by decide) ?_
      refine M_istore_n (pc := 39) (ls' := [some (.ref 1), some (.int r1.1), some (.int r4), some (.int (-1 : Int32)), none, none, none]) dX11_serve_39 (by decide) rfl ?_
      refine M_bipush (pc := 40) (v := 13) dX11_serve_40 (by decide) ?_
      refine M_istore (pc := 42) (ls' := [some (.ref 1), some (.int r1.1), some (.int r4), some (.int (-1 : Int32)), some (.int (13 : Int32)), none, none]) dX11_serve_42 (by decide) rfl ?_
      refine M_iconst (pc := 44) (v := 0) dX11_serve_44 (by decide) ?_
      refine M_istore (pc := 45) (ls' := [some (.ref 1), some (.int r1.1), some (.int r4), some (.int (-1 : Int32)), some (.int (13 : Int32)), some (.int (0 : Int32)), none]) dX11_serve_45 (by decide) rfl ?_
      refine M_mask (pc := 47) [true, false, true, true, true, true, false] rfl ?_
      exact LC_X11_serve_47 (P := P) hp (-1 : Int32) (13 : Int32) (0 : Int32) _ h
    · have h := (if_neg hc8).symm.trans h
      refine M_iconst (pc := 36) (v := -1) dX11_serve_36 (by decide) ?_
      obtain rfl := Option.some.inj h
      exact M_iret (pc := 37) dX11_serve_37 rfl rfl rfl rfl
  · have h := (if_neg hc3).symm.trans h
    obtain rfl := Option.some.inj h
    exact M_throwW (pc := 11) dX11_serve_11 dX11_serve_14 dX11_serve_15 dX11_serve_18 dX11_serve_21 x_X11_118 (j := 17) (by decide) str_X11_336 rfl rfl
def F_X11_jars (I : HI) (x1 : Int32) : Option ((Int32 ⊕ String) × HI) :=
  (F_X11_takeTape I) >>= fun r1 => if (25 : Int32) < r1.1 then some ((Sum.inr "java/lang/IllegalArgumentException"), r1.2) else if (r1.1 - r1.1 / (5 : Int32) * (5 : Int32)) = 0 then (F_X11_toldAtMost r1.2 r1.1 (9 : Int32)) >>= fun r5 => if r5 = 0 then some ((Sum.inr "java/lang/IllegalArgumentException"), r1.2) else (F_X2_search r1.2 (r1.1 / (5 : Int32)) 4) >>= fun r8 => if x1 = (-1 : Int32) then some ((Sum.inl (r8 201 0)), r8) else (F_X2_nth r8 x1) >>= fun r11 => some ((Sum.inl r11), r8) else some ((Sum.inr "java/lang/IllegalArgumentException"), r1.2)
set_option maxRecDepth 4000 in
set_option maxHeartbeats 4000000 in
theorem C_X11_jars {g : gX} {d : Nat} {P : Nat → Nat → Option Nat} {I : HI} {x1 : Int32} {J : HJ} (hp : Wp P) {r : (Int32 ⊕ String) × HI} (h : F_X11_jars I x1 = some r) : Cx g mX11_jars (d + 18) [.ref 1, .int x1] (NT, I, J, P) ((thr_i r.1), (NT, r.2, J, P)) := by
  unfold F_X11_jars at h
  refine Cx.of (by decide) (by simp [Value.category]) (Nat.le_of_ble_eq_true rfl) (Nat.le_refl _) (ls := [some (.ref 1), some (.int x1), none]) rfl ?_
  refine M_aload_n (pc := 0) dX11_jars_0 rfl ?_
  obtain ⟨r1, hr2, h⟩ := bnd h
  refine M_callVi (pc := 1) dX11_jars_1 v_X11_110 rfl rfl at_10 (Nat.le_of_ble_eq_true rfl) (C_X11_takeTape (d := d + 17) hp hr2) (Nat.le_refl _) ?_
  refine M_istore_n (pc := 4) (ls' := [some (.ref 1), some (.int x1), some (.int r1.1)]) dX11_jars_4 (by decide) rfl ?_
  refine M_iload_n (pc := 5) dX11_jars_5 rfl ?_
  refine M_bipush (pc := 6) (v := 25) dX11_jars_6 (by decide) ?_
  refine M_icmp_gt (pc := 8) (tgt := 27) dX11_jars_8 (by decide) (fun hc3 => ?_) (fun hc3 => ?_)
  · have h := (if_pos hc3).symm.trans h
    obtain rfl := Option.some.inj h
    exact M_throwW (pc := 27) dX11_jars_27 dX11_jars_30 dX11_jars_31 dX11_jars_34 dX11_jars_37 x_X11_118 (j := 18) (by decide) str_X11_355 rfl rfl
  · have h := (if_neg hc3).symm.trans h
    refine M_iload_n (pc := 11) dX11_jars_11 rfl ?_
    refine M_iconst (pc := 12) (v := 5) dX11_jars_12 (by decide) ?_
    refine M_irem (pc := 13) dX11_jars_13 (by decide) ?_
    refine M_if_ne (pc := 14) (tgt := 27) dX11_jars_14 (by decide) (fun hc4 => ?_) (fun hc4 => ?_)
    · have h := (if_neg hc4).symm.trans h
      obtain rfl := Option.some.inj h
      exact M_throwW (pc := 27) dX11_jars_27 dX11_jars_30 dX11_jars_31 dX11_jars_34 dX11_jars_37 x_X11_118 (j := 18) (by decide) str_X11_355 rfl rfl
    · have h := (if_pos hc4).symm.trans h
      refine M_aload_n (pc := 17) dX11_jars_17 rfl ?_
      refine M_iload_n (pc := 18) dX11_jars_18 rfl ?_
      refine M_bipush (pc := 19) (v := 9) dX11_jars_19 (by decide) ?_
      obtain ⟨r5, hr6, h⟩ := bnd h
      refine M_callVi (pc := 21) dX11_jars_21 v_X11_298 rfl rfl at_10 (Nat.le_of_ble_eq_true rfl) (C_X11_toldAtMost (d := d + 17) hp hr6) (Nat.le_refl _) ?_
      refine M_if_ne (pc := 24) (tgt := 38) dX11_jars_24 (by decide) (fun hc7 => ?_) (fun hc7 => ?_)
      · have h := (if_neg hc7).symm.trans h
        refine M_aload_n (pc := 38) dX11_jars_38 rfl ?_
        refine M_getR (pc := 39) dX11_jars_39 f_X11_95 at_10 (gr_10_16 hp at_10).1 ?_
        refine M_aload_n (pc := 42) dX11_jars_42 rfl ?_
        refine M_getR (pc := 43) dX11_jars_43 f_X11_9 at_10 (gr_10_0 hp at_10).1 ?_
        refine M_iload_n (pc := 46) dX11_jars_46 rfl ?_
        refine M_iconst (pc := 47) (v := 5) dX11_jars_47 (by decide) ?_
        refine M_idiv (pc := 48) dX11_jars_48 (by decide) ?_
        refine M_aload_n (pc := 49) dX11_jars_49 rfl ?_
        refine M_getR (pc := 50) dX11_jars_50 f_X11_23 at_10 (gr_10_3 hp at_10).1 ?_
        refine M_getR (pc := 53) dX11_jars_53 f_X11_148 (gr_10_3 hp at_10).2 (gr_3_0 hp (gr_10_3 hp at_10).2).1 ?_
        obtain ⟨r8, hr9, h⟩ := bnd h
        refine M_callVv (pc := 56) dX11_jars_56 v_X11_357 rfl rfl (gr_10_16 hp at_10).2 (Nat.le_of_ble_eq_true rfl) (C_X2_search (d := d + 0) hp (gr_3_0 hp (gr_10_3 hp at_10).2).2 hr9) (Nat.le_refl _) ?_
        refine M_iload_n (pc := 59) dX11_jars_59 rfl ?_
        refine M_iconst (pc := 60) (v := -1) dX11_jars_60 (by decide) ?_
        refine M_icmp_ne (pc := 61) (tgt := 74) dX11_jars_61 (by decide) (fun hc10 => ?_) (fun hc10 => ?_)
        · have h := (if_neg hc10).symm.trans h
          refine M_aload_n (pc := 74) dX11_jars_74 rfl ?_
          refine M_getR (pc := 75) dX11_jars_75 f_X11_95 at_10 (gr_10_16 hp at_10).1 ?_
          refine M_iload_n (pc := 78) dX11_jars_78 rfl ?_
          obtain ⟨r11, hr12, h⟩ := bnd h
          refine M_callVi (pc := 79) dX11_jars_79 v_X11_361 rfl rfl (gr_10_16 hp at_10).2 (Nat.le_of_ble_eq_true rfl) (C_X2_nth (d := d + 17) hp hr12) (Nat.le_refl _) ?_
          obtain rfl := Option.some.inj h
          exact M_iret (pc := 82) dX11_jars_82 rfl rfl rfl rfl
        · have h := (if_pos hc10).symm.trans h
          refine M_aload_n (pc := 64) dX11_jars_64 rfl ?_
          refine M_getR (pc := 65) dX11_jars_65 f_X11_95 at_10 (gr_10_16 hp at_10).1 ?_
          refine M_getI (pc := 68) dX11_jars_68 f_X11_360 (gr_10_16 hp at_10).2 ?_
          refine M_goto (pc := 71) (tgt := 82) dX11_jars_71 (by decide) ?_
          obtain rfl := Option.some.inj h
          exact M_iret (pc := 82) dX11_jars_82 rfl rfl rfl rfl
      · have h := (if_pos hc7).symm.trans h
        obtain rfl := Option.some.inj h
        exact M_throwW (pc := 27) dX11_jars_27 dX11_jars_30 dX11_jars_31 dX11_jars_34 dX11_jars_37 x_X11_118 (j := 18) (by decide) str_X11_355 rfl rfl
def F_X11_turnsNow (I : HI) (x1 : Int32) : Option (Int32 × HI) :=
  (F_X9_put I 3 x1) >>= fun r1 => (F_X4_weigh r1 9) >>= fun r3 => some ((r3 136 1), r3)
set_option maxRecDepth 4000 in
set_option maxHeartbeats 4000000 in
theorem C_X11_turnsNow {g : gX} {d : Nat} {P : Nat → Nat → Option Nat} {I : HI} {x1 : Int32} {J : HJ} (hp : Wp P) {r : Int32 × HI} (h : F_X11_turnsNow I x1 = some r) : Cm g mX11_turnsNow (d + 4) [.ref 1, .int x1] (NT, I, J, P) (some (.int r.1)) (NT, r.2, J, P) := by
  unfold F_X11_turnsNow at h
  refine Cm.of (by decide) (by simp [Value.category]) (Nat.le_of_ble_eq_true rfl) (Nat.le_refl _) (ls := [some (.ref 1), some (.int x1)]) rfl ?_
  refine M_aload_n (pc := 0) dX11_turnsNow_0 rfl ?_
  refine M_getR (pc := 1) dX11_turnsNow_1 f_X11_67 at_10 (gr_10_12 hp at_10).1 ?_
  refine M_aload_n (pc := 4) dX11_turnsNow_4 rfl ?_
  refine M_getR (pc := 5) dX11_turnsNow_5 f_X11_23 at_10 (gr_10_3 hp at_10).1 ?_
  refine M_iload_n (pc := 8) dX11_turnsNow_8 rfl ?_
  obtain ⟨r1, hr2, h⟩ := bnd h
  refine M_callVv (pc := 9) dX11_turnsNow_9 v_X11_194 rfl rfl (gr_10_12 hp at_10).2 (Nat.le_of_ble_eq_true rfl) (C_X9_put (d := d + 0) hp (gr_10_3 hp at_10).2 hr2) (Nat.le_refl _) ?_
  refine M_aload_n (pc := 12) dX11_turnsNow_12 rfl ?_
  refine M_getR (pc := 13) dX11_turnsNow_13 f_X11_30 at_10 (gr_10_4 hp at_10).1 ?_
  refine M_aload_n (pc := 16) dX11_turnsNow_16 rfl ?_
  refine M_getR (pc := 17) dX11_turnsNow_17 f_X11_67 at_10 (gr_10_12 hp at_10).1 ?_
  obtain ⟨r3, hr4, h⟩ := bnd h
  refine M_callVv (pc := 20) dX11_turnsNow_20 v_X11_198 rfl rfl (gr_10_4 hp at_10).2 (Nat.le_of_ble_eq_true rfl) (C_X4_weigh (d := d + 0) hp (gr_10_4 hp at_10).2 hr4) (Nat.le_refl _) ?_
  refine M_aload_n (pc := 23) dX11_turnsNow_23 rfl ?_
  refine M_getR (pc := 24) dX11_turnsNow_24 f_X11_67 at_10 (gr_10_12 hp at_10).1 ?_
  refine M_getI (pc := 27) dX11_turnsNow_27 f_X11_202 (gr_10_12 hp at_10).2 ?_
  obtain rfl := Option.some.inj h
  exact M_iret (pc := 30) dX11_turnsNow_30 rfl rfl rfl rfl
def F_X11_paysNow (I : HI) (x1 : Int32) : Option (Int32 × HI) :=
  (F_X9_put I 3 x1) >>= fun r1 => (F_X4_weigh r1 9) >>= fun r3 => some ((r3 136 2), r3)
set_option maxRecDepth 4000 in
set_option maxHeartbeats 4000000 in
theorem C_X11_paysNow {g : gX} {d : Nat} {P : Nat → Nat → Option Nat} {I : HI} {x1 : Int32} {J : HJ} (hp : Wp P) {r : Int32 × HI} (h : F_X11_paysNow I x1 = some r) : Cm g mX11_paysNow (d + 4) [.ref 1, .int x1] (NT, I, J, P) (some (.int r.1)) (NT, r.2, J, P) := by
  unfold F_X11_paysNow at h
  refine Cm.of (by decide) (by simp [Value.category]) (Nat.le_of_ble_eq_true rfl) (Nat.le_refl _) (ls := [some (.ref 1), some (.int x1)]) rfl ?_
  refine M_aload_n (pc := 0) dX11_paysNow_0 rfl ?_
  refine M_getR (pc := 1) dX11_paysNow_1 f_X11_67 at_10 (gr_10_12 hp at_10).1 ?_
  refine M_aload_n (pc := 4) dX11_paysNow_4 rfl ?_
  refine M_getR (pc := 5) dX11_paysNow_5 f_X11_23 at_10 (gr_10_3 hp at_10).1 ?_
  refine M_iload_n (pc := 8) dX11_paysNow_8 rfl ?_
  obtain ⟨r1, hr2, h⟩ := bnd h
  refine M_callVv (pc := 9) dX11_paysNow_9 v_X11_194 rfl rfl (gr_10_12 hp at_10).2 (Nat.le_of_ble_eq_true rfl) (C_X9_put (d := d + 0) hp (gr_10_3 hp at_10).2 hr2) (Nat.le_refl _) ?_
  refine M_aload_n (pc := 12) dX11_paysNow_12 rfl ?_
  refine M_getR (pc := 13) dX11_paysNow_13 f_X11_30 at_10 (gr_10_4 hp at_10).1 ?_
  refine M_aload_n (pc := 16) dX11_paysNow_16 rfl ?_
  refine M_getR (pc := 17) dX11_paysNow_17 f_X11_67 at_10 (gr_10_12 hp at_10).1 ?_
  obtain ⟨r3, hr4, h⟩ := bnd h
  refine M_callVv (pc := 20) dX11_paysNow_20 v_X11_198 rfl rfl (gr_10_4 hp at_10).2 (Nat.le_of_ble_eq_true rfl) (C_X4_weigh (d := d + 0) hp (gr_10_4 hp at_10).2 hr4) (Nat.le_refl _) ?_
  refine M_aload_n (pc := 23) dX11_paysNow_23 rfl ?_
  refine M_getR (pc := 24) dX11_paysNow_24 f_X11_67 at_10 (gr_10_12 hp at_10).1 ?_
  refine M_getI (pc := 27) dX11_paysNow_27 f_X11_205 (gr_10_12 hp at_10).2 ?_
  obtain rfl := Option.some.inj h
  exact M_iret (pc := 30) dX11_paysNow_30 rfl rfl rfl rfl
def L_X11_sad_6 (x1 : Int32) (x2 : Int32) (x3 : Int32) (I : HI) : Option (Int32 × HI) :=
  if (I 4 0) ≤ x3 then some (x1, I) else (F_X11_turnsNow I x3) >>= fun r2 => if x1 = (-1 : Int32) then L_X11_sad_6 x3 r2.1 (x3 + (1 : Int32)) r2.2 else if r2.1 ≤ x2 then L_X11_sad_6 x1 x2 (x3 + (1 : Int32)) r2.2 else L_X11_sad_6 x3 r2.1 (x3 + (1 : Int32)) r2.2
partial_fixpoint
def F_X11_sad (I : HI) : Option (Int32 × HI) :=
  L_X11_sad_6 (-1 : Int32) (0 : Int32) (0 : Int32) I
set_option maxRecDepth 4000 in
set_option maxHeartbeats 4000000 in
theorem LC_X11_sad_6 {g : gX} {d : Nat} {P : Nat → Nat → Option Nat} {J : HJ}  (hp : Wp P) : ∀ (x1 : Int32) (x2 : Int32) (x3 : Int32) (I : HI) (r : Int32 × HI), L_X11_sad_6  x1 x2 x3 I = some r → M g mX11_sad (d + 5) (NT, NT, 0) ((.inl (some (.int r.1))), (NT, r.2, J, P)) 6 [some (.ref 1), some (.int x1), some (.int x2), some (.int x3), none] [] (NT, I, J, P) := by
  refine L_X11_sad_6.partial_correctness  (fun x1 x2 x3 I r => M g mX11_sad (d + 5) (NT, NT, 0) ((.inl (some (.int r.1))), (NT, r.2, J, P)) 6 [some (.ref 1), some (.int x1), some (.int x2), some (.int x3), none] [] (NT, I, J, P)) ?_
  intro f ih x1 x2 x3 I r h
  refine M_iload_n (pc := 6) dX11_sad_6 rfl ?_
  refine M_aload_n (pc := 7) dX11_sad_7 rfl ?_
  refine M_getR (pc := 8) dX11_sad_8 f_X11_23 at_10 (gr_10_3 hp at_10).1 ?_
  refine M_getR (pc := 11) dX11_sad_11 f_X11_148 (gr_10_3 hp at_10).2 (gr_3_0 hp (gr_10_3 hp at_10).2).1 ?_
  refine M_getI (pc := 14) dX11_sad_14 f_X11_211 (gr_3_0 hp (gr_10_3 hp at_10).2).2 ?_
  refine M_icmp_ge (pc := 17) (tgt := 49) dX11_sad_17 (by decide) (fun hc1 => ?_) (fun hc1 => ?_)
  · have h := (if_pos hc1).symm.trans h
    refine M_iload_n (pc := 49) dX11_sad_49 rfl ?_
    obtain rfl := Option.some.inj h
    exact M_iret (pc := 50) dX11_sad_50 rfl rfl rfl rfl
  · have h := (if_neg hc1).symm.trans h
    refine M_aload_n (pc := 20) dX11_sad_20 rfl ?_
    refine M_iload_n (pc := 21) dX11_sad_21 rfl ?_
    obtain ⟨r2, hr3, h⟩ := bnd h
    refine M_callVi (pc := 22) dX11_sad_22 v_X11_187 rfl rfl at_10 (Nat.le_of_ble_eq_true rfl) (C_X11_turnsNow (d := d + 0) hp hr3) (Nat.le_refl _) ?_
    refine M_istore (pc := 25) (ls' := [some (.ref 1), some (.int x1), some (.int x2), some (.int x3), some (.int r2.1)]) dX11_sad_25 (by decide) rfl ?_
    refine M_iload_n (pc := 27) dX11_sad_27 rfl ?_
    refine M_iconst (pc := 28) (v := -1) dX11_sad_28 (by decide) ?_
    refine M_icmp_eq (pc := 29) (tgt := 38) dX11_sad_29 (by decide) (fun hc4 => ?_) (fun hc4 => ?_)
    · have h := (if_pos hc4).symm.trans h
      refine M_iload (pc := 38) dX11_sad_38 rfl ?_
      refine M_istore_n (pc := 40) (ls' := [some (.ref 1), some (.int x1), some (.int r2.1), some (.int x3), some (.int r2.1)]) dX11_sad_40 (by decide) rfl ?_
      refine M_iload_n (pc := 41) dX11_sad_41 rfl ?_
      refine M_istore_n (pc := 42) (ls' := [some (.ref 1), some (.int x3), some (.int r2.1), some (.int x3), some (.int r2.1)]) dX11_sad_42 (by decide) rfl ?_
      refine M_iinc (pc := 43) (v := (x3 + (1 : Int32))) (ls' := [some (.ref 1), some (.int x3), some (.int r2.1), some (.int (x3 + (1 : Int32))), some (.int r2.1)]) dX11_sad_43 rfl rfl (by decide) rfl ?_
      refine M_goto (pc := 46) (tgt := 6) dX11_sad_46 (by decide) ?_
      refine M_mask (pc := 6) [true, true, true, true, false] rfl ?_
      exact ih x3 r2.1 (x3 + (1 : Int32)) r2.2 _ h
    · have h := (if_neg hc4).symm.trans h
      refine M_iload (pc := 32) dX11_sad_32 rfl ?_
      refine M_iload_n (pc := 34) dX11_sad_34 rfl ?_
      refine M_icmp_le (pc := 35) (tgt := 43) dX11_sad_35 (by decide) (fun hc5 => ?_) (fun hc5 => ?_)
      · have h := (if_pos hc5).symm.trans h
        refine M_iinc (pc := 43) (v := (x3 + (1 : Int32))) (ls' := [some (.ref 1), some (.int x1), some (.int x2), some (.int (x3 + (1 : Int32))), some (.int r2.1)]) dX11_sad_43 rfl rfl (by decide) rfl ?_
        refine M_goto (pc := 46) (tgt := 6) dX11_sad_46 (by decide) ?_
        refine M_mask (pc := 6) [true, true, true, true, false] rfl ?_
        exact ih x1 x2 (x3 + (1 : Int32)) r2.2 _ h
      · have h := (if_neg hc5).symm.trans h
        refine M_iload (pc := 38) dX11_sad_38 rfl ?_
        refine M_istore_n (pc := 40) (ls' := [some (.ref 1), some (.int x1), some (.int r2.1), some (.int x3), some (.int r2.1)]) dX11_sad_40 (by decide) rfl ?_
        refine M_iload_n (pc := 41) dX11_sad_41 rfl ?_
        refine M_istore_n (pc := 42) (ls' := [some (.ref 1), some (.int x3), some (.int r2.1), some (.int x3), some (.int r2.1)]) dX11_sad_42 (by decide) rfl ?_
        refine M_iinc (pc := 43) (v := (x3 + (1 : Int32))) (ls' := [some (.ref 1), some (.int x3), some (.int r2.1), some (.int (x3 + (1 : Int32))), some (.int r2.1)]) dX11_sad_43 rfl rfl (by decide) rfl ?_
        refine M_goto (pc := 46) (tgt := 6) dX11_sad_46 (by decide) ?_
        refine M_mask (pc := 6) [true, true, true, true, false] rfl ?_
        exact ih x3 r2.1 (x3 + (1 : Int32)) r2.2 _ h
set_option maxRecDepth 4000 in
set_option maxHeartbeats 4000000 in
theorem C_X11_sad {g : gX} {d : Nat} {P : Nat → Nat → Option Nat} {I : HI} {J : HJ} (hp : Wp P) {r : Int32 × HI} (h : F_X11_sad I = some r) : Cm g mX11_sad (d + 5) [.ref 1] (NT, I, J, P) (some (.int r.1)) (NT, r.2, J, P) := by
  unfold F_X11_sad at h
  refine Cm.of (by decide) (by simp [Value.category]) (Nat.le_of_ble_eq_true rfl) (Nat.le_refl _) (ls := [some (.ref 1), none, none, none, none]) rfl ?_
  refine M_iconst (pc := 0) (v := -1) dX11_sad_0 (by decide) ?_
  refine M_istore_n (pc := 1) (ls' := [some (.ref 1), some (.int (-1 : Int32)), none, none, none]) dX11_sad_1 (by decide) rfl ?_
  refine M_iconst (pc := 2) (v := 0) dX11_sad_2 (by decide) ?_
  refine M_istore_n (pc := 3) (ls' := [some (.ref 1), some (.int (-1 : Int32)), some (.int (0 : Int32)), none, none]) dX11_sad_3 (by decide) rfl ?_
  refine M_iconst (pc := 4) (v := 0) dX11_sad_4 (by decide) ?_
  refine M_istore_n (pc := 5) (ls' := [some (.ref 1), some (.int (-1 : Int32)), some (.int (0 : Int32)), some (.int (0 : Int32)), none]) dX11_sad_5 (by decide) rfl ?_
  exact LC_X11_sad_6 (P := P) hp (-1 : Int32) (0 : Int32) (0 : Int32) I _ h
def F_X11_spoon (I : HI) (x1 : Int32) : Option ((Int32 ⊕ String) × HI) :=
  (F_X1_has I 4 x1) >>= fun r1 => if r1 = 0 then some ((Sum.inr "java/lang/IndexOutOfBoundsException"), I) else if (I 3 4) < (99 : Int32) then (F_X0_remember I 3 15) >>= fun r5 => (F_X3_bite r5 3 x1 9) >>= fun r7 => (F_X7_write r7 15 (r7 3 6) x1 (r7 136 0) (r7 3 3)) >>= fun r9 => some ((Sum.inl (r9 3 3)), r9) else some ((Sum.inr "java/lang/IllegalStateException"), I)
set_option maxRecDepth 4000 in
set_option maxHeartbeats 4000000 in
theorem C_X11_spoon {g : gX} {d : Nat} {P : Nat → Nat → Option Nat} {I : HI} {x1 : Int32} {J : HJ} (hp : Wp P) {r : (Int32 ⊕ String) × HI} (h : F_X11_spoon I x1 = some r) : Cx g mX11_spoon (d + 6) [.ref 1, .int x1] (NT, I, J, P) ((thr_i r.1), (NT, r.2, J, P)) := by
  unfold F_X11_spoon at h
  refine Cx.of (by decide) (by simp [Value.category]) (Nat.le_of_ble_eq_true rfl) (Nat.le_refl _) (ls := [some (.ref 1), some (.int x1)]) rfl ?_
  refine M_aload_n (pc := 0) dX11_spoon_0 rfl ?_
  refine M_getR (pc := 1) dX11_spoon_1 f_X11_23 at_10 (gr_10_3 hp at_10).1 ?_
  refine M_getR (pc := 4) dX11_spoon_4 f_X11_148 (gr_10_3 hp at_10).2 (gr_3_0 hp (gr_10_3 hp at_10).2).1 ?_
  refine M_iload_n (pc := 7) dX11_spoon_7 rfl ?_
  obtain ⟨r1, hr2, h⟩ := bnd h
  refine M_callVi (pc := 8) dX11_spoon_8 v_X11_152 rfl rfl (gr_3_0 hp (gr_10_3 hp at_10).2).2 (Nat.le_of_ble_eq_true rfl) (C_X1_has (d := d + 5) hp (gr_3_0 hp (gr_10_3 hp at_10).2).2 hr2) (Nat.le_refl _) ?_
  refine M_if_ne (pc := 11) (tgt := 24) dX11_spoon_11 (by decide) (fun hc3 => ?_) (fun hc3 => ?_)
  · have h := (if_neg hc3).symm.trans h
    refine M_aload_n (pc := 24) dX11_spoon_24 rfl ?_
    refine M_getR (pc := 25) dX11_spoon_25 f_X11_23 at_10 (gr_10_3 hp at_10).1 ?_
    refine M_getI (pc := 28) dX11_spoon_28 f_X11_220 (gr_10_3 hp at_10).2 ?_
    refine M_bipush (pc := 31) (v := 99) dX11_spoon_31 (by decide) ?_
    refine M_icmp_lt (pc := 33) (tgt := 46) dX11_spoon_33 (by decide) (fun hc4 => ?_) (fun hc4 => ?_)
    · have h := (if_pos hc4).symm.trans h
      refine M_aload_n (pc := 46) dX11_spoon_46 rfl ?_
      refine M_getR (pc := 47) dX11_spoon_47 f_X11_44 at_10 (gr_10_6 hp at_10).1 ?_
      refine M_aload_n (pc := 50) dX11_spoon_50 rfl ?_
      refine M_getR (pc := 51) dX11_spoon_51 f_X11_23 at_10 (gr_10_3 hp at_10).1 ?_
      refine M_aload_n (pc := 54) dX11_spoon_54 rfl ?_
      refine M_getR (pc := 55) dX11_spoon_55 f_X11_37 at_10 (gr_10_5 hp at_10).1 ?_
      obtain ⟨r5, hr6, h⟩ := bnd h
      refine M_callVv (pc := 58) dX11_spoon_58 v_X11_228 rfl rfl (gr_10_6 hp at_10).2 (Nat.le_of_ble_eq_true rfl) (C_X0_remember (d := d + 2) hp (gr_10_3 hp at_10).2 (gr_10_5 hp at_10).2 hr6) (Nat.le_refl _) ?_
      refine M_aload_n (pc := 61) dX11_spoon_61 rfl ?_
      refine M_getR (pc := 62) dX11_spoon_62 f_X11_23 at_10 (gr_10_3 hp at_10).1 ?_
      refine M_iload_n (pc := 65) dX11_spoon_65 rfl ?_
      refine M_aload_n (pc := 66) dX11_spoon_66 rfl ?_
      refine M_getR (pc := 67) dX11_spoon_67 f_X11_30 at_10 (gr_10_4 hp at_10).1 ?_
      refine M_aload_n (pc := 70) dX11_spoon_70 rfl ?_
      refine M_getR (pc := 71) dX11_spoon_71 f_X11_67 at_10 (gr_10_12 hp at_10).1 ?_
      obtain ⟨r7, hr8, h⟩ := bnd h
      refine M_callVv (pc := 74) dX11_spoon_74 v_X11_232 rfl rfl (gr_10_3 hp at_10).2 (Nat.le_of_ble_eq_true rfl) (C_X3_bite (d := d + 1) hp (gr_10_3 hp at_10).2 (gr_10_4 hp at_10).2 hr8) (Nat.le_refl _) ?_
      refine M_aload_n (pc := 77) dX11_spoon_77 rfl ?_
      refine M_getR (pc := 78) dX11_spoon_78 f_X11_37 at_10 (gr_10_5 hp at_10).1 ?_
      refine M_aload_n (pc := 81) dX11_spoon_81 rfl ?_
      refine M_getR (pc := 82) dX11_spoon_82 f_X11_23 at_10 (gr_10_3 hp at_10).1 ?_
      refine M_getI (pc := 85) dX11_spoon_85 f_X11_236 (gr_10_3 hp at_10).2 ?_
      refine M_iload_n (pc := 88) dX11_spoon_88 rfl ?_
      refine M_aload_n (pc := 89) dX11_spoon_89 rfl ?_
      refine M_getR (pc := 90) dX11_spoon_90 f_X11_67 at_10 (gr_10_12 hp at_10).1 ?_
      refine M_getI (pc := 93) dX11_spoon_93 f_X11_239 (gr_10_12 hp at_10).2 ?_
      refine M_aload_n (pc := 96) dX11_spoon_96 rfl ?_
      refine M_getR (pc := 97) dX11_spoon_97 f_X11_23 at_10 (gr_10_3 hp at_10).1 ?_
      refine M_getI (pc := 100) dX11_spoon_100 f_X11_242 (gr_10_3 hp at_10).2 ?_
      obtain ⟨r9, hr10, h⟩ := bnd h
      refine M_callVv (pc := 103) dX11_spoon_103 v_X11_245 rfl rfl (gr_10_5 hp at_10).2 (Nat.le_of_ble_eq_true rfl) (C_X7_write (d := d + 4) hp (gr_10_5 hp at_10).2 hr10) (Nat.le_refl _) ?_
      refine M_aload_n (pc := 106) dX11_spoon_106 rfl ?_
      refine M_getR (pc := 107) dX11_spoon_107 f_X11_23 at_10 (gr_10_3 hp at_10).1 ?_
      refine M_getI (pc := 110) dX11_spoon_110 f_X11_242 (gr_10_3 hp at_10).2 ?_
      obtain rfl := Option.some.inj h
      exact M_iret (pc := 113) dX11_spoon_113 rfl rfl rfl rfl
    · have h := (if_neg hc4).symm.trans h
      obtain rfl := Option.some.inj h
      exact M_throw (pc := 36) dX11_spoon_36 dX11_spoon_39 dX11_spoon_40 dX11_spoon_42 dX11_spoon_45 x_X11_223 (j := 5) (by decide) str_X11_225 rfl rfl
  · have h := (if_pos hc3).symm.trans h
    obtain rfl := Option.some.inj h
    exact M_throw (pc := 14) dX11_spoon_14 dX11_spoon_17 dX11_spoon_18 dX11_spoon_20 dX11_spoon_23 x_X11_158 (j := 3) (by decide) str_X11_160 rfl rfl
def L_X11_passEvening_11 (b1 : Nat) (x2 : Int32) (x4 : Int32) (x3 : Int32) (x5 : Int32) (I : HI) : Option (Int32 × HI) :=
  if x4 ≤ x5 then (F_X3_comeBack I b1) >>= fun r4 => some (x3, r4) else (F_X3_drawDish I b1) >>= fun r6 => (F_X3_takes r6.2 b1 r6.1) >>= fun r8 => if r8 = 0 then L_X11_passEvening_11 b1 x2 x4 x3 (x5 + (1 : Int32)) r6.2 else (F_X3_bite r6.2 b1 r6.1 9) >>= fun r11 => if x2 = 0 then L_X11_passEvening_11 b1 x2 x4 (x3 + (1 : Int32)) (x5 + (1 : Int32)) r11 else (F_X7_write r11 15 (r11 b1 6) r6.1 (r11 136 0) (r11 b1 3)) >>= fun r14 => L_X11_passEvening_11 b1 x2 x4 (x3 + (1 : Int32)) (x5 + (1 : Int32)) r14
partial_fixpoint
def F_X11_passEvening (I : HI) (b1 : Nat) (x2 : Int32) : Option (Int32 × HI) :=
  (F_X3_drawSpoons I b1) >>= fun r1 => L_X11_passEvening_11 b1 x2 r1.1 (0 : Int32) (0 : Int32) r1.2
set_option maxRecDepth 4000 in
set_option maxHeartbeats 4000000 in
theorem LC_X11_passEvening_11 {g : gX} {d : Nat} {P : Nat → Nat → Option Nat} {J : HJ} {b1 : Nat} {x2 : Int32} {x4 : Int32} (hp : Wp P) (hb1 : OB NT b1 3) : ∀ (x3 : Int32) (x5 : Int32) (I : HI) (r : Int32 × HI), L_X11_passEvening_11 b1 x2 x4 x3 x5 I = some r → M g mX11_passEvening (d + 5) (NT, NT, 0) ((.inl (some (.int r.1))), (NT, r.2, J, P)) 11 [some (.ref 1), some (.ref b1), some (.int x2), some (.int x3), some (.int x4), some (.int x5), none] [] (NT, I, J, P) := by
  refine L_X11_passEvening_11.partial_correctness b1 x2 x4 (fun x3 x5 I r => M g mX11_passEvening (d + 5) (NT, NT, 0) ((.inl (some (.int r.1))), (NT, r.2, J, P)) 11 [some (.ref 1), some (.ref b1), some (.int x2), some (.int x3), some (.int x4), some (.int x5), none] [] (NT, I, J, P)) ?_
  intro f ih x3 x5 I r h
  refine M_iload (pc := 11) dX11_passEvening_11 rfl ?_
  refine M_iload (pc := 13) dX11_passEvening_13 rfl ?_
  refine M_icmp_ge (pc := 15) (tgt := 84) dX11_passEvening_15 (by decide) (fun hc3 => ?_) (fun hc3 => ?_)
  · have h := (if_pos hc3).symm.trans h
    refine M_aload_n (pc := 84) dX11_passEvening_84 rfl ?_
    obtain ⟨r4, hr5, h⟩ := bnd h
    refine M_callVv (pc := 85) dX11_passEvening_85 v_X11_249 rfl rfl hb1 (Nat.le_of_ble_eq_true rfl) (C_X3_comeBack (d := d + 3) hp hb1 hr5) (Nat.le_refl _) ?_
    refine M_iload_n (pc := 88) dX11_passEvening_88 rfl ?_
    obtain rfl := Option.some.inj h
    exact M_iret (pc := 89) dX11_passEvening_89 rfl rfl rfl rfl
  · have h := (if_neg hc3).symm.trans h
    refine M_aload_n (pc := 18) dX11_passEvening_18 rfl ?_
    obtain ⟨r6, hr7, h⟩ := bnd h
    refine M_callVi (pc := 19) dX11_passEvening_19 v_X11_292 rfl rfl hb1 (Nat.le_of_ble_eq_true rfl) (C_X3_drawDish (d := d + 3) hp hb1 hr7) (Nat.le_refl _) ?_
    refine M_istore (pc := 22) (ls' := [some (.ref 1), some (.ref b1), some (.int x2), some (.int x3), some (.int x4), some (.int x5), some (.int r6.1)]) dX11_passEvening_22 (by decide) rfl ?_
    refine M_aload_n (pc := 24) dX11_passEvening_24 rfl ?_
    refine M_iload (pc := 25) dX11_passEvening_25 rfl ?_
    obtain ⟨r8, hr9, h⟩ := bnd h
    refine M_callVi (pc := 27) dX11_passEvening_27 v_X11_295 rfl rfl hb1 (Nat.le_of_ble_eq_true rfl) (C_X3_takes (d := d + 3) hp hb1 hr9) (Nat.le_refl _) ?_
    refine M_if_eq (pc := 30) (tgt := 78) dX11_passEvening_30 (by decide) (fun hc10 => ?_) (fun hc10 => ?_)
    · have h := (if_pos hc10).symm.trans h
      refine M_iinc (pc := 78) (v := (x5 + (1 : Int32))) (ls' := [some (.ref 1), some (.ref b1), some (.int x2), some (.int x3), some (.int x4), some (.int (x5 + (1 : Int32))), some (.int r6.1)]) dX11_passEvening_78 rfl rfl (by decide) rfl ?_
      refine M_goto (pc := 81) (tgt := 11) dX11_passEvening_81 (by decide) ?_
      refine M_mask (pc := 11) [true, true, true, true, true, true, false] rfl ?_
      exact ih x3 (x5 + (1 : Int32)) r6.2 _ h
    · have h := (if_neg hc10).symm.trans h
      refine M_aload_n (pc := 33) dX11_passEvening_33 rfl ?_
      refine M_iload (pc := 34) dX11_passEvening_34 rfl ?_
      refine M_aload_n (pc := 36) dX11_passEvening_36 rfl ?_
      refine M_getR (pc := 37) dX11_passEvening_37 f_X11_30 at_10 (gr_10_4 hp at_10).1 ?_
      refine M_aload_n (pc := 40) dX11_passEvening_40 rfl ?_
      refine M_getR (pc := 41) dX11_passEvening_41 f_X11_67 at_10 (gr_10_12 hp at_10).1 ?_
      obtain ⟨r11, hr12, h⟩ := bnd h
      refine M_callVv (pc := 44) dX11_passEvening_44 v_X11_232 rfl rfl hb1 (Nat.le_of_ble_eq_true rfl) (C_X3_bite (d := d + 0) hp hb1 (gr_10_4 hp at_10).2 hr12) (Nat.le_refl _) ?_
      refine M_iinc (pc := 47) (v := (x3 + (1 : Int32))) (ls' := [some (.ref 1), some (.ref b1), some (.int x2), some (.int (x3 + (1 : Int32))), some (.int x4), some (.int x5), some (.int r6.1)]) dX11_passEvening_47 rfl rfl (by decide) rfl ?_
      refine M_iload_n (pc := 50) dX11_passEvening_50 rfl ?_
      refine M_if_eq (pc := 51) (tgt := 78) dX11_passEvening_51 (by decide) (fun hc13 => ?_) (fun hc13 => ?_)
      · have h := (if_pos hc13).symm.trans h
        refine M_iinc (pc := 78) (v := (x5 + (1 : Int32))) (ls' := [some (.ref 1), some (.ref b1), some (.int x2), some (.int (x3 + (1 : Int32))), some (.int x4), some (.int (x5 + (1 : Int32))), some (.int r6.1)]) dX11_passEvening_78 rfl rfl (by decide) rfl ?_
        refine M_goto (pc := 81) (tgt := 11) dX11_passEvening_81 (by decide) ?_
        refine M_mask (pc := 11) [true, true, true, true, true, true, false] rfl ?_
        exact ih (x3 + (1 : Int32)) (x5 + (1 : Int32)) r11 _ h
      · have h := (if_neg hc13).symm.trans h
        refine M_aload_n (pc := 54) dX11_passEvening_54 rfl ?_
        refine M_getR (pc := 55) dX11_passEvening_55 f_X11_37 at_10 (gr_10_5 hp at_10).1 ?_
        refine M_aload_n (pc := 58) dX11_passEvening_58 rfl ?_
        refine M_getI (pc := 59) dX11_passEvening_59 f_X11_236 hb1 ?_
        refine M_iload (pc := 62) dX11_passEvening_62 rfl ?_
        refine M_aload_n (pc := 64) dX11_passEvening_64 rfl ?_
        refine M_getR (pc := 65) dX11_passEvening_65 f_X11_67 at_10 (gr_10_12 hp at_10).1 ?_
        refine M_getI (pc := 68) dX11_passEvening_68 f_X11_239 (gr_10_12 hp at_10).2 ?_
        refine M_aload_n (pc := 71) dX11_passEvening_71 rfl ?_
        refine M_getI (pc := 72) dX11_passEvening_72 f_X11_242 hb1 ?_
        obtain ⟨r14, hr15, h⟩ := bnd h
        refine M_callVv (pc := 75) dX11_passEvening_75 v_X11_245 rfl rfl (gr_10_5 hp at_10).2 (Nat.le_of_ble_eq_true rfl) (C_X7_write (d := d + 3) hp (gr_10_5 hp at_10).2 hr15) (Nat.le_refl _) ?_
        refine M_iinc (pc := 78) (v := (x5 + (1 : Int32))) (ls' := [some (.ref 1), some (.ref b1), some (.int x2), some (.int (x3 + (1 : Int32))), some (.int x4), some (.int (x5 + (1 : Int32))), some (.int r6.1)]) dX11_passEvening_78 rfl rfl (by decide) rfl ?_
        refine M_goto (pc := 81) (tgt := 11) dX11_passEvening_81 (by decide) ?_
        refine M_mask (pc := 11) [true, true, true, true, true, true, false] rfl ?_
        exact ih (x3 + (1 : Int32)) (x5 + (1 : Int32)) r14 _ h
set_option maxRecDepth 4000 in
set_option maxHeartbeats 4000000 in
theorem C_X11_passEvening {g : gX} {d : Nat} {P : Nat → Nat → Option Nat} {I : HI} {b1 : Nat} {x2 : Int32} {J : HJ} (hp : Wp P) (hb1 : OB NT b1 3) {r : Int32 × HI} (h : F_X11_passEvening I b1 x2 = some r) : Cm g mX11_passEvening (d + 5) [.ref 1, .ref b1, .int x2] (NT, I, J, P) (some (.int r.1)) (NT, r.2, J, P) := by
  unfold F_X11_passEvening at h
  refine Cm.of (by decide) (by simp [Value.category]) (Nat.le_of_ble_eq_true rfl) (Nat.le_refl _) (ls := [some (.ref 1), some (.ref b1), some (.int x2), none, none, none, none]) rfl ?_
  refine M_iconst (pc := 0) (v := 0) dX11_passEvening_0 (by decide) ?_
  refine M_istore_n (pc := 1) (ls' := [some (.ref 1), some (.ref b1), some (.int x2), some (.int (0 : Int32)), none, none, none]) dX11_passEvening_1 (by decide) rfl ?_
  refine M_aload_n (pc := 2) dX11_passEvening_2 rfl ?_
  obtain ⟨r1, hr2, h⟩ := bnd h
  refine M_callVi (pc := 3) dX11_passEvening_3 v_X11_289 rfl rfl hb1 (Nat.le_of_ble_eq_true rfl) (C_X3_drawSpoons (d := d + 3) hp hb1 hr2) (Nat.le_refl _) ?_
  refine M_istore (pc := 6) (ls' := [some (.ref 1), some (.ref b1), some (.int x2), some (.int (0 : Int32)), some (.int r1.1), none, none]) dX11_passEvening_6 (by decide) rfl ?_
  refine M_iconst (pc := 8) (v := 0) dX11_passEvening_8 (by decide) ?_
  refine M_istore (pc := 9) (ls' := [some (.ref 1), some (.ref b1), some (.int x2), some (.int (0 : Int32)), some (.int r1.1), some (.int (0 : Int32)), none]) dX11_passEvening_9 (by decide) rfl ?_
  exact LC_X11_passEvening_11 (P := P) hp hb1 (0 : Int32) (0 : Int32) r1.2 _ h
def L_X11_breaks_37 (x1 : Int32) (x2 : Int32) (I : HI) : Option ((Int32 ⊕ String) × HI) :=
  if (100 : Int32) ≤ x2 then (F_X3_takes I 130 x1) >>= fun r7 => if r7 = 0 then some ((Sum.inl (100 : Int32)), I) else some ((Sum.inl (-1 : Int32)), I) else (F_X3_takes I 130 x1) >>= fun r10 => if r10 = 0 then some ((Sum.inl x2), I) else (F_X3_bite I 130 x1 9) >>= fun r13 => L_X11_breaks_37 x1 (x2 + (1 : Int32)) r13
partial_fixpoint
def F_X11_breaks (I : HI) (x1 : Int32) : Option ((Int32 ⊕ String) × HI) :=
  (F_X1_has I 4 x1) >>= fun r1 => if r1 = 0 then some ((Sum.inr "java/lang/IndexOutOfBoundsException"), I) else (F_X3_copy I 130 3) >>= fun r4 => L_X11_breaks_37 x1 (0 : Int32) r4
set_option maxRecDepth 4000 in
set_option maxHeartbeats 4000000 in
theorem LC_X11_breaks_37 {g : gX} {d : Nat} {P : Nat → Nat → Option Nat} {J : HJ} {x1 : Int32} (hp : Wp P) : ∀ (x2 : Int32) (I : HI) (r : (Int32 ⊕ String) × HI), L_X11_breaks_37 x1 x2 I = some r → M g mX11_breaks (d + 6) (NT, NT, 1) ((thr_i r.1), (NT, r.2, J, P)) 37 [some (.ref 1), some (.int x1), some (.int x2)] [] (NT, I, J, P) := by
  refine L_X11_breaks_37.partial_correctness x1 (fun x2 I r => M g mX11_breaks (d + 6) (NT, NT, 1) ((thr_i r.1), (NT, r.2, J, P)) 37 [some (.ref 1), some (.int x1), some (.int x2)] [] (NT, I, J, P)) ?_
  intro f ih x2 I r h
  refine M_iload_n (pc := 37) dX11_breaks_37 rfl ?_
  refine M_bipush (pc := 38) (v := 100) dX11_breaks_38 (by decide) ?_
  refine M_icmp_ge (pc := 40) (tgt := 78) dX11_breaks_40 (by decide) (fun hc6 => ?_) (fun hc6 => ?_)
  · have h := (if_pos hc6).symm.trans h
    refine M_aload_n (pc := 78) dX11_breaks_78 rfl ?_
    refine M_getR (pc := 79) dX11_breaks_79 f_X11_61 at_10 (gr_10_11 hp at_10).1 ?_
    refine M_iload_n (pc := 82) dX11_breaks_82 rfl ?_
    obtain ⟨r7, hr8, h⟩ := bnd h
    refine M_callVi (pc := 83) dX11_breaks_83 v_X11_295 rfl rfl (gr_10_11 hp at_10).2 (Nat.le_of_ble_eq_true rfl) (C_X3_takes (d := d + 4) hp (gr_10_11 hp at_10).2 hr8) (Nat.le_refl _) ?_
    refine M_if_eq (pc := 86) (tgt := 93) dX11_breaks_86 (by decide) (fun hc9 => ?_) (fun hc9 => ?_)
    · have h := (if_pos hc9).symm.trans h
      refine M_bipush (pc := 93) (v := 100) dX11_breaks_93 (by decide) ?_
      obtain rfl := Option.some.inj h
      exact M_iret (pc := 95) dX11_breaks_95 rfl rfl rfl rfl
    · have h := (if_neg hc9).symm.trans h
      refine M_iconst (pc := 89) (v := -1) dX11_breaks_89 (by decide) ?_
      refine M_goto (pc := 90) (tgt := 95) dX11_breaks_90 (by decide) ?_
      obtain rfl := Option.some.inj h
      exact M_iret (pc := 95) dX11_breaks_95 rfl rfl rfl rfl
  · have h := (if_neg hc6).symm.trans h
    refine M_aload_n (pc := 43) dX11_breaks_43 rfl ?_
    refine M_getR (pc := 44) dX11_breaks_44 f_X11_61 at_10 (gr_10_11 hp at_10).1 ?_
    refine M_iload_n (pc := 47) dX11_breaks_47 rfl ?_
    obtain ⟨r10, hr11, h⟩ := bnd h
    refine M_callVi (pc := 48) dX11_breaks_48 v_X11_295 rfl rfl (gr_10_11 hp at_10).2 (Nat.le_of_ble_eq_true rfl) (C_X3_takes (d := d + 4) hp (gr_10_11 hp at_10).2 hr11) (Nat.le_refl _) ?_
    refine M_if_ne (pc := 51) (tgt := 56) dX11_breaks_51 (by decide) (fun hc12 => ?_) (fun hc12 => ?_)
    · have h := (if_neg hc12).symm.trans h
      refine M_aload_n (pc := 56) dX11_breaks_56 rfl ?_
      refine M_getR (pc := 57) dX11_breaks_57 f_X11_61 at_10 (gr_10_11 hp at_10).1 ?_
      refine M_iload_n (pc := 60) dX11_breaks_60 rfl ?_
      refine M_aload_n (pc := 61) dX11_breaks_61 rfl ?_
      refine M_getR (pc := 62) dX11_breaks_62 f_X11_30 at_10 (gr_10_4 hp at_10).1 ?_
      refine M_aload_n (pc := 65) dX11_breaks_65 rfl ?_
      refine M_getR (pc := 66) dX11_breaks_66 f_X11_67 at_10 (gr_10_12 hp at_10).1 ?_
      obtain ⟨r13, hr14, h⟩ := bnd h
      refine M_callVv (pc := 69) dX11_breaks_69 v_X11_232 rfl rfl (gr_10_11 hp at_10).2 (Nat.le_of_ble_eq_true rfl) (C_X3_bite (d := d + 1) hp (gr_10_11 hp at_10).2 (gr_10_4 hp at_10).2 hr14) (Nat.le_refl _) ?_
      refine M_iinc (pc := 72) (v := (x2 + (1 : Int32))) (ls' := [some (.ref 1), some (.int x1), some (.int (x2 + (1 : Int32)))]) dX11_breaks_72 rfl rfl (by decide) rfl ?_
      refine M_goto (pc := 75) (tgt := 37) dX11_breaks_75 (by decide) ?_
      exact ih (x2 + (1 : Int32)) r13 _ h
    · have h := (if_pos hc12).symm.trans h
      refine M_iload_n (pc := 54) dX11_breaks_54 rfl ?_
      obtain rfl := Option.some.inj h
      exact M_iret (pc := 55) dX11_breaks_55 rfl rfl rfl rfl
set_option maxRecDepth 4000 in
set_option maxHeartbeats 4000000 in
theorem C_X11_breaks {g : gX} {d : Nat} {P : Nat → Nat → Option Nat} {I : HI} {x1 : Int32} {J : HJ} (hp : Wp P) {r : (Int32 ⊕ String) × HI} (h : F_X11_breaks I x1 = some r) : Cx g mX11_breaks (d + 6) [.ref 1, .int x1] (NT, I, J, P) ((thr_i r.1), (NT, r.2, J, P)) := by
  unfold F_X11_breaks at h
  refine Cx.of (by decide) (by simp [Value.category]) (Nat.le_of_ble_eq_true rfl) (Nat.le_refl _) (ls := [some (.ref 1), some (.int x1), none]) rfl ?_
  refine M_aload_n (pc := 0) dX11_breaks_0 rfl ?_
  refine M_getR (pc := 1) dX11_breaks_1 f_X11_23 at_10 (gr_10_3 hp at_10).1 ?_
  refine M_getR (pc := 4) dX11_breaks_4 f_X11_148 (gr_10_3 hp at_10).2 (gr_3_0 hp (gr_10_3 hp at_10).2).1 ?_
  refine M_iload_n (pc := 7) dX11_breaks_7 rfl ?_
  obtain ⟨r1, hr2, h⟩ := bnd h
  refine M_callVi (pc := 8) dX11_breaks_8 v_X11_152 rfl rfl (gr_3_0 hp (gr_10_3 hp at_10).2).2 (Nat.le_of_ble_eq_true rfl) (C_X1_has (d := d + 5) hp (gr_3_0 hp (gr_10_3 hp at_10).2).2 hr2) (Nat.le_refl _) ?_
  refine M_if_ne (pc := 11) (tgt := 24) dX11_breaks_11 (by decide) (fun hc3 => ?_) (fun hc3 => ?_)
  · have h := (if_neg hc3).symm.trans h
    refine M_aload_n (pc := 24) dX11_breaks_24 rfl ?_
    refine M_getR (pc := 25) dX11_breaks_25 f_X11_61 at_10 (gr_10_11 hp at_10).1 ?_
    refine M_aload_n (pc := 28) dX11_breaks_28 rfl ?_
    refine M_getR (pc := 29) dX11_breaks_29 f_X11_23 at_10 (gr_10_3 hp at_10).1 ?_
    obtain ⟨r4, hr5, h⟩ := bnd h
    refine M_callVv (pc := 32) dX11_breaks_32 v_X11_106 rfl rfl (gr_10_11 hp at_10).2 (Nat.le_of_ble_eq_true rfl) (C_X3_copy (d := d + 3) hp (gr_10_11 hp at_10).2 (gr_10_3 hp at_10).2 hr5) (Nat.le_refl _) ?_
    refine M_iconst (pc := 35) (v := 0) dX11_breaks_35 (by decide) ?_
    refine M_istore_n (pc := 36) (ls' := [some (.ref 1), some (.int x1), some (.int (0 : Int32))]) dX11_breaks_36 (by decide) rfl ?_
    exact LC_X11_breaks_37 (P := P) hp (0 : Int32) r4 _ h
  · have h := (if_pos hc3).symm.trans h
    obtain rfl := Option.some.inj h
    exact M_throw (pc := 14) dX11_breaks_14 dX11_breaks_17 dX11_breaks_18 dX11_breaks_20 dX11_breaks_23 x_X11_158 (j := 3) (by decide) str_X11_160 rfl rfl
