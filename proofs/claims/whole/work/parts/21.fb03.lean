def F_X11_turnsNow (I : HI) (x1 : Int32) : Option (Int32 × HI) :=
  (F_X9_put I 3 x1) >>= fun r1 => (F_X4_weigh r1 9) >>= fun r3 => some ((r3 136 1), r3)
set_option maxRecDepth 4000 in
set_option maxHeartbeats 4000000 in
theorem C_X11_turnsNow {g : gX} {d : Nat} {P : Nat → Nat → Option Nat} {I : HI} {x1 : Int32} {J : HJ} (hp : Wp P) {r : Int32 × HI} (h : F_X11_turnsNow I x1 = some r) : Cm g mX11_turnsNow (d + 4) [.ref 1, .int x1] (NT, I, J, P) (some (.int r.1)) (NT, r.2, J, P) := by
  unfold F_X11_turnsNow at h
  refine Cm.of (by decide) (by simp [Value.category]) (Nat.le_of_ble_eq_true rfl) (Nat.le_refl _) (ls := [some (.ref 1), some (.int x1)]) rfl ?_
  refine M_aload_n (pc := 0) dX11_turnsNow_0 rfl ?_
  refine M_getR (pc := 1) dX11_turnsNow_1 f_X11_67 at_10 (gc_1_12 hp).1 ?_
  refine M_aload_n (pc := 4) dX11_turnsNow_4 rfl ?_
  refine M_getR (pc := 5) dX11_turnsNow_5 f_X11_23 at_10 (gc_1_3 hp).1 ?_
  refine M_iload_n (pc := 8) dX11_turnsNow_8 rfl ?_
  obtain ⟨r1, hr2, h⟩ := bnd h
  refine M_callVv (pc := 9) dX11_turnsNow_9 v_X11_194 rfl rfl (gc_1_12 hp).2 (Nat.le_of_ble_eq_true rfl) (C_X9_put (d := d + 0) hp (gc_1_3 hp).2 hr2) (Nat.le_refl _) ?_
  refine M_aload_n (pc := 12) dX11_turnsNow_12 rfl ?_
  refine M_getR (pc := 13) dX11_turnsNow_13 f_X11_30 at_10 (gc_1_4 hp).1 ?_
  refine M_aload_n (pc := 16) dX11_turnsNow_16 rfl ?_
  refine M_getR (pc := 17) dX11_turnsNow_17 f_X11_67 at_10 (gc_1_12 hp).1 ?_
  obtain ⟨r3, hr4, h⟩ := bnd h
  refine M_callVv (pc := 20) dX11_turnsNow_20 v_X11_198 rfl rfl (gc_1_4 hp).2 (Nat.le_of_ble_eq_true rfl) (C_X4_weigh (d := d + 0) hp (gc_1_4 hp).2 hr4) (Nat.le_refl _) ?_
  refine M_aload_n (pc := 23) dX11_turnsNow_23 rfl ?_
  refine M_getR (pc := 24) dX11_turnsNow_24 f_X11_67 at_10 (gc_1_12 hp).1 ?_
  refine M_getI (pc := 27) dX11_turnsNow_27 f_X11_202 (gc_1_12 hp).2 ?_
  obtain rfl := Option.some.inj h
  exact M_iret (pc := 30) dX11_turnsNow_30 rfl rfl rfl rfl
def F_X11_paysNow (I : HI) (x1 : Int32) : Option (Int32 × HI) :=
  (F_X9_put I 3 x1) >>= fun r1 => (F_X4_weigh r1 9) >>= fun r3 => some ((r3 136 2), r3)
set_option maxRecDepth 4000 in
set_option maxHeartbeats 4000000 in
theorem C_X11_paysNow {g : gX} {d : Nat} {P : Nat → Nat → Option Nat} {I : HI} {x1 : Int32} {J : HJ} (hp : Wp P) {r : Int32 × HI} (h : F_X11_paysNow I x1 = some r) : Cm g mX11_paysNow (d + 4) [.ref 1, .int x1] (NT, I, J, P) (some (.int r.1)) (NT, r.2, J, P) := by
  unfold F_X11_paysNow at h
  refine Cm.of (by decide) (by simp [Value.category]) (Nat.le_of_ble_eq_true rfl) (Nat.le_refl _) (ls := [some (.ref 1), some (.int x1)]) rfl ?_
  refine M_aload_n (pc := 0) dX11_paysNow_0 rfl ?_
  refine M_getR (pc := 1) dX11_paysNow_1 f_X11_67 at_10 (gc_1_12 hp).1 ?_
  refine M_aload_n (pc := 4) dX11_paysNow_4 rfl ?_
  refine M_getR (pc := 5) dX11_paysNow_5 f_X11_23 at_10 (gc_1_3 hp).1 ?_
  refine M_iload_n (pc := 8) dX11_paysNow_8 rfl ?_
  obtain ⟨r1, hr2, h⟩ := bnd h
  refine M_callVv (pc := 9) dX11_paysNow_9 v_X11_194 rfl rfl (gc_1_12 hp).2 (Nat.le_of_ble_eq_true rfl) (C_X9_put (d := d + 0) hp (gc_1_3 hp).2 hr2) (Nat.le_refl _) ?_
  refine M_aload_n (pc := 12) dX11_paysNow_12 rfl ?_
  refine M_getR (pc := 13) dX11_paysNow_13 f_X11_30 at_10 (gc_1_4 hp).1 ?_
  refine M_aload_n (pc := 16) dX11_paysNow_16 rfl ?_
  refine M_getR (pc := 17) dX11_paysNow_17 f_X11_67 at_10 (gc_1_12 hp).1 ?_
  obtain ⟨r3, hr4, h⟩ := bnd h
  refine M_callVv (pc := 20) dX11_paysNow_20 v_X11_198 rfl rfl (gc_1_4 hp).2 (Nat.le_of_ble_eq_true rfl) (C_X4_weigh (d := d + 0) hp (gc_1_4 hp).2 hr4) (Nat.le_refl _) ?_
  refine M_aload_n (pc := 23) dX11_paysNow_23 rfl ?_
  refine M_getR (pc := 24) dX11_paysNow_24 f_X11_67 at_10 (gc_1_12 hp).1 ?_
  refine M_getI (pc := 27) dX11_paysNow_27 f_X11_205 (gc_1_12 hp).2 ?_
  obtain rfl := Option.some.inj h
  exact M_iret (pc := 30) dX11_paysNow_30 rfl rfl rfl rfl
def L_X11_sad_6 (x1 : Int32) (x2 : Int32) (x3 : Int32) (I : HI) : Option (Int32 × HI) :=
  if (I 4 0) ≤ x3 then some (x1, I) else (F_X11_turnsNow I x3) >>= fun r2 => if x1 = (-1 : Int32) then L_X11_sad_6 x3 r2.1 (x3 + (1 : Int32)) r2.2 else if r2.1 ≤ x2 then L_X11_sad_6 x1 x2 (x3 + (1 : Int32)) r2.2 else L_X11_sad_6 x3 r2.1 (x3 + (1 : Int32)) r2.2
partial_fixpoint
def F_X11_sad (I : HI) : Option (Int32 × HI) :=
  L_X11_sad_6 (-1 : Int32) (0 : Int32) (0 : Int32) I
set_option maxRecDepth 4000 in
set_option maxHeartbeats 4000000 in
theorem LC_X11_sad_6 {g : gX} {d : Nat} {P : Nat → Nat → Option Nat} {J : HJ}  (hp : Wp P) : ∀ (x1 : Int32) (x2 : Int32) (x3 : Int32) (I : HI) (r : Int32 × HI), L_X11_sad_6  x1 x2 x3 I = some r → M g mX11_sad (d + 5) (NT, NT, 0) ((.inl (some (.int r.1))), (NT, r.2, J, P)) 6 [some (.ref 1), some (.int x1), some (.int x2), some (.int x3), none] [] (NT, I, J, P) := by
  refine L_X11_sad_6.partial_correctness  (fun x1 x2 x3 I r => M g mX11_sad (d + 5) (NT, NT, 0) ((.inl (some (.int r.1))), (NT, r.2, J, P)) 6 [some (.ref 1), some (.int x1), some (.int x2), some (.int x3), none] [] (NT, I, J, P)) ?_
  intro f ih x1 x2 x3 I r h
  refine M_iload_n (pc := 6) dX11_sad_6 rfl ?_
  refine M_aload_n (pc := 7) dX11_sad_7 rfl ?_
  refine M_getR (pc := 8) dX11_sad_8 f_X11_23 at_10 (gc_1_3 hp).1 ?_
  refine M_getR (pc := 11) dX11_sad_11 f_X11_148 (gc_1_3 hp).2 (gc_3_0 hp).1 ?_
  refine M_getI (pc := 14) dX11_sad_14 f_X11_211 (gc_3_0 hp).2 ?_
  refine M_icmp_ge (pc := 17) (tgt := 49) dX11_sad_17 (by decide) (fun hc1 => ?_) (fun hc1 => ?_)
  · have h := (if_pos hc1).symm.trans h
    refine M_iload_n (pc := 49) dX11_sad_49 rfl ?_
    obtain rfl := Option.some.inj h
    exact M_iret (pc := 50) dX11_sad_50 rfl rfl rfl rfl
  · have h := (if_neg hc1).symm.trans h
    refine M_aload_n (pc := 20) dX11_sad_20 rfl ?_
    refine M_iload_n (pc := 21) dX11_sad_21 rfl ?_
    obtain ⟨r2, hr3, h⟩ := bnd h
    refine M_callVi (pc := 22) dX11_sad_22 v_X11_187 rfl rfl at_10 (Nat.le_of_ble_eq_true rfl) (C_X11_turnsNow (d := d + 0) hp hr3) (Nat.le_refl _) ?_
    refine M_istore (pc := 25) (ls' := [some (.ref 1), some (.int x1), some (.int x2), some (.int x3), some (.int r2.1)]) dX11_sad_25 (by decide) rfl ?_
    refine M_iload_n (pc := 27) dX11_sad_27 rfl ?_
    refine M_iconst (pc := 28) (v := -1) dX11_sad_28 (by decide) ?_
    refine M_icmp_eq (pc := 29) (tgt := 38) dX11_sad_29 (by decide) (fun hc4 => ?_) (fun hc4 => ?_)
    · have h := (if_pos hc4).symm.trans h
      refine M_iload (pc := 38) dX11_sad_38 rfl ?_
      refine M_istore_n (pc := 40) (ls' := [some (.ref 1), some (.int x1), some (.int r2.1), some (.int x3), some (.int r2.1)]) dX11_sad_40 (by decide) rfl ?_
      refine M_iload_n (pc := 41) dX11_sad_41 rfl ?_
      refine M_istore_n (pc := 42) (ls' := [some (.ref 1), some (.int x3), some (.int r2.1), some (.int x3), some (.int r2.1)]) dX11_sad_42 (by decide) rfl ?_
      refine M_iinc (pc := 43) (v := (x3 + (1 : Int32))) (ls' := [some (.ref 1), some (.int x3), some (.int r2.1), some (.int (x3 + (1 : Int32))), some (.int r2.1)]) dX11_sad_43 rfl rfl (by decide) rfl ?_
      refine M_goto (pc := 46) (tgt := 6) dX11_sad_46 (by decide) ?_
      refine M_mask (pc := 6) [true, true, true, true, false] rfl ?_
      exact ih x3 r2.1 (x3 + (1 : Int32)) r2.2 _ h
    · have h := (if_neg hc4).symm.trans h
      refine M_iload (pc := 32) dX11_sad_32 rfl ?_
      refine M_iload_n (pc := 34) dX11_sad_34 rfl ?_
      refine M_icmp_le (pc := 35) (tgt := 43) dX11_sad_35 (by decide) (fun hc5 => ?_) (fun hc5 => ?_)
      · have h := (if_pos hc5).symm.trans h
        refine M_iinc (pc := 43) (v := (x3 + (1 : Int32))) (ls' := [some (.ref 1), some (.int x1), some (.int x2), some (.int (x3 + (1 : Int32))), some (.int r2.1)]) dX11_sad_43 rfl rfl (by decide) rfl ?_
        refine M_goto (pc := 46) (tgt := 6) dX11_sad_46 (by decide) ?_
        refine M_mask (pc := 6) [true, true, true, true, false] rfl ?_
        exact ih x1 x2 (x3 + (1 : Int32)) r2.2 _ h
      · have h := (if_neg hc5).symm.trans h
        refine M_iload (pc := 38) dX11_sad_38 rfl ?_
        refine M_istore_n (pc := 40) (ls' := [some (.ref 1), some (.int x1), some (.int r2.1), some (.int x3), some (.int r2.1)]) dX11_sad_40 (by decide) rfl ?_
        refine M_iload_n (pc := 41) dX11_sad_41 rfl ?_
        refine M_istore_n (pc := 42) (ls' := [some (.ref 1), some (.int x3), some (.int r2.1), some (.int x3), some (.int r2.1)]) dX11_sad_42 (by decide) rfl ?_
        refine M_iinc (pc := 43) (v := (x3 + (1 : Int32))) (ls' := [some (.ref 1), some (.int x3), some (.int r2.1), some (.int (x3 + (1 : Int32))), some (.int r2.1)]) dX11_sad_43 rfl rfl (by decide) rfl ?_
        refine M_goto (pc := 46) (tgt := 6) dX11_sad_46 (by decide) ?_
        refine M_mask (pc := 6) [true, true, true, true, false] rfl ?_
        exact ih x3 r2.1 (x3 + (1 : Int32)) r2.2 _ h
set_option maxRecDepth 4000 in
set_option maxHeartbeats 4000000 in
theorem C_X11_sad {g : gX} {d : Nat} {P : Nat → Nat → Option Nat} {I : HI} {J : HJ} (hp : Wp P) {r : Int32 × HI} (h : F_X11_sad I = some r) : Cm g mX11_sad (d + 5) [.ref 1] (NT, I, J, P) (some (.int r.1)) (NT, r.2, J, P) := by
  unfold F_X11_sad at h
  refine Cm.of (by decide) (by simp [Value.category]) (Nat.le_of_ble_eq_true rfl) (Nat.le_refl _) (ls := [some (.ref 1), none, none, none, none]) rfl ?_
  refine M_iconst (pc := 0) (v := -1) dX11_sad_0 (by decide) ?_
  refine M_istore_n (pc := 1) (ls' := [some (.ref 1), some (.int (-1 : Int32)), none, none, none]) dX11_sad_1 (by decide) rfl ?_
  refine M_iconst (pc := 2) (v := 0) dX11_sad_2 (by decide) ?_
  refine M_istore_n (pc := 3) (ls' := [some (.ref 1), some (.int (-1 : Int32)), some (.int (0 : Int32)), none, none]) dX11_sad_3 (by decide) rfl ?_
  refine M_iconst (pc := 4) (v := 0) dX11_sad_4 (by decide) ?_
  refine M_istore_n (pc := 5) (ls' := [some (.ref 1), some (.int (-1 : Int32)), some (.int (0 : Int32)), some (.int (0 : Int32)), none]) dX11_sad_5 (by decide) rfl ?_
  exact LC_X11_sad_6 (P := P) hp (-1 : Int32) (0 : Int32) (0 : Int32) I _ h
def F_X11_spoon (I : HI) (x1 : Int32) : Option ((Int32 ⊕ String) × HI) :=
  (F_X1_has I 4 x1) >>= fun r1 => if r1 = 0 then some ((Sum.inr "java/lang/IndexOutOfBoundsException"), I) else if (I 3 4) < (99 : Int32) then (F_X0_remember I 3 15) >>= fun r5 => (F_X3_bite r5 3 x1 9) >>= fun r7 => (F_X7_write r7 15 (r7 3 6) x1 (r7 136 0) (r7 3 3)) >>= fun r9 => some ((Sum.inl (r9 3 3)), r9) else some ((Sum.inr "java/lang/IllegalStateException"), I)
set_option maxRecDepth 4000 in
set_option maxHeartbeats 4000000 in
theorem C_X11_spoon {g : gX} {d : Nat} {P : Nat → Nat → Option Nat} {I : HI} {x1 : Int32} {J : HJ} (hp : Wp P) {r : (Int32 ⊕ String) × HI} (h : F_X11_spoon I x1 = some r) : Cx g mX11_spoon (d + 6) [.ref 1, .int x1] (NT, I, J, P) ((thr_i r.1), (NT, r.2, J, P)) := by
  unfold F_X11_spoon at h
  refine Cx.of (by decide) (by simp [Value.category]) (Nat.le_of_ble_eq_true rfl) (Nat.le_refl _) (ls := [some (.ref 1), some (.int x1)]) rfl ?_
  refine M_aload_n (pc := 0) dX11_spoon_0 rfl ?_
  refine M_getR (pc := 1) dX11_spoon_1 f_X11_23 at_10 (gc_1_3 hp).1 ?_
  refine M_getR (pc := 4) dX11_spoon_4 f_X11_148 (gc_1_3 hp).2 (gc_3_0 hp).1 ?_
  refine M_iload_n (pc := 7) dX11_spoon_7 rfl ?_
  obtain ⟨r1, hr2, h⟩ := bnd h
  refine M_callVi (pc := 8) dX11_spoon_8 v_X11_152 rfl rfl (gc_3_0 hp).2 (Nat.le_of_ble_eq_true rfl) (C_X1_has (d := d + 5) hp (gc_3_0 hp).2 hr2) (Nat.le_refl _) ?_
  refine M_if_ne (pc := 11) (tgt := 24) dX11_spoon_11 (by decide) (fun hc3 => ?_) (fun hc3 => ?_)
  · have h := (if_neg hc3).symm.trans h
    refine M_aload_n (pc := 24) dX11_spoon_24 rfl ?_
    refine M_getR (pc := 25) dX11_spoon_25 f_X11_23 at_10 (gc_1_3 hp).1 ?_
    refine M_getI (pc := 28) dX11_spoon_28 f_X11_220 (gc_1_3 hp).2 ?_
    refine M_bipush (pc := 31) (v := 99) dX11_spoon_31 (by decide) ?_
    refine M_icmp_lt (pc := 33) (tgt := 46) dX11_spoon_33 (by decide) (fun hc4 => ?_) (fun hc4 => ?_)
    · have h := (if_pos hc4).symm.trans h
      refine M_aload_n (pc := 46) dX11_spoon_46 rfl ?_
      refine M_getR (pc := 47) dX11_spoon_47 f_X11_44 at_10 (gc_1_6 hp).1 ?_
      refine M_aload_n (pc := 50) dX11_spoon_50 rfl ?_
      refine M_getR (pc := 51) dX11_spoon_51 f_X11_23 at_10 (gc_1_3 hp).1 ?_
      refine M_aload_n (pc := 54) dX11_spoon_54 rfl ?_
      refine M_getR (pc := 55) dX11_spoon_55 f_X11_37 at_10 (gc_1_5 hp).1 ?_
      obtain ⟨r5, hr6, h⟩ := bnd h
      refine M_callVv (pc := 58) dX11_spoon_58 v_X11_228 rfl rfl (gc_1_6 hp).2 (Nat.le_of_ble_eq_true rfl) (C_X0_remember (d := d + 2) hp (gc_1_3 hp).2 (gc_1_5 hp).2 hr6) (Nat.le_refl _) ?_
      refine M_aload_n (pc := 61) dX11_spoon_61 rfl ?_
      refine M_getR (pc := 62) dX11_spoon_62 f_X11_23 at_10 (gc_1_3 hp).1 ?_
      refine M_iload_n (pc := 65) dX11_spoon_65 rfl ?_
      refine M_aload_n (pc := 66) dX11_spoon_66 rfl ?_
      refine M_getR (pc := 67) dX11_spoon_67 f_X11_30 at_10 (gc_1_4 hp).1 ?_
      refine M_aload_n (pc := 70) dX11_spoon_70 rfl ?_
      refine M_getR (pc := 71) dX11_spoon_71 f_X11_67 at_10 (gc_1_12 hp).1 ?_
      obtain ⟨r7, hr8, h⟩ := bnd h
      refine M_callVv (pc := 74) dX11_spoon_74 v_X11_232 rfl rfl (gc_1_3 hp).2 (Nat.le_of_ble_eq_true rfl) (C_X3_bite (d := d + 1) hp (gc_1_3 hp).2 (gc_1_4 hp).2 hr8) (Nat.le_refl _) ?_
      refine M_aload_n (pc := 77) dX11_spoon_77 rfl ?_
      refine M_getR (pc := 78) dX11_spoon_78 f_X11_37 at_10 (gc_1_5 hp).1 ?_
      refine M_aload_n (pc := 81) dX11_spoon_81 rfl ?_
      refine M_getR (pc := 82) dX11_spoon_82 f_X11_23 at_10 (gc_1_3 hp).1 ?_
      refine M_getI (pc := 85) dX11_spoon_85 f_X11_236 (gc_1_3 hp).2 ?_
      refine M_iload_n (pc := 88) dX11_spoon_88 rfl ?_
      refine M_aload_n (pc := 89) dX11_spoon_89 rfl ?_
      refine M_getR (pc := 90) dX11_spoon_90 f_X11_67 at_10 (gc_1_12 hp).1 ?_
      refine M_getI (pc := 93) dX11_spoon_93 f_X11_239 (gc_1_12 hp).2 ?_
      refine M_aload_n (pc := 96) dX11_spoon_96 rfl ?_
      refine M_getR (pc := 97) dX11_spoon_97 f_X11_23 at_10 (gc_1_3 hp).1 ?_
      refine M_getI (pc := 100) dX11_spoon_100 f_X11_242 (gc_1_3 hp).2 ?_
      obtain ⟨r9, hr10, h⟩ := bnd h
      refine M_callVv (pc := 103) dX11_spoon_103 v_X11_245 rfl rfl (gc_1_5 hp).2 (Nat.le_of_ble_eq_true rfl) (C_X7_write (d := d + 4) hp (gc_1_5 hp).2 hr10) (Nat.le_refl _) ?_
      refine M_aload_n (pc := 106) dX11_spoon_106 rfl ?_
      refine M_getR (pc := 107) dX11_spoon_107 f_X11_23 at_10 (gc_1_3 hp).1 ?_
      refine M_getI (pc := 110) dX11_spoon_110 f_X11_242 (gc_1_3 hp).2 ?_
      obtain rfl := Option.some.inj h
      exact M_iret (pc := 113) dX11_spoon_113 rfl rfl rfl rfl
    · have h := (if_neg hc4).symm.trans h
      obtain rfl := Option.some.inj h
      exact M_throw (pc := 36) dX11_spoon_36 dX11_spoon_39 dX11_spoon_40 dX11_spoon_42 dX11_spoon_45 ⟨rfl, rfl, rfl, rfl⟩ x_X11_223 (j := 5) (by decide) str_X11_225 rfl rfl
  · have h := (if_pos hc3).symm.trans h
    obtain rfl := Option.some.inj h
    exact M_throw (pc := 14) dX11_spoon_14 dX11_spoon_17 dX11_spoon_18 dX11_spoon_20 dX11_spoon_23 ⟨rfl, rfl, rfl, rfl⟩ x_X11_158 (j := 3) (by decide) str_X11_160 rfl rfl
def L_X11_passEvening_11 (b1 : Nat) (x2 : Int32) (x4 : Int32) (x3 : Int32) (x5 : Int32) (I : HI) : Option (Int32 × HI) :=
  if x4 ≤ x5 then (F_X3_comeBack I b1) >>= fun r4 => some (x3, r4) else (F_X3_drawDish I b1) >>= fun r6 => (F_X3_takes r6.2 b1 r6.1) >>= fun r8 => if r8 = 0 then L_X11_passEvening_11 b1 x2 x4 x3 (x5 + (1 : Int32)) r6.2 else (F_X3_bite r6.2 b1 r6.1 9) >>= fun r11 => if x2 = 0 then L_X11_passEvening_11 b1 x2 x4 (x3 + (1 : Int32)) (x5 + (1 : Int32)) r11 else (F_X7_write r11 15 (r11 b1 6) r6.1 (r11 136 0) (r11 b1 3)) >>= fun r14 => L_X11_passEvening_11 b1 x2 x4 (x3 + (1 : Int32)) (x5 + (1 : Int32)) r14
partial_fixpoint
def F_X11_passEvening (I : HI) (b1 : Nat) (x2 : Int32) : Option (Int32 × HI) :=
  (F_X3_drawSpoons I b1) >>= fun r1 => L_X11_passEvening_11 b1 x2 r1.1 (0 : Int32) (0 : Int32) r1.2
set_option maxRecDepth 4000 in
set_option maxHeartbeats 4000000 in
theorem LC_X11_passEvening_11 {g : gX} {d : Nat} {P : Nat → Nat → Option Nat} {J : HJ} {b1 : Nat} {x2 : Int32} {x4 : Int32} (hp : Wp P) (hb1 : OB NT b1 3) : ∀ (x3 : Int32) (x5 : Int32) (I : HI) (r : Int32 × HI), L_X11_passEvening_11 b1 x2 x4 x3 x5 I = some r → M g mX11_passEvening (d + 5) (NT, NT, 0) ((.inl (some (.int r.1))), (NT, r.2, J, P)) 11 [some (.ref 1), some (.ref b1), some (.int x2), some (.int x3), some (.int x4), some (.int x5), none] [] (NT, I, J, P) := by
  refine L_X11_passEvening_11.partial_correctness b1 x2 x4 (fun x3 x5 I r => M g mX11_passEvening (d + 5) (NT, NT, 0) ((.inl (some (.int r.1))), (NT, r.2, J, P)) 11 [some (.ref 1), some (.ref b1), some (.int x2), some (.int x3), some (.int x4), some (.int x5), none] [] (NT, I, J, P)) ?_
  intro f ih x3 x5 I r h
  refine M_iload (pc := 11) dX11_passEvening_11 rfl ?_
  refine M_iload (pc := 13) dX11_passEvening_13 rfl ?_
  refine M_icmp_ge (pc := 15) (tgt := 84) dX11_passEvening_15 (by decide) (fun hc3 => ?_) (fun hc3 => ?_)
  · have h := (if_pos hc3).symm.trans h
    refine M_aload_n (pc := 84) dX11_passEvening_84 rfl ?_
    obtain ⟨r4, hr5, h⟩ := bnd h
    refine M_callVv (pc := 85) dX11_passEvening_85 v_X11_249 rfl rfl hb1 (Nat.le_of_ble_eq_true rfl) (C_X3_comeBack (d := d + 3) hp hb1 hr5) (Nat.le_refl _) ?_
    refine M_iload_n (pc := 88) dX11_passEvening_88 rfl ?_
    obtain rfl := Option.some.inj h
    exact M_iret (pc := 89) dX11_passEvening_89 rfl rfl rfl rfl
  · have h := (if_neg hc3).symm.trans h
    refine M_aload_n (pc := 18) dX11_passEvening_18 rfl ?_
    obtain ⟨r6, hr7, h⟩ := bnd h
    refine M_callVi (pc := 19) dX11_passEvening_19 v_X11_292 rfl rfl hb1 (Nat.le_of_ble_eq_true rfl) (C_X3_drawDish (d := d + 3) hp hb1 hr7) (Nat.le_refl _) ?_
    refine M_istore (pc := 22) (ls' := [some (.ref 1), some (.ref b1), some (.int x2), some (.int x3), some (.int x4), some (.int x5), some (.int r6.1)]) dX11_passEvening_22 (by decide) rfl ?_
    refine M_aload_n (pc := 24) dX11_passEvening_24 rfl ?_
    refine M_iload (pc := 25) dX11_passEvening_25 rfl ?_
    obtain ⟨r8, hr9, h⟩ := bnd h
    refine M_callVi (pc := 27) dX11_passEvening_27 v_X11_295 rfl rfl hb1 (Nat.le_of_ble_eq_true rfl) (C_X3_takes (d := d + 3) hp hb1 hr9) (Nat.le_refl _) ?_
    refine M_if_eq (pc := 30) (tgt := 78) dX11_passEvening_30 (by decide) (fun hc10 => ?_) (fun hc10 => ?_)
    · have h := (if_pos hc10).symm.trans h
      refine M_iinc (pc := 78) (v := (x5 + (1 : Int32))) (ls' := [some (.ref 1), some (.ref b1), some (.int x2), some (.int x3), some (.int x4), some (.int (x5 + (1 : Int32))), some (.int r6.1)]) dX11_passEvening_78 rfl rfl (by decide) rfl ?_
      refine M_goto (pc := 81) (tgt := 11) dX11_passEvening_81 (by decide) ?_
      refine M_mask (pc := 11) [true, true, true, true, true, true, false] rfl ?_
      exact ih x3 (x5 + (1 : Int32)) r6.2 _ h
    · have h := (if_neg hc10).symm.trans h
      refine M_aload_n (pc := 33) dX11_passEvening_33 rfl ?_
      refine M_iload (pc := 34) dX11_passEvening_34 rfl ?_
      refine M_aload_n (pc := 36) dX11_passEvening_36 rfl ?_
      refine M_getR (pc := 37) dX11_passEvening_37 f_X11_30 at_10 (gc_1_4 hp).1 ?_
      refine M_aload_n (pc := 40) dX11_passEvening_40 rfl ?_
      refine M_getR (pc := 41) dX11_passEvening_41 f_X11_67 at_10 (gc_1_12 hp).1 ?_
      obtain ⟨r11, hr12, h⟩ := bnd h
      refine M_callVv (pc := 44) dX11_passEvening_44 v_X11_232 rfl rfl hb1 (Nat.le_of_ble_eq_true rfl) (C_X3_bite (d := d + 0) hp hb1 (gc_1_4 hp).2 hr12) (Nat.le_refl _) ?_
      refine M_iinc (pc := 47) (v := (x3 + (1 : Int32))) (ls' := [some (.ref 1), some (.ref b1), some (.int x2), some (.int (x3 + (1 : Int32))), some (.int x4), some (.int x5), some (.int r6.1)]) dX11_passEvening_47 rfl rfl (by decide) rfl ?_
      refine M_iload_n (pc := 50) dX11_passEvening_50 rfl ?_
      refine M_if_eq (pc := 51) (tgt := 78) dX11_passEvening_51 (by decide) (fun hc13 => ?_) (fun hc13 => ?_)
      · have h := (if_pos hc13).symm.trans h
        refine M_iinc (pc := 78) (v := (x5 + (1 : Int32))) (ls' := [some (.ref 1), some (.ref b1), some (.int x2), some (.int (x3 + (1 : Int32))), some (.int x4), some (.int (x5 + (1 : Int32))), some (.int r6.1)]) dX11_passEvening_78 rfl rfl (by decide) rfl ?_
        refine M_goto (pc := 81) (tgt := 11) dX11_passEvening_81 (by decide) ?_
        refine M_mask (pc := 11) [true, true, true, true, true, true, false] rfl ?_
        exact ih (x3 + (1 : Int32)) (x5 + (1 : Int32)) r11 _ h
      · have h := (if_neg hc13).symm.trans h
        refine M_aload_n (pc := 54) dX11_passEvening_54 rfl ?_
        refine M_getR (pc := 55) dX11_passEvening_55 f_X11_37 at_10 (gc_1_5 hp).1 ?_
        refine M_aload_n (pc := 58) dX11_passEvening_58 rfl ?_
        refine M_getI (pc := 59) dX11_passEvening_59 f_X11_236 hb1 ?_
        refine M_iload (pc := 62) dX11_passEvening_62 rfl ?_
        refine M_aload_n (pc := 64) dX11_passEvening_64 rfl ?_
        refine M_getR (pc := 65) dX11_passEvening_65 f_X11_67 at_10 (gc_1_12 hp).1 ?_
        refine M_getI (pc := 68) dX11_passEvening_68 f_X11_239 (gc_1_12 hp).2 ?_
        refine M_aload_n (pc := 71) dX11_passEvening_71 rfl ?_
        refine M_getI (pc := 72) dX11_passEvening_72 f_X11_242 hb1 ?_
        obtain ⟨r14, hr15, h⟩ := bnd h
        refine M_callVv (pc := 75) dX11_passEvening_75 v_X11_245 rfl rfl (gc_1_5 hp).2 (Nat.le_of_ble_eq_true rfl) (C_X7_write (d := d + 3) hp (gc_1_5 hp).2 hr15) (Nat.le_refl _) ?_
        refine M_iinc (pc := 78) (v := (x5 + (1 : Int32))) (ls' := [some (.ref 1), some (.ref b1), some (.int x2), some (.int (x3 + (1 : Int32))), some (.int x4), some (.int (x5 + (1 : Int32))), some (.int r6.1)]) dX11_passEvening_78 rfl rfl (by decide) rfl ?_
        refine M_goto (pc := 81) (tgt := 11) dX11_passEvening_81 (by decide) ?_
        refine M_mask (pc := 11) [true, true, true, true, true, true, false] rfl ?_
        exact ih (x3 + (1 : Int32)) (x5 + (1 : Int32)) r14 _ h
set_option maxRecDepth 4000 in
set_option maxHeartbeats 4000000 in
theorem C_X11_passEvening {g : gX} {d : Nat} {P : Nat → Nat → Option Nat} {I : HI} {b1 : Nat} {x2 : Int32} {J : HJ} (hp : Wp P) (hb1 : OB NT b1 3) {r : Int32 × HI} (h : F_X11_passEvening I b1 x2 = some r) : Cm g mX11_passEvening (d + 5) [.ref 1, .ref b1, .int x2] (NT, I, J, P) (some (.int r.1)) (NT, r.2, J, P) := by
  unfold F_X11_passEvening at h
  refine Cm.of (by decide) (by simp [Value.category]) (Nat.le_of_ble_eq_true rfl) (Nat.le_refl _) (ls := [some (.ref 1), some (.ref b1), some (.int x2), none, none, none, none]) rfl ?_
  refine M_iconst (pc := 0) (v := 0) dX11_passEvening_0 (by decide) ?_
  refine M_istore_n (pc := 1) (ls' := [some (.ref 1), some (.ref b1), some (.int x2), some (.int (0 : Int32)), none, none, none]) dX11_passEvening_1 (by decide) rfl ?_
  refine M_aload_n (pc := 2) dX11_passEvening_2 rfl ?_
  obtain ⟨r1, hr2, h⟩ := bnd h
  refine M_callVi (pc := 3) dX11_passEvening_3 v_X11_289 rfl rfl hb1 (Nat.le_of_ble_eq_true rfl) (C_X3_drawSpoons (d := d + 3) hp hb1 hr2) (Nat.le_refl _) ?_
  refine M_istore (pc := 6) (ls' := [some (.ref 1), some (.ref b1), some (.int x2), some (.int (0 : Int32)), some (.int r1.1), none, none]) dX11_passEvening_6 (by decide) rfl ?_
  refine M_iconst (pc := 8) (v := 0) dX11_passEvening_8 (by decide) ?_
  refine M_istore (pc := 9) (ls' := [some (.ref 1), some (.ref b1), some (.int x2), some (.int (0 : Int32)), some (.int r1.1), some (.int (0 : Int32)), none]) dX11_passEvening_9 (by decide) rfl ?_
  exact LC_X11_passEvening_11 (P := P) hp hb1 (0 : Int32) (0 : Int32) r1.2 _ h
def L_X11_breaks_37 (x1 : Int32) (x2 : Int32) (I : HI) : Option ((Int32 ⊕ String) × HI) :=
  if (100 : Int32) ≤ x2 then (F_X3_takes I 130 x1) >>= fun r7 => if r7 = 0 then some ((Sum.inl (100 : Int32)), I) else some ((Sum.inl (-1 : Int32)), I) else (F_X3_takes I 130 x1) >>= fun r10 => if r10 = 0 then some ((Sum.inl x2), I) else (F_X3_bite I 130 x1 9) >>= fun r13 => L_X11_breaks_37 x1 (x2 + (1 : Int32)) r13
partial_fixpoint
def F_X11_breaks (I : HI) (x1 : Int32) : Option ((Int32 ⊕ String) × HI) :=
  (F_X1_has I 4 x1) >>= fun r1 => if r1 = 0 then some ((Sum.inr "java/lang/IndexOutOfBoundsException"), I) else (F_X3_copy I 130 3) >>= fun r4 => L_X11_breaks_37 x1 (0 : Int32) r4
set_option maxRecDepth 4000 in
set_option maxHeartbeats 4000000 in
theorem LC_X11_breaks_37 {g : gX} {d : Nat} {P : Nat → Nat → Option Nat} {J : HJ} {x1 : Int32} (hp : Wp P) : ∀ (x2 : Int32) (I : HI) (r : (Int32 ⊕ String) × HI), L_X11_breaks_37 x1 x2 I = some r → M g mX11_breaks (d + 6) (NT, NT, 1) ((thr_i r.1), (NT, r.2, J, P)) 37 [some (.ref 1), some (.int x1), some (.int x2)] [] (NT, I, J, P) := by
  refine L_X11_breaks_37.partial_correctness x1 (fun x2 I r => M g mX11_breaks (d + 6) (NT, NT, 1) ((thr_i r.1), (NT, r.2, J, P)) 37 [some (.ref 1), some (.int x1), some (.int x2)] [] (NT, I, J, P)) ?_
  intro f ih x2 I r h
  refine M_iload_n (pc := 37) dX11_breaks_37 rfl ?_
  refine M_bipush (pc := 38) (v := 100) dX11_breaks_38 (by decide) ?_
  refine M_icmp_ge (pc := 40) (tgt := 78) dX11_breaks_40 (by decide) (fun hc6 => ?_) (fun hc6 => ?_)
  · have h := (if_pos hc6).symm.trans h
    refine M_aload_n (pc := 78) dX11_breaks_78 rfl ?_
    refine M_getR (pc := 79) dX11_breaks_79 f_X11_61 at_10 (gc_1_11 hp).1 ?_
    refine M_iload_n (pc := 82) dX11_breaks_82 rfl ?_
    obtain ⟨r7, hr8, h⟩ := bnd h
    refine M_callVi (pc := 83) dX11_breaks_83 v_X11_295 rfl rfl (gc_1_11 hp).2 (Nat.le_of_ble_eq_true rfl) (C_X3_takes (d := d + 4) hp (gc_1_11 hp).2 hr8) (Nat.le_refl _) ?_
    refine M_if_eq (pc := 86) (tgt := 93) dX11_breaks_86 (by decide) (fun hc9 => ?_) (fun hc9 => ?_)
    · have h := (if_pos hc9).symm.trans h
      refine M_bipush (pc := 93) (v := 100) dX11_breaks_93 (by decide) ?_
      obtain rfl := Option.some.inj h
      exact M_iret (pc := 95) dX11_breaks_95 rfl rfl rfl rfl
    · have h := (if_neg hc9).symm.trans h
      refine M_iconst (pc := 89) (v := -1) dX11_breaks_89 (by decide) ?_
      refine M_goto (pc := 90) (tgt := 95) dX11_breaks_90 (by decide) ?_
      obtain rfl := Option.some.inj h
      exact M_iret (pc := 95) dX11_breaks_95 rfl rfl rfl rfl
  · have h := (if_neg hc6).symm.trans h
    refine M_aload_n (pc := 43) dX11_breaks_43 rfl ?_
    refine M_getR (pc := 44) dX11_breaks_44 f_X11_61 at_10 (gc_1_11 hp).1 ?_
    refine M_iload_n (pc := 47) dX11_breaks_47 rfl ?_
    obtain ⟨r10, hr11, h⟩ := bnd h
    refine M_callVi (pc := 48) dX11_breaks_48 v_X11_295 rfl rfl (gc_1_11 hp).2 (Nat.le_of_ble_eq_true rfl) (C_X3_takes (d := d + 4) hp (gc_1_11 hp).2 hr11) (Nat.le_refl _) ?_
    refine M_if_ne (pc := 51) (tgt := 56) dX11_breaks_51 (by decide) (fun hc12 => ?_) (fun hc12 => ?_)
    · have h := (if_neg hc12).symm.trans h
      refine M_aload_n (pc := 56) dX11_breaks_56 rfl ?_
      refine M_getR (pc := 57) dX11_breaks_57 f_X11_61 at_10 (gc_1_11 hp).1 ?_
      refine M_iload_n (pc := 60) dX11_breaks_60 rfl ?_
      refine M_aload_n (pc := 61) dX11_breaks_61 rfl ?_
      refine M_getR (pc := 62) dX11_breaks_62 f_X11_30 at_10 (gc_1_4 hp).1 ?_
      refine M_aload_n (pc := 65) dX11_breaks_65 rfl ?_
      refine M_getR (pc := 66) dX11_breaks_66 f_X11_67 at_10 (gc_1_12 hp).1 ?_
      obtain ⟨r13, hr14, h⟩ := bnd h
      refine M_callVv (pc := 69) dX11_breaks_69 v_X11_232 rfl rfl (gc_1_11 hp).2 (Nat.le_of_ble_eq_true rfl) (C_X3_bite (d := d + 1) hp (gc_1_11 hp).2 (gc_1_4 hp).2 hr14) (Nat.le_refl _) ?_
      refine M_iinc (pc := 72) (v := (x2 + (1 : Int32))) (ls' := [some (.ref 1), some (.int x1), some (.int (x2 + (1 : Int32)))]) dX11_breaks_72 rfl rfl (by decide) rfl ?_
      refine M_goto (pc := 75) (tgt := 37) dX11_breaks_75 (by decide) ?_
      exact ih (x2 + (1 : Int32)) r13 _ h
    · have h := (if_pos hc12).symm.trans h
      refine M_iload_n (pc := 54) dX11_breaks_54 rfl ?_
      obtain rfl := Option.some.inj h
      exact M_iret (pc := 55) dX11_breaks_55 rfl rfl rfl rfl
set_option maxRecDepth 4000 in
set_option maxHeartbeats 4000000 in
theorem C_X11_breaks {g : gX} {d : Nat} {P : Nat → Nat → Option Nat} {I : HI} {x1 : Int32} {J : HJ} (hp : Wp P) {r : (Int32 ⊕ String) × HI} (h : F_X11_breaks I x1 = some r) : Cx g mX11_breaks (d + 6) [.ref 1, .int x1] (NT, I, J, P) ((thr_i r.1), (NT, r.2, J, P)) := by
  unfold F_X11_breaks at h
  refine Cx.of (by decide) (by simp [Value.category]) (Nat.le_of_ble_eq_true rfl) (Nat.le_refl _) (ls := [some (.ref 1), some (.int x1), none]) rfl ?_
  refine M_aload_n (pc := 0) dX11_breaks_0 rfl ?_
  refine M_getR (pc := 1) dX11_breaks_1 f_X11_23 at_10 (gc_1_3 hp).1 ?_
  refine M_getR (pc := 4) dX11_breaks_4 f_X11_148 (gc_1_3 hp).2 (gc_3_0 hp).1 ?_
  refine M_iload_n (pc := 7) dX11_breaks_7 rfl ?_
  obtain ⟨r1, hr2, h⟩ := bnd h
  refine M_callVi (pc := 8) dX11_breaks_8 v_X11_152 rfl rfl (gc_3_0 hp).2 (Nat.le_of_ble_eq_true rfl) (C_X1_has (d := d + 5) hp (gc_3_0 hp).2 hr2) (Nat.le_refl _) ?_
  refine M_if_ne (pc := 11) (tgt := 24) dX11_breaks_11 (by decide) (fun hc3 => ?_) (fun hc3 => ?_)
  · have h := (if_neg hc3).symm.trans h
    refine M_aload_n (pc := 24) dX11_breaks_24 rfl ?_
    refine M_getR (pc := 25) dX11_breaks_25 f_X11_61 at_10 (gc_1_11 hp).1 ?_
    refine M_aload_n (pc := 28) dX11_breaks_28 rfl ?_
    refine M_getR (pc := 29) dX11_breaks_29 f_X11_23 at_10 (gc_1_3 hp).1 ?_
    obtain ⟨r4, hr5, h⟩ := bnd h
    refine M_callVv (pc := 32) dX11_breaks_32 v_X11_106 rfl rfl (gc_1_11 hp).2 (Nat.le_of_ble_eq_true rfl) (C_X3_copy (d := d + 3) hp (gc_1_11 hp).2 (gc_1_3 hp).2 hr5) (Nat.le_refl _) ?_
    refine M_iconst (pc := 35) (v := 0) dX11_breaks_35 (by decide) ?_
    refine M_istore_n (pc := 36) (ls' := [some (.ref 1), some (.int x1), some (.int (0 : Int32))]) dX11_breaks_36 (by decide) rfl ?_
    exact LC_X11_breaks_37 (P := P) hp (0 : Int32) r4 _ h
  · have h := (if_pos hc3).symm.trans h
    obtain rfl := Option.some.inj h
    exact M_throw (pc := 14) dX11_breaks_14 dX11_breaks_17 dX11_breaks_18 dX11_breaks_20 dX11_breaks_23 ⟨rfl, rfl, rfl, rfl⟩ x_X11_158 (j := 3) (by decide) str_X11_160 rfl rfl
def L_X11_tryEvenings_21 (x1 : Int32) (x3 : Int32) (I : HI) : Option (HI) :=
  if x1 ≤ x3 then some I else (F_X11_passEvening I 130 (0 : Int32)) >>= fun r4 => L_X11_tryEvenings_21 x1 (x3 + (1 : Int32)) r4.2
partial_fixpoint
def F_X11_tryEvenings (I : HI) (x1 : Int32) (x2 : Int32) : Option (HI) :=
  (F_X3_copy I 130 3) >>= fun r1 => L_X11_tryEvenings_21 x1 (0 : Int32) (up2 r1 130 14 x2)
set_option maxRecDepth 4000 in
set_option maxHeartbeats 4000000 in
theorem LC_X11_tryEvenings_21 {g : gX} {d : Nat} {P : Nat → Nat → Option Nat} {J : HJ} {x1 : Int32} (hp : Wp P) : ∀ (x3 : Int32) (I : HI) (r : HI), L_X11_tryEvenings_21 x1 x3 I = some r → M g mX11_tryEvenings (d + 6) (NT, NT, 0) ((.inl none), (NT, r, J, P)) 21 [some (.ref 1), some (.int x1), none, some (.int x3)] [] (NT, I, J, P) := by
  refine L_X11_tryEvenings_21.partial_correctness x1 (fun x3 I r => M g mX11_tryEvenings (d + 6) (NT, NT, 0) ((.inl none), (NT, r, J, P)) 21 [some (.ref 1), some (.int x1), none, some (.int x3)] [] (NT, I, J, P)) ?_
  intro f ih x3 I r h
  refine M_iload_n (pc := 21) dX11_tryEvenings_21 rfl ?_
  refine M_iload_n (pc := 22) dX11_tryEvenings_22 rfl ?_
  refine M_icmp_ge (pc := 23) (tgt := 42) dX11_tryEvenings_23 (by decide) (fun hc3 => ?_) (fun hc3 => ?_)
  · have h := (if_pos hc3).symm.trans h
    obtain rfl := Option.some.inj h
    exact M_vret (pc := 42) dX11_tryEvenings_42 rfl rfl rfl
  · have h := (if_neg hc3).symm.trans h
    refine M_aload_n (pc := 26) dX11_tryEvenings_26 rfl ?_
    refine M_aload_n (pc := 27) dX11_tryEvenings_27 rfl ?_
    refine M_getR (pc := 28) dX11_tryEvenings_28 f_X11_61 at_10 (gc_1_11 hp).1 ?_
    refine M_iconst (pc := 31) (v := 0) dX11_tryEvenings_31 (by decide) ?_
    obtain ⟨r4, hr5, h⟩ := bnd h
    refine M_callVi (pc := 32) dX11_tryEvenings_32 v_X11_285 rfl rfl at_10 (Nat.le_of_ble_eq_true rfl) (C_X11_passEvening (d := d + 0) hp (gc_1_11 hp).2 hr5) (Nat.le_refl _) ?_
    refine M_pop (pc := 35) dX11_tryEvenings_35 rfl ?_
    refine M_iinc (pc := 36) (v := (x3 + (1 : Int32))) (ls' := [some (.ref 1), some (.int x1), none, some (.int (x3 + (1 : Int32)))]) dX11_tryEvenings_36 rfl rfl (by decide) rfl ?_
    refine M_goto (pc := 39) (tgt := 21) dX11_tryEvenings_39 (by decide) ?_
    exact ih (x3 + (1 : Int32)) r4.2 _ h
set_option maxRecDepth 4000 in
set_option maxHeartbeats 4000000 in
theorem C_X11_tryEvenings {g : gX} {d : Nat} {P : Nat → Nat → Option Nat} {I : HI} {x1 : Int32} {x2 : Int32} {J : HJ} (hp : Wp P) {r : HI} (h : F_X11_tryEvenings I x1 x2 = some r) : Cm g mX11_tryEvenings (d + 6) [.ref 1, .int x1, .int x2] (NT, I, J, P) none (NT, r, J, P) := by
  unfold F_X11_tryEvenings at h
  refine Cm.of (by decide) (by simp [Value.category]) (Nat.le_of_ble_eq_true rfl) (Nat.le_refl _) (ls := [some (.ref 1), some (.int x1), some (.int x2), none]) rfl ?_
  refine M_aload_n (pc := 0) dX11_tryEvenings_0 rfl ?_
  refine M_getR (pc := 1) dX11_tryEvenings_1 f_X11_61 at_10 (gc_1_11 hp).1 ?_
  refine M_aload_n (pc := 4) dX11_tryEvenings_4 rfl ?_
  refine M_getR (pc := 5) dX11_tryEvenings_5 f_X11_23 at_10 (gc_1_3 hp).1 ?_
  obtain ⟨r1, hr2, h⟩ := bnd h
  refine M_callVv (pc := 8) dX11_tryEvenings_8 v_X11_106 rfl rfl (gc_1_11 hp).2 (Nat.le_of_ble_eq_true rfl) (C_X3_copy (d := d + 3) hp (gc_1_11 hp).2 (gc_1_3 hp).2 hr2) (Nat.le_refl _) ?_
  refine M_aload_n (pc := 11) dX11_tryEvenings_11 rfl ?_
  refine M_getR (pc := 12) dX11_tryEvenings_12 f_X11_61 at_10 (gc_1_11 hp).1 ?_
  refine M_iload_n (pc := 15) dX11_tryEvenings_15 rfl ?_
  refine M_putI (pc := 16) dX11_tryEvenings_16 f_X11_389 (gc_1_11 hp).2 rfl ⟨rfl, rfl⟩ ?_
  refine M_iconst (pc := 19) (v := 0) dX11_tryEvenings_19 (by decide) ?_
  refine M_istore_n (pc := 20) (ls' := [some (.ref 1), some (.int x1), some (.int x2), some (.int (0 : Int32))]) dX11_tryEvenings_20 (by decide) rfl ?_
  refine M_mask (pc := 21) [true, true, false, true] rfl ?_
  exact LC_X11_tryEvenings_21 (P := P) hp (0 : Int32) (up2 r1 130 14 x2) _ h
def L_X11_span_31 (x1 : Int32) (x2 : Int32) (x3 : Int32) (x4 : Int32) (x5 : Int32) (I : HI) : Option ((Int32 ⊕ String) × HI) :=
  if (6 : Int32) < x5 then if x2 = 0 then some ((Sum.inl x3), I) else some ((Sum.inl x4), I) else (F_X11_tryEvenings I x1 x5) >>= fun r5 => L_X11_span_31 x1 x2 (if (r5 130 13) < x3 then (r5 130 13) else x3) (if x4 < (r5 130 13) then (r5 130 13) else x4) (x5 + (1 : Int32)) r5
partial_fixpoint
def F_X11_span (I : HI) (x1 : Int32) (x2 : Int32) : Option ((Int32 ⊕ String) × HI) :=
  if x1 < 0 then some ((Sum.inr "java/lang/IllegalArgumentException"), I) else if x1 ≤ (60 : Int32) then L_X11_span_31 x1 x2 (9999 : Int32) (0 : Int32) (1 : Int32) I else some ((Sum.inr "java/lang/IllegalArgumentException"), I)
set_option maxRecDepth 4000 in
set_option maxHeartbeats 4000000 in
theorem LC_X11_span_31 {g : gX} {d : Nat} {P : Nat → Nat → Option Nat} {J : HJ} {x1 : Int32} {x2 : Int32} (hp : Wp P) : ∀ (x3 : Int32) (x4 : Int32) (x5 : Int32) (I : HI) (r : (Int32 ⊕ String) × HI), L_X11_span_31 x1 x2 x3 x4 x5 I = some r → M g mX11_span (d + 7) (NT, NT, 1) ((thr_i r.1), (NT, r.2, J, P)) 31 [some (.ref 1), some (.int x1), some (.int x2), some (.int x3), some (.int x4), some (.int x5)] [] (NT, I, J, P) := by
  refine L_X11_span_31.partial_correctness x1 x2 (fun x3 x4 x5 I r => M g mX11_span (d + 7) (NT, NT, 1) ((thr_i r.1), (NT, r.2, J, P)) 31 [some (.ref 1), some (.int x1), some (.int x2), some (.int x3), some (.int x4), some (.int x5)] [] (NT, I, J, P)) ?_
  intro f ih x3 x4 x5 I r h
  refine M_iload (pc := 31) dX11_span_31 rfl ?_
  refine M_bipush (pc := 33) (v := 6) dX11_span_33 (by decide) ?_
  refine M_icmp_gt (pc := 35) (tgt := 77) dX11_span_35 (by decide) (fun hc3 => ?_) (fun hc3 => ?_)
  · have h := (if_pos hc3).symm.trans h
    refine M_iload_n (pc := 77) dX11_span_77 rfl ?_
    refine M_if_eq (pc := 78) (tgt := 86) dX11_span_78 (by decide) (fun hc4 => ?_) (fun hc4 => ?_)
    · have h := (if_pos hc4).symm.trans h
      refine M_iload_n (pc := 86) dX11_span_86 rfl ?_
      obtain rfl := Option.some.inj h
      exact M_iret (pc := 87) dX11_span_87 rfl rfl rfl rfl
    · have h := (if_neg hc4).symm.trans h
      refine M_iload (pc := 81) dX11_span_81 rfl ?_
      refine M_goto (pc := 83) (tgt := 87) dX11_span_83 (by decide) ?_
      obtain rfl := Option.some.inj h
      exact M_iret (pc := 87) dX11_span_87 rfl rfl rfl rfl
  · have h := (if_neg hc3).symm.trans h
    refine M_aload_n (pc := 38) dX11_span_38 rfl ?_
    refine M_iload_n (pc := 39) dX11_span_39 rfl ?_
    refine M_iload (pc := 40) dX11_span_40 rfl ?_
    obtain ⟨r5, hr6, h⟩ := bnd h
    refine M_callVv (pc := 42) dX11_span_42 v_X11_392 rfl rfl at_10 (Nat.le_of_ble_eq_true rfl) (C_X11_tryEvenings (d := d + 0) hp hr6) (Nat.le_refl _) ?_
    refine M_iload_n (pc := 45) dX11_span_45 rfl ?_
    refine M_aload_n (pc := 46) dX11_span_46 rfl ?_
    refine M_getR (pc := 47) dX11_span_47 f_X11_61 at_10 (gc_1_11 hp).1 ?_
    refine M_getI (pc := 50) dX11_span_50 f_X11_396 (gc_1_11 hp).2 ?_
    refine M_mmin (pc := 53) dX11_span_53 mm_X11_399.1 mm_X11_399.2.1 mm_X11_399.2.2.1 mm_X11_399.2.2.2 (Nat.le_of_ble_eq_true rfl) ?_
    refine M_istore_n (pc := 56) (ls' := [some (.ref 1), some (.int x1), some (.int x2), some (.int (if (r5 130 13) < x3 then (r5 130 13) else x3)), some (.int x4), some (.int x5)]) dX11_span_56 (by decide) rfl ?_
    refine M_iload (pc := 57) dX11_span_57 rfl ?_
    refine M_aload_n (pc := 59) dX11_span_59 rfl ?_
    refine M_getR (pc := 60) dX11_span_60 f_X11_61 at_10 (gc_1_11 hp).1 ?_
    refine M_getI (pc := 63) dX11_span_63 f_X11_396 (gc_1_11 hp).2 ?_
    refine M_mmax (pc := 66) dX11_span_66 mm_X11_350.1 mm_X11_350.2.1 mm_X11_350.2.2.1 mm_X11_350.2.2.2 (Nat.le_of_ble_eq_true rfl) ?_
    refine M_istore (pc := 69) (ls' := [some (.ref 1), some (.int x1), some (.int x2), some (.int (if (r5 130 13) < x3 then (r5 130 13) else x3)), some (.int (if x4 < (r5 130 13) then (r5 130 13) else x4)), some (.int x5)]) dX11_span_69 (by decide) rfl ?_
    refine M_iinc (pc := 71) (v := (x5 + (1 : Int32))) (ls' := [some (.ref 1), some (.int x1), some (.int x2), some (.int (if (r5 130 13) < x3 then (r5 130 13) else x3)), some (.int (if x4 < (r5 130 13) then (r5 130 13) else x4)), some (.int (x5 + (1 : Int32)))]) dX11_span_71 rfl rfl (by decide) rfl ?_
    refine M_goto (pc := 74) (tgt := 31) dX11_span_74 (by decide) ?_
    exact ih (if (r5 130 13) < x3 then (r5 130 13) else x3) (if x4 < (r5 130 13) then (r5 130 13) else x4) (x5 + (1 : Int32)) r5 _ h
set_option maxRecDepth 4000 in
set_option maxHeartbeats 4000000 in
theorem C_X11_span {g : gX} {d : Nat} {P : Nat → Nat → Option Nat} {I : HI} {x1 : Int32} {x2 : Int32} {J : HJ} (hp : Wp P) {r : (Int32 ⊕ String) × HI} (h : F_X11_span I x1 x2 = some r) : Cx g mX11_span (d + 7) [.ref 1, .int x1, .int x2] (NT, I, J, P) ((thr_i r.1), (NT, r.2, J, P)) := by
  unfold F_X11_span at h
  refine Cx.of (by decide) (by simp [Value.category]) (Nat.le_of_ble_eq_true rfl) (Nat.le_refl _) (ls := [some (.ref 1), some (.int x1), some (.int x2), none, none, none]) rfl ?_
  refine M_iload_n (pc := 0) dX11_span_0 rfl ?_
  refine M_if_lt (pc := 1) (tgt := 10) dX11_span_1 (by decide) (fun hc1 => ?_) (fun hc1 => ?_)
  · have h := (if_pos hc1).symm.trans h
    obtain rfl := Option.some.inj h
    exact M_throwW (pc := 10) dX11_span_10 dX11_span_13 dX11_span_14 dX11_span_17 dX11_span_20 ⟨rfl, rfl, rfl, rfl⟩ x_X11_118 (j := 11) (by decide) str_X11_283 rfl rfl
  · have h := (if_neg hc1).symm.trans h
    refine M_iload_n (pc := 4) dX11_span_4 rfl ?_
    refine M_bipush (pc := 5) (v := 60) dX11_span_5 (by decide) ?_
    refine M_icmp_le (pc := 7) (tgt := 21) dX11_span_7 (by decide) (fun hc2 => ?_) (fun hc2 => ?_)
    · have h := (if_pos hc2).symm.trans h
      refine M_sipush (pc := 21) (v := 9999) dX11_span_21 (by decide) ?_
      refine M_istore_n (pc := 24) (ls' := [some (.ref 1), some (.int x1), some (.int x2), some (.int (9999 : Int32)), none, none]) dX11_span_24 (by decide) rfl ?_
      refine M_iconst (pc := 25) (v := 0) dX11_span_25 (by decide) ?_
      refine M_istore (pc := 26) (ls' := [some (.ref 1), some (.int x1), some (.int x2), some (.int (9999 : Int32)), some (.int (0 : Int32)), none]) dX11_span_26 (by decide) rfl ?_
      refine M_iconst (pc := 28) (v := 1) dX11_span_28 (by decide) ?_
      refine M_istore (pc := 29) (ls' := [some (.ref 1), some (.int x1), some (.int x2), some (.int (9999 : Int32)), some (.int (0 : Int32)), some (.int (1 : Int32))]) dX11_span_29 (by decide) rfl ?_
      exact LC_X11_span_31 (P := P) hp (9999 : Int32) (0 : Int32) (1 : Int32) I _ h
    · have h := (if_neg hc2).symm.trans h
      obtain rfl := Option.some.inj h
      exact M_throwW (pc := 10) dX11_span_10 dX11_span_13 dX11_span_14 dX11_span_17 dX11_span_20 ⟨rfl, rfl, rfl, rfl⟩ x_X11_118 (j := 11) (by decide) str_X11_283 rfl rfl
def F_X11_life (I : HI) : Option ((Int32 ⊕ String) × HI) :=
  (F_X3_copy I 140 3) >>= fun r1 => (F_X11_takeTape r1) >>= fun r3 => (F_X10_firstWrong_c6 r3.2 r3.1 (14 : Int32)) >>= fun r5 => if r5.1 = (-1 : Int32) then if (r5.2 3 1) < (12 : Int32) then (F_X3_copy (up2 r5.2 1 2 r5.1) 3 140) >>= fun r9 => (F_X0_clear (up2 r9 3 1 ((r9 3 1) + (1 : Int32)))) >>= fun r11 => some ((Sum.inl (r11 3 1)), r11) else some ((Sum.inr "java/lang/UnsupportedOperationException"), (up2 r5.2 1 2 r5.1)) else some ((Sum.inr "java/lang/IllegalArgumentException"), (up2 r5.2 1 2 r5.1))
set_option maxRecDepth 4000 in
set_option maxHeartbeats 4000000 in
theorem C_X11_life {g : gX} {d : Nat} {P : Nat → Nat → Option Nat} {I : HI} {J : HJ} (hp : Wp P) {r : (Int32 ⊕ String) × HI} (h : F_X11_life I = some r) : Cx g mX11_life (d + 9) [.ref 1] (NT, I, J, P) ((thr_i r.1), (NT, r.2, J, (up2 P 138 0 (some 2)))) := by
  unfold F_X11_life at h
  refine Cx.of (by decide) (by simp [Value.category]) (Nat.le_of_ble_eq_true rfl) (Nat.le_refl _) (ls := [some (.ref 1)]) rfl ?_
  refine M_aload_n (pc := 0) dX11_life_0 rfl ?_
  refine M_getR (pc := 1) dX11_life_1 f_X11_74 at_10 (gc_1_13 hp).1 ?_
  refine M_getR (pc := 4) dX11_life_4 f_X11_103 (gc_1_13 hp).2 (gc_138_5 hp).1 ?_
  refine M_aload_n (pc := 7) dX11_life_7 rfl ?_
  refine M_getR (pc := 8) dX11_life_8 f_X11_23 at_10 (gc_1_3 hp).1 ?_
  obtain ⟨r1, hr2, h⟩ := bnd h
  refine M_callVv (pc := 11) dX11_life_11 v_X11_106 rfl rfl (gc_138_5 hp).2 (Nat.le_of_ble_eq_true rfl) (C_X3_copy (d := d + 6) hp (gc_138_5 hp).2 (gc_1_3 hp).2 hr2) (Nat.le_refl _) ?_
  refine M_aload_n (pc := 14) dX11_life_14 rfl ?_
  refine M_aload_n (pc := 15) dX11_life_15 rfl ?_
  refine M_getR (pc := 16) dX11_life_16 f_X11_74 at_10 (gc_1_13 hp).1 ?_
  refine M_aload_n (pc := 19) dX11_life_19 rfl ?_
  refine M_getR (pc := 20) dX11_life_20 f_X11_9 at_10 (gc_1_0 hp).1 ?_
  refine M_aload_n (pc := 23) dX11_life_23 rfl ?_
  obtain ⟨r3, hr4, h⟩ := bnd h
  refine M_callVi (pc := 24) dX11_life_24 v_X11_110 rfl rfl at_10 (Nat.le_of_ble_eq_true rfl) (C_X11_takeTape (d := d + 8) hp hr4) (Nat.le_refl _) ?_
  refine M_bipush (pc := 27) (v := 14) dX11_life_27 (by decide) ?_
  obtain ⟨r5, hr6, h⟩ := bnd h
  refine M_callUi (pc := 29) dX11_life_29 u_X11_114 rfl rfl (gc_1_13 hp).2 (Nat.le_of_ble_eq_true rfl) (C_X10_firstWrong_c6 (d := d + 0) hp hr6) (Nat.le_refl _) ?_
  have hp : Wp (up2 P 138 0 (some 2)) := Wp_up hp (by decide +kernel)
  refine M_putI (pc := 32) dX11_life_32 f_X11_17 at_10 rfl ⟨rfl, rfl⟩ ?_
  refine M_aload_n (pc := 35) dX11_life_35 rfl ?_
  refine M_getIs (pc := 36) (x := r5.1) dX11_life_36 f_X11_17 at_10 rd_eq ?_
  refine M_iconst (pc := 39) (v := -1) dX11_life_39 (by decide) ?_
  refine M_icmp_eq (pc := 40) (tgt := 53) dX11_life_40 (by decide) (fun hc7 => ?_) (fun hc7 => ?_)
  · have h := (if_pos hc7).symm.trans h
    refine M_aload_n (pc := 53) dX11_life_53 rfl ?_
    refine M_getR (pc := 54) dX11_life_54 f_X11_23 at_10 (gc_1_3 hp).1 ?_
    refine M_getIs (pc := 57) (x := (r5.2 3 1)) dX11_life_57 f_X11_125 (gc_1_3 hp).2 (rd_ne (Or.inr (by decide))) ?_
    refine M_bipush (pc := 60) (v := 12) dX11_life_60 (by decide) ?_
    refine M_icmp_lt (pc := 62) (tgt := 75) dX11_life_62 (by decide) (fun hc8 => ?_) (fun hc8 => ?_)
    · have h := (if_pos hc8).symm.trans h
      refine M_aload_n (pc := 75) dX11_life_75 rfl ?_
      refine M_getR (pc := 76) dX11_life_76 f_X11_23 at_10 (gc_1_3 hp).1 ?_
      refine M_aload_n (pc := 79) dX11_life_79 rfl ?_
      refine M_getR (pc := 80) dX11_life_80 f_X11_74 at_10 (gc_1_13 hp).1 ?_
      refine M_getR (pc := 83) dX11_life_83 f_X11_103 (gc_1_13 hp).2 (gc_138_5 hp).1 ?_
      obtain ⟨r9, hr10, h⟩ := bnd h
      refine M_callVv (pc := 86) dX11_life_86 v_X11_106 rfl rfl (gc_1_3 hp).2 (Nat.le_of_ble_eq_true rfl) (C_X3_copy (d := d + 6) hp (gc_1_3 hp).2 (gc_138_5 hp).2 hr10) (Nat.le_refl _) ?_
      refine M_aload_n (pc := 89) dX11_life_89 rfl ?_
      refine M_getR (pc := 90) dX11_life_90 f_X11_23 at_10 (gc_1_3 hp).1 ?_
      refine M_dup (pc := 93) dX11_life_93 rfl ?_
      refine M_getI (pc := 94) dX11_life_94 f_X11_125 (gc_1_3 hp).2 ?_
      refine M_iconst (pc := 97) (v := 1) dX11_life_97 (by decide) ?_
      refine M_iadd (pc := 98) dX11_life_98 ?_
      refine M_putI (pc := 99) dX11_life_99 f_X11_125 (gc_1_3 hp).2 rfl ⟨rfl, rfl⟩ ?_
      refine M_aload_n (pc := 102) dX11_life_102 rfl ?_
      refine M_getR (pc := 103) dX11_life_103 f_X11_44 at_10 (gc_1_6 hp).1 ?_
      obtain ⟨r11, hr12, h⟩ := bnd h
      refine M_callVv (pc := 106) dX11_life_106 v_X11_133 rfl rfl (gc_1_6 hp).2 (Nat.le_of_ble_eq_true rfl) (C_X0_clear (d := d + 8) hp hr12) (Nat.le_refl _) ?_
      refine M_aload_n (pc := 109) dX11_life_109 rfl ?_
      refine M_getR (pc := 110) dX11_life_110 f_X11_23 at_10 (gc_1_3 hp).1 ?_
      refine M_getI (pc := 113) dX11_life_113 f_X11_125 (gc_1_3 hp).2 ?_
      obtain rfl := Option.some.inj h
      exact M_iret (pc := 116) dX11_life_116 rfl rfl rfl rfl
    · have h := (if_neg hc8).symm.trans h
      obtain rfl := Option.some.inj h
      exact M_throw (pc := 65) dX11_life_65 dX11_life_68 dX11_life_69 dX11_life_71 dX11_life_74 ⟨rfl, rfl, rfl, rfl⟩ x_X11_128 (j := 1) (by decide) str_X11_130 rfl rfl
  · have h := (if_neg hc7).symm.trans h
    obtain rfl := Option.some.inj h
    exact M_throw (pc := 43) dX11_life_43 dX11_life_46 dX11_life_47 dX11_life_49 dX11_life_52 ⟨rfl, rfl, rfl, rfl⟩ x_X11_118 (j := 0) (by decide) str_X11_120 rfl rfl
def L_X11_evenings_41 (x1 : Int32) (x2 : Int32) (x3 : Int32) (I : HI) : Option ((Int32 ⊕ String) × HI) :=
  if x1 ≤ x3 then some ((Sum.inl x2), I) else (F_X11_passEvening I 3 (1 : Int32)) >>= fun r6 => L_X11_evenings_41 x1 (x2 + r6.1) (x3 + (1 : Int32)) r6.2
partial_fixpoint
def F_X11_evenings (I : HI) (x1 : Int32) : Option ((Int32 ⊕ String) × HI) :=
  if x1 < (1 : Int32) then some ((Sum.inr "java/lang/IllegalArgumentException"), I) else if x1 ≤ (60 : Int32) then (F_X0_remember I 3 15) >>= fun r3 => L_X11_evenings_41 x1 (0 : Int32) (0 : Int32) r3 else some ((Sum.inr "java/lang/IllegalArgumentException"), I)
set_option maxRecDepth 4000 in
set_option maxHeartbeats 4000000 in
theorem LC_X11_evenings_41 {g : gX} {d : Nat} {P : Nat → Nat → Option Nat} {J : HJ} {x1 : Int32} (hp : Wp P) : ∀ (x2 : Int32) (x3 : Int32) (I : HI) (r : (Int32 ⊕ String) × HI), L_X11_evenings_41 x1 x2 x3 I = some r → M g mX11_evenings (d + 6) (NT, NT, 1) ((thr_i r.1), (NT, r.2, J, P)) 41 [some (.ref 1), some (.int x1), some (.int x2), some (.int x3)] [] (NT, I, J, P) := by
  refine L_X11_evenings_41.partial_correctness x1 (fun x2 x3 I r => M g mX11_evenings (d + 6) (NT, NT, 1) ((thr_i r.1), (NT, r.2, J, P)) 41 [some (.ref 1), some (.int x1), some (.int x2), some (.int x3)] [] (NT, I, J, P)) ?_
  intro f ih x2 x3 I r h
  refine M_iload_n (pc := 41) dX11_evenings_41 rfl ?_
  refine M_iload_n (pc := 42) dX11_evenings_42 rfl ?_
  refine M_icmp_ge (pc := 43) (tgt := 64) dX11_evenings_43 (by decide) (fun hc5 => ?_) (fun hc5 => ?_)
  · have h := (if_pos hc5).symm.trans h
    refine M_iload_n (pc := 64) dX11_evenings_64 rfl ?_
    obtain rfl := Option.some.inj h
    exact M_iret (pc := 65) dX11_evenings_65 rfl rfl rfl rfl
  · have h := (if_neg hc5).symm.trans h
    refine M_iload_n (pc := 46) dX11_evenings_46 rfl ?_
    refine M_aload_n (pc := 47) dX11_evenings_47 rfl ?_
    refine M_aload_n (pc := 48) dX11_evenings_48 rfl ?_
    refine M_getR (pc := 49) dX11_evenings_49 f_X11_23 at_10 (gc_1_3 hp).1 ?_
    refine M_iconst (pc := 52) (v := 1) dX11_evenings_52 (by decide) ?_
    obtain ⟨r6, hr7, h⟩ := bnd h
    refine M_callVi (pc := 53) dX11_evenings_53 v_X11_285 rfl rfl at_10 (Nat.le_of_ble_eq_true rfl) (C_X11_passEvening (d := d + 0) hp (gc_1_3 hp).2 hr7) (Nat.le_refl _) ?_
    refine M_iadd (pc := 56) dX11_evenings_56 ?_
    refine M_istore_n (pc := 57) (ls' := [some (.ref 1), some (.int x1), some (.int (x2 + r6.1)), some (.int x3)]) dX11_evenings_57 (by decide) rfl ?_
    refine M_iinc (pc := 58) (v := (x3 + (1 : Int32))) (ls' := [some (.ref 1), some (.int x1), some (.int (x2 + r6.1)), some (.int (x3 + (1 : Int32)))]) dX11_evenings_58 rfl rfl (by decide) rfl ?_
    refine M_goto (pc := 61) (tgt := 41) dX11_evenings_61 (by decide) ?_
    exact ih (x2 + r6.1) (x3 + (1 : Int32)) r6.2 _ h
set_option maxRecDepth 4000 in
set_option maxHeartbeats 4000000 in
theorem C_X11_evenings {g : gX} {d : Nat} {P : Nat → Nat → Option Nat} {I : HI} {x1 : Int32} {J : HJ} (hp : Wp P) {r : (Int32 ⊕ String) × HI} (h : F_X11_evenings I x1 = some r) : Cx g mX11_evenings (d + 6) [.ref 1, .int x1] (NT, I, J, P) ((thr_i r.1), (NT, r.2, J, P)) := by
  unfold F_X11_evenings at h
  refine Cx.of (by decide) (by simp [Value.category]) (Nat.le_of_ble_eq_true rfl) (Nat.le_refl _) (ls := [some (.ref 1), some (.int x1), none, none]) rfl ?_
  refine M_iload_n (pc := 0) dX11_evenings_0 rfl ?_
  refine M_iconst (pc := 1) (v := 1) dX11_evenings_1 (by decide) ?_
  refine M_icmp_lt (pc := 2) (tgt := 11) dX11_evenings_2 (by decide) (fun hc1 => ?_) (fun hc1 => ?_)
  · have h := (if_pos hc1).symm.trans h
    obtain rfl := Option.some.inj h
    exact M_throwW (pc := 11) dX11_evenings_11 dX11_evenings_14 dX11_evenings_15 dX11_evenings_18 dX11_evenings_21 ⟨rfl, rfl, rfl, rfl⟩ x_X11_118 (j := 11) (by decide) str_X11_283 rfl rfl
  · have h := (if_neg hc1).symm.trans h
    refine M_iload_n (pc := 5) dX11_evenings_5 rfl ?_
    refine M_bipush (pc := 6) (v := 60) dX11_evenings_6 (by decide) ?_
    refine M_icmp_le (pc := 8) (tgt := 22) dX11_evenings_8 (by decide) (fun hc2 => ?_) (fun hc2 => ?_)
    · have h := (if_pos hc2).symm.trans h
      refine M_aload_n (pc := 22) dX11_evenings_22 rfl ?_
      refine M_getR (pc := 23) dX11_evenings_23 f_X11_44 at_10 (gc_1_6 hp).1 ?_
      refine M_aload_n (pc := 26) dX11_evenings_26 rfl ?_
      refine M_getR (pc := 27) dX11_evenings_27 f_X11_23 at_10 (gc_1_3 hp).1 ?_
      refine M_aload_n (pc := 30) dX11_evenings_30 rfl ?_
      refine M_getR (pc := 31) dX11_evenings_31 f_X11_37 at_10 (gc_1_5 hp).1 ?_
      obtain ⟨r3, hr4, h⟩ := bnd h
      refine M_callVv (pc := 34) dX11_evenings_34 v_X11_228 rfl rfl (gc_1_6 hp).2 (Nat.le_of_ble_eq_true rfl) (C_X0_remember (d := d + 2) hp (gc_1_3 hp).2 (gc_1_5 hp).2 hr4) (Nat.le_refl _) ?_
      refine M_iconst (pc := 37) (v := 0) dX11_evenings_37 (by decide) ?_
      refine M_istore_n (pc := 38) (ls' := [some (.ref 1), some (.int x1), some (.int (0 : Int32)), none]) dX11_evenings_38 (by decide) rfl ?_
      refine M_iconst (pc := 39) (v := 0) dX11_evenings_39 (by decide) ?_
      refine M_istore_n (pc := 40) (ls' := [some (.ref 1), some (.int x1), some (.int (0 : Int32)), some (.int (0 : Int32))]) dX11_evenings_40 (by decide) rfl ?_
      exact LC_X11_evenings_41 (P := P) hp (0 : Int32) (0 : Int32) r3 _ h
    · have h := (if_neg hc2).symm.trans h
      obtain rfl := Option.some.inj h
      exact M_throwW (pc := 11) dX11_evenings_11 dX11_evenings_14 dX11_evenings_15 dX11_evenings_18 dX11_evenings_21 ⟨rfl, rfl, rfl, rfl⟩ x_X11_118 (j := 11) (by decide) str_X11_283 rfl rfl
def F_X11_order (I : HI) (x1 : Int32) (x2 : Int32) : Option ((Int32 ⊕ String) × HI) :=
  (F_X1_all I 4) >>= fun r1 => (F_J6_bitCount_0f7a4 I (x1 &&& r1)) >>= fun r3 => if r3 ≤ (6 : Int32) then (F_X8_search I 3 (x1 &&& r1) 9) >>= fun r6 => if x2 = (-1 : Int32) then some ((Sum.inl (r6 155 0)), r6) else (F_X8_nth r6 x2) >>= fun r9 => some ((Sum.inl r9), r6) else some ((Sum.inr "java/lang/IllegalArgumentException"), I)
set_option maxRecDepth 4000 in
set_option maxHeartbeats 4000000 in
theorem C_X11_order {g : gX} {d : Nat} {P : Nat → Nat → Option Nat} {I : HI} {x1 : Int32} {x2 : Int32} {J : HJ} (hp : Wp P) {r : (Int32 ⊕ String) × HI} (h : F_X11_order I x1 x2 = some r) : Cx g mX11_order (d + 18) [.ref 1, .int x1, .int x2] (NT, I, J, P) ((thr_i r.1), (NT, r.2, J, P)) := by
  unfold F_X11_order at h
  refine Cx.of (by decide) (by simp [Value.category]) (Nat.le_of_ble_eq_true rfl) (Nat.le_refl _) (ls := [some (.ref 1), some (.int x1), some (.int x2), none]) rfl ?_
  refine M_iload_n (pc := 0) dX11_order_0 rfl ?_
  refine M_aload_n (pc := 1) dX11_order_1 rfl ?_
  refine M_getR (pc := 2) dX11_order_2 f_X11_23 at_10 (gc_1_3 hp).1 ?_
  refine M_getR (pc := 5) dX11_order_5 f_X11_148 (gc_1_3 hp).2 (gc_3_0 hp).1 ?_
  obtain ⟨r1, hr2, h⟩ := bnd h
  refine M_callVi (pc := 8) dX11_order_8 v_X11_214 rfl rfl (gc_3_0 hp).2 (Nat.le_of_ble_eq_true rfl) (C_X1_all (d := d + 17) hp (gc_3_0 hp).2 hr2) (Nat.le_refl _) ?_
  refine M_iand (pc := 11) dX11_order_11 ?_
  refine M_istore_n (pc := 12) (ls' := [some (.ref 1), some (.int x1), some (.int x2), some (.int (x1 &&& r1))]) dX11_order_12 (by decide) rfl ?_
  refine M_iload_n (pc := 13) dX11_order_13 rfl ?_
  obtain ⟨r3, hr4, h⟩ := bnd h
  refine M_callSi (pc := 14) dX11_order_14 s_X11_311 rfl rfl (Nat.le_of_ble_eq_true rfl) (C_J6_bitCount_0f7a4 (d := d + 17) hp hr4) (Nat.le_refl _) ?_
  refine M_bipush (pc := 17) (v := 6) dX11_order_17 (by decide) ?_
  refine M_icmp_le (pc := 19) (tgt := 33) dX11_order_19 (by decide) (fun hc5 => ?_) (fun hc5 => ?_)
  · have h := (if_pos hc5).symm.trans h
    refine M_aload_n (pc := 33) dX11_order_33 rfl ?_
    refine M_getR (pc := 34) dX11_order_34 f_X11_88 at_10 (gc_1_15 hp).1 ?_
    refine M_aload_n (pc := 37) dX11_order_37 rfl ?_
    refine M_getR (pc := 38) dX11_order_38 f_X11_23 at_10 (gc_1_3 hp).1 ?_
    refine M_iload_n (pc := 41) dX11_order_41 rfl ?_
    refine M_aload_n (pc := 42) dX11_order_42 rfl ?_
    refine M_getR (pc := 43) dX11_order_43 f_X11_30 at_10 (gc_1_4 hp).1 ?_
    refine M_aload_n (pc := 46) dX11_order_46 rfl ?_
    refine M_getR (pc := 47) dX11_order_47 f_X11_67 at_10 (gc_1_12 hp).1 ?_
    obtain ⟨r6, hr7, h⟩ := bnd h
    refine M_callVv (pc := 50) dX11_order_50 v_X11_318 rfl rfl (gc_1_15 hp).2 (Nat.le_of_ble_eq_true rfl) (C_X8_search (d := d + 0) hp (gc_1_3 hp).2 (gc_1_4 hp).2 hr7) (Nat.le_refl _) ?_
    refine M_iload_n (pc := 53) dX11_order_53 rfl ?_
    refine M_iconst (pc := 54) (v := -1) dX11_order_54 (by decide) ?_
    refine M_icmp_ne (pc := 55) (tgt := 68) dX11_order_55 (by decide) (fun hc8 => ?_) (fun hc8 => ?_)
    · have h := (if_neg hc8).symm.trans h
      refine M_aload_n (pc := 68) dX11_order_68 rfl ?_
      refine M_getR (pc := 69) dX11_order_69 f_X11_88 at_10 (gc_1_15 hp).1 ?_
      refine M_iload_n (pc := 72) dX11_order_72 rfl ?_
      obtain ⟨r9, hr10, h⟩ := bnd h
      refine M_callVi (pc := 73) dX11_order_73 v_X11_325 rfl rfl (gc_1_15 hp).2 (Nat.le_of_ble_eq_true rfl) (C_X8_nth (d := d + 17) hp hr10) (Nat.le_refl _) ?_
      obtain rfl := Option.some.inj h
      exact M_iret (pc := 76) dX11_order_76 rfl rfl rfl rfl
    · have h := (if_pos hc8).symm.trans h
      refine M_aload_n (pc := 58) dX11_order_58 rfl ?_
      refine M_getR (pc := 59) dX11_order_59 f_X11_88 at_10 (gc_1_15 hp).1 ?_
      refine M_getI (pc := 62) dX11_order_62 f_X11_322 (gc_1_15 hp).2 ?_
      refine M_goto (pc := 65) (tgt := 76) dX11_order_65 (by decide) ?_
      obtain rfl := Option.some.inj h
      exact M_iret (pc := 76) dX11_order_76 rfl rfl rfl rfl
  · have h := (if_neg hc5).symm.trans h
    obtain rfl := Option.some.inj h
    exact M_throwW (pc := 22) dX11_order_22 dX11_order_25 dX11_order_26 dX11_order_29 dX11_order_32 ⟨rfl, rfl, rfl, rfl⟩ x_X11_118 (j := 15) (by decide) str_X11_316 rfl rfl
def F_X11_trial (I : HI) (x1 : Int32) (x2 : Int32) : Option ((Int32 ⊕ String) × HI) :=
  if x1 < 0 then some ((Sum.inr "java/lang/IllegalArgumentException"), I) else if x1 ≤ (60 : Int32) then (F_X11_tryEvenings I x1 (I 3 14)) >>= fun r3 => if x2 = 0 then some ((Sum.inl (r3 130 4)), r3) else some ((Sum.inl (r3 130 13)), r3) else some ((Sum.inr "java/lang/IllegalArgumentException"), I)
set_option maxRecDepth 4000 in
set_option maxHeartbeats 4000000 in
theorem C_X11_trial {g : gX} {d : Nat} {P : Nat → Nat → Option Nat} {I : HI} {x1 : Int32} {x2 : Int32} {J : HJ} (hp : Wp P) {r : (Int32 ⊕ String) × HI} (h : F_X11_trial I x1 x2 = some r) : Cx g mX11_trial (d + 7) [.ref 1, .int x1, .int x2] (NT, I, J, P) ((thr_i r.1), (NT, r.2, J, P)) := by
  unfold F_X11_trial at h
  refine Cx.of (by decide) (by simp [Value.category]) (Nat.le_of_ble_eq_true rfl) (Nat.le_refl _) (ls := [some (.ref 1), some (.int x1), some (.int x2)]) rfl ?_
  refine M_iload_n (pc := 0) dX11_trial_0 rfl ?_
  refine M_if_lt (pc := 1) (tgt := 10) dX11_trial_1 (by decide) (fun hc1 => ?_) (fun hc1 => ?_)
  · have h := (if_pos hc1).symm.trans h
    obtain rfl := Option.some.inj h
    exact M_throwW (pc := 10) dX11_trial_10 dX11_trial_13 dX11_trial_14 dX11_trial_17 dX11_trial_20 ⟨rfl, rfl, rfl, rfl⟩ x_X11_118 (j := 11) (by decide) str_X11_283 rfl rfl
  · have h := (if_neg hc1).symm.trans h
    refine M_iload_n (pc := 4) dX11_trial_4 rfl ?_
    refine M_bipush (pc := 5) (v := 60) dX11_trial_5 (by decide) ?_
    refine M_icmp_le (pc := 7) (tgt := 21) dX11_trial_7 (by decide) (fun hc2 => ?_) (fun hc2 => ?_)
    · have h := (if_pos hc2).symm.trans h
      refine M_aload_n (pc := 21) dX11_trial_21 rfl ?_
      refine M_iload_n (pc := 22) dX11_trial_22 rfl ?_
      refine M_aload_n (pc := 23) dX11_trial_23 rfl ?_
      refine M_getR (pc := 24) dX11_trial_24 f_X11_23 at_10 (gc_1_3 hp).1 ?_
      refine M_getI (pc := 27) dX11_trial_27 f_X11_389 (gc_1_3 hp).2 ?_
      obtain ⟨r3, hr4, h⟩ := bnd h
      refine M_callVv (pc := 30) dX11_trial_30 v_X11_392 rfl rfl at_10 (Nat.le_of_ble_eq_true rfl) (C_X11_tryEvenings (d := d + 0) hp hr4) (Nat.le_refl _) ?_
      refine M_iload_n (pc := 33) dX11_trial_33 rfl ?_
      refine M_if_eq (pc := 34) (tgt := 47) dX11_trial_34 (by decide) (fun hc5 => ?_) (fun hc5 => ?_)
      · have h := (if_pos hc5).symm.trans h
        refine M_aload_n (pc := 47) dX11_trial_47 rfl ?_
        refine M_getR (pc := 48) dX11_trial_48 f_X11_61 at_10 (gc_1_11 hp).1 ?_
        refine M_getI (pc := 51) dX11_trial_51 f_X11_220 (gc_1_11 hp).2 ?_
        obtain rfl := Option.some.inj h
        exact M_iret (pc := 54) dX11_trial_54 rfl rfl rfl rfl
      · have h := (if_neg hc5).symm.trans h
        refine M_aload_n (pc := 37) dX11_trial_37 rfl ?_
        refine M_getR (pc := 38) dX11_trial_38 f_X11_61 at_10 (gc_1_11 hp).1 ?_
        refine M_getI (pc := 41) dX11_trial_41 f_X11_396 (gc_1_11 hp).2 ?_
        refine M_goto (pc := 44) (tgt := 54) dX11_trial_44 (by decide) ?_
        obtain rfl := Option.some.inj h
        exact M_iret (pc := 54) dX11_trial_54 rfl rfl rfl rfl
    · have h := (if_neg hc2).symm.trans h
      obtain rfl := Option.some.inj h
      exact M_throwW (pc := 10) dX11_trial_10 dX11_trial_13 dX11_trial_14 dX11_trial_17 dX11_trial_20 ⟨rfl, rfl, rfl, rfl⟩ x_X11_118 (j := 11) (by decide) str_X11_283 rfl rfl
def F_X11_law (I : HI) : Option ((Int32 ⊕ String) × HI) :=
  (F_X4_clear I 148) >>= fun r1 => (F_X11_takeTape r1) >>= fun r3 => (F_X10_firstWrong_c5 r3.2 r3.1 (12 : Int32)) >>= fun r5 => if r5.1 = (-1 : Int32) then (F_X4_copy (up2 r5.2 1 2 r5.1) 9 148) >>= fun r8 => (F_X0_clear r8) >>= fun r10 => some ((Sum.inl (r10 9 0)), r10) else some ((Sum.inr "java/lang/IllegalArgumentException"), (up2 r5.2 1 2 r5.1))
set_option maxRecDepth 4000 in
set_option maxHeartbeats 4000000 in
theorem C_X11_law {g : gX} {d : Nat} {P : Nat → Nat → Option Nat} {I : HI} {J : HJ} (hp : Wp P) {r : (Int32 ⊕ String) × HI} (h : F_X11_law I = some r) : Cx g mX11_law (d + 11) [.ref 1] (NT, I, J, P) ((thr_i r.1), (NT, r.2, J, (up2 P 146 0 (some 2)))) := by
  unfold F_X11_law at h
  refine Cx.of (by decide) (by simp [Value.category]) (Nat.le_of_ble_eq_true rfl) (Nat.le_refl _) (ls := [some (.ref 1)]) rfl ?_
  refine M_aload_n (pc := 0) dX11_law_0 rfl ?_
  refine M_getR (pc := 1) dX11_law_1 f_X11_81 at_10 (gc_1_14 hp).1 ?_
  refine M_getR (pc := 4) dX11_law_4 f_X11_136 (gc_1_14 hp).2 (gc_146_5 hp).1 ?_
  obtain ⟨r1, hr2, h⟩ := bnd h
  refine M_callVv (pc := 7) dX11_law_7 v_X11_138 rfl rfl (gc_146_5 hp).2 (Nat.le_of_ble_eq_true rfl) (C_X4_clear (d := d + 10) hp (gc_146_5 hp).2 hr2) (Nat.le_refl _) ?_
  refine M_aload_n (pc := 10) dX11_law_10 rfl ?_
  refine M_aload_n (pc := 11) dX11_law_11 rfl ?_
  refine M_getR (pc := 12) dX11_law_12 f_X11_81 at_10 (gc_1_14 hp).1 ?_
  refine M_aload_n (pc := 15) dX11_law_15 rfl ?_
  refine M_getR (pc := 16) dX11_law_16 f_X11_9 at_10 (gc_1_0 hp).1 ?_
  refine M_aload_n (pc := 19) dX11_law_19 rfl ?_
  obtain ⟨r3, hr4, h⟩ := bnd h
  refine M_callVi (pc := 20) dX11_law_20 v_X11_110 rfl rfl at_10 (Nat.le_of_ble_eq_true rfl) (C_X11_takeTape (d := d + 10) hp hr4) (Nat.le_refl _) ?_
  refine M_bipush (pc := 23) (v := 12) dX11_law_23 (by decide) ?_
  obtain ⟨r5, hr6, h⟩ := bnd h
  refine M_callUi (pc := 25) dX11_law_25 u_X11_139 rfl rfl (gc_1_14 hp).2 (Nat.le_of_ble_eq_true rfl) (C_X10_firstWrong_c5 (d := d + 0) hp hr6) (Nat.le_refl _) ?_
  have hp : Wp (up2 P 146 0 (some 2)) := Wp_up hp (by decide +kernel)
  refine M_putI (pc := 28) dX11_law_28 f_X11_17 at_10 rfl ⟨rfl, rfl⟩ ?_
  refine M_aload_n (pc := 31) dX11_law_31 rfl ?_
  refine M_getIs (pc := 32) (x := r5.1) dX11_law_32 f_X11_17 at_10 rd_eq ?_
  refine M_iconst (pc := 35) (v := -1) dX11_law_35 (by decide) ?_
  refine M_icmp_eq (pc := 36) (tgt := 49) dX11_law_36 (by decide) (fun hc7 => ?_) (fun hc7 => ?_)
  · have h := (if_pos hc7).symm.trans h
    refine M_aload_n (pc := 49) dX11_law_49 rfl ?_
    refine M_getR (pc := 50) dX11_law_50 f_X11_30 at_10 (gc_1_4 hp).1 ?_
    refine M_aload_n (pc := 53) dX11_law_53 rfl ?_
    refine M_getR (pc := 54) dX11_law_54 f_X11_81 at_10 (gc_1_14 hp).1 ?_
    refine M_getR (pc := 57) dX11_law_57 f_X11_136 (gc_1_14 hp).2 (gc_146_5 hp).1 ?_
    obtain ⟨r8, hr9, h⟩ := bnd h
    refine M_callVv (pc := 60) dX11_law_60 v_X11_142 rfl rfl (gc_1_4 hp).2 (Nat.le_of_ble_eq_true rfl) (C_X4_copy (d := d + 9) hp (gc_1_4 hp).2 (gc_146_5 hp).2 hr9) (Nat.le_refl _) ?_
    refine M_aload_n (pc := 63) dX11_law_63 rfl ?_
    refine M_getR (pc := 64) dX11_law_64 f_X11_44 at_10 (gc_1_6 hp).1 ?_
    obtain ⟨r10, hr11, h⟩ := bnd h
    refine M_callVv (pc := 67) dX11_law_67 v_X11_133 rfl rfl (gc_1_6 hp).2 (Nat.le_of_ble_eq_true rfl) (C_X0_clear (d := d + 10) hp hr11) (Nat.le_refl _) ?_
    refine M_aload_n (pc := 70) dX11_law_70 rfl ?_
    refine M_getR (pc := 71) dX11_law_71 f_X11_30 at_10 (gc_1_4 hp).1 ?_
    refine M_getI (pc := 74) dX11_law_74 f_X11_145 (gc_1_4 hp).2 ?_
    obtain rfl := Option.some.inj h
    exact M_iret (pc := 77) dX11_law_77 rfl rfl rfl rfl
  · have h := (if_neg hc7).symm.trans h
    obtain rfl := Option.some.inj h
    exact M_throw (pc := 39) dX11_law_39 dX11_law_42 dX11_law_43 dX11_law_45 dX11_law_48 ⟨rfl, rfl, rfl, rfl⟩ x_X11_118 (j := 2) (by decide) str_X11_140 rfl rfl
