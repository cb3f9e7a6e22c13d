def L_X11_twins_22 (I : HI) (x2 : Int32) (x1 : Int32) (x3 : Int32) : Option (Int32 × Int32) :=
  if (I 4 0) ≤ x3 then some (x1, x3) else (F_X1_distance I 4 x2 x3) >>= fun r3 => if r3 = 0 then L_X11_twins_22 I x2 (x1 + (1 : Int32)) (x3 + (1 : Int32)) else L_X11_twins_22 I x2 x1 (x3 + (1 : Int32))
partial_fixpoint
def L_X11_twins_4 (I : HI) (x1 : Int32) (x2 : Int32) : Option (Int32) :=
  if (I 4 0) ≤ x2 then some x1 else (L_X11_twins_22 I x2 x1 (x2 + (1 : Int32))) >>= fun r6 => L_X11_twins_4 I r6.1 (x2 + (1 : Int32))
partial_fixpoint
def F_X11_twins (I : HI) : Option (Int32) :=
  L_X11_twins_4 I (0 : Int32) (0 : Int32)
set_option maxRecDepth 4000 in
set_option maxHeartbeats 4000000 in
theorem LC_X11_twins_22 {g : gX} {d : Nat} {R : rX} {P : Nat → Nat → Option Nat} {J : HJ} {I : HI} {x2 : Int32} (hp : Wp P) : ∀ (x1 : Int32) (x3 : Int32) (r : Int32 × Int32), L_X11_twins_22 I x2 x1 x3 = some r → M g mX11_twins (d + 1) (NT, NT, 0) R 60 [some (.ref 1), some (.int r.1), some (.int x2), some (.int r.2)] [] (NT, I, J, P) → M g mX11_twins (d + 1) (NT, NT, 0) R 22 [some (.ref 1), some (.int x1), some (.int x2), some (.int x3)] [] (NT, I, J, P) := by
  refine L_X11_twins_22.partial_correctness I x2 (fun x1 x3 r => M g mX11_twins (d + 1) (NT, NT, 0) R 60 [some (.ref 1), some (.int r.1), some (.int x2), some (.int r.2)] [] (NT, I, J, P) → M g mX11_twins (d + 1) (NT, NT, 0) R 22 [some (.ref 1), some (.int x1), some (.int x2), some (.int x3)] [] (NT, I, J, P)) ?_
  intro f ih x1 x3 r h hk
  refine M_iload_n (pc := 22) dX11_twins_22 rfl ?_
  refine M_aload_n (pc := 23) dX11_twins_23 rfl ?_
  refine M_getR (pc := 24) dX11_twins_24 f_X11_23 at_10 (gc_1_3 hp).1 ?_
  refine M_getR (pc := 27) dX11_twins_27 f_X11_148 (gc_1_3 hp).2 (gc_3_0 hp).1 ?_
  refine M_getI (pc := 30) dX11_twins_30 f_X11_211 (gc_3_0 hp).2 ?_
  refine M_icmp_ge (pc := 33) (tgt := 60) dX11_twins_33 (by decide) (fun hc2 => ?_) (fun hc2 => ?_)
  · have h := (if_pos hc2).symm.trans h
    obtain rfl := Option.some.inj h
    exact hk
  · have h := (if_neg hc2).symm.trans h
    refine M_aload_n (pc := 36) dX11_twins_36 rfl ?_
    refine M_getR (pc := 37) dX11_twins_37 f_X11_23 at_10 (gc_1_3 hp).1 ?_
    refine M_getR (pc := 40) dX11_twins_40 f_X11_148 (gc_1_3 hp).2 (gc_3_0 hp).1 ?_
    refine M_iload_n (pc := 43) dX11_twins_43 rfl ?_
    refine M_iload_n (pc := 44) dX11_twins_44 rfl ?_
    obtain ⟨r3, hr4, h⟩ := bnd h
    refine M_callVi (pc := 45) dX11_twins_45 v_X11_208 rfl rfl (gc_3_0 hp).2 (Nat.le_of_ble_eq_true rfl) (C_X1_distance (d := d + 0) hp (gc_3_0 hp).2 hr4) (Nat.le_refl _) ?_
    refine M_if_ne (pc := 48) (tgt := 54) dX11_twins_48 (by decide) (fun hc5 => ?_) (fun hc5 => ?_)
    · have h := (if_neg hc5).symm.trans h
      refine M_iinc (pc := 54) (v := (x3 + (1 : Int32))) (ls' := [some (.ref 1), some (.int x1), some (.int x2), some (.int (x3 + (1 : Int32)))]) dX11_twins_54 rfl rfl (by decide) rfl ?_
      refine M_goto (pc := 57) (tgt := 22) dX11_twins_57 (by decide) ?_
      exact ih x1 (x3 + (1 : Int32)) _ h hk
    · have h := (if_pos hc5).symm.trans h
      refine M_iinc (pc := 51) (v := (x1 + (1 : Int32))) (ls' := [some (.ref 1), some (.int (x1 + (1 : Int32))), some (.int x2), some (.int x3)]) dX11_twins_51 rfl rfl (by decide) rfl ?_
      refine M_iinc (pc := 54) (v := (x3 + (1 : Int32))) (ls' := [some (.ref 1), some (.int (x1 + (1 : Int32))), some (.int x2), some (.int (x3 + (1 : Int32)))]) dX11_twins_54 rfl rfl (by decide) rfl ?_
      refine M_goto (pc := 57) (tgt := 22) dX11_twins_57 (by decide) ?_
      exact ih (x1 + (1 : Int32)) (x3 + (1 : Int32)) _ h hk
set_option maxRecDepth 4000 in
set_option maxHeartbeats 4000000 in
theorem LC_X11_twins_4 {g : gX} {d : Nat} {P : Nat → Nat → Option Nat} {J : HJ} {I : HI} (hp : Wp P) : ∀ (x1 : Int32) (x2 : Int32) (r : Int32), L_X11_twins_4 I x1 x2 = some r → M g mX11_twins (d + 1) (NT, NT, 0) ((.inl (some (.int r))), (NT, I, J, P)) 4 [some (.ref 1), some (.int x1), some (.int x2), none] [] (NT, I, J, P) := by
  refine L_X11_twins_4.partial_correctness I (fun x1 x2 r => M g mX11_twins (d + 1) (NT, NT, 0) ((.inl (some (.int r))), (NT, I, J, P)) 4 [some (.ref 1), some (.int x1), some (.int x2), none] [] (NT, I, J, P)) ?_
  intro f ih x1 x2 r h
  refine M_iload_n (pc := 4) dX11_twins_4 rfl ?_
  refine M_aload_n (pc := 5) dX11_twins_5 rfl ?_
  refine M_getR (pc := 6) dX11_twins_6 f_X11_23 at_10 (gc_1_3 hp).1 ?_
  refine M_getR (pc := 9) dX11_twins_9 f_X11_148 (gc_1_3 hp).2 (gc_3_0 hp).1 ?_
  refine M_getI (pc := 12) dX11_twins_12 f_X11_211 (gc_3_0 hp).2 ?_
  refine M_icmp_ge (pc := 15) (tgt := 66) dX11_twins_15 (by decide) (fun hc1 => ?_) (fun hc1 => ?_)
  · have h := (if_pos hc1).symm.trans h
    refine M_iload_n (pc := 66) dX11_twins_66 rfl ?_
    obtain rfl := Option.some.inj h
    exact M_iret (pc := 67) dX11_twins_67 rfl rfl rfl rfl
  · have h := (if_neg hc1).symm.trans h
    refine M_iload_n (pc := 18) dX11_twins_18 rfl ?_
    refine M_iconst (pc := 19) (v := 1) dX11_twins_19 (by decide) ?_
    refine M_iadd (pc := 20) dX11_twins_20 ?_
    refine M_istore_n (pc := 21) (ls' := [some (.ref 1), some (.int x1), some (.int x2), some (.int (x2 + (1 : Int32)))]) dX11_twins_21 (by decide) rfl ?_
    obtain ⟨r6, hr7, h⟩ := bnd h
    refine LC_X11_twins_22 (P := P) hp x1 (x2 + (1 : Int32)) _ hr7 ?_
    refine M_iinc (pc := 60) (v := (x2 + (1 : Int32))) (ls' := [some (.ref 1), some (.int r6.1), some (.int (x2 + (1 : Int32))), some (.int r6.2)]) dX11_twins_60 rfl rfl (by decide) rfl ?_
    refine M_goto (pc := 63) (tgt := 4) dX11_twins_63 (by decide) ?_
    refine M_mask (pc := 4) [true, true, true, false] rfl ?_
    exact ih r6.1 (x2 + (1 : Int32)) _ h
set_option maxRecDepth 4000 in
set_option maxHeartbeats 4000000 in
theorem C_X11_twins {g : gX} {d : Nat} {P : Nat → Nat → Option Nat} {I : HI} {J : HJ} (hp : Wp P) {r : Int32} (h : F_X11_twins I = some r) : Cm g mX11_twins (d + 1) [.ref 1] (NT, I, J, P) (some (.int r)) (NT, I, J, P) := by
  unfold F_X11_twins at h
  refine Cm.of (by decide) (by simp [Value.category]) (Nat.le_of_ble_eq_true rfl) (Nat.le_refl _) (ls := [some (.ref 1), none, none, none]) rfl ?_
  refine M_iconst (pc := 0) (v := 0) dX11_twins_0 (by decide) ?_
  refine M_istore_n (pc := 1) (ls' := [some (.ref 1), some (.int (0 : Int32)), none, none]) dX11_twins_1 (by decide) rfl ?_
  refine M_iconst (pc := 2) (v := 0) dX11_twins_2 (by decide) ?_
  refine M_istore_n (pc := 3) (ls' := [some (.ref 1), some (.int (0 : Int32)), some (.int (0 : Int32)), none]) dX11_twins_3 (by decide) rfl ?_
  exact LC_X11_twins_4 (P := P) hp (0 : Int32) (0 : Int32) _ h
def F_X11_next (I : HI) : Option (Int32) :=
  (F_X1_earliestBehind I 4 (I 3 3)) >>= fun r1 => some r1
set_option maxRecDepth 4000 in
set_option maxHeartbeats 4000000 in
theorem C_X11_next {g : gX} {d : Nat} {P : Nat → Nat → Option Nat} {I : HI} {J : HJ} (hp : Wp P) {r : Int32} (h : F_X11_next I = some r) : Cm g mX11_next (d + 1) [.ref 1] (NT, I, J, P) (some (.int r)) (NT, I, J, P) := by
  unfold F_X11_next at h
  refine Cm.of (by decide) (by simp [Value.category]) (Nat.le_of_ble_eq_true rfl) (Nat.le_refl _) (ls := [some (.ref 1)]) rfl ?_
  refine M_aload_n (pc := 0) dX11_next_0 rfl ?_
  refine M_getR (pc := 1) dX11_next_1 f_X11_23 at_10 (gc_1_3 hp).1 ?_
  refine M_getR (pc := 4) dX11_next_4 f_X11_148 (gc_1_3 hp).2 (gc_3_0 hp).1 ?_
  refine M_aload_n (pc := 7) dX11_next_7 rfl ?_
  refine M_getR (pc := 8) dX11_next_8 f_X11_23 at_10 (gc_1_3 hp).1 ?_
  refine M_getI (pc := 11) dX11_next_11 f_X11_242 (gc_1_3 hp).2 ?_
  obtain ⟨r1, hr2, h⟩ := bnd h
  refine M_callVi (pc := 14) dX11_next_14 v_X11_365 rfl rfl (gc_3_0 hp).2 (Nat.le_of_ble_eq_true rfl) (C_X1_earliestBehind (d := d + 0) hp (gc_3_0 hp).2 hr2) (Nat.le_refl _) ?_
  obtain rfl := Option.some.inj h
  exact M_iret (pc := 17) dX11_next_17 rfl rfl rfl rfl
def F_X11_warlike (I : HI) : Option (Int32) :=
  (F_X1_firstIn I 4 (I 3 8) (I 3 9)) >>= fun r1 => some r1
set_option maxRecDepth 4000 in
set_option maxHeartbeats 4000000 in
theorem C_X11_warlike {g : gX} {d : Nat} {P : Nat → Nat → Option Nat} {I : HI} {J : HJ} (hp : Wp P) {r : Int32} (h : F_X11_warlike I = some r) : Cm g mX11_warlike (d + 1) [.ref 1] (NT, I, J, P) (some (.int r)) (NT, I, J, P) := by
  unfold F_X11_warlike at h
  refine Cm.of (by decide) (by simp [Value.category]) (Nat.le_of_ble_eq_true rfl) (Nat.le_refl _) (ls := [some (.ref 1)]) rfl ?_
  refine M_aload_n (pc := 0) dX11_warlike_0 rfl ?_
  refine M_getR (pc := 1) dX11_warlike_1 f_X11_23 at_10 (gc_1_3 hp).1 ?_
  refine M_getR (pc := 4) dX11_warlike_4 f_X11_148 (gc_1_3 hp).2 (gc_3_0 hp).1 ?_
  refine M_aload_n (pc := 7) dX11_warlike_7 rfl ?_
  refine M_getR (pc := 8) dX11_warlike_8 f_X11_23 at_10 (gc_1_3 hp).1 ?_
  refine M_getI (pc := 11) dX11_warlike_11 f_X11_373 (gc_1_3 hp).2 ?_
  refine M_aload_n (pc := 14) dX11_warlike_14 rfl ?_
  refine M_getR (pc := 15) dX11_warlike_15 f_X11_23 at_10 (gc_1_3 hp).1 ?_
  refine M_getI (pc := 18) dX11_warlike_18 f_X11_376 (gc_1_3 hp).2 ?_
  obtain ⟨r1, hr2, h⟩ := bnd h
  refine M_callVi (pc := 21) dX11_warlike_21 v_X11_347 rfl rfl (gc_3_0 hp).2 (Nat.le_of_ble_eq_true rfl) (C_X1_firstIn (d := d + 0) hp (gc_3_0 hp).2 hr2) (Nat.le_refl _) ?_
  obtain rfl := Option.some.inj h
  exact M_iret (pc := 24) dX11_warlike_24 rfl rfl rfl rfl
def F_X11_company (I : HI) (x1 : Int32) : Option ((Int32 ⊕ String)) :=
  if x1 < 0 then some (Sum.inr "java/lang/IllegalArgumentException") else if x1 ≤ (7 : Int32) then (F_X1_hadWith I 4 x1) >>= fun r3 => some (Sum.inl r3) else some (Sum.inr "java/lang/IllegalArgumentException")
set_option maxRecDepth 4000 in
set_option maxHeartbeats 4000000 in
theorem C_X11_company {g : gX} {d : Nat} {P : Nat → Nat → Option Nat} {I : HI} {x1 : Int32} {J : HJ} (hp : Wp P) {r : (Int32 ⊕ String)} (h : F_X11_company I x1 = some r) : Cx g mX11_company (d + 6) [.ref 1, .int x1] (NT, I, J, P) ((thr_i r), (NT, I, J, P)) := by
  unfold F_X11_company at h
  refine Cx.of (by decide) (by simp [Value.category]) (Nat.le_of_ble_eq_true rfl) (Nat.le_refl _) (ls := [some (.ref 1), some (.int x1)]) rfl ?_
  refine M_iload_n (pc := 0) dX11_company_0 rfl ?_
  refine M_if_lt (pc := 1) (tgt := 10) dX11_company_1 (by decide) (fun hc1 => ?_) (fun hc1 => ?_)
  · have h := (if_pos hc1).symm.trans h
    obtain rfl := Option.some.inj h
    exact M_throwW (pc := 10) dX11_company_10 dX11_company_13 dX11_company_14 dX11_company_17 dX11_company_20 ⟨rfl, rfl, rfl, rfl⟩ x_X11_118 (j := 20) (by decide) str_X11_379 rfl rfl
  · have h := (if_neg hc1).symm.trans h
    refine M_iload_n (pc := 4) dX11_company_4 rfl ?_
    refine M_bipush (pc := 5) (v := 7) dX11_company_5 (by decide) ?_
    refine M_icmp_le (pc := 7) (tgt := 21) dX11_company_7 (by decide) (fun hc2 => ?_) (fun hc2 => ?_)
    · have h := (if_pos hc2).symm.trans h
      refine M_aload_n (pc := 21) dX11_company_21 rfl ?_
      refine M_getR (pc := 22) dX11_company_22 f_X11_23 at_10 (gc_1_3 hp).1 ?_
      refine M_getR (pc := 25) dX11_company_25 f_X11_148 (gc_1_3 hp).2 (gc_3_0 hp).1 ?_
      refine M_iload_n (pc := 28) dX11_company_28 rfl ?_
      obtain ⟨r3, hr4, h⟩ := bnd h
      refine M_callVi (pc := 29) dX11_company_29 v_X11_368 rfl rfl (gc_3_0 hp).2 (Nat.le_of_ble_eq_true rfl) (C_X1_hadWith (d := d + 5) hp (gc_3_0 hp).2 hr4) (Nat.le_refl _) ?_
      obtain rfl := Option.some.inj h
      exact M_iret (pc := 32) dX11_company_32 rfl rfl rfl rfl
    · have h := (if_neg hc2).symm.trans h
      obtain rfl := Option.some.inj h
      exact M_throwW (pc := 10) dX11_company_10 dX11_company_13 dX11_company_14 dX11_company_17 dX11_company_20 ⟨rfl, rfl, rfl, rfl⟩ x_X11_118 (j := 20) (by decide) str_X11_379 rfl rfl
def F_X11_slipParts : Nat → HI → Int32 → Int32 → Int32 → Option (Int64)
  | 0, _, _, _, _ => none
  | q + 1, I, x0, x1, x2 => if 0 < x0 then ((F_X11_slipParts q) I (x0 - (1 : Int32)) (x1 - (1 : Int32)) x2) >>= fun r2 => ((F_X11_slipParts q) I (x0 - (1 : Int32)) x1 x2) >>= fun r4 => some (((x2).toInt64 * r2) + ((((100 : Int32) - x2)).toInt64 * r4)) else if 0 < x1 then some (0 : Int64) else some (1 : Int64)
set_option maxRecDepth 4000 in
set_option maxHeartbeats 4000000 in
theorem C_X11_slipParts {g : gX} {P : Nat → Nat → Option Nat} (hp : Wp P) : ∀ (q : Nat) {d : Nat} {J : HJ} (I : HI) (x0 : Int32) (x1 : Int32) (x2 : Int32)  (r : Int64), F_X11_slipParts q I x0 x1 x2 = some r → Cm g mX11_slipParts (d + 1 * q + 8) [.int x0, .int x1, .int x2] (NT, I, J, P) (some (.long r)) (NT, I, J, P) := by
  intro q
  induction q with
  | zero => intro d J I x0 x1 x2  r h; cases h
  | succ q ih =>
  intro d0 J I x0 x1 x2  r h
  obtain ⟨d, hd⟩ : ∃ d, d = d0 + 1 * q := ⟨_, rfl⟩
  rw [show d0 + 1 * (q + 1) + 8 = d + 9 by omega]
  have hrc : ∀ (e : Nat) {J : HJ} (I : HI) (x0 : Int32) (x1 : Int32) (x2 : Int32)  (r : Int64), F_X11_slipParts q I x0 x1 x2 = some r → _ := fun e {J} I x0 x1 x2  r h9 => ih (d := d0 + e) (J := J) I x0 x1 x2  r h9
  simp only [show ∀ e, d0 + e + 1 * q + 8 = d + e + 8 from fun e => by omega] at hrc
  unfold F_X11_slipParts at h
  refine Cm.of (by decide) (by simp [Value.category]) (Nat.le_of_ble_eq_true rfl) (Nat.le_refl _) (ls := [some (.int x0), some (.int x1), some (.int x2)]) rfl ?_
  refine M_iload_n (pc := 0) dX11_slipParts_0 rfl ?_
  refine M_if_gt (pc := 1) (tgt := 14) dX11_slipParts_1 (by decide) (fun hc1 => ?_) (fun hc1 => ?_)
  · have h := (if_pos hc1).symm.trans h
    refine M_iload_n (pc := 14) dX11_slipParts_14 rfl ?_
    refine M_i2l (pc := 15) dX11_slipParts_15 ?_
    refine M_iload_n (pc := 16) dX11_slipParts_16 rfl ?_
    refine M_iconst (pc := 17) (v := 1) dX11_slipParts_17 (by decide) ?_
    refine M_isub (pc := 18) dX11_slipParts_18 ?_
    refine M_iload_n (pc := 19) dX11_slipParts_19 rfl ?_
    refine M_iconst (pc := 20) (v := 1) dX11_slipParts_20 (by decide) ?_
    refine M_isub (pc := 21) dX11_slipParts_21 ?_
    refine M_iload_n (pc := 22) dX11_slipParts_22 rfl ?_
    obtain ⟨r2, hr3, h⟩ := bnd h
    refine M_callSi (pc := 23) dX11_slipParts_23 s_X11_383 rfl rfl (Nat.le_of_ble_eq_true rfl) (hrc 0 _ _ _ _  _ hr3) (Nat.le_refl _) ?_
    refine M_lmul (pc := 26) dX11_slipParts_26 ?_
    refine M_bipush (pc := 27) (v := 100) dX11_slipParts_27 (by decide) ?_
    refine M_iload_n (pc := 29) dX11_slipParts_29 rfl ?_
    refine M_isub (pc := 30) dX11_slipParts_30 ?_
    refine M_i2l (pc := 31) dX11_slipParts_31 ?_
    refine M_iload_n (pc := 32) dX11_slipParts_32 rfl ?_
    refine M_iconst (pc := 33) (v := 1) dX11_slipParts_33 (by decide) ?_
    refine M_isub (pc := 34) dX11_slipParts_34 ?_
    refine M_iload_n (pc := 35) dX11_slipParts_35 rfl ?_
    refine M_iload_n (pc := 36) dX11_slipParts_36 rfl ?_
    obtain ⟨r4, hr5, h⟩ := bnd h
    refine M_callSi (pc := 37) dX11_slipParts_37 s_X11_383 rfl rfl (Nat.le_of_ble_eq_true rfl) (hrc 0 _ _ _ _  _ hr5) (Nat.le_refl _) ?_
    refine M_lmul (pc := 40) dX11_slipParts_40 ?_
    refine M_ladd (pc := 41) dX11_slipParts_41 ?_
    obtain rfl := Option.some.inj h
    exact M_lret (pc := 42) dX11_slipParts_42 rfl rfl rfl
  · have h := (if_neg hc1).symm.trans h
    refine M_iload_n (pc := 4) dX11_slipParts_4 rfl ?_
    refine M_if_gt (pc := 5) (tgt := 12) dX11_slipParts_5 (by decide) (fun hc6 => ?_) (fun hc6 => ?_)
    · have h := (if_pos hc6).symm.trans h
      refine M_lconst (pc := 12) (v := 0) dX11_slipParts_12 (by decide) ?_
      obtain rfl := Option.some.inj h
      exact M_lret (pc := 13) dX11_slipParts_13 rfl rfl rfl
    · have h := (if_neg hc6).symm.trans h
      refine M_lconst (pc := 8) (v := 1) dX11_slipParts_8 (by decide) ?_
      refine M_goto (pc := 9) (tgt := 13) dX11_slipParts_9 (by decide) ?_
      obtain rfl := Option.some.inj h
      exact M_lret (pc := 13) dX11_slipParts_13 rfl rfl rfl
def F_X11_led (I : HI) (x1 : Int32) (x2 : Int32) : Option ((Int32 ⊕ String)) :=
  (F_X1_has I 4 x1) >>= fun r1 => if r1 = 0 then some (Sum.inr "java/lang/IndexOutOfBoundsException") else if x2 = 0 then (F_X7_rowsOf I 15 x1) >>= fun r5 => some (Sum.inl r5) else (F_X7_latestEvening I 15 x1) >>= fun r7 => some (Sum.inl r7)
set_option maxRecDepth 4000 in
set_option maxHeartbeats 4000000 in
theorem C_X11_led {g : gX} {d : Nat} {P : Nat → Nat → Option Nat} {I : HI} {x1 : Int32} {x2 : Int32} {J : HJ} (hp : Wp P) {r : (Int32 ⊕ String)} (h : F_X11_led I x1 x2 = some r) : Cx g mX11_led (d + 6) [.ref 1, .int x1, .int x2] (NT, I, J, P) ((thr_i r), (NT, I, J, P)) := by
  unfold F_X11_led at h
  refine Cx.of (by decide) (by simp [Value.category]) (Nat.le_of_ble_eq_true rfl) (Nat.le_refl _) (ls := [some (.ref 1), some (.int x1), some (.int x2)]) rfl ?_
  refine M_aload_n (pc := 0) dX11_led_0 rfl ?_
  refine M_getR (pc := 1) dX11_led_1 f_X11_23 at_10 (gc_1_3 hp).1 ?_
  refine M_getR (pc := 4) dX11_led_4 f_X11_148 (gc_1_3 hp).2 (gc_3_0 hp).1 ?_
  refine M_iload_n (pc := 7) dX11_led_7 rfl ?_
  obtain ⟨r1, hr2, h⟩ := bnd h
  refine M_callVi (pc := 8) dX11_led_8 v_X11_152 rfl rfl (gc_3_0 hp).2 (Nat.le_of_ble_eq_true rfl) (C_X1_has (d := d + 5) hp (gc_3_0 hp).2 hr2) (Nat.le_refl _) ?_
  refine M_if_ne (pc := 11) (tgt := 24) dX11_led_11 (by decide) (fun hc3 => ?_) (fun hc3 => ?_)
  · have h := (if_neg hc3).symm.trans h
    refine M_iload_n (pc := 24) dX11_led_24 rfl ?_
    refine M_if_eq (pc := 25) (tgt := 39) dX11_led_25 (by decide) (fun hc4 => ?_) (fun hc4 => ?_)
    · have h := (if_pos hc4).symm.trans h
      refine M_aload_n (pc := 39) dX11_led_39 rfl ?_
      refine M_getR (pc := 40) dX11_led_40 f_X11_37 at_10 (gc_1_5 hp).1 ?_
      refine M_iload_n (pc := 43) dX11_led_43 rfl ?_
      obtain ⟨r5, hr6, h⟩ := bnd h
      refine M_callVi (pc := 44) dX11_led_44 v_X11_405 rfl rfl (gc_1_5 hp).2 (Nat.le_of_ble_eq_true rfl) (C_X7_rowsOf (d := d + 4) hp (gc_1_5 hp).2 hr6) (Nat.le_refl _) ?_
      obtain rfl := Option.some.inj h
      exact M_iret (pc := 47) dX11_led_47 rfl rfl rfl rfl
    · have h := (if_neg hc4).symm.trans h
      refine M_aload_n (pc := 28) dX11_led_28 rfl ?_
      refine M_getR (pc := 29) dX11_led_29 f_X11_37 at_10 (gc_1_5 hp).1 ?_
      refine M_iload_n (pc := 32) dX11_led_32 rfl ?_
      obtain ⟨r7, hr8, h⟩ := bnd h
      refine M_callVi (pc := 33) dX11_led_33 v_X11_402 rfl rfl (gc_1_5 hp).2 (Nat.le_of_ble_eq_true rfl) (C_X7_latestEvening (d := d + 4) hp (gc_1_5 hp).2 hr8) (Nat.le_refl _) ?_
      refine M_goto (pc := 36) (tgt := 47) dX11_led_36 (by decide) ?_
      obtain rfl := Option.some.inj h
      exact M_iret (pc := 47) dX11_led_47 rfl rfl rfl rfl
  · have h := (if_pos hc3).symm.trans h
    obtain rfl := Option.some.inj h
    exact M_throw (pc := 14) dX11_led_14 dX11_led_17 dX11_led_18 dX11_led_20 dX11_led_23 ⟨rfl, rfl, rfl, rfl⟩ x_X11_158 (j := 3) (by decide) str_X11_160 rfl rfl
def F_X11_seed (I : HI) (x1 : Int32) : Option (Int32 × HI) :=
  some ((I 3 14), (up2 I 3 14 x1))
set_option maxRecDepth 4000 in
set_option maxHeartbeats 4000000 in
theorem C_X11_seed {g : gX} {d : Nat} {P : Nat → Nat → Option Nat} {I : HI} {x1 : Int32} {J : HJ} (hp : Wp P) {r : Int32 × HI} (h : F_X11_seed I x1 = some r) : Cm g mX11_seed (d + 0) [.ref 1, .int x1] (NT, I, J, P) (some (.int r.1)) (NT, r.2, J, P) := by
  unfold F_X11_seed at h
  refine Cm.of (by decide) (by simp [Value.category]) (Nat.le_of_ble_eq_true rfl) (Nat.le_refl _) (ls := [some (.ref 1), some (.int x1), none]) rfl ?_
  refine M_aload_n (pc := 0) dX11_seed_0 rfl ?_
  refine M_getR (pc := 1) dX11_seed_1 f_X11_23 at_10 (gc_1_3 hp).1 ?_
  refine M_getI (pc := 4) dX11_seed_4 f_X11_389 (gc_1_3 hp).2 ?_
  refine M_istore_n (pc := 7) (ls' := [some (.ref 1), some (.int x1), some (.int (I 3 14))]) dX11_seed_7 (by decide) rfl ?_
  refine M_aload_n (pc := 8) dX11_seed_8 rfl ?_
  refine M_getR (pc := 9) dX11_seed_9 f_X11_23 at_10 (gc_1_3 hp).1 ?_
  refine M_iload_n (pc := 12) dX11_seed_12 rfl ?_
  refine M_putI (pc := 13) dX11_seed_13 f_X11_389 (gc_1_3 hp).2 rfl ⟨rfl, rfl⟩ ?_
  refine M_iload_n (pc := 16) dX11_seed_16 rfl ?_
  obtain rfl := Option.some.inj h
  exact M_iret (pc := 17) dX11_seed_17 rfl rfl rfl rfl
def F_X11_image (I : HI) : Option (HI) :=
  (F_X3_copy I 116 3) >>= fun r1 => (F_X4_copy r1 122 9) >>= fun r3 => (F_X7_copy r3 128 15) >>= fun r5 => some (up2 r5 1 10 (1 : Int32))
set_option maxRecDepth 4000 in
set_option maxHeartbeats 4000000 in
theorem C_X11_image {g : gX} {d : Nat} {P : Nat → Nat → Option Nat} {I : HI} {J : HJ} (hp : Wp P) {r : HI} (h : F_X11_image I = some r) : Cm g mX11_image (d + 3) [.ref 1] (NT, I, J, P) none (NT, r, J, P) := by
  unfold F_X11_image at h
  refine Cm.of (by decide) (by simp [Value.category]) (Nat.le_of_ble_eq_true rfl) (Nat.le_refl _) (ls := [some (.ref 1)]) rfl ?_
  refine M_aload_n (pc := 0) dX11_image_0 rfl ?_
  refine M_getR (pc := 1) dX11_image_1 f_X11_48 at_10 (gc_1_7 hp).1 ?_
  refine M_aload_n (pc := 4) dX11_image_4 rfl ?_
  refine M_getR (pc := 5) dX11_image_5 f_X11_23 at_10 (gc_1_3 hp).1 ?_
  obtain ⟨r1, hr2, h⟩ := bnd h
  refine M_callVv (pc := 8) dX11_image_8 v_X11_106 rfl rfl (gc_1_7 hp).2 (Nat.le_of_ble_eq_true rfl) (C_X3_copy (d := d + 0) hp (gc_1_7 hp).2 (gc_1_3 hp).2 hr2) (Nat.le_refl _) ?_
  refine M_aload_n (pc := 11) dX11_image_11 rfl ?_
  refine M_getR (pc := 12) dX11_image_12 f_X11_51 at_10 (gc_1_8 hp).1 ?_
  refine M_aload_n (pc := 15) dX11_image_15 rfl ?_
  refine M_getR (pc := 16) dX11_image_16 f_X11_30 at_10 (gc_1_4 hp).1 ?_
  obtain ⟨r3, hr4, h⟩ := bnd h
  refine M_callVv (pc := 19) dX11_image_19 v_X11_142 rfl rfl (gc_1_8 hp).2 (Nat.le_of_ble_eq_true rfl) (C_X4_copy (d := d + 1) hp (gc_1_8 hp).2 (gc_1_4 hp).2 hr4) (Nat.le_refl _) ?_
  refine M_aload_n (pc := 22) dX11_image_22 rfl ?_
  refine M_getR (pc := 23) dX11_image_23 f_X11_54 at_10 (gc_1_9 hp).1 ?_
  refine M_aload_n (pc := 26) dX11_image_26 rfl ?_
  refine M_getR (pc := 27) dX11_image_27 f_X11_37 at_10 (gc_1_5 hp).1 ?_
  obtain ⟨r5, hr6, h⟩ := bnd h
  refine M_callVv (pc := 30) dX11_image_30 v_X11_417 rfl rfl (gc_1_9 hp).2 (Nat.le_of_ble_eq_true rfl) (C_X7_copy (d := d + 1) hp (gc_1_9 hp).2 (gc_1_5 hp).2 hr6) (Nat.le_refl _) ?_
  refine M_aload_n (pc := 33) dX11_image_33 rfl ?_
  refine M_iconst (pc := 34) (v := 1) dX11_image_34 (by decide) ?_
  refine M_putI (pc := 35) dX11_image_35 f_X11_57 at_10 rfl ⟨rfl, rfl⟩ ?_
  obtain rfl := Option.some.inj h
  exact M_vret (pc := 38) dX11_image_38 rfl rfl rfl
def F_X11_back (I : HI) : Option (Int32 × HI) :=
  if (I 1 10) = 0 then some ((0 : Int32), I) else (F_X3_copy I 3 116) >>= fun r2 => (F_X4_copy r2 9 122) >>= fun r4 => (F_X7_copy r4 15 128) >>= fun r6 => (F_X0_clear r6) >>= fun r8 => some ((1 : Int32), r8)
set_option maxRecDepth 4000 in
set_option maxHeartbeats 4000000 in
theorem C_X11_back {g : gX} {d : Nat} {P : Nat → Nat → Option Nat} {I : HI} {J : HJ} (hp : Wp P) {r : Int32 × HI} (h : F_X11_back I = some r) : Cm g mX11_back (d + 3) [.ref 1] (NT, I, J, P) (some (.int r.1)) (NT, r.2, J, P) := by
  unfold F_X11_back at h
  refine Cm.of (by decide) (by simp [Value.category]) (Nat.le_of_ble_eq_true rfl) (Nat.le_refl _) (ls := [some (.ref 1)]) rfl ?_
  refine M_aload_n (pc := 0) dX11_back_0 rfl ?_
  refine M_getI (pc := 1) dX11_back_1 f_X11_57 at_10 ?_
  refine M_if_ne (pc := 4) (tgt := 9) dX11_back_4 (by decide) (fun hc1 => ?_) (fun hc1 => ?_)
  · have h := (if_neg hc1).symm.trans h
    refine M_aload_n (pc := 9) dX11_back_9 rfl ?_
    refine M_getR (pc := 10) dX11_back_10 f_X11_23 at_10 (gc_1_3 hp).1 ?_
    refine M_aload_n (pc := 13) dX11_back_13 rfl ?_
    refine M_getR (pc := 14) dX11_back_14 f_X11_48 at_10 (gc_1_7 hp).1 ?_
    obtain ⟨r2, hr3, h⟩ := bnd h
    refine M_callVv (pc := 17) dX11_back_17 v_X11_106 rfl rfl (gc_1_3 hp).2 (Nat.le_of_ble_eq_true rfl) (C_X3_copy (d := d + 0) hp (gc_1_3 hp).2 (gc_1_7 hp).2 hr3) (Nat.le_refl _) ?_
    refine M_aload_n (pc := 20) dX11_back_20 rfl ?_
    refine M_getR (pc := 21) dX11_back_21 f_X11_30 at_10 (gc_1_4 hp).1 ?_
    refine M_aload_n (pc := 24) dX11_back_24 rfl ?_
    refine M_getR (pc := 25) dX11_back_25 f_X11_51 at_10 (gc_1_8 hp).1 ?_
    obtain ⟨r4, hr5, h⟩ := bnd h
    refine M_callVv (pc := 28) dX11_back_28 v_X11_142 rfl rfl (gc_1_4 hp).2 (Nat.le_of_ble_eq_true rfl) (C_X4_copy (d := d + 1) hp (gc_1_4 hp).2 (gc_1_8 hp).2 hr5) (Nat.le_refl _) ?_
    refine M_aload_n (pc := 31) dX11_back_31 rfl ?_
    refine M_getR (pc := 32) dX11_back_32 f_X11_37 at_10 (gc_1_5 hp).1 ?_
    refine M_aload_n (pc := 35) dX11_back_35 rfl ?_
    refine M_getR (pc := 36) dX11_back_36 f_X11_54 at_10 (gc_1_9 hp).1 ?_
    obtain ⟨r6, hr7, h⟩ := bnd h
    refine M_callVv (pc := 39) dX11_back_39 v_X11_417 rfl rfl (gc_1_5 hp).2 (Nat.le_of_ble_eq_true rfl) (C_X7_copy (d := d + 1) hp (gc_1_5 hp).2 (gc_1_9 hp).2 hr7) (Nat.le_refl _) ?_
    refine M_aload_n (pc := 42) dX11_back_42 rfl ?_
    refine M_getR (pc := 43) dX11_back_43 f_X11_44 at_10 (gc_1_6 hp).1 ?_
    obtain ⟨r8, hr9, h⟩ := bnd h
    refine M_callVv (pc := 46) dX11_back_46 v_X11_133 rfl rfl (gc_1_6 hp).2 (Nat.le_of_ble_eq_true rfl) (C_X0_clear (d := d + 2) hp hr9) (Nat.le_refl _) ?_
    refine M_iconst (pc := 49) (v := 1) dX11_back_49 (by decide) ?_
    obtain rfl := Option.some.inj h
    exact M_iret (pc := 50) dX11_back_50 rfl rfl rfl rfl
  · have h := (if_pos hc1).symm.trans h
    refine M_iconst (pc := 7) (v := 0) dX11_back_7 (by decide) ?_
    obtain rfl := Option.some.inj h
    exact M_iret (pc := 8) dX11_back_8 rfl rfl rfl rfl
def F_X11_count (I : HI) (x1 : Int32) : Option (Int32) :=
  if x1 = (0 : Int32) then some (I 4 0) else if x1 = (1 : Int32) then some (I 3 1) else if x1 = (2 : Int32) then some (I 9 0) else if x1 = (3 : Int32) then some (I 3 2) else if x1 = (4 : Int32) then some (I 3 3) else if x1 = (5 : Int32) then some (I 3 4) else if x1 = (6 : Int32) then some (I 3 5) else if x1 = (7 : Int32) then some (I 3 6) else if x1 = (8 : Int32) then some (I 3 7) else if x1 = (9 : Int32) then some (I 3 8) else if x1 = (10 : Int32) then some (I 3 9) else if x1 = (11 : Int32) then some (I 3 10) else if x1 = (12 : Int32) then some (I 3 11) else if x1 = (13 : Int32) then some (I 3 12) else if x1 = (14 : Int32) then some (I 3 13) else if x1 = (15 : Int32) then some (I 15 0) else if x1 = (16 : Int32) then some (I 17 0) else some (-1 : Int32)
set_option maxRecDepth 4000 in
set_option maxHeartbeats 4000000 in
theorem C_X11_count {g : gX} {d : Nat} {P : Nat → Nat → Option Nat} {I : HI} {x1 : Int32} {J : HJ} (hp : Wp P) {r : Int32} (h : F_X11_count I x1 = some r) : Cm g mX11_count (d + 0) [.ref 1, .int x1] (NT, I, J, P) (some (.int r)) (NT, I, J, P) := by
  unfold F_X11_count at h
  refine Cm.of (by decide) (by simp [Value.category]) (Nat.le_of_ble_eq_true rfl) (Nat.le_refl _) (ls := [some (.ref 1), some (.int x1)]) rfl ?_
  refine M_iload_n (pc := 0) dX11_count_0 rfl ?_
  by_cases hc1 : x1 = (0 : Int32)
  · have h := (if_pos hc1).symm.trans h
    refine M_tableIn (pc := 1) (x := x1) (tgt := 84) dX11_count_1 (by rw [hc1]; decide) (by rw [hc1]; decide) (by rw [hc1]; rfl) (by decide) ?_
    refine M_aload_n (pc := 84) dX11_count_84 rfl ?_
    refine M_getR (pc := 85) dX11_count_85 f_X11_23 at_10 (gc_1_3 hp).1 ?_
    refine M_getR (pc := 88) dX11_count_88 f_X11_148 (gc_1_3 hp).2 (gc_3_0 hp).1 ?_
    refine M_getI (pc := 91) dX11_count_91 f_X11_211 (gc_3_0 hp).2 ?_
    obtain rfl := Option.some.inj h
    exact M_iret (pc := 94) dX11_count_94 rfl rfl rfl rfl
  have h := (if_neg hc1).symm.trans h
  by_cases hc2 : x1 = (1 : Int32)
  · have h := (if_pos hc2).symm.trans h
    refine M_tableIn (pc := 1) (x := x1) (tgt := 95) dX11_count_1 (by rw [hc2]; decide) (by rw [hc2]; decide) (by rw [hc2]; rfl) (by decide) ?_
    refine M_aload_n (pc := 95) dX11_count_95 rfl ?_
    refine M_getR (pc := 96) dX11_count_96 f_X11_23 at_10 (gc_1_3 hp).1 ?_
    refine M_getI (pc := 99) dX11_count_99 f_X11_125 (gc_1_3 hp).2 ?_
    obtain rfl := Option.some.inj h
    exact M_iret (pc := 102) dX11_count_102 rfl rfl rfl rfl
  have h := (if_neg hc2).symm.trans h
  by_cases hc3 : x1 = (2 : Int32)
  · have h := (if_pos hc3).symm.trans h
    refine M_tableIn (pc := 1) (x := x1) (tgt := 103) dX11_count_1 (by rw [hc3]; decide) (by rw [hc3]; decide) (by rw [hc3]; rfl) (by decide) ?_
    refine M_aload_n (pc := 103) dX11_count_103 rfl ?_
    refine M_getR (pc := 104) dX11_count_104 f_X11_30 at_10 (gc_1_4 hp).1 ?_
    refine M_getI (pc := 107) dX11_count_107 f_X11_145 (gc_1_4 hp).2 ?_
    obtain rfl := Option.some.inj h
    exact M_iret (pc := 110) dX11_count_110 rfl rfl rfl rfl
  have h := (if_neg hc3).symm.trans h
  by_cases hc4 : x1 = (3 : Int32)
  · have h := (if_pos hc4).symm.trans h
    refine M_tableIn (pc := 1) (x := x1) (tgt := 111) dX11_count_1 (by rw [hc4]; decide) (by rw [hc4]; decide) (by rw [hc4]; rfl) (by decide) ?_
    refine M_aload_n (pc := 111) dX11_count_111 rfl ?_
    refine M_getR (pc := 112) dX11_count_112 f_X11_23 at_10 (gc_1_3 hp).1 ?_
    refine M_getI (pc := 115) dX11_count_115 f_X11_252 (gc_1_3 hp).2 ?_
    obtain rfl := Option.some.inj h
    exact M_iret (pc := 118) dX11_count_118 rfl rfl rfl rfl
  have h := (if_neg hc4).symm.trans h
  by_cases hc5 : x1 = (4 : Int32)
  · have h := (if_pos hc5).symm.trans h
    refine M_tableIn (pc := 1) (x := x1) (tgt := 119) dX11_count_1 (by rw [hc5]; decide) (by rw [hc5]; decide) (by rw [hc5]; rfl) (by decide) ?_
    refine M_aload_n (pc := 119) dX11_count_119 rfl ?_
    refine M_getR (pc := 120) dX11_count_120 f_X11_23 at_10 (gc_1_3 hp).1 ?_
    refine M_getI (pc := 123) dX11_count_123 f_X11_242 (gc_1_3 hp).2 ?_
    obtain rfl := Option.some.inj h
    exact M_iret (pc := 126) dX11_count_126 rfl rfl rfl rfl
  have h := (if_neg hc5).symm.trans h
  by_cases hc6 : x1 = (5 : Int32)
  · have h := (if_pos hc6).symm.trans h
    refine M_tableIn (pc := 1) (x := x1) (tgt := 127) dX11_count_1 (by rw [hc6]; decide) (by rw [hc6]; decide) (by rw [hc6]; rfl) (by decide) ?_
    refine M_aload_n (pc := 127) dX11_count_127 rfl ?_
    refine M_getR (pc := 128) dX11_count_128 f_X11_23 at_10 (gc_1_3 hp).1 ?_
    refine M_getI (pc := 131) dX11_count_131 f_X11_220 (gc_1_3 hp).2 ?_
    obtain rfl := Option.some.inj h
    exact M_iret (pc := 134) dX11_count_134 rfl rfl rfl rfl
  have h := (if_neg hc6).symm.trans h
  by_cases hc7 : x1 = (6 : Int32)
  · have h := (if_pos hc7).symm.trans h
    refine M_tableIn (pc := 1) (x := x1) (tgt := 135) dX11_count_1 (by rw [hc7]; decide) (by rw [hc7]; decide) (by rw [hc7]; rfl) (by decide) ?_
    refine M_aload_n (pc := 135) dX11_count_135 rfl ?_
    refine M_getR (pc := 136) dX11_count_136 f_X11_23 at_10 (gc_1_3 hp).1 ?_
    refine M_getI (pc := 139) dX11_count_139 f_X11_420 (gc_1_3 hp).2 ?_
    obtain rfl := Option.some.inj h
    exact M_iret (pc := 142) dX11_count_142 rfl rfl rfl rfl
  have h := (if_neg hc7).symm.trans h
  by_cases hc8 : x1 = (7 : Int32)
  · have h := (if_pos hc8).symm.trans h
    refine M_tableIn (pc := 1) (x := x1) (tgt := 143) dX11_count_1 (by rw [hc8]; decide) (by rw [hc8]; decide) (by rw [hc8]; rfl) (by decide) ?_
    refine M_aload_n (pc := 143) dX11_count_143 rfl ?_
    refine M_getR (pc := 144) dX11_count_144 f_X11_23 at_10 (gc_1_3 hp).1 ?_
    refine M_getI (pc := 147) dX11_count_147 f_X11_236 (gc_1_3 hp).2 ?_
    obtain rfl := Option.some.inj h
    exact M_iret (pc := 150) dX11_count_150 rfl rfl rfl rfl
  have h := (if_neg hc8).symm.trans h
  by_cases hc9 : x1 = (8 : Int32)
  · have h := (if_pos hc9).symm.trans h
    refine M_tableIn (pc := 1) (x := x1) (tgt := 151) dX11_count_1 (by rw [hc9]; decide) (by rw [hc9]; decide) (by rw [hc9]; rfl) (by decide) ?_
    refine M_aload_n (pc := 151) dX11_count_151 rfl ?_
    refine M_getR (pc := 152) dX11_count_152 f_X11_23 at_10 (gc_1_3 hp).1 ?_
    refine M_getI (pc := 155) dX11_count_155 f_X11_180 (gc_1_3 hp).2 ?_
    obtain rfl := Option.some.inj h
    exact M_iret (pc := 158) dX11_count_158 rfl rfl rfl rfl
  have h := (if_neg hc9).symm.trans h
  by_cases hc10 : x1 = (9 : Int32)
  · have h := (if_pos hc10).symm.trans h
    refine M_tableIn (pc := 1) (x := x1) (tgt := 159) dX11_count_1 (by rw [hc10]; decide) (by rw [hc10]; decide) (by rw [hc10]; rfl) (by decide) ?_
    refine M_aload_n (pc := 159) dX11_count_159 rfl ?_
    refine M_getR (pc := 160) dX11_count_160 f_X11_23 at_10 (gc_1_3 hp).1 ?_
    refine M_getI (pc := 163) dX11_count_163 f_X11_373 (gc_1_3 hp).2 ?_
    obtain rfl := Option.some.inj h
    exact M_iret (pc := 166) dX11_count_166 rfl rfl rfl rfl
  have h := (if_neg hc10).symm.trans h
  by_cases hc11 : x1 = (10 : Int32)
  · have h := (if_pos hc11).symm.trans h
    refine M_tableIn (pc := 1) (x := x1) (tgt := 167) dX11_count_1 (by rw [hc11]; decide) (by rw [hc11]; decide) (by rw [hc11]; rfl) (by decide) ?_
    refine M_aload_n (pc := 167) dX11_count_167 rfl ?_
    refine M_getR (pc := 168) dX11_count_168 f_X11_23 at_10 (gc_1_3 hp).1 ?_
    refine M_getI (pc := 171) dX11_count_171 f_X11_376 (gc_1_3 hp).2 ?_
    obtain rfl := Option.some.inj h
    exact M_iret (pc := 174) dX11_count_174 rfl rfl rfl rfl
  have h := (if_neg hc11).symm.trans h
  by_cases hc12 : x1 = (11 : Int32)
  · have h := (if_pos hc12).symm.trans h
    refine M_tableIn (pc := 1) (x := x1) (tgt := 175) dX11_count_1 (by rw [hc12]; decide) (by rw [hc12]; decide) (by rw [hc12]; rfl) (by decide) ?_
    refine M_aload_n (pc := 175) dX11_count_175 rfl ?_
    refine M_getR (pc := 176) dX11_count_176 f_X11_23 at_10 (gc_1_3 hp).1 ?_
    refine M_getI (pc := 179) dX11_count_179 f_X11_280 (gc_1_3 hp).2 ?_
    obtain rfl := Option.some.inj h
    exact M_iret (pc := 182) dX11_count_182 rfl rfl rfl rfl
  have h := (if_neg hc12).symm.trans h
  by_cases hc13 : x1 = (12 : Int32)
  · have h := (if_pos hc13).symm.trans h
    refine M_tableIn (pc := 1) (x := x1) (tgt := 183) dX11_count_1 (by rw [hc13]; decide) (by rw [hc13]; decide) (by rw [hc13]; rfl) (by decide) ?_
    refine M_aload_n (pc := 183) dX11_count_183 rfl ?_
    refine M_getR (pc := 184) dX11_count_184 f_X11_23 at_10 (gc_1_3 hp).1 ?_
    refine M_getI (pc := 187) dX11_count_187 f_X11_274 (gc_1_3 hp).2 ?_
    obtain rfl := Option.some.inj h
    exact M_iret (pc := 190) dX11_count_190 rfl rfl rfl rfl
  have h := (if_neg hc13).symm.trans h
  by_cases hc14 : x1 = (13 : Int32)
  · have h := (if_pos hc14).symm.trans h
    refine M_tableIn (pc := 1) (x := x1) (tgt := 191) dX11_count_1 (by rw [hc14]; decide) (by rw [hc14]; decide) (by rw [hc14]; rfl) (by decide) ?_
    refine M_aload_n (pc := 191) dX11_count_191 rfl ?_
    refine M_getR (pc := 192) dX11_count_192 f_X11_23 at_10 (gc_1_3 hp).1 ?_
    refine M_getI (pc := 195) dX11_count_195 f_X11_423 (gc_1_3 hp).2 ?_
    obtain rfl := Option.some.inj h
    exact M_iret (pc := 198) dX11_count_198 rfl rfl rfl rfl
  have h := (if_neg hc14).symm.trans h
  by_cases hc15 : x1 = (14 : Int32)
  · have h := (if_pos hc15).symm.trans h
    refine M_tableIn (pc := 1) (x := x1) (tgt := 199) dX11_count_1 (by rw [hc15]; decide) (by rw [hc15]; decide) (by rw [hc15]; rfl) (by decide) ?_
    refine M_aload_n (pc := 199) dX11_count_199 rfl ?_
    refine M_getR (pc := 200) dX11_count_200 f_X11_23 at_10 (gc_1_3 hp).1 ?_
    refine M_getI (pc := 203) dX11_count_203 f_X11_396 (gc_1_3 hp).2 ?_
    obtain rfl := Option.some.inj h
    exact M_iret (pc := 206) dX11_count_206 rfl rfl rfl rfl
  have h := (if_neg hc15).symm.trans h
  by_cases hc16 : x1 = (15 : Int32)
  · have h := (if_pos hc16).symm.trans h
    refine M_tableIn (pc := 1) (x := x1) (tgt := 207) dX11_count_1 (by rw [hc16]; decide) (by rw [hc16]; decide) (by rw [hc16]; rfl) (by decide) ?_
    refine M_aload_n (pc := 207) dX11_count_207 rfl ?_
    refine M_getR (pc := 208) dX11_count_208 f_X11_37 at_10 (gc_1_5 hp).1 ?_
    refine M_getI (pc := 211) dX11_count_211 f_X11_426 (gc_1_5 hp).2 ?_
    obtain rfl := Option.some.inj h
    exact M_iret (pc := 214) dX11_count_214 rfl rfl rfl rfl
  have h := (if_neg hc16).symm.trans h
  by_cases hc17 : x1 = (16 : Int32)
  · have h := (if_pos hc17).symm.trans h
    refine M_tableIn (pc := 1) (x := x1) (tgt := 215) dX11_count_1 (by rw [hc17]; decide) (by rw [hc17]; decide) (by rw [hc17]; rfl) (by decide) ?_
    refine M_aload_n (pc := 215) dX11_count_215 rfl ?_
    refine M_getR (pc := 216) dX11_count_216 f_X11_44 at_10 (gc_1_6 hp).1 ?_
    refine M_getI (pc := 219) dX11_count_219 f_X11_429 (gc_1_6 hp).2 ?_
    obtain rfl := Option.some.inj h
    exact M_iret (pc := 222) dX11_count_222 rfl rfl rfl rfl
  have h := (if_neg hc17).symm.trans h
  refine M_tableOut (pc := 1) (x := x1) (tgt := 223) dX11_count_1 (sw_out 17 (by decide) (fun j hj => match j, hj with
    | 0, _ => sw_ne hc1 (by decide)
    | 1, _ => sw_ne hc2 (by decide)
    | 2, _ => sw_ne hc3 (by decide)
    | 3, _ => sw_ne hc4 (by decide)
    | 4, _ => sw_ne hc5 (by decide)
    | 5, _ => sw_ne hc6 (by decide)
    | 6, _ => sw_ne hc7 (by decide)
    | 7, _ => sw_ne hc8 (by decide)
    | 8, _ => sw_ne hc9 (by decide)
    | 9, _ => sw_ne hc10 (by decide)
    | 10, _ => sw_ne hc11 (by decide)
    | 11, _ => sw_ne hc12 (by decide)
    | 12, _ => sw_ne hc13 (by decide)
    | 13, _ => sw_ne hc14 (by decide)
    | 14, _ => sw_ne hc15 (by decide)
    | 15, _ => sw_ne hc16 (by decide)
    | 16, _ => sw_ne hc17 (by decide)
    | j + 17, hj => absurd hj (by omega))) (by decide) ?_
  refine M_iconst (pc := 223) (v := -1) dX11_count_223 (by decide) ?_
  obtain rfl := Option.some.inj h
  exact M_iret (pc := 224) dX11_count_224 rfl rfl rfl rfl
def F_X11_feed (I : HI) (x1 : Int32) (x2 : Int32) (x3 : Int32) (x4 : Int32) (x5 : Int32) : Option (Int32 × HI) :=
  if (I 1 1) ≤ (380 : Int32) then (F_X11_putBytes I x1) >>= fun r2 => (F_X11_putBytes r2 x2) >>= fun r4 => (F_X11_putBytes r4 x3) >>= fun r6 => (F_X11_putBytes r6 x4) >>= fun r8 => (F_X11_putBytes r8 x5) >>= fun r10 => some ((r10 1 1), r10) else some ((-1 : Int32), I)
set_option maxRecDepth 4000 in
set_option maxHeartbeats 4000000 in
theorem C_X11_feed {g : gX} {d : Nat} {P : Nat → Nat → Option Nat} {I : HI} {x1 : Int32} {x2 : Int32} {x3 : Int32} {x4 : Int32} {x5 : Int32} {J : HJ} (hp : Wp P) {r : Int32 × HI} (h : F_X11_feed I x1 x2 x3 x4 x5 = some r) : Cm g mX11_feed (d + 1) [.ref 1, .int x1, .int x2, .int x3, .int x4, .int x5] (NT, I, J, P) (some (.int r.1)) (NT, r.2, J, P) := by
  unfold F_X11_feed at h
  refine Cm.of (by decide) (by simp [Value.category]) (Nat.le_of_ble_eq_true rfl) (Nat.le_refl _) (ls := [some (.ref 1), some (.int x1), some (.int x2), some (.int x3), some (.int x4), some (.int x5)]) rfl ?_
  refine M_aload_n (pc := 0) dX11_feed_0 rfl ?_
  refine M_getI (pc := 1) dX11_feed_1 f_X11_13 at_10 ?_
  refine M_sipush (pc := 4) (v := 380) dX11_feed_4 (by decide) ?_
  refine M_icmp_le (pc := 7) (tgt := 12) dX11_feed_7 (by decide) (fun hc1 => ?_) (fun hc1 => ?_)
  · have h := (if_pos hc1).symm.trans h
    refine M_aload_n (pc := 12) dX11_feed_12 rfl ?_
    refine M_iload_n (pc := 13) dX11_feed_13 rfl ?_
    obtain ⟨r2, hr3, h⟩ := bnd h
    refine M_callVv (pc := 14) dX11_feed_14 v_X11_99 rfl rfl at_10 (Nat.le_of_ble_eq_true rfl) (C_X11_putBytes (d := d + 0) hp hr3) (Nat.le_refl _) ?_
    refine M_aload_n (pc := 17) dX11_feed_17 rfl ?_
    refine M_iload_n (pc := 18) dX11_feed_18 rfl ?_
    obtain ⟨r4, hr5, h⟩ := bnd h
    refine M_callVv (pc := 19) dX11_feed_19 v_X11_99 rfl rfl at_10 (Nat.le_of_ble_eq_true rfl) (C_X11_putBytes (d := d + 0) hp hr5) (Nat.le_refl _) ?_
    refine M_aload_n (pc := 22) dX11_feed_22 rfl ?_
    refine M_iload_n (pc := 23) dX11_feed_23 rfl ?_
    obtain ⟨r6, hr7, h⟩ := bnd h
    refine M_callVv (pc := 24) dX11_feed_24 v_X11_99 rfl rfl at_10 (Nat.le_of_ble_eq_true rfl) (C_X11_putBytes (d := d + 0) hp hr7) (Nat.le_refl _) ?_
    refine M_aload_n (pc := 27) dX11_feed_27 rfl ?_
    refine M_iload (pc := 28) dX11_feed_28 rfl ?_
    obtain ⟨r8, hr9, h⟩ := bnd h
    refine M_callVv (pc := 30) dX11_feed_30 v_X11_99 rfl rfl at_10 (Nat.le_of_ble_eq_true rfl) (C_X11_putBytes (d := d + 0) hp hr9) (Nat.le_refl _) ?_
    refine M_aload_n (pc := 33) dX11_feed_33 rfl ?_
    refine M_iload (pc := 34) dX11_feed_34 rfl ?_
    obtain ⟨r10, hr11, h⟩ := bnd h
    refine M_callVv (pc := 36) dX11_feed_36 v_X11_99 rfl rfl at_10 (Nat.le_of_ble_eq_true rfl) (C_X11_putBytes (d := d + 0) hp hr11) (Nat.le_refl _) ?_
    refine M_aload_n (pc := 39) dX11_feed_39 rfl ?_
    refine M_getI (pc := 40) dX11_feed_40 f_X11_13 at_10 ?_
    obtain rfl := Option.some.inj h
    exact M_iret (pc := 43) dX11_feed_43 rfl rfl rfl rfl
  · have h := (if_neg hc1).symm.trans h
    refine M_iconst (pc := 10) (v := -1) dX11_feed_10 (by decide) ?_
    obtain rfl := Option.some.inj h
    exact M_iret (pc := 11) dX11_feed_11 rfl rfl rfl rfl
def F_X11_left (I : HI) : Option (Int32) :=
  (F_X1_all I 4) >>= fun r1 => (F_X1_allHad I 4) >>= fun r3 => some (r1 &&& (r3 ^^^ (-1 : Int32)))
set_option maxRecDepth 4000 in
set_option maxHeartbeats 4000000 in
theorem C_X11_left {g : gX} {d : Nat} {P : Nat → Nat → Option Nat} {I : HI} {J : HJ} (hp : Wp P) {r : Int32} (h : F_X11_left I = some r) : Cm g mX11_left (d + 2) [.ref 1] (NT, I, J, P) (some (.int r)) (NT, I, J, P) := by
  unfold F_X11_left at h
  refine Cm.of (by decide) (by simp [Value.category]) (Nat.le_of_ble_eq_true rfl) (Nat.le_refl _) (ls := [some (.ref 1)]) rfl ?_
  refine M_aload_n (pc := 0) dX11_left_0 rfl ?_
  refine M_getR (pc := 1) dX11_left_1 f_X11_23 at_10 (gc_1_3 hp).1 ?_
  refine M_getR (pc := 4) dX11_left_4 f_X11_148 (gc_1_3 hp).2 (gc_3_0 hp).1 ?_
  obtain ⟨r1, hr2, h⟩ := bnd h
  refine M_callVi (pc := 7) dX11_left_7 v_X11_214 rfl rfl (gc_3_0 hp).2 (Nat.le_of_ble_eq_true rfl) (C_X1_all (d := d + 1) hp (gc_3_0 hp).2 hr2) (Nat.le_refl _) ?_
  refine M_aload_n (pc := 10) dX11_left_10 rfl ?_
  refine M_getR (pc := 11) dX11_left_11 f_X11_23 at_10 (gc_1_3 hp).1 ?_
  refine M_getR (pc := 14) dX11_left_14 f_X11_148 (gc_1_3 hp).2 (gc_3_0 hp).1 ?_
  obtain ⟨r3, hr4, h⟩ := bnd h
  refine M_callVi (pc := 17) dX11_left_17 v_X11_217 rfl rfl (gc_3_0 hp).2 (Nat.le_of_ble_eq_true rfl) (C_X1_allHad (d := d + 0) hp (gc_3_0 hp).2 hr4) (Nat.le_refl _) ?_
  refine M_iconst (pc := 20) (v := -1) dX11_left_20 (by decide) ?_
  refine M_ixor (pc := 21) dX11_left_21 ?_
  refine M_iand (pc := 22) dX11_left_22 ?_
  obtain rfl := Option.some.inj h
  exact M_iret (pc := 23) dX11_left_23 rfl rfl rfl rfl
def F_X11_crust (I : HI) : Option (Int32 × HI) :=
  (F_X0_remember I 3 15) >>= fun r1 => (F_X3_comeBack r1 3) >>= fun r3 => some ((r3 3 2), r3)
set_option maxRecDepth 4000 in
set_option maxHeartbeats 4000000 in
theorem C_X11_crust {g : gX} {d : Nat} {P : Nat → Nat → Option Nat} {I : HI} {J : HJ} (hp : Wp P) {r : Int32 × HI} (h : F_X11_crust I = some r) : Cm g mX11_crust (d + 4) [.ref 1] (NT, I, J, P) (some (.int r.1)) (NT, r.2, J, P) := by
  unfold F_X11_crust at h
  refine Cm.of (by decide) (by simp [Value.category]) (Nat.le_of_ble_eq_true rfl) (Nat.le_refl _) (ls := [some (.ref 1)]) rfl ?_
  refine M_aload_n (pc := 0) dX11_crust_0 rfl ?_
  refine M_getR (pc := 1) dX11_crust_1 f_X11_44 at_10 (gc_1_6 hp).1 ?_
  refine M_aload_n (pc := 4) dX11_crust_4 rfl ?_
  refine M_getR (pc := 5) dX11_crust_5 f_X11_23 at_10 (gc_1_3 hp).1 ?_
  refine M_aload_n (pc := 8) dX11_crust_8 rfl ?_
  refine M_getR (pc := 9) dX11_crust_9 f_X11_37 at_10 (gc_1_5 hp).1 ?_
  obtain ⟨r1, hr2, h⟩ := bnd h
  refine M_callVv (pc := 12) dX11_crust_12 v_X11_228 rfl rfl (gc_1_6 hp).2 (Nat.le_of_ble_eq_true rfl) (C_X0_remember (d := d + 0) hp (gc_1_3 hp).2 (gc_1_5 hp).2 hr2) (Nat.le_refl _) ?_
  refine M_aload_n (pc := 15) dX11_crust_15 rfl ?_
  refine M_getR (pc := 16) dX11_crust_16 f_X11_23 at_10 (gc_1_3 hp).1 ?_
  obtain ⟨r3, hr4, h⟩ := bnd h
  refine M_callVv (pc := 19) dX11_crust_19 v_X11_249 rfl rfl (gc_1_3 hp).2 (Nat.le_of_ble_eq_true rfl) (C_X3_comeBack (d := d + 2) hp (gc_1_3 hp).2 hr4) (Nat.le_refl _) ?_
  refine M_aload_n (pc := 22) dX11_crust_22 rfl ?_
  refine M_getR (pc := 23) dX11_crust_23 f_X11_23 at_10 (gc_1_3 hp).1 ?_
  refine M_getI (pc := 26) dX11_crust_26 f_X11_252 (gc_1_3 hp).2 ?_
  obtain rfl := Option.some.inj h
  exact M_iret (pc := 29) dX11_crust_29 rfl rfl rfl rfl
def F_X11_had (I : HI) (x1 : Int32) (x2 : Int32) (x3 : Int32) (x4 : Int32) : Option ((Int32 ⊕ String) × HI) :=
  (F_X1_has I 4 x1) >>= fun r1 => if r1 = 0 then some ((Sum.inr "java/lang/IndexOutOfBoundsException"), I) else (F_X11_isPlace I x3) >>= fun r4 => if r4 = 0 then some ((Sum.inr "java/lang/IndexOutOfBoundsException"), I) else if x2 < 0 then some ((Sum.inr "java/lang/IllegalArgumentException"), I) else if (9999 : Int32) < x2 then some ((Sum.inr "java/lang/IllegalArgumentException"), I) else if x4 < (-1 : Int32) then some ((Sum.inr "java/lang/IllegalArgumentException"), I) else if x4 ≤ (7 : Int32) then (F_X0_remember I 3 15) >>= fun r11 => (ald 12 (r11 6) x1) >>= fun v13 => (F_X1_tell r11 4 x1 x2 x3 x4) >>= fun r15 => some ((Sum.inl v13), r15) else some ((Sum.inr "java/lang/IllegalArgumentException"), I)
set_option maxRecDepth 4000 in
set_option maxHeartbeats 4000000 in
theorem C_X11_had {g : gX} {d : Nat} {P : Nat → Nat → Option Nat} {I : HI} {x1 : Int32} {x2 : Int32} {x3 : Int32} {x4 : Int32} {J : HJ} (hp : Wp P) {r : (Int32 ⊕ String) × HI} (h : F_X11_had I x1 x2 x3 x4 = some r) : Cx g mX11_had (d + 6) [.ref 1, .int x1, .int x2, .int x3, .int x4] (NT, I, J, P) ((thr_i r.1), (NT, r.2, J, P)) := by
  unfold F_X11_had at h
  refine Cx.of (by decide) (by simp [Value.category]) (Nat.le_of_ble_eq_true rfl) (Nat.le_refl _) (ls := [some (.ref 1), some (.int x1), some (.int x2), some (.int x3), some (.int x4), none]) rfl ?_
  refine M_aload_n (pc := 0) dX11_had_0 rfl ?_
  refine M_getR (pc := 1) dX11_had_1 f_X11_23 at_10 (gc_1_3 hp).1 ?_
  refine M_getR (pc := 4) dX11_had_4 f_X11_148 (gc_1_3 hp).2 (gc_3_0 hp).1 ?_
  refine M_iload_n (pc := 7) dX11_had_7 rfl ?_
  obtain ⟨r1, hr2, h⟩ := bnd h
  refine M_callVi (pc := 8) dX11_had_8 v_X11_152 rfl rfl (gc_3_0 hp).2 (Nat.le_of_ble_eq_true rfl) (C_X1_has (d := d + 5) hp (gc_3_0 hp).2 hr2) (Nat.le_refl _) ?_
  refine M_if_eq (pc := 11) (tgt := 21) dX11_had_11 (by decide) (fun hc3 => ?_) (fun hc3 => ?_)
  · have h := (if_pos hc3).symm.trans h
    obtain rfl := Option.some.inj h
    exact M_throwW (pc := 21) dX11_had_21 dX11_had_24 dX11_had_25 dX11_had_28 dX11_had_31 ⟨rfl, rfl, rfl, rfl⟩ x_X11_158 (j := 6) (by decide) str_X11_258 rfl rfl
  · have h := (if_neg hc3).symm.trans h
    refine M_iload_n (pc := 14) dX11_had_14 rfl ?_
    obtain ⟨r4, hr5, h⟩ := bnd h
    refine M_callSi (pc := 15) dX11_had_15 s_X11_255 rfl rfl (Nat.le_of_ble_eq_true rfl) (C_X11_isPlace (d := d + 5) hp hr5) (Nat.le_refl _) ?_
    refine M_if_ne (pc := 18) (tgt := 32) dX11_had_18 (by decide) (fun hc6 => ?_) (fun hc6 => ?_)
    · have h := (if_neg hc6).symm.trans h
      refine M_iload_n (pc := 32) dX11_had_32 rfl ?_
      refine M_if_lt (pc := 33) (tgt := 56) dX11_had_33 (by decide) (fun hc7 => ?_) (fun hc7 => ?_)
      · have h := (if_pos hc7).symm.trans h
        obtain rfl := Option.some.inj h
        exact M_throwW (pc := 56) dX11_had_56 dX11_had_59 dX11_had_60 dX11_had_63 dX11_had_66 ⟨rfl, rfl, rfl, rfl⟩ x_X11_118 (j := 7) (by decide) str_X11_260 rfl rfl
      · have h := (if_neg hc7).symm.trans h
        refine M_iload_n (pc := 36) dX11_had_36 rfl ?_
        refine M_sipush (pc := 37) (v := 9999) dX11_had_37 (by decide) ?_
        refine M_icmp_gt (pc := 40) (tgt := 56) dX11_had_40 (by decide) (fun hc8 => ?_) (fun hc8 => ?_)
        · have h := (if_pos hc8).symm.trans h
          obtain rfl := Option.some.inj h
          exact M_throwW (pc := 56) dX11_had_56 dX11_had_59 dX11_had_60 dX11_had_63 dX11_had_66 ⟨rfl, rfl, rfl, rfl⟩ x_X11_118 (j := 7) (by decide) str_X11_260 rfl rfl
        · have h := (if_neg hc8).symm.trans h
          refine M_iload (pc := 43) dX11_had_43 rfl ?_
          refine M_iconst (pc := 45) (v := -1) dX11_had_45 (by decide) ?_
          refine M_icmp_lt (pc := 46) (tgt := 56) dX11_had_46 (by decide) (fun hc9 => ?_) (fun hc9 => ?_)
          · have h := (if_pos hc9).symm.trans h
            obtain rfl := Option.some.inj h
            exact M_throwW (pc := 56) dX11_had_56 dX11_had_59 dX11_had_60 dX11_had_63 dX11_had_66 ⟨rfl, rfl, rfl, rfl⟩ x_X11_118 (j := 7) (by decide) str_X11_260 rfl rfl
          · have h := (if_neg hc9).symm.trans h
            refine M_iload (pc := 49) dX11_had_49 rfl ?_
            refine M_bipush (pc := 51) (v := 7) dX11_had_51 (by decide) ?_
            refine M_icmp_le (pc := 53) (tgt := 67) dX11_had_53 (by decide) (fun hc10 => ?_) (fun hc10 => ?_)
            · have h := (if_pos hc10).symm.trans h
              refine M_aload_n (pc := 67) dX11_had_67 rfl ?_
              refine M_getR (pc := 68) dX11_had_68 f_X11_44 at_10 (gc_1_6 hp).1 ?_
              refine M_aload_n (pc := 71) dX11_had_71 rfl ?_
              refine M_getR (pc := 72) dX11_had_72 f_X11_23 at_10 (gc_1_3 hp).1 ?_
              refine M_aload_n (pc := 75) dX11_had_75 rfl ?_
              refine M_getR (pc := 76) dX11_had_76 f_X11_37 at_10 (gc_1_5 hp).1 ?_
              obtain ⟨r11, hr12, h⟩ := bnd h
              refine M_callVv (pc := 79) dX11_had_79 v_X11_228 rfl rfl (gc_1_6 hp).2 (Nat.le_of_ble_eq_true rfl) (C_X0_remember (d := d + 2) hp (gc_1_3 hp).2 (gc_1_5 hp).2 hr12) (Nat.le_refl _) ?_
              refine M_aload_n (pc := 82) dX11_had_82 rfl ?_
              refine M_getR (pc := 83) dX11_had_83 f_X11_23 at_10 (gc_1_3 hp).1 ?_
              refine M_getR (pc := 86) dX11_had_86 f_X11_148 (gc_1_3 hp).2 (gc_3_0 hp).1 ?_
              refine M_getR (pc := 89) dX11_had_89 f_X11_171 (gc_3_0 hp).2 (gc_4_2 hp).1 ?_
              refine M_iload_n (pc := 92) dX11_had_92 rfl ?_
              obtain ⟨v13, hv14, h⟩ := bnd h
              refine M_aldI (pc := 93) dX11_had_93 (gc_4_2 hp).2 hv14 ?_
              refine M_istore (pc := 94) (ls' := [some (.ref 1), some (.int x1), some (.int x2), some (.int x3), some (.int x4), some (.int v13)]) dX11_had_94 (by decide) rfl ?_
              refine M_aload_n (pc := 96) dX11_had_96 rfl ?_
              refine M_getR (pc := 97) dX11_had_97 f_X11_23 at_10 (gc_1_3 hp).1 ?_
              refine M_getR (pc := 100) dX11_had_100 f_X11_148 (gc_1_3 hp).2 (gc_3_0 hp).1 ?_
              refine M_iload_n (pc := 103) dX11_had_103 rfl ?_
              refine M_iload_n (pc := 104) dX11_had_104 rfl ?_
              refine M_iload_n (pc := 105) dX11_had_105 rfl ?_
              refine M_iload (pc := 106) dX11_had_106 rfl ?_
              obtain ⟨r15, hr16, h⟩ := bnd h
              refine M_callVv (pc := 108) dX11_had_108 v_X11_262 rfl rfl (gc_3_0 hp).2 (Nat.le_of_ble_eq_true rfl) (C_X1_tell (d := d + 4) hp (gc_3_0 hp).2 hr16) (Nat.le_refl _) ?_
              refine M_iload (pc := 111) dX11_had_111 rfl ?_
              obtain rfl := Option.some.inj h
              exact M_iret (pc := 113) dX11_had_113 rfl rfl rfl rfl
            · have h := (if_neg hc10).symm.trans h
              obtain rfl := Option.some.inj h
              exact M_throwW (pc := 56) dX11_had_56 dX11_had_59 dX11_had_60 dX11_had_63 dX11_had_66 ⟨rfl, rfl, rfl, rfl⟩ x_X11_118 (j := 7) (by decide) str_X11_260 rfl rfl
    · have h := (if_pos hc6).symm.trans h
      obtain rfl := Option.some.inj h
      exact M_throwW (pc := 21) dX11_had_21 dX11_had_24 dX11_had_25 dX11_had_28 dX11_had_31 ⟨rfl, rfl, rfl, rfl⟩ x_X11_158 (j := 6) (by decide) str_X11_258 rfl rfl
