def F_X11_log (I : HI) (x1 : Int32) (x2 : Int32) : Option ((Int32 ⊕ String)) :=
  if x2 < 0 then some (Sum.inr "java/util/NoSuchElementException") else if x2 ≤ (3 : Int32) then (F_X7_read I 15 x1 x2) >>= fun r3 => some (Sum.inl r3) else some (Sum.inr "java/util/NoSuchElementException")
set_option maxRecDepth 4000 in
set_option maxHeartbeats 4000000 in
theorem C_X11_log {g : gX} {d : Nat} {P : Nat → Nat → Option Nat} {I : HI} {x1 : Int32} {x2 : Int32} {J : HJ} (hp : Wp P) {r : (Int32 ⊕ String)} (h : F_X11_log I x1 x2 = some r) : Cx g mX11_log (d + 6) [.ref 1, .int x1, .int x2] (NT, I, J, P) ((thr_i r), (NT, I, J, P)) := by
  unfold F_X11_log at h
  refine Cx.of (by decide) (by simp [Value.category]) (Nat.le_of_ble_eq_true rfl) (Nat.le_refl _) (ls := [some (.ref 1), some (.int x1), some (.int x2)]) rfl ?_
  refine M_iload_n (pc := 0) dX11_log_0 rfl ?_
  refine M_if_lt (pc := 1) (tgt := 9) dX11_log_1 (by decide) (fun hc1 => ?_) (fun hc1 => ?_)
  · have h := (if_pos hc1).symm.trans h
    obtain rfl := Option.some.inj h
    exact M_throwXW (pc := 9) dX11_log_9 dX11_log_12 dX11_log_13 dX11_log_16 dX11_log_19 ⟨rfl, rfl, rfl, rfl⟩ x_X11_163 (j := 22) (by decide) str_X11_408 rfl rfl
  · have h := (if_neg hc1).symm.trans h
    refine M_iload_n (pc := 4) dX11_log_4 rfl ?_
    refine M_iconst (pc := 5) (v := 3) dX11_log_5 (by decide) ?_
    refine M_icmp_le (pc := 6) (tgt := 20) dX11_log_6 (by decide) (fun hc2 => ?_) (fun hc2 => ?_)
    · have h := (if_pos hc2).symm.trans h
      refine M_aload_n (pc := 20) dX11_log_20 rfl ?_
      refine M_getR (pc := 21) dX11_log_21 f_X11_37 at_10 (gc_1_5 hp).1 ?_
      refine M_iload_n (pc := 24) dX11_log_24 rfl ?_
      refine M_iload_n (pc := 25) dX11_log_25 rfl ?_
      obtain ⟨r3, hr4, h⟩ := bnd h
      refine M_callVi (pc := 26) dX11_log_26 v_X11_410 rfl rfl (gc_1_5 hp).2 (Nat.le_of_ble_eq_true rfl) (C_X7_read (d := d + 5) hp (gc_1_5 hp).2 hr4) (Nat.le_refl _) ?_
      obtain rfl := Option.some.inj h
      exact M_iret (pc := 29) dX11_log_29 rfl rfl rfl rfl
    · have h := (if_neg hc2).symm.trans h
      obtain rfl := Option.some.inj h
      exact M_throwXW (pc := 9) dX11_log_9 dX11_log_12 dX11_log_13 dX11_log_16 dX11_log_19 ⟨rfl, rfl, rfl, rfl⟩ x_X11_163 (j := 22) (by decide) str_X11_408 rfl rfl
def F_X11_dish (I : HI) (x1 : Int32) (x2 : Int32) : Option ((Int32 ⊕ String) × HI) :=
  (F_X1_has I 4 x1) >>= fun r1 => if r1 = 0 then some ((Sum.inr "java/lang/IndexOutOfBoundsException"), I) else if x2 < 0 then some ((Sum.inr "java/util/NoSuchElementException"), I) else if x2 ≤ (10 : Int32) then if (5 : Int32) ≤ x2 then if x2 = (5 : Int32) then (ald 12 (I 6) x1) >>= fun v8 => some ((Sum.inl v8), I) else if x2 = (6 : Int32) then (ald 12 (I 7) x1) >>= fun v11 => some ((Sum.inl v11), I) else if x2 = (7 : Int32) then (ald 12 (I 8) x1) >>= fun v14 => some ((Sum.inl v14), I) else if x2 = (8 : Int32) then (F_X1_calledUp I 4 x1 (I 3 7)) >>= fun r17 => some ((Sum.inl r17), I) else if x2 = (9 : Int32) then (F_X11_turnsNow I x1) >>= fun r20 => some ((Sum.inl r20.1), r20.2) else (F_X11_paysNow I x1) >>= fun r22 => some ((Sum.inl r22.1), r22.2) else (ald 60 (I 5) ((x1 * (5 : Int32)) + x2)) >>= fun v24 => some ((Sum.inl v24), I) else some ((Sum.inr "java/util/NoSuchElementException"), I)
set_option maxRecDepth 4000 in
set_option maxHeartbeats 4000000 in
theorem C_X11_dish {g : gX} {d : Nat} {P : Nat → Nat → Option Nat} {I : HI} {x1 : Int32} {x2 : Int32} {J : HJ} (hp : Wp P) {r : (Int32 ⊕ String) × HI} (h : F_X11_dish I x1 x2 = some r) : Cx g mX11_dish (d + 6) [.ref 1, .int x1, .int x2] (NT, I, J, P) ((thr_i r.1), (NT, r.2, J, P)) := by
  unfold F_X11_dish at h
  refine Cx.of (by decide) (by simp [Value.category]) (Nat.le_of_ble_eq_true rfl) (Nat.le_refl _) (ls := [some (.ref 1), some (.int x1), some (.int x2)]) rfl ?_
  refine M_aload_n (pc := 0) dX11_dish_0 rfl ?_
  refine M_getR (pc := 1) dX11_dish_1 f_X11_23 at_10 (gc_1_3 hp).1 ?_
  refine M_getR (pc := 4) dX11_dish_4 f_X11_148 (gc_1_3 hp).2 (gc_3_0 hp).1 ?_
  refine M_iload_n (pc := 7) dX11_dish_7 rfl ?_
  obtain ⟨r1, hr2, h⟩ := bnd h
  refine M_callVi (pc := 8) dX11_dish_8 v_X11_152 rfl rfl (gc_3_0 hp).2 (Nat.le_of_ble_eq_true rfl) (C_X1_has (d := d + 5) hp (gc_3_0 hp).2 hr2) (Nat.le_refl _) ?_
  refine M_if_ne (pc := 11) (tgt := 24) dX11_dish_11 (by decide) (fun hc3 => ?_) (fun hc3 => ?_)
  · have h := (if_neg hc3).symm.trans h
    refine M_iload_n (pc := 24) dX11_dish_24 rfl ?_
    refine M_if_lt (pc := 25) (tgt := 34) dX11_dish_25 (by decide) (fun hc4 => ?_) (fun hc4 => ?_)
    · have h := (if_pos hc4).symm.trans h
      obtain rfl := Option.some.inj h
      exact M_throwX (pc := 34) dX11_dish_34 dX11_dish_37 dX11_dish_38 dX11_dish_40 dX11_dish_43 ⟨rfl, rfl, rfl, rfl⟩ x_X11_163 (j := 4) (by decide) str_X11_165 rfl rfl
    · have h := (if_neg hc4).symm.trans h
      refine M_iload_n (pc := 28) dX11_dish_28 rfl ?_
      refine M_bipush (pc := 29) (v := 10) dX11_dish_29 (by decide) ?_
      refine M_icmp_le (pc := 31) (tgt := 44) dX11_dish_31 (by decide) (fun hc5 => ?_) (fun hc5 => ?_)
      · have h := (if_pos hc5).symm.trans h
        refine M_iload_n (pc := 44) dX11_dish_44 rfl ?_
        refine M_iconst (pc := 45) (v := 5) dX11_dish_45 (by decide) ?_
        refine M_icmp_ge (pc := 46) (tgt := 66) dX11_dish_46 (by decide) (fun hc6 => ?_) (fun hc6 => ?_)
        · have h := (if_pos hc6).symm.trans h
          refine M_iload_n (pc := 66) dX11_dish_66 rfl ?_
          by_cases hc7 : x2 = (5 : Int32)
          · have h := (if_pos hc7).symm.trans h
            refine M_tableIn (pc := 67) (x := x2) (tgt := 100) dX11_dish_67 (by rw [hc7]; decide) (by rw [hc7]; decide) (by rw [hc7]; rfl) (by decide) ?_
            refine M_aload_n (pc := 100) dX11_dish_100 rfl ?_
            refine M_getR (pc := 101) dX11_dish_101 f_X11_23 at_10 (gc_1_3 hp).1 ?_
            refine M_getR (pc := 104) dX11_dish_104 f_X11_148 (gc_1_3 hp).2 (gc_3_0 hp).1 ?_
            refine M_getR (pc := 107) dX11_dish_107 f_X11_171 (gc_3_0 hp).2 (gc_4_2 hp).1 ?_
            refine M_iload_n (pc := 110) dX11_dish_110 rfl ?_
            obtain ⟨v8, hv9, h⟩ := bnd h
            refine M_aldI (pc := 111) dX11_dish_111 (gc_4_2 hp).2 hv9 ?_
            obtain rfl := Option.some.inj h
            exact M_iret (pc := 112) dX11_dish_112 rfl rfl rfl rfl
          have h := (if_neg hc7).symm.trans h
          by_cases hc10 : x2 = (6 : Int32)
          · have h := (if_pos hc10).symm.trans h
            refine M_tableIn (pc := 67) (x := x2) (tgt := 113) dX11_dish_67 (by rw [hc10]; decide) (by rw [hc10]; decide) (by rw [hc10]; rfl) (by decide) ?_
            refine M_aload_n (pc := 113) dX11_dish_113 rfl ?_
            refine M_getR (pc := 114) dX11_dish_114 f_X11_23 at_10 (gc_1_3 hp).1 ?_
            refine M_getR (pc := 117) dX11_dish_117 f_X11_148 (gc_1_3 hp).2 (gc_3_0 hp).1 ?_
            refine M_getR (pc := 120) dX11_dish_120 f_X11_174 (gc_3_0 hp).2 (gc_4_3 hp).1 ?_
            refine M_iload_n (pc := 123) dX11_dish_123 rfl ?_
            obtain ⟨v11, hv12, h⟩ := bnd h
            refine M_aldI (pc := 124) dX11_dish_124 (gc_4_3 hp).2 hv12 ?_
            obtain rfl := Option.some.inj h
            exact M_iret (pc := 125) dX11_dish_125 rfl rfl rfl rfl
          have h := (if_neg hc10).symm.trans h
          by_cases hc13 : x2 = (7 : Int32)
          · have h := (if_pos hc13).symm.trans h
            refine M_tableIn (pc := 67) (x := x2) (tgt := 126) dX11_dish_67 (by rw [hc13]; decide) (by rw [hc13]; decide) (by rw [hc13]; rfl) (by decide) ?_
            refine M_aload_n (pc := 126) dX11_dish_126 rfl ?_
            refine M_getR (pc := 127) dX11_dish_127 f_X11_23 at_10 (gc_1_3 hp).1 ?_
            refine M_getR (pc := 130) dX11_dish_130 f_X11_148 (gc_1_3 hp).2 (gc_3_0 hp).1 ?_
            refine M_getR (pc := 133) dX11_dish_133 f_X11_177 (gc_3_0 hp).2 (gc_4_4 hp).1 ?_
            refine M_iload_n (pc := 136) dX11_dish_136 rfl ?_
            obtain ⟨v14, hv15, h⟩ := bnd h
            refine M_aldI (pc := 137) dX11_dish_137 (gc_4_4 hp).2 hv15 ?_
            obtain rfl := Option.some.inj h
            exact M_iret (pc := 138) dX11_dish_138 rfl rfl rfl rfl
          have h := (if_neg hc13).symm.trans h
          by_cases hc16 : x2 = (8 : Int32)
          · have h := (if_pos hc16).symm.trans h
            refine M_tableIn (pc := 67) (x := x2) (tgt := 139) dX11_dish_67 (by rw [hc16]; decide) (by rw [hc16]; decide) (by rw [hc16]; rfl) (by decide) ?_
            refine M_aload_n (pc := 139) dX11_dish_139 rfl ?_
            refine M_getR (pc := 140) dX11_dish_140 f_X11_23 at_10 (gc_1_3 hp).1 ?_
            refine M_getR (pc := 143) dX11_dish_143 f_X11_148 (gc_1_3 hp).2 (gc_3_0 hp).1 ?_
            refine M_iload_n (pc := 146) dX11_dish_146 rfl ?_
            refine M_aload_n (pc := 147) dX11_dish_147 rfl ?_
            refine M_getR (pc := 148) dX11_dish_148 f_X11_23 at_10 (gc_1_3 hp).1 ?_
            refine M_getI (pc := 151) dX11_dish_151 f_X11_180 (gc_1_3 hp).2 ?_
            obtain ⟨r17, hr18, h⟩ := bnd h
            refine M_callVi (pc := 154) dX11_dish_154 v_X11_183 rfl rfl (gc_3_0 hp).2 (Nat.le_of_ble_eq_true rfl) (C_X1_calledUp (d := d + 3) hp (gc_3_0 hp).2 hr18) (Nat.le_refl _) ?_
            obtain rfl := Option.some.inj h
            exact M_iret (pc := 157) dX11_dish_157 rfl rfl rfl rfl
          have h := (if_neg hc16).symm.trans h
          by_cases hc19 : x2 = (9 : Int32)
          · have h := (if_pos hc19).symm.trans h
            refine M_tableIn (pc := 67) (x := x2) (tgt := 158) dX11_dish_67 (by rw [hc19]; decide) (by rw [hc19]; decide) (by rw [hc19]; rfl) (by decide) ?_
            refine M_aload_n (pc := 158) dX11_dish_158 rfl ?_
            refine M_iload_n (pc := 159) dX11_dish_159 rfl ?_
            obtain ⟨r20, hr21, h⟩ := bnd h
            refine M_callVi (pc := 160) dX11_dish_160 v_X11_187 rfl rfl at_10 (Nat.le_of_ble_eq_true rfl) (C_X11_turnsNow (d := d + 1) hp hr21) (Nat.le_refl _) ?_
            obtain rfl := Option.some.inj h
            exact M_iret (pc := 163) dX11_dish_163 rfl rfl rfl rfl
          have h := (if_neg hc19).symm.trans h
          refine M_tableOut (pc := 67) (x := x2) (tgt := 164) dX11_dish_67 (sw_out 5 (by decide) (fun j hj => match j, hj with
            | 0, _ => sw_ne hc7 (by decide)
            | 1, _ => sw_ne hc10 (by decide)
            | 2, _ => sw_ne hc13 (by decide)
            | 3, _ => sw_ne hc16 (by decide)
            | 4, _ => sw_ne hc19 (by decide)
            | j + 5, hj => absurd hj (by omega))) (by decide) ?_
          refine M_aload_n (pc := 164) dX11_dish_164 rfl ?_
          refine M_iload_n (pc := 165) dX11_dish_165 rfl ?_
          obtain ⟨r22, hr23, h⟩ := bnd h
          refine M_callVi (pc := 166) dX11_dish_166 v_X11_191 rfl rfl at_10 (Nat.le_of_ble_eq_true rfl) (C_X11_paysNow (d := d + 1) hp hr23) (Nat.le_refl _) ?_
          obtain rfl := Option.some.inj h
          exact M_iret (pc := 169) dX11_dish_169 rfl rfl rfl rfl
        · have h := (if_neg hc6).symm.trans h
          refine M_aload_n (pc := 49) dX11_dish_49 rfl ?_
          refine M_getR (pc := 50) dX11_dish_50 f_X11_23 at_10 (gc_1_3 hp).1 ?_
          refine M_getR (pc := 53) dX11_dish_53 f_X11_148 (gc_1_3 hp).2 (gc_3_0 hp).1 ?_
          refine M_getR (pc := 56) dX11_dish_56 f_X11_168 (gc_3_0 hp).2 (gc_4_1 hp).1 ?_
          refine M_iload_n (pc := 59) dX11_dish_59 rfl ?_
          refine M_iconst (pc := 60) (v := 5) dX11_dish_60 (by decide) ?_
          refine M_imul (pc := 61) dX11_dish_61 ?_
          refine M_iload_n (pc := 62) dX11_dish_62 rfl ?_
          refine M_iadd (pc := 63) dX11_dish_63 ?_
          obtain ⟨v24, hv25, h⟩ := bnd h
          refine M_aldI (pc := 64) dX11_dish_64 (gc_4_1 hp).2 hv25 ?_
          obtain rfl := Option.some.inj h
          exact M_iret (pc := 65) dX11_dish_65 rfl rfl rfl rfl
      · have h := (if_neg hc5).symm.trans h
        obtain rfl := Option.some.inj h
        exact M_throwX (pc := 34) dX11_dish_34 dX11_dish_37 dX11_dish_38 dX11_dish_40 dX11_dish_43 ⟨rfl, rfl, rfl, rfl⟩ x_X11_163 (j := 4) (by decide) str_X11_165 rfl rfl
  · have h := (if_pos hc3).symm.trans h
    obtain rfl := Option.some.inj h
    exact M_throw (pc := 14) dX11_dish_14 dX11_dish_17 dX11_dish_18 dX11_dish_20 dX11_dish_23 ⟨rfl, rfl, rfl, rfl⟩ x_X11_158 (j := 3) (by decide) str_X11_160 rfl rfl
def L_X11_menu_81 (x1 : Int32) (x2 : Int32) (x3 : Int32) (x4 : Int32) (x5 : Int32) (I : HI) : Option ((Int32 ⊕ String) × HI) :=
  if x2 ≤ x5 then if x1 = (0 : Int32) then some ((Sum.inl (I 130 3)), I) else if x1 = (1 : Int32) then some ((Sum.inl (I 130 4)), I) else if x1 = (2 : Int32) then some ((Sum.inl x3), I) else some ((Sum.inl x4), I) else if (400 : Int32) ≤ x5 then if x1 = (0 : Int32) then some ((Sum.inl (I 130 3)), I) else if x1 = (1 : Int32) then some ((Sum.inl (I 130 4)), I) else if x1 = (2 : Int32) then some ((Sum.inl x3), I) else some ((Sum.inl x4), I) else (ald 400 (I 2) x5) >>= fun v19 => (F_X3_takes I 130 v19) >>= fun r21 => if r21 = 0 then L_X11_menu_81 x1 x2 x3 x4 (x5 + (1 : Int32)) I else (ald 400 (I 2) x5) >>= fun v24 => (F_X3_bite I 130 v24 9) >>= fun r26 => L_X11_menu_81 x1 x2 (x3 + (1 : Int32)) (x4 + (r26 136 2)) (x5 + (1 : Int32)) r26
partial_fixpoint
def F_X11_menu (I : HI) (x1 : Int32) : Option ((Int32 ⊕ String) × HI) :=
  (F_X11_takeTape I) >>= fun r1 => if (40 : Int32) < r1.1 then some ((Sum.inr "java/lang/IllegalArgumentException"), r1.2) else (F_X11_toldAtMost r1.2 r1.1 ((r1.2 4 0) - (1 : Int32))) >>= fun r4 => if r4 = 0 then some ((Sum.inr "java/lang/IllegalArgumentException"), r1.2) else if x1 < 0 then some ((Sum.inr "java/util/NoSuchElementException"), r1.2) else if x1 ≤ (3 : Int32) then (F_X3_copy r1.2 130 3) >>= fun r9 => L_X11_menu_81 x1 r1.1 (0 : Int32) (0 : Int32) (0 : Int32) r9 else some ((Sum.inr "java/util/NoSuchElementException"), r1.2)
set_option maxRecDepth 4000 in
set_option maxHeartbeats 4000000 in
theorem LC_X11_menu_81 {g : gX} {d : Nat} {P : Nat → Nat → Option Nat} {J : HJ} {x1 : Int32} {x2 : Int32} (hp : Wp P) : ∀ (x3 : Int32) (x4 : Int32) (x5 : Int32) (I : HI) (r : (Int32 ⊕ String) × HI), L_X11_menu_81 x1 x2 x3 x4 x5 I = some r → M g mX11_menu (d + 6) (NT, NT, 1) ((thr_i r.1), (NT, r.2, J, P)) 81 [some (.ref 1), some (.int x1), some (.int x2), some (.int x3), some (.int x4), some (.int x5)] [] (NT, I, J, P) := by
  refine L_X11_menu_81.partial_correctness x1 x2 (fun x3 x4 x5 I r => M g mX11_menu (d + 6) (NT, NT, 1) ((thr_i r.1), (NT, r.2, J, P)) 81 [some (.ref 1), some (.int x1), some (.int x2), some (.int x3), some (.int x4), some (.int x5)] [] (NT, I, J, P)) ?_
  intro f ih x3 x4 x5 I r h
  refine M_iload (pc := 81) dX11_menu_81 rfl ?_
  refine M_iload_n (pc := 83) dX11_menu_83 rfl ?_
  refine M_icmp_ge (pc := 84) (tgt := 155) dX11_menu_84 (by decide) (fun hc11 => ?_) (fun hc11 => ?_)
  · have h := (if_pos hc11).symm.trans h
    refine M_iload_n (pc := 155) dX11_menu_155 rfl ?_
    by_cases hc12 : x1 = (0 : Int32)
    · have h := (if_pos hc12).symm.trans h
      refine M_tableIn (pc := 156) (x := x1) (tgt := 184) dX11_menu_156 (by rw [hc12]; decide) (by rw [hc12]; decide) (by rw [hc12]; rfl) (by decide) ?_
      refine M_aload_n (pc := 184) dX11_menu_184 rfl ?_
      refine M_getR (pc := 185) dX11_menu_185 f_X11_61 at_10 (gc_1_11 hp).1 ?_
      refine M_getI (pc := 188) dX11_menu_188 f_X11_242 (gc_1_11 hp).2 ?_
      obtain rfl := Option.some.inj h
      exact M_iret (pc := 191) dX11_menu_191 rfl rfl rfl rfl
    have h := (if_neg hc12).symm.trans h
    by_cases hc13 : x1 = (1 : Int32)
    · have h := (if_pos hc13).symm.trans h
      refine M_tableIn (pc := 156) (x := x1) (tgt := 192) dX11_menu_156 (by rw [hc13]; decide) (by rw [hc13]; decide) (by rw [hc13]; rfl) (by decide) ?_
      refine M_aload_n (pc := 192) dX11_menu_192 rfl ?_
      refine M_getR (pc := 193) dX11_menu_193 f_X11_61 at_10 (gc_1_11 hp).1 ?_
      refine M_getI (pc := 196) dX11_menu_196 f_X11_220 (gc_1_11 hp).2 ?_
      obtain rfl := Option.some.inj h
      exact M_iret (pc := 199) dX11_menu_199 rfl rfl rfl rfl
    have h := (if_neg hc13).symm.trans h
    by_cases hc14 : x1 = (2 : Int32)
    · have h := (if_pos hc14).symm.trans h
      refine M_tableIn (pc := 156) (x := x1) (tgt := 200) dX11_menu_156 (by rw [hc14]; decide) (by rw [hc14]; decide) (by rw [hc14]; rfl) (by decide) ?_
      refine M_iload_n (pc := 200) dX11_menu_200 rfl ?_
      obtain rfl := Option.some.inj h
      exact M_iret (pc := 201) dX11_menu_201 rfl rfl rfl rfl
    have h := (if_neg hc14).symm.trans h
    refine M_tableOut (pc := 156) (x := x1) (tgt := 202) dX11_menu_156 (sw_out 3 (by decide) (fun j hj => match j, hj with
      | 0, _ => sw_ne hc12 (by decide)
      | 1, _ => sw_ne hc13 (by decide)
      | 2, _ => sw_ne hc14 (by decide)
      | j + 3, hj => absurd hj (by omega))) (by decide) ?_
    refine M_iload (pc := 202) dX11_menu_202 rfl ?_
    obtain rfl := Option.some.inj h
    exact M_iret (pc := 204) dX11_menu_204 rfl rfl rfl rfl
  · have h := (if_neg hc11).symm.trans h
    refine M_iload (pc := 87) dX11_menu_87 rfl ?_
    refine M_sipush (pc := 89) (v := 400) dX11_menu_89 (by decide) ?_
    refine M_icmp_ge (pc := 92) (tgt := 155) dX11_menu_92 (by decide) (fun hc15 => ?_) (fun hc15 => ?_)
    · have h := (if_pos hc15).symm.trans h
      refine M_iload_n (pc := 155) dX11_menu_155 rfl ?_
      by_cases hc16 : x1 = (0 : Int32)
      · have h := (if_pos hc16).symm.trans h
        refine M_tableIn (pc := 156) (x := x1) (tgt := 184) dX11_menu_156 (by rw [hc16]; decide) (by rw [hc16]; decide) (by rw [hc16]; rfl) (by decide) ?_
        refine M_aload_n (pc := 184) dX11_menu_184 rfl ?_
        refine M_getR (pc := 185) dX11_menu_185 f_X11_61 at_10 (gc_1_11 hp).1 ?_
        refine M_getI (pc := 188) dX11_menu_188 f_X11_242 (gc_1_11 hp).2 ?_
        obtain rfl := Option.some.inj h
        exact M_iret (pc := 191) dX11_menu_191 rfl rfl rfl rfl
      have h := (if_neg hc16).symm.trans h
      by_cases hc17 : x1 = (1 : Int32)
      · have h := (if_pos hc17).symm.trans h
        refine M_tableIn (pc := 156) (x := x1) (tgt := 192) dX11_menu_156 (by rw [hc17]; decide) (by rw [hc17]; decide) (by rw [hc17]; rfl) (by decide) ?_
        refine M_aload_n (pc := 192) dX11_menu_192 rfl ?_
        refine M_getR (pc := 193) dX11_menu_193 f_X11_61 at_10 (gc_1_11 hp).1 ?_
        refine M_getI (pc := 196) dX11_menu_196 f_X11_220 (gc_1_11 hp).2 ?_
        obtain rfl := Option.some.inj h
        exact M_iret (pc := 199) dX11_menu_199 rfl rfl rfl rfl
      have h := (if_neg hc17).symm.trans h
      by_cases hc18 : x1 = (2 : Int32)
      · have h := (if_pos hc18).symm.trans h
        refine M_tableIn (pc := 156) (x := x1) (tgt := 200) dX11_menu_156 (by rw [hc18]; decide) (by rw [hc18]; decide) (by rw [hc18]; rfl) (by decide) ?_
        refine M_iload_n (pc := 200) dX11_menu_200 rfl ?_
        obtain rfl := Option.some.inj h
        exact M_iret (pc := 201) dX11_menu_201 rfl rfl rfl rfl
      have h := (if_neg hc18).symm.trans h
      refine M_tableOut (pc := 156) (x := x1) (tgt := 202) dX11_menu_156 (sw_out 3 (by decide) (fun j hj => match j, hj with
        | 0, _ => sw_ne hc16 (by decide)
        | 1, _ => sw_ne hc17 (by decide)
        | 2, _ => sw_ne hc18 (by decide)
        | j + 3, hj => absurd hj (by omega))) (by decide) ?_
      refine M_iload (pc := 202) dX11_menu_202 rfl ?_
      obtain rfl := Option.some.inj h
      exact M_iret (pc := 204) dX11_menu_204 rfl rfl rfl rfl
    · have h := (if_neg hc15).symm.trans h
      refine M_aload_n (pc := 95) dX11_menu_95 rfl ?_
      refine M_getR (pc := 96) dX11_menu_96 f_X11_61 at_10 (gc_1_11 hp).1 ?_
      refine M_aload_n (pc := 99) dX11_menu_99 rfl ?_
      refine M_getR (pc := 100) dX11_menu_100 f_X11_9 at_10 (gc_1_0 hp).1 ?_
      refine M_iload (pc := 103) dX11_menu_103 rfl ?_
      obtain ⟨v19, hv20, h⟩ := bnd h
      refine M_aldI (pc := 105) dX11_menu_105 (gc_1_0 hp).2 hv20 ?_
      obtain ⟨r21, hr22, h⟩ := bnd h
      refine M_callVi (pc := 106) dX11_menu_106 v_X11_295 rfl rfl (gc_1_11 hp).2 (Nat.le_of_ble_eq_true rfl) (C_X3_takes (d := d + 4) hp (gc_1_11 hp).2 hr22) (Nat.le_refl _) ?_
      refine M_if_eq (pc := 109) (tgt := 149) dX11_menu_109 (by decide) (fun hc23 => ?_) (fun hc23 => ?_)
      · have h := (if_pos hc23).symm.trans h
        refine M_iinc (pc := 149) (v := (x5 + (1 : Int32))) (ls' := [some (.ref 1), some (.int x1), some (.int x2), some (.int x3), some (.int x4), some (.int (x5 + (1 : Int32)))]) dX11_menu_149 rfl rfl (by decide) rfl ?_
        refine M_goto (pc := 152) (tgt := 81) dX11_menu_152 (by decide) ?_
        exact ih x3 x4 (x5 + (1 : Int32)) I _ h
      · have h := (if_neg hc23).symm.trans h
        refine M_aload_n (pc := 112) dX11_menu_112 rfl ?_
        refine M_getR (pc := 113) dX11_menu_113 f_X11_61 at_10 (gc_1_11 hp).1 ?_
        refine M_aload_n (pc := 116) dX11_menu_116 rfl ?_
        refine M_getR (pc := 117) dX11_menu_117 f_X11_9 at_10 (gc_1_0 hp).1 ?_
        refine M_iload (pc := 120) dX11_menu_120 rfl ?_
        obtain ⟨v24, hv25, h⟩ := bnd h
        refine M_aldI (pc := 122) dX11_menu_122 (gc_1_0 hp).2 hv25 ?_
        refine M_aload_n (pc := 123) dX11_menu_123 rfl ?_
        refine M_getR (pc := 124) dX11_menu_124 f_X11_30 at_10 (gc_1_4 hp).1 ?_
        refine M_aload_n (pc := 127) dX11_menu_127 rfl ?_
        refine M_getR (pc := 128) dX11_menu_128 f_X11_67 at_10 (gc_1_12 hp).1 ?_
        obtain ⟨r26, hr27, h⟩ := bnd h
        refine M_callVv (pc := 131) dX11_menu_131 v_X11_232 rfl rfl (gc_1_11 hp).2 (Nat.le_of_ble_eq_true rfl) (C_X3_bite (d := d + 1) hp (gc_1_11 hp).2 (gc_1_4 hp).2 hr27) (Nat.le_refl _) ?_
        refine M_iload (pc := 134) dX11_menu_134 rfl ?_
        refine M_aload_n (pc := 136) dX11_menu_136 rfl ?_
        refine M_getR (pc := 137) dX11_menu_137 f_X11_67 at_10 (gc_1_12 hp).1 ?_
        refine M_getI (pc := 140) dX11_menu_140 f_X11_205 (gc_1_12 hp).2 ?_
        refine M_iadd (pc := 143) dX11_menu_143 ?_
        refine M_istore (pc := 144) (ls' := [some (.ref 1), some (.int x1), some (.int x2), some (.int x3), some (.int (x4 + (r26 136 2))), some (.int x5)]) dX11_menu_144 (by decide) rfl ?_
        refine M_iinc (pc := 146) (v := (x3 + (1 : Int32))) (ls' := [some (.ref 1), some (.int x1), some (.int x2), some (.int (x3 + (1 : Int32))), some (.int (x4 + (r26 136 2))), some (.int x5)]) dX11_menu_146 rfl rfl (by decide) rfl ?_
        refine M_iinc (pc := 149) (v := (x5 + (1 : Int32))) (ls' := [some (.ref 1), some (.int x1), some (.int x2), some (.int (x3 + (1 : Int32))), some (.int (x4 + (r26 136 2))), some (.int (x5 + (1 : Int32)))]) dX11_menu_149 rfl rfl (by decide) rfl ?_
        refine M_goto (pc := 152) (tgt := 81) dX11_menu_152 (by decide) ?_
        exact ih (x3 + (1 : Int32)) (x4 + (r26 136 2)) (x5 + (1 : Int32)) r26 _ h
set_option maxRecDepth 4000 in
set_option maxHeartbeats 4000000 in
theorem C_X11_menu {g : gX} {d : Nat} {P : Nat → Nat → Option Nat} {I : HI} {x1 : Int32} {J : HJ} (hp : Wp P) {r : (Int32 ⊕ String) × HI} (h : F_X11_menu I x1 = some r) : Cx g mX11_menu (d + 6) [.ref 1, .int x1] (NT, I, J, P) ((thr_i r.1), (NT, r.2, J, P)) := by
  unfold F_X11_menu at h
  refine Cx.of (by decide) (by simp [Value.category]) (Nat.le_of_ble_eq_true rfl) (Nat.le_refl _) (ls := [some (.ref 1), some (.int x1), none, none, none, none]) rfl ?_
  refine M_aload_n (pc := 0) dX11_menu_0 rfl ?_
  obtain ⟨r1, hr2, h⟩ := bnd h
  refine M_callVi (pc := 1) dX11_menu_1 v_X11_110 rfl rfl at_10 (Nat.le_of_ble_eq_true rfl) (C_X11_takeTape (d := d + 5) hp hr2) (Nat.le_refl _) ?_
  refine M_istore_n (pc := 4) (ls' := [some (.ref 1), some (.int x1), some (.int r1.1), none, none, none]) dX11_menu_4 (by decide) rfl ?_
  refine M_iload_n (pc := 5) dX11_menu_5 rfl ?_
  refine M_bipush (pc := 6) (v := 40) dX11_menu_6 (by decide) ?_
  refine M_icmp_gt (pc := 8) (tgt := 31) dX11_menu_8 (by decide) (fun hc3 => ?_) (fun hc3 => ?_)
  · have h := (if_pos hc3).symm.trans h
    obtain rfl := Option.some.inj h
    exact M_throwW (pc := 31) dX11_menu_31 dX11_menu_34 dX11_menu_35 dX11_menu_38 dX11_menu_41 ⟨rfl, rfl, rfl, rfl⟩ x_X11_118 (j := 12) (by decide) str_X11_302 rfl rfl
  · have h := (if_neg hc3).symm.trans h
    refine M_aload_n (pc := 11) dX11_menu_11 rfl ?_
    refine M_iload_n (pc := 12) dX11_menu_12 rfl ?_
    refine M_aload_n (pc := 13) dX11_menu_13 rfl ?_
    refine M_getR (pc := 14) dX11_menu_14 f_X11_23 at_10 (gc_1_3 hp).1 ?_
    refine M_getR (pc := 17) dX11_menu_17 f_X11_148 (gc_1_3 hp).2 (gc_3_0 hp).1 ?_
    refine M_getI (pc := 20) dX11_menu_20 f_X11_211 (gc_3_0 hp).2 ?_
    refine M_iconst (pc := 23) (v := 1) dX11_menu_23 (by decide) ?_
    refine M_isub (pc := 24) dX11_menu_24 ?_
    obtain ⟨r4, hr5, h⟩ := bnd h
    refine M_callVi (pc := 25) dX11_menu_25 v_X11_298 rfl rfl at_10 (Nat.le_of_ble_eq_true rfl) (C_X11_toldAtMost (d := d + 5) hp hr5) (Nat.le_refl _) ?_
    refine M_if_ne (pc := 28) (tgt := 42) dX11_menu_28 (by decide) (fun hc6 => ?_) (fun hc6 => ?_)
    · have h := (if_neg hc6).symm.trans h
      refine M_iload_n (pc := 42) dX11_menu_42 rfl ?_
      refine M_if_lt (pc := 43) (tgt := 51) dX11_menu_43 (by decide) (fun hc7 => ?_) (fun hc7 => ?_)
      · have h := (if_pos hc7).symm.trans h
        obtain rfl := Option.some.inj h
        exact M_throwXW (pc := 51) dX11_menu_51 dX11_menu_54 dX11_menu_55 dX11_menu_58 dX11_menu_61 ⟨rfl, rfl, rfl, rfl⟩ x_X11_163 (j := 13) (by decide) str_X11_304 rfl rfl
      · have h := (if_neg hc7).symm.trans h
        refine M_iload_n (pc := 46) dX11_menu_46 rfl ?_
        refine M_iconst (pc := 47) (v := 3) dX11_menu_47 (by decide) ?_
        refine M_icmp_le (pc := 48) (tgt := 62) dX11_menu_48 (by decide) (fun hc8 => ?_) (fun hc8 => ?_)
        · have h := (if_pos hc8).symm.trans h
          refine M_aload_n (pc := 62) dX11_menu_62 rfl ?_
          refine M_getR (pc := 63) dX11_menu_63 f_X11_61 at_10 (gc_1_11 hp).1 ?_
          refine M_aload_n (pc := 66) dX11_menu_66 rfl ?_
          refine M_getR (pc := 67) dX11_menu_67 f_X11_23 at_10 (gc_1_3 hp).1 ?_
          obtain ⟨r9, hr10, h⟩ := bnd h
          refine M_callVv (pc := 70) dX11_menu_70 v_X11_106 rfl rfl (gc_1_11 hp).2 (Nat.le_of_ble_eq_true rfl) (C_X3_copy (d := d + 3) hp (gc_1_11 hp).2 (gc_1_3 hp).2 hr10) (Nat.le_refl _) ?_
          refine M_iconst (pc := 73) (v := 0) dX11_menu_73 (by decide) ?_
          refine M_istore_n (pc := 74) (ls' := [some (.ref 1), some (.int x1), some (.int r1.1), some (.int (0 : Int32)), none, none]) dX11_menu_74 (by decide) rfl ?_
          refine M_iconst (pc := 75) (v := 0) dX11_menu_75 (by decide) ?_
          refine M_istore (pc := 76) (ls' := [some (.ref 1), some (.int x1), some (.int r1.1), some (.int (0 : Int32)), some (.int (0 : Int32)), none]) dX11_menu_76 (by decide) rfl ?_
          refine M_iconst (pc := 78) (v := 0) dX11_menu_78 (by decide) ?_
          refine M_istore (pc := 79) (ls' := [some (.ref 1), some (.int x1), some (.int r1.1), some (.int (0 : Int32)), some (.int (0 : Int32)), some (.int (0 : Int32))]) dX11_menu_79 (by decide) rfl ?_
          exact LC_X11_menu_81 (P := P) hp (0 : Int32) (0 : Int32) (0 : Int32) r9 _ h
        · have h := (if_neg hc8).symm.trans h
          obtain rfl := Option.some.inj h
          exact M_throwXW (pc := 51) dX11_menu_51 dX11_menu_54 dX11_menu_55 dX11_menu_58 dX11_menu_61 ⟨rfl, rfl, rfl, rfl⟩ x_X11_163 (j := 13) (by decide) str_X11_304 rfl rfl
    · have h := (if_pos hc6).symm.trans h
      obtain rfl := Option.some.inj h
      exact M_throwW (pc := 31) dX11_menu_31 dX11_menu_34 dX11_menu_35 dX11_menu_38 dX11_menu_41 ⟨rfl, rfl, rfl, rfl⟩ x_X11_118 (j := 12) (by decide) str_X11_302 rfl rfl
