def L_X11_fewest_46 (I : HI) (x1 : Int32) (x3 : Int32) (x4 : Int32) : Option ((Int32 ⊕ String)) :=
  if (10 : Int32) ≤ x4 then some (Sum.inl x3) else if ((x1 >>> (x4 &&& 31)) &&& (1 : Int32)) = 0 then L_X11_fewest_46 I x1 x3 (x4 + (1 : Int32)) else (F_X1_leastOfAge I 4 x4) >>= fun r8 => if r8 = (-1 : Int32) then some (Sum.inl (-1 : Int32)) else L_X11_fewest_46 I x1 (x3 ||| ((1 : Int32) <<< (r8 &&& 31))) (x4 + (1 : Int32))
partial_fixpoint
def F_X11_fewest (I : HI) (x1 : Int32) (x2 : Int32) : Option ((Int32 ⊕ String)) :=
  if x1 < 0 then some (Sum.inr "java/lang/IllegalArgumentException") else if (1023 : Int32) < x1 then some (Sum.inr "java/lang/IllegalArgumentException") else if x2 < 0 then some (Sum.inr "java/lang/IllegalArgumentException") else if x2 ≤ (1023 : Int32) then if (x1 &&& x2) = 0 then L_X11_fewest_46 I x1 (0 : Int32) (0 : Int32) else some (Sum.inl (-1 : Int32)) else some (Sum.inr "java/lang/IllegalArgumentException")
set_option maxRecDepth 4000 in
set_option maxHeartbeats 4000000 in
theorem LC_X11_fewest_46 {g : gX} {d : Nat} {P : Nat → Nat → Option Nat} {J : HJ} {I : HI} {x1 : Int32} (hp : Wp P) : ∀ (x3 : Int32) (x4 : Int32) (r : (Int32 ⊕ String)), L_X11_fewest_46 I x1 x3 x4 = some r → M g mX11_fewest (d + 6) (NT, NT, 1) ((thr_i r), (NT, I, J, P)) 46 [some (.ref 1), some (.int x1), none, some (.int x3), some (.int x4), none] [] (NT, I, J, P) := by
  refine L_X11_fewest_46.partial_correctness I x1 (fun x3 x4 r => M g mX11_fewest (d + 6) (NT, NT, 1) ((thr_i r), (NT, I, J, P)) 46 [some (.ref 1), some (.int x1), none, some (.int x3), some (.int x4), none] [] (NT, I, J, P)) ?_
  intro f ih x3 x4 r h
  refine M_iload (pc := 46) dX11_fewest_46 rfl ?_
  refine M_bipush (pc := 48) (v := 10) dX11_fewest_48 (by decide) ?_
  refine M_icmp_ge (pc := 50) (tgt := 97) dX11_fewest_50 (by decide) (fun hc6 => ?_) (fun hc6 => ?_)
  · have h := (if_pos hc6).symm.trans h
    refine M_iload_n (pc := 97) dX11_fewest_97 rfl ?_
    obtain rfl := Option.some.inj h
    exact M_iret (pc := 98) dX11_fewest_98 rfl rfl rfl rfl
  · have h := (if_neg hc6).symm.trans h
    refine M_iload_n (pc := 53) dX11_fewest_53 rfl ?_
    refine M_iload (pc := 54) dX11_fewest_54 rfl ?_
    refine M_ishr (pc := 56) dX11_fewest_56 ?_
    refine M_iconst (pc := 57) (v := 1) dX11_fewest_57 (by decide) ?_
    refine M_iand (pc := 58) dX11_fewest_58 ?_
    refine M_if_eq (pc := 59) (tgt := 91) dX11_fewest_59 (by decide) (fun hc7 => ?_) (fun hc7 => ?_)
    · have h := (if_pos hc7).symm.trans h
      refine M_iinc (pc := 91) (v := (x4 + (1 : Int32))) (ls' := [some (.ref 1), some (.int x1), none, some (.int x3), some (.int (x4 + (1 : Int32))), none]) dX11_fewest_91 rfl rfl (by decide) rfl ?_
      refine M_goto (pc := 94) (tgt := 46) dX11_fewest_94 (by decide) ?_
      exact ih x3 (x4 + (1 : Int32)) _ h
    · have h := (if_neg hc7).symm.trans h
      refine M_aload_n (pc := 62) dX11_fewest_62 rfl ?_
      refine M_getR (pc := 63) dX11_fewest_63 f_X11_23 at_10 (gc_1_3 hp).1 ?_
      refine M_getR (pc := 66) dX11_fewest_66 f_X11_148 (gc_1_3 hp).2 (gc_3_0 hp).1 ?_
      refine M_iload (pc := 69) dX11_fewest_69 rfl ?_
      obtain ⟨r8, hr9, h⟩ := bnd h
      refine M_callVi (pc := 71) dX11_fewest_71 v_X11_308 rfl rfl (gc_3_0 hp).2 (Nat.le_of_ble_eq_true rfl) (C_X1_leastOfAge (d := d + 3) hp (gc_3_0 hp).2 hr9) (Nat.le_refl _) ?_
      refine M_istore (pc := 74) (ls' := [some (.ref 1), some (.int x1), none, some (.int x3), some (.int x4), some (.int r8)]) dX11_fewest_74 (by decide) rfl ?_
      refine M_iload (pc := 76) dX11_fewest_76 rfl ?_
      refine M_iconst (pc := 78) (v := -1) dX11_fewest_78 (by decide) ?_
      refine M_icmp_ne (pc := 79) (tgt := 84) dX11_fewest_79 (by decide) (fun hc10 => ?_) (fun hc10 => ?_)
      · have h := (if_neg hc10).symm.trans h
        refine M_iload_n (pc := 84) dX11_fewest_84 rfl ?_
        refine M_iconst (pc := 85) (v := 1) dX11_fewest_85 (by decide) ?_
        refine M_iload (pc := 86) dX11_fewest_86 rfl ?_
        refine M_ishl (pc := 88) dX11_fewest_88 ?_
        refine M_ior (pc := 89) dX11_fewest_89 ?_
        refine M_istore_n (pc := 90) (ls' := [some (.ref 1), some (.int x1), none, some (.int (x3 ||| ((1 : Int32) <<< (r8 &&& 31)))), some (.int x4), some (.int r8)]) dX11_fewest_90 (by decide) rfl ?_
        refine M_iinc (pc := 91) (v := (x4 + (1 : Int32))) (ls' := [some (.ref 1), some (.int x1), none, some (.int (x3 ||| ((1 : Int32) <<< (r8 &&& 31)))), some (.int (x4 + (1 : Int32))), some (.int r8)]) dX11_fewest_91 rfl rfl (by decide) rfl ?_
        refine M_goto (pc := 94) (tgt := 46) dX11_fewest_94 (by decide) ?_
        refine M_mask (pc := 46) [true, true, false, true, true, false] rfl ?_
        exact ih (x3 ||| ((1 : Int32) <<< (r8 &&& 31))) (x4 + (1 : Int32)) _ h
      · have h := (if_pos hc10).symm.trans h
        refine M_iconst (pc := 82) (v := -1) dX11_fewest_82 (by decide) ?_
        obtain rfl := Option.some.inj h
        exact M_iret (pc := 83) dX11_fewest_83 rfl rfl rfl rfl
set_option maxRecDepth 4000 in
set_option maxHeartbeats 4000000 in
theorem C_X11_fewest {g : gX} {d : Nat} {P : Nat → Nat → Option Nat} {I : HI} {x1 : Int32} {x2 : Int32} {J : HJ} (hp : Wp P) {r : (Int32 ⊕ String)} (h : F_X11_fewest I x1 x2 = some r) : Cx g mX11_fewest (d + 6) [.ref 1, .int x1, .int x2] (NT, I, J, P) ((thr_i r), (NT, I, J, P)) := by
  unfold F_X11_fewest at h
  refine Cx.of (by decide) (by simp [Value.category]) (Nat.le_of_ble_eq_true rfl) (Nat.le_refl _) (ls := [some (.ref 1), some (.int x1), some (.int x2), none, none, none]) rfl ?_
  refine M_iload_n (pc := 0) dX11_fewest_0 rfl ?_
  refine M_if_lt (pc := 1) (tgt := 22) dX11_fewest_1 (by decide) (fun hc1 => ?_) (fun hc1 => ?_)
  · have h := (if_pos hc1).symm.trans h
    obtain rfl := Option.some.inj h
    exact M_throwW (pc := 22) dX11_fewest_22 dX11_fewest_25 dX11_fewest_26 dX11_fewest_29 dX11_fewest_32 ⟨rfl, rfl, rfl, rfl⟩ x_X11_118 (j := 14) (by decide) str_X11_306 rfl rfl
  · have h := (if_neg hc1).symm.trans h
    refine M_iload_n (pc := 4) dX11_fewest_4 rfl ?_
    refine M_sipush (pc := 5) (v := 1023) dX11_fewest_5 (by decide) ?_
    refine M_icmp_gt (pc := 8) (tgt := 22) dX11_fewest_8 (by decide) (fun hc2 => ?_) (fun hc2 => ?_)
    · have h := (if_pos hc2).symm.trans h
      obtain rfl := Option.some.inj h
      exact M_throwW (pc := 22) dX11_fewest_22 dX11_fewest_25 dX11_fewest_26 dX11_fewest_29 dX11_fewest_32 ⟨rfl, rfl, rfl, rfl⟩ x_X11_118 (j := 14) (by decide) str_X11_306 rfl rfl
    · have h := (if_neg hc2).symm.trans h
      refine M_iload_n (pc := 11) dX11_fewest_11 rfl ?_
      refine M_if_lt (pc := 12) (tgt := 22) dX11_fewest_12 (by decide) (fun hc3 => ?_) (fun hc3 => ?_)
      · have h := (if_pos hc3).symm.trans h
        obtain rfl := Option.some.inj h
        exact M_throwW (pc := 22) dX11_fewest_22 dX11_fewest_25 dX11_fewest_26 dX11_fewest_29 dX11_fewest_32 ⟨rfl, rfl, rfl, rfl⟩ x_X11_118 (j := 14) (by decide) str_X11_306 rfl rfl
      · have h := (if_neg hc3).symm.trans h
        refine M_iload_n (pc := 15) dX11_fewest_15 rfl ?_
        refine M_sipush (pc := 16) (v := 1023) dX11_fewest_16 (by decide) ?_
        refine M_icmp_le (pc := 19) (tgt := 33) dX11_fewest_19 (by decide) (fun hc4 => ?_) (fun hc4 => ?_)
        · have h := (if_pos hc4).symm.trans h
          refine M_iload_n (pc := 33) dX11_fewest_33 rfl ?_
          refine M_iload_n (pc := 34) dX11_fewest_34 rfl ?_
          refine M_iand (pc := 35) dX11_fewest_35 ?_
          refine M_if_eq (pc := 36) (tgt := 41) dX11_fewest_36 (by decide) (fun hc5 => ?_) (fun hc5 => ?_)
          · have h := (if_pos hc5).symm.trans h
            refine M_iconst (pc := 41) (v := 0) dX11_fewest_41 (by decide) ?_
            refine M_istore_n (pc := 42) (ls' := [some (.ref 1), some (.int x1), some (.int x2), some (.int (0 : Int32)), none, none]) dX11_fewest_42 (by decide) rfl ?_
            refine M_iconst (pc := 43) (v := 0) dX11_fewest_43 (by decide) ?_
            refine M_istore (pc := 44) (ls' := [some (.ref 1), some (.int x1), some (.int x2), some (.int (0 : Int32)), some (.int (0 : Int32)), none]) dX11_fewest_44 (by decide) rfl ?_
            refine M_mask (pc := 46) [true, true, false, true, true, false] rfl ?_
            exact LC_X11_fewest_46 (P := P) hp (0 : Int32) (0 : Int32) _ h
          · have h := (if_neg hc5).symm.trans h
            refine M_iconst (pc := 39) (v := -1) dX11_fewest_39 (by decide) ?_
            obtain rfl := Option.some.inj h
            exact M_iret (pc := 40) dX11_fewest_40 rfl rfl rfl rfl
        · have h := (if_neg hc4).symm.trans h
          obtain rfl := Option.some.inj h
          exact M_throwW (pc := 22) dX11_fewest_22 dX11_fewest_25 dX11_fewest_26 dX11_fewest_29 dX11_fewest_32 ⟨rfl, rfl, rfl, rfl⟩ x_X11_118 (j := 14) (by decide) str_X11_306 rfl rfl
