def L_X11_odds_68 (I : HI) (x3 : Int64) (x5 : Int32) : Option ((Int32 ⊕ String)) :=
  if x5 ≤ (2 : Int32) then some (Sum.inl (x3).toInt32) else L_X11_odds_68 I (x3 / (100 : Int64)) (x5 + (-1 : Int32))
partial_fixpoint
def L_X11_odds_47 (I : HI) (x1 : Int32) (x3 : Int64) (x5 : Int32) : Option ((Int32 ⊕ String)) :=
  if (2 : Int32) ≤ x5 then L_X11_odds_68 I x3 x1 else L_X11_odds_47 I x1 (x3 * (100 : Int64)) (x5 + (1 : Int32))
partial_fixpoint
def F_X11_odds (I : HI) (x1 : Int32) (x2 : Int32) : Option ((Int32 ⊕ String)) :=
  if x1 < 0 then some (Sum.inr "java/lang/IllegalArgumentException") else if (6 : Int32) < x1 then some (Sum.inr "java/lang/IllegalArgumentException") else if x2 < 0 then some (Sum.inr "java/lang/IllegalArgumentException") else if x2 ≤ (6 : Int32) then (F_X11_slipParts 8 I x1 x2 (I 3 10)) >>= fun r5 => L_X11_odds_47 I x1 r5 x1 else some (Sum.inr "java/lang/IllegalArgumentException")
set_option maxRecDepth 4000 in
set_option maxHeartbeats 4000000 in
theorem LC_X11_odds_68 {g : gX} {d : Nat} {P : Nat → Nat → Option Nat} {J : HJ} {I : HI} (hp : Wp P) : ∀ (x3 : Int64) (x5 : Int32) (r : (Int32 ⊕ String)), L_X11_odds_68 I x3 x5 = some r → M g mX11_odds (d + 17) (NT, NT, 1) ((thr_i r), (NT, I, J, P)) 68 [none, none, none, some (.long x3), none, some (.int x5)] [] (NT, I, J, P) := by
  refine L_X11_odds_68.partial_correctness I (fun x3 x5 r => M g mX11_odds (d + 17) (NT, NT, 1) ((thr_i r), (NT, I, J, P)) 68 [none, none, none, some (.long x3), none, some (.int x5)] [] (NT, I, J, P)) ?_
  intro f ih x3 x5 r h
  refine M_iload (pc := 68) dX11_odds_68 rfl ?_
  refine M_iconst (pc := 70) (v := 2) dX11_odds_70 (by decide) ?_
  refine M_icmp_le (pc := 71) (tgt := 86) dX11_odds_71 (by decide) (fun hc8 => ?_) (fun hc8 => ?_)
  · have h := (if_pos hc8).symm.trans h
    refine M_lload_n (pc := 86) dX11_odds_86 rfl ?_
    refine M_l2i (pc := 87) dX11_odds_87 ?_
    obtain rfl := Option.some.inj h
    exact M_iret (pc := 88) dX11_odds_88 rfl rfl rfl rfl
  · have h := (if_neg hc8).symm.trans h
    refine M_lload_n (pc := 74) dX11_odds_74 rfl ?_
    refine M_ldc2 (pc := 75) (v := 100) dX11_odds_75 w_1311 ?_
    refine M_ldiv (pc := 78) dX11_odds_78 (by decide) ?_
    refine M_lstore_n (pc := 79) (ls' := [none, none, none, some (.long (x3 / (100 : Int64))), none, some (.int x5)]) dX11_odds_79 (by decide) rfl ?_
    refine M_iinc (pc := 80) (v := (x5 + (-1 : Int32))) (ls' := [none, none, none, some (.long (x3 / (100 : Int64))), none, some (.int (x5 + (-1 : Int32)))]) dX11_odds_80 rfl rfl (by decide) rfl ?_
    refine M_goto (pc := 83) (tgt := 68) dX11_odds_83 (by decide) ?_
    exact ih (x3 / (100 : Int64)) (x5 + (-1 : Int32)) _ h
set_option maxRecDepth 4000 in
set_option maxHeartbeats 4000000 in
theorem LC_X11_odds_47 {g : gX} {d : Nat} {P : Nat → Nat → Option Nat} {J : HJ} {I : HI} {x1 : Int32} (hp : Wp P) : ∀ (x3 : Int64) (x5 : Int32) (r : (Int32 ⊕ String)), L_X11_odds_47 I x1 x3 x5 = some r → M g mX11_odds (d + 17) (NT, NT, 1) ((thr_i r), (NT, I, J, P)) 47 [none, some (.int x1), none, some (.long x3), none, some (.int x5)] [] (NT, I, J, P) := by
  refine L_X11_odds_47.partial_correctness I x1 (fun x3 x5 r => M g mX11_odds (d + 17) (NT, NT, 1) ((thr_i r), (NT, I, J, P)) 47 [none, some (.int x1), none, some (.long x3), none, some (.int x5)] [] (NT, I, J, P)) ?_
  intro f ih x3 x5 r h
  refine M_iload (pc := 47) dX11_odds_47 rfl ?_
  refine M_iconst (pc := 49) (v := 2) dX11_odds_49 (by decide) ?_
  refine M_icmp_ge (pc := 50) (tgt := 65) dX11_odds_50 (by decide) (fun hc7 => ?_) (fun hc7 => ?_)
  · have h := (if_pos hc7).symm.trans h
    refine M_iload_n (pc := 65) dX11_odds_65 rfl ?_
    refine M_istore (pc := 66) (ls' := [none, some (.int x1), none, some (.long x3), none, some (.int x1)]) dX11_odds_66 (by decide) rfl ?_
    refine M_mask (pc := 68) [false, false, false, true, false, true] rfl ?_
    exact LC_X11_odds_68 (P := P) hp x3 x1 _ h
  · have h := (if_neg hc7).symm.trans h
    refine M_lload_n (pc := 53) dX11_odds_53 rfl ?_
    refine M_ldc2 (pc := 54) (v := 100) dX11_odds_54 w_1311 ?_
    refine M_lmul (pc := 57) dX11_odds_57 ?_
    refine M_lstore_n (pc := 58) (ls' := [none, some (.int x1), none, some (.long (x3 * (100 : Int64))), none, some (.int x5)]) dX11_odds_58 (by decide) rfl ?_
    refine M_iinc (pc := 59) (v := (x5 + (1 : Int32))) (ls' := [none, some (.int x1), none, some (.long (x3 * (100 : Int64))), none, some (.int (x5 + (1 : Int32)))]) dX11_odds_59 rfl rfl (by decide) rfl ?_
    refine M_goto (pc := 62) (tgt := 47) dX11_odds_62 (by decide) ?_
    exact ih (x3 * (100 : Int64)) (x5 + (1 : Int32)) _ h
set_option maxRecDepth 4000 in
set_option maxHeartbeats 4000000 in
theorem C_X11_odds {g : gX} {d : Nat} {P : Nat → Nat → Option Nat} {I : HI} {x1 : Int32} {x2 : Int32} {J : HJ} (hp : Wp P) {r : (Int32 ⊕ String)} (h : F_X11_odds I x1 x2 = some r) : Cx g mX11_odds (d + 17) [.ref 1, .int x1, .int x2] (NT, I, J, P) ((thr_i r), (NT, I, J, P)) := by
  unfold F_X11_odds at h
  refine Cx.of (by decide) (by simp [Value.category]) (Nat.le_of_ble_eq_true rfl) (Nat.le_refl _) (ls := [some (.ref 1), some (.int x1), some (.int x2), none, none, none]) rfl ?_
  refine M_iload_n (pc := 0) dX11_odds_0 rfl ?_
  refine M_if_lt (pc := 1) (tgt := 20) dX11_odds_1 (by decide) (fun hc1 => ?_) (fun hc1 => ?_)
  · have h := (if_pos hc1).symm.trans h
    obtain rfl := Option.some.inj h
    exact M_throwW (pc := 20) dX11_odds_20 dX11_odds_23 dX11_odds_24 dX11_odds_27 dX11_odds_30 ⟨rfl, rfl, rfl, rfl⟩ x_X11_118 (j := 21) (by decide) str_X11_381 rfl rfl
  · have h := (if_neg hc1).symm.trans h
    refine M_iload_n (pc := 4) dX11_odds_4 rfl ?_
    refine M_bipush (pc := 5) (v := 6) dX11_odds_5 (by decide) ?_
    refine M_icmp_gt (pc := 7) (tgt := 20) dX11_odds_7 (by decide) (fun hc2 => ?_) (fun hc2 => ?_)
    · have h := (if_pos hc2).symm.trans h
      obtain rfl := Option.some.inj h
      exact M_throwW (pc := 20) dX11_odds_20 dX11_odds_23 dX11_odds_24 dX11_odds_27 dX11_odds_30 ⟨rfl, rfl, rfl, rfl⟩ x_X11_118 (j := 21) (by decide) str_X11_381 rfl rfl
    · have h := (if_neg hc2).symm.trans h
      refine M_iload_n (pc := 10) dX11_odds_10 rfl ?_
      refine M_if_lt (pc := 11) (tgt := 20) dX11_odds_11 (by decide) (fun hc3 => ?_) (fun hc3 => ?_)
      · have h := (if_pos hc3).symm.trans h
        obtain rfl := Option.some.inj h
        exact M_throwW (pc := 20) dX11_odds_20 dX11_odds_23 dX11_odds_24 dX11_odds_27 dX11_odds_30 ⟨rfl, rfl, rfl, rfl⟩ x_X11_118 (j := 21) (by decide) str_X11_381 rfl rfl
      · have h := (if_neg hc3).symm.trans h
        refine M_iload_n (pc := 14) dX11_odds_14 rfl ?_
        refine M_bipush (pc := 15) (v := 6) dX11_odds_15 (by decide) ?_
        refine M_icmp_le (pc := 17) (tgt := 31) dX11_odds_17 (by decide) (fun hc4 => ?_) (fun hc4 => ?_)
        · have h := (if_pos hc4).symm.trans h
          refine M_iload_n (pc := 31) dX11_odds_31 rfl ?_
          refine M_iload_n (pc := 32) dX11_odds_32 rfl ?_
          refine M_aload_n (pc := 33) dX11_odds_33 rfl ?_
          refine M_getR (pc := 34) dX11_odds_34 f_X11_23 at_10 (gc_1_3 hp).1 ?_
          refine M_getI (pc := 37) dX11_odds_37 f_X11_280 (gc_1_3 hp).2 ?_
          obtain ⟨r5, hr6, h⟩ := bnd h
          refine M_callSi (pc := 40) dX11_odds_40 s_X11_383 rfl rfl (Nat.le_of_ble_eq_true rfl) (C_X11_slipParts hp 8 (d := d + 0) _ _ _ _  _ hr6) (Nat.le_refl _) ?_
          refine M_lstore_n (pc := 43) (ls' := [some (.ref 1), some (.int x1), some (.int x2), some (.long r5), none, none]) dX11_odds_43 (by decide) rfl ?_
          refine M_iload_n (pc := 44) dX11_odds_44 rfl ?_
          refine M_istore (pc := 45) (ls' := [some (.ref 1), some (.int x1), some (.int x2), some (.long r5), none, some (.int x1)]) dX11_odds_45 (by decide) rfl ?_
          refine M_mask (pc := 47) [false, true, false, true, false, true] rfl ?_
          exact LC_X11_odds_47 (P := P) hp r5 x1 _ h
        · have h := (if_neg hc4).symm.trans h
          obtain rfl := Option.some.inj h
          exact M_throwW (pc := 20) dX11_odds_20 dX11_odds_23 dX11_odds_24 dX11_odds_27 dX11_odds_30 ⟨rfl, rfl, rfl, rfl⟩ x_X11_118 (j := 21) (by decide) str_X11_381 rfl rfl
