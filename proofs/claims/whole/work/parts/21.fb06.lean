def L_X11_near_28 (I : HI) (x1 : Int32) (x2 : Int32) (x3 : Int32) : Option ((Int32 ⊕ String)) :=
  if (I 4 0) ≤ x3 then some (Sum.inl x2) else if x3 = x1 then L_X11_near_28 I x1 x2 (x3 + (1 : Int32)) else (F_X1_distance I 4 x1 x3) >>= fun r6 => if (I 3 7) < r6 then L_X11_near_28 I x1 x2 (x3 + (1 : Int32)) else L_X11_near_28 I x1 (x2 ||| ((1 : Int32) <<< (x3 &&& 31))) (x3 + (1 : Int32))
partial_fixpoint
def F_X11_near (I : HI) (x1 : Int32) : Option ((Int32 ⊕ String)) :=
  (F_X1_has I 4 x1) >>= fun r1 => if r1 = 0 then some (Sum.inr "java/lang/IndexOutOfBoundsException") else L_X11_near_28 I x1 (0 : Int32) (0 : Int32)
set_option maxRecDepth 4000 in
set_option maxHeartbeats 4000000 in
theorem LC_X11_near_28 {g : gX} {d : Nat} {P : Nat → Nat → Option Nat} {J : HJ} {I : HI} {x1 : Int32} (hp : Wp P) : ∀ (x2 : Int32) (x3 : Int32) (r : (Int32 ⊕ String)), L_X11_near_28 I x1 x2 x3 = some r → M g mX11_near (d + 6) (NT, NT, 1) ((thr_i r), (NT, I, J, P)) 28 [some (.ref 1), some (.int x1), some (.int x2), some (.int x3)] [] (NT, I, J, P) := by
  refine L_X11_near_28.partial_correctness I x1 (fun x2 x3 r => M g mX11_near (d + 6) (NT, NT, 1) ((thr_i r), (NT, I, J, P)) 28 [some (.ref 1), some (.int x1), some (.int x2), some (.int x3)] [] (NT, I, J, P)) ?_
  intro f ih x2 x3 r h
  refine M_iload_n (pc := 28) dX11_near_28 rfl ?_
  refine M_aload_n (pc := 29) dX11_near_29 rfl ?_
  refine M_getR (pc := 30) dX11_near_30 f_X11_23 at_10 (gc_1_3 hp).1 ?_
  refine M_getR (pc := 33) dX11_near_33 f_X11_148 (gc_1_3 hp).2 (gc_3_0 hp).1 ?_
  refine M_getI (pc := 36) dX11_near_36 f_X11_211 (gc_3_0 hp).2 ?_
  refine M_icmp_ge (pc := 39) (tgt := 81) dX11_near_39 (by decide) (fun hc4 => ?_) (fun hc4 => ?_)
  · have h := (if_pos hc4).symm.trans h
    refine M_iload_n (pc := 81) dX11_near_81 rfl ?_
    obtain rfl := Option.some.inj h
    exact M_iret (pc := 82) dX11_near_82 rfl rfl rfl rfl
  · have h := (if_neg hc4).symm.trans h
    refine M_iload_n (pc := 42) dX11_near_42 rfl ?_
    refine M_iload_n (pc := 43) dX11_near_43 rfl ?_
    refine M_icmp_eq (pc := 44) (tgt := 75) dX11_near_44 (by decide) (fun hc5 => ?_) (fun hc5 => ?_)
    · have h := (if_pos hc5).symm.trans h
      refine M_iinc (pc := 75) (v := (x3 + (1 : Int32))) (ls' := [some (.ref 1), some (.int x1), some (.int x2), some (.int (x3 + (1 : Int32)))]) dX11_near_75 rfl rfl (by decide) rfl ?_
      refine M_goto (pc := 78) (tgt := 28) dX11_near_78 (by decide) ?_
      exact ih x2 (x3 + (1 : Int32)) _ h
    · have h := (if_neg hc5).symm.trans h
      refine M_aload_n (pc := 47) dX11_near_47 rfl ?_
      refine M_getR (pc := 48) dX11_near_48 f_X11_23 at_10 (gc_1_3 hp).1 ?_
      refine M_getR (pc := 51) dX11_near_51 f_X11_148 (gc_1_3 hp).2 (gc_3_0 hp).1 ?_
      refine M_iload_n (pc := 54) dX11_near_54 rfl ?_
      refine M_iload_n (pc := 55) dX11_near_55 rfl ?_
      obtain ⟨r6, hr7, h⟩ := bnd h
      refine M_callVi (pc := 56) dX11_near_56 v_X11_208 rfl rfl (gc_3_0 hp).2 (Nat.le_of_ble_eq_true rfl) (C_X1_distance (d := d + 5) hp (gc_3_0 hp).2 hr7) (Nat.le_refl _) ?_
      refine M_aload_n (pc := 59) dX11_near_59 rfl ?_
      refine M_getR (pc := 60) dX11_near_60 f_X11_23 at_10 (gc_1_3 hp).1 ?_
      refine M_getI (pc := 63) dX11_near_63 f_X11_180 (gc_1_3 hp).2 ?_
      refine M_icmp_gt (pc := 66) (tgt := 75) dX11_near_66 (by decide) (fun hc8 => ?_) (fun hc8 => ?_)
      · have h := (if_pos hc8).symm.trans h
        refine M_iinc (pc := 75) (v := (x3 + (1 : Int32))) (ls' := [some (.ref 1), some (.int x1), some (.int x2), some (.int (x3 + (1 : Int32)))]) dX11_near_75 rfl rfl (by decide) rfl ?_
        refine M_goto (pc := 78) (tgt := 28) dX11_near_78 (by decide) ?_
        exact ih x2 (x3 + (1 : Int32)) _ h
      · have h := (if_neg hc8).symm.trans h
        refine M_iload_n (pc := 69) dX11_near_69 rfl ?_
        refine M_iconst (pc := 70) (v := 1) dX11_near_70 (by decide) ?_
        refine M_iload_n (pc := 71) dX11_near_71 rfl ?_
        refine M_ishl (pc := 72) dX11_near_72 ?_
        refine M_ior (pc := 73) dX11_near_73 ?_
        refine M_istore_n (pc := 74) (ls' := [some (.ref 1), some (.int x1), some (.int (x2 ||| ((1 : Int32) <<< (x3 &&& 31)))), some (.int x3)]) dX11_near_74 (by decide) rfl ?_
        refine M_iinc (pc := 75) (v := (x3 + (1 : Int32))) (ls' := [some (.ref 1), some (.int x1), some (.int (x2 ||| ((1 : Int32) <<< (x3 &&& 31)))), some (.int (x3 + (1 : Int32)))]) dX11_near_75 rfl rfl (by decide) rfl ?_
        refine M_goto (pc := 78) (tgt := 28) dX11_near_78 (by decide) ?_
        exact ih (x2 ||| ((1 : Int32) <<< (x3 &&& 31))) (x3 + (1 : Int32)) _ h
set_option maxRecDepth 4000 in
set_option maxHeartbeats 4000000 in
theorem C_X11_near {g : gX} {d : Nat} {P : Nat → Nat → Option Nat} {I : HI} {x1 : Int32} {J : HJ} (hp : Wp P) {r : (Int32 ⊕ String)} (h : F_X11_near I x1 = some r) : Cx g mX11_near (d + 6) [.ref 1, .int x1] (NT, I, J, P) ((thr_i r), (NT, I, J, P)) := by
  unfold F_X11_near at h
  refine Cx.of (by decide) (by simp [Value.category]) (Nat.le_of_ble_eq_true rfl) (Nat.le_refl _) (ls := [some (.ref 1), some (.int x1), none, none]) rfl ?_
  refine M_aload_n (pc := 0) dX11_near_0 rfl ?_
  refine M_getR (pc := 1) dX11_near_1 f_X11_23 at_10 (gc_1_3 hp).1 ?_
  refine M_getR (pc := 4) dX11_near_4 f_X11_148 (gc_1_3 hp).2 (gc_3_0 hp).1 ?_
  refine M_iload_n (pc := 7) dX11_near_7 rfl ?_
  obtain ⟨r1, hr2, h⟩ := bnd h
  refine M_callVi (pc := 8) dX11_near_8 v_X11_152 rfl rfl (gc_3_0 hp).2 (Nat.le_of_ble_eq_true rfl) (C_X1_has (d := d + 5) hp (gc_3_0 hp).2 hr2) (Nat.le_refl _) ?_
  refine M_if_ne (pc := 11) (tgt := 24) dX11_near_11 (by decide) (fun hc3 => ?_) (fun hc3 => ?_)
  · have h := (if_neg hc3).symm.trans h
    refine M_iconst (pc := 24) (v := 0) dX11_near_24 (by decide) ?_
    refine M_istore_n (pc := 25) (ls' := [some (.ref 1), some (.int x1), some (.int (0 : Int32)), none]) dX11_near_25 (by decide) rfl ?_
    refine M_iconst (pc := 26) (v := 0) dX11_near_26 (by decide) ?_
    refine M_istore_n (pc := 27) (ls' := [some (.ref 1), some (.int x1), some (.int (0 : Int32)), some (.int (0 : Int32))]) dX11_near_27 (by decide) rfl ?_
    exact LC_X11_near_28 (P := P) hp (0 : Int32) (0 : Int32) _ h
  · have h := (if_pos hc3).symm.trans h
    obtain rfl := Option.some.inj h
    exact M_throw (pc := 14) dX11_near_14 dX11_near_17 dX11_near_18 dX11_near_20 dX11_near_23 ⟨rfl, rfl, rfl, rfl⟩ x_X11_158 (j := 3) (by decide) str_X11_160 rfl rfl
