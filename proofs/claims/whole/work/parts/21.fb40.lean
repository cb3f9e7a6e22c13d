def L_X11_serve_47 (I : HI) (x2 : Int32) (x3 : Int32) (x4 : Int32) (x5 : Int32) : Option ((Int32 ⊕ String) × HI) :=
  if (I 4 0) ≤ x5 then some ((Sum.inl x3), I) else (F_X11_greaterPart I x5 x2) >>= fun r10 => (F_X1_isHad I 4 x5) >>= fun r12 => if r12 = 0 then L_X11_serve_47 I x2 x3 x4 (x5 + (1 : Int32)) else if x4 ≤ r10 then L_X11_serve_47 I x2 x3 x4 (x5 + (1 : Int32)) else L_X11_serve_47 I x2 x5 r10 (x5 + (1 : Int32))
partial_fixpoint
def F_X11_serve (I : HI) : Option ((Int32 ⊕ String) × HI) :=
  (F_X11_takeTape I) >>= fun r1 => if r1.1 ≤ (20 : Int32) then (F_X11_fitting r1.2 r1.1) >>= fun r4 => (F_J6_bitCount_0f7a4 r1.2 r4) >>= fun r6 => if (2 : Int32) ≤ r6 then L_X11_serve_47 r1.2 r4 (-1 : Int32) (13 : Int32) (0 : Int32) else some ((Sum.inl (-1 : Int32)), r1.2) else some ((Sum.inr "java/lang/IllegalArgumentException"), r1.2)
set_option maxRecDepth 4000 in
set_option maxHeartbeats 4000000 in
theorem LC_X11_serve_47 {g : gX} {d : Nat} {P : Nat → Nat → Option Nat} {J : HJ} {I : HI} {x2 : Int32} (hp : Wp P) : ∀ (x3 : Int32) (x4 : Int32) (x5 : Int32) (r : (Int32 ⊕ String) × HI), L_X11_serve_47 I x2 x3 x4 x5 = some r → M g mX11_serve (d + 6) (NT, NT, 1) ((thr_i r.1), (NT, r.2, J, P)) 47 [some (.ref 1), none, some (.int x2), some (.int x3), some (.int x4), some (.int x5), none] [] (NT, I, J, P) := by
  refine L_X11_serve_47.partial_correctness I x2 (fun x3 x4 x5 r => M g mX11_serve (d + 6) (NT, NT, 1) ((thr_i r.1), (NT, r.2, J, P)) 47 [some (.ref 1), none, some (.int x2), some (.int x3), some (.int x4), some (.int x5), none] [] (NT, I, J, P)) ?_
  intro f ih x3 x4 x5 r h
  refine M_iload (pc := 47) dX11_serve_47 rfl ?_
  refine M_aload_n (pc := 49) dX11_serve_49 rfl ?_
  refine M_getR (pc := 50) dX11_serve_50 f_X11_23 at_10 (gc_1_3 hp).1 ?_
  refine M_getR (pc := 53) dX11_serve_53 f_X11_148 (gc_1_3 hp).2 (gc_3_0 hp).1 ?_
  refine M_getI (pc := 56) dX11_serve_56 f_X11_211 (gc_3_0 hp).2 ?_
  refine M_icmp_ge (pc := 59) (tgt := 106) dX11_serve_59 (by decide) (fun hc9 => ?_) (fun hc9 => ?_)
  · have h := (if_pos hc9).symm.trans h
    refine M_iload_n (pc := 106) dX11_serve_106 rfl ?_
    obtain rfl := Option.some.inj h
    exact M_iret (pc := 107) dX11_serve_107 rfl rfl rfl rfl
  · have h := (if_neg hc9).symm.trans h
    refine M_aload_n (pc := 62) dX11_serve_62 rfl ?_
    refine M_iload (pc := 63) dX11_serve_63 rfl ?_
    refine M_iload_n (pc := 65) dX11_serve_65 rfl ?_
    obtain ⟨r10, hr11, h⟩ := bnd h
    refine M_callVi (pc := 66) dX11_serve_66 v_X11_344 rfl rfl at_10 (Nat.le_of_ble_eq_true rfl) (C_X11_greaterPart (d := d + 4) hp hr11) (Nat.le_refl _) ?_
    refine M_istore (pc := 69) (ls' := [some (.ref 1), none, some (.int x2), some (.int x3), some (.int x4), some (.int x5), some (.int r10)]) dX11_serve_69 (by decide) rfl ?_
    refine M_aload_n (pc := 71) dX11_serve_71 rfl ?_
    refine M_getR (pc := 72) dX11_serve_72 f_X11_23 at_10 (gc_1_3 hp).1 ?_
    refine M_getR (pc := 75) dX11_serve_75 f_X11_148 (gc_1_3 hp).2 (gc_3_0 hp).1 ?_
    refine M_iload (pc := 78) dX11_serve_78 rfl ?_
    obtain ⟨r12, hr13, h⟩ := bnd h
    refine M_callVi (pc := 80) dX11_serve_80 v_X11_265 rfl rfl (gc_3_0 hp).2 (Nat.le_of_ble_eq_true rfl) (C_X1_isHad (d := d + 4) hp (gc_3_0 hp).2 hr13) (Nat.le_refl _) ?_
    refine M_if_eq (pc := 83) (tgt := 100) dX11_serve_83 (by decide) (fun hc14 => ?_) (fun hc14 => ?_)
    · have h := (if_pos hc14).symm.trans h
      refine M_iinc (pc := 100) (v := (x5 + (1 : Int32))) (ls' := [some (.ref 1), none, some (.int x2), some (.int x3), some (.int x4), some (.int (x5 + (1 : Int32))), some (.int r10)]) dX11_serve_100 rfl rfl (by decide) rfl ?_
      refine M_goto (pc := 103) (tgt := 47) dX11_serve_103 (by decide) ?_
      refine M_mask (pc := 47) [true, false, true, true, true, true, false] rfl ?_
      exact ih x3 x4 (x5 + (1 : Int32)) _ h
    · have h := (if_neg hc14).symm.trans h
      refine M_iload (pc := 86) dX11_serve_86 rfl ?_
      refine M_iload (pc := 88) dX11_serve_88 rfl ?_
      refine M_icmp_ge (pc := 90) (tgt := 100) dX11_serve_90 (by decide) (fun hc15 => ?_) (fun hc15 => ?_)
      · have h := (if_pos hc15).symm.trans h
        refine M_iinc (pc := 100) (v := (x5 + (1 : Int32))) (ls' := [some (.ref 1), none, some (.int x2), some (.int x3), some (.int x4), some (.int (x5 + (1 : Int32))), some (.int r10)]) dX11_serve_100 rfl rfl (by decide) rfl ?_
        refine M_goto (pc := 103) (tgt := 47) dX11_serve_103 (by decide) ?_
        refine M_mask (pc := 47) [true, false, true, true, true, true, false] rfl ?_
        exact ih x3 x4 (x5 + (1 : Int32)) _ h
      · have h := (if_neg hc15).symm.trans h
        refine M_iload (pc := 93) dX11_serve_93 rfl ?_
        refine M_istore (pc := 95) (ls' := [some (.ref 1), none, some (.int x2), some (.int x3), some (.int r10), some (.int x5), some (.int r10)]) dX11_serve_95 (by decide) rfl ?_
        refine M_iload (pc := 97) dX11_serve_97 rfl ?_
        refine M_istore_n (pc := 99) (ls' := [some (.ref 1), none, some (.int x2), some (.int x5), some (.int r10), some (.int x5), some (.int r10)]) dX11_serve_99 (by decide) rfl ?_
        refine M_iinc (pc := 100) (v := (x5 + (1 : Int32))) (ls' := [some (.ref 1), none, some (.int x2), some (.int x5), some (.int r10), some (.int (x5 + (1 : Int32))), some (.int r10)]) dX11_serve_100 rfl rfl (by decide) rfl ?_
        refine M_goto (pc := 103) (tgt := 47) dX11_serve_103 (by decide) ?_
        refine M_mask (pc := 47) [true, false, true, true, true, true, false] rfl ?_
        exact ih x5 r10 (x5 + (1 : Int32)) _ h
set_option maxRecDepth 4000 in
set_option maxHeartbeats 4000000 in
theorem C_X11_serve {g : gX} {d : Nat} {P : Nat → Nat → Option Nat} {I : HI} {J : HJ} (hp : Wp P) {r : (Int32 ⊕ String) × HI} (h : F_X11_serve I = some r) : Cx g mX11_serve (d + 6) [.ref 1] (NT, I, J, P) ((thr_i r.1), (NT, r.2, J, P)) := by
  unfold F_X11_serve at h
  refine Cx.of (by decide) (by simp [Value.category]) (Nat.le_of_ble_eq_true rfl) (Nat.le_refl _) (ls := [some (.ref 1), none, none, none, none, none, none]) rfl ?_
  refine M_aload_n (pc := 0) dX11_serve_0 rfl ?_
  obtain ⟨r1, hr2, h⟩ := bnd h
  refine M_callVi (pc := 1) dX11_serve_1 v_X11_110 rfl rfl at_10 (Nat.le_of_ble_eq_true rfl) (C_X11_takeTape (d := d + 5) hp hr2) (Nat.le_refl _) ?_
  refine M_istore_n (pc := 4) (ls' := [some (.ref 1), some (.int r1.1), none, none, none, none, none]) dX11_serve_4 (by decide) rfl ?_
  refine M_iload_n (pc := 5) dX11_serve_5 rfl ?_
  refine M_bipush (pc := 6) (v := 20) dX11_serve_6 (by decide) ?_
  refine M_icmp_le (pc := 8) (tgt := 22) dX11_serve_8 (by decide) (fun hc3 => ?_) (fun hc3 => ?_)
  · have h := (if_pos hc3).symm.trans h
    refine M_aload_n (pc := 22) dX11_serve_22 rfl ?_
    refine M_iload_n (pc := 23) dX11_serve_23 rfl ?_
    obtain ⟨r4, hr5, h⟩ := bnd h
    refine M_callVi (pc := 24) dX11_serve_24 v_X11_338 rfl rfl at_10 (Nat.le_of_ble_eq_true rfl) (C_X11_fitting (d := d + 3) hp hr5) (Nat.le_refl _) ?_
    refine M_istore_n (pc := 27) (ls' := [some (.ref 1), some (.int r1.1), some (.int r4), none, none, none, none]) dX11_serve_27 (by decide) rfl ?_
    refine M_iload_n (pc := 28) dX11_serve_28 rfl ?_
    obtain ⟨r6, hr7, h⟩ := bnd h
    refine M_callSi (pc := 29) dX11_serve_29 s_X11_311 rfl rfl (Nat.le_of_ble_eq_true rfl) (C_J6_bitCount_0f7a4 (d := d + 5) hp hr7) (Nat.le_refl _) ?_
    refine M_iconst (pc := 32) (v := 2) dX11_serve_32 (by decide) ?_
    refine M_icmp_ge (pc := 33) (tgt := 38) dX11_serve_33 (by decide) (fun hc8 => ?_) (fun hc8 => ?_)
    · have h := (if_pos hc8).symm.trans h
      refine M_iconst (pc := 38) (v := -1) dX11_serve_38 (by decide) ?_
      refine M_istore_n (pc := 39) (ls' := [some (.ref 1), some (.int r1.1), some (.int r4), some (.int (-1 : Int32)), none, none, none]) dX11_serve_39 (by decide) rfl ?_
      refine M_bipush (pc := 40) (v := 13) dX11_serve_40 (by decide) ?_
      refine M_istore (pc := 42) (ls' := [some (.ref 1), some (.int r1.1), some (.int r4), some (.int (-1 : Int32)), some (.int (13 : Int32)), none, none]) dX11_serve_42 (by decide) rfl ?_
      refine M_iconst (pc := 44) (v := 0) dX11_serve_44 (by decide) ?_
      refine M_istore (pc := 45) (ls' := [some (.ref 1), some (.int r1.1), some (.int r4), some (.int (-1 : Int32)), some (.int (13 : Int32)), some (.int (0 : Int32)), none]) dX11_serve_45 (by decide) rfl ?_
      refine M_mask (pc := 47) [true, false, true, true, true, true, false] rfl ?_
      exact LC_X11_serve_47 (P := P) hp (-1 : Int32) (13 : Int32) (0 : Int32) _ h
    · have h := (if_neg hc8).symm.trans h
      refine M_iconst (pc := 36) (v := -1) dX11_serve_36 (by decide) ?_
      obtain rfl := Option.some.inj h
      exact M_iret (pc := 37) dX11_serve_37 rfl rfl rfl rfl
  · have h := (if_neg hc3).symm.trans h
    obtain rfl := Option.some.inj h
    exact M_throwW (pc := 11) dX11_serve_11 dX11_serve_14 dX11_serve_15 dX11_serve_18 dX11_serve_21 ⟨rfl, rfl, rfl, rfl⟩ x_X11_118 (j := 17) (by decide) str_X11_336 rfl rfl
