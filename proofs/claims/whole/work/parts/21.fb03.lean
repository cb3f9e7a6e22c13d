def L_X11_toldAtMost_2 (I : HI) (x1 : Int32) (x2 : Int32) (x3 : Int32) : Option (Int32) :=
  if x1 ≤ x3 then some (1 : Int32) else if (400 : Int32) ≤ x3 then some (1 : Int32) else (ald 400 (I 2) x3) >>= fun v3 => if v3 ≤ x2 then L_X11_toldAtMost_2 I x1 x2 (x3 + (1 : Int32)) else some (0 : Int32)
partial_fixpoint
def F_X11_toldAtMost (I : HI) (x1 : Int32) (x2 : Int32) : Option (Int32) :=
  L_X11_toldAtMost_2 I x1 x2 (0 : Int32)
set_option maxRecDepth 4000 in
set_option maxHeartbeats 4000000 in
theorem LC_X11_toldAtMost_2 {g : gX} {d : Nat} {P : Nat → Nat → Option Nat} {J : HJ} {I : HI} {x1 : Int32} {x2 : Int32} (hp : Wp P) : ∀ (x3 : Int32) (r : Int32), L_X11_toldAtMost_2 I x1 x2 x3 = some r → M g mX11_toldAtMost (d + 0) (NT, NT, 0) ((.inl (some (.int r))), (NT, I, J, P)) 2 [some (.ref 1), some (.int x1), some (.int x2), some (.int x3)] [] (NT, I, J, P) := by
  refine L_X11_toldAtMost_2.partial_correctness I x1 x2 (fun x3 r => M g mX11_toldAtMost (d + 0) (NT, NT, 0) ((.inl (some (.int r))), (NT, I, J, P)) 2 [some (.ref 1), some (.int x1), some (.int x2), some (.int x3)] [] (NT, I, J, P)) ?_
  intro f ih x3 r h
  refine M_iload_n (pc := 2) dX11_toldAtMost_2 rfl ?_
  refine M_iload_n (pc := 3) dX11_toldAtMost_3 rfl ?_
  refine M_icmp_ge (pc := 4) (tgt := 32) dX11_toldAtMost_4 (by decide) (fun hc1 => ?_) (fun hc1 => ?_)
  · have h := (if_pos hc1).symm.trans h
    refine M_iconst (pc := 32) (v := 1) dX11_toldAtMost_32 (by decide) ?_
    obtain rfl := Option.some.inj h
    exact M_iret (pc := 33) dX11_toldAtMost_33 rfl rfl rfl rfl
  · have h := (if_neg hc1).symm.trans h
    refine M_iload_n (pc := 7) dX11_toldAtMost_7 rfl ?_
    refine M_sipush (pc := 8) (v := 400) dX11_toldAtMost_8 (by decide) ?_
    refine M_icmp_ge (pc := 11) (tgt := 32) dX11_toldAtMost_11 (by decide) (fun hc2 => ?_) (fun hc2 => ?_)
    · have h := (if_pos hc2).symm.trans h
      refine M_iconst (pc := 32) (v := 1) dX11_toldAtMost_32 (by decide) ?_
      obtain rfl := Option.some.inj h
      exact M_iret (pc := 33) dX11_toldAtMost_33 rfl rfl rfl rfl
    · have h := (if_neg hc2).symm.trans h
      refine M_aload_n (pc := 14) dX11_toldAtMost_14 rfl ?_
      refine M_getR (pc := 15) dX11_toldAtMost_15 f_X11_9 at_10 (gc_1_0 hp).1 ?_
      refine M_iload_n (pc := 18) dX11_toldAtMost_18 rfl ?_
      obtain ⟨v3, hv4, h⟩ := bnd h
      refine M_aldI (pc := 19) dX11_toldAtMost_19 (gc_1_0 hp).2 hv4 ?_
      refine M_iload_n (pc := 20) dX11_toldAtMost_20 rfl ?_
      refine M_icmp_le (pc := 21) (tgt := 26) dX11_toldAtMost_21 (by decide) (fun hc5 => ?_) (fun hc5 => ?_)
      · have h := (if_pos hc5).symm.trans h
        refine M_iinc (pc := 26) (v := (x3 + (1 : Int32))) (ls' := [some (.ref 1), some (.int x1), some (.int x2), some (.int (x3 + (1 : Int32)))]) dX11_toldAtMost_26 rfl rfl (by decide) rfl ?_
        refine M_goto (pc := 29) (tgt := 2) dX11_toldAtMost_29 (by decide) ?_
        exact ih (x3 + (1 : Int32)) _ h
      · have h := (if_neg hc5).symm.trans h
        refine M_iconst (pc := 24) (v := 0) dX11_toldAtMost_24 (by decide) ?_
        obtain rfl := Option.some.inj h
        exact M_iret (pc := 25) dX11_toldAtMost_25 rfl rfl rfl rfl
set_option maxRecDepth 4000 in
set_option maxHeartbeats 4000000 in
theorem C_X11_toldAtMost {g : gX} {d : Nat} {P : Nat → Nat → Option Nat} {I : HI} {x1 : Int32} {x2 : Int32} {J : HJ} (hp : Wp P) {r : Int32} (h : F_X11_toldAtMost I x1 x2 = some r) : Cm g mX11_toldAtMost (d + 0) [.ref 1, .int x1, .int x2] (NT, I, J, P) (some (.int r)) (NT, I, J, P) := by
  unfold F_X11_toldAtMost at h
  refine Cm.of (by decide) (by simp [Value.category]) (Nat.le_of_ble_eq_true rfl) (Nat.le_refl _) (ls := [some (.ref 1), some (.int x1), some (.int x2), none]) rfl ?_
  refine M_iconst (pc := 0) (v := 0) dX11_toldAtMost_0 (by decide) ?_
  refine M_istore_n (pc := 1) (ls' := [some (.ref 1), some (.int x1), some (.int x2), some (.int (0 : Int32))]) dX11_toldAtMost_1 (by decide) rfl ?_
  exact LC_X11_toldAtMost_2 (P := P) hp (0 : Int32) _ h
