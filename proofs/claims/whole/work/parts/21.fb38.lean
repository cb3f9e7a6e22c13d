def F_X11_undo (I : HI) : Option (Int32 × HI) :=
  (F_X0_recall I 3 15) >>= fun r1 => if r1.1 = 0 ∨ r1.1 = 1 then some (r1.1, r1.2) else none
set_option maxRecDepth 4000 in
set_option maxHeartbeats 4000000 in
theorem C_X11_undo {g : gX} {d : Nat} {P : Nat → Nat → Option Nat} {I : HI} {J : HJ} (hp : Wp P) {r : Int32 × HI} (h : F_X11_undo I = some r) : Cm g mX11_undo (d + 4) [.ref 1] (NT, I, J, P) (some (.int r.1)) (NT, r.2, J, P) := by
  unfold F_X11_undo at h
  refine Cm.of (by decide) (by simp [Value.category]) (Nat.le_of_ble_eq_true rfl) (Nat.le_refl _) (ls := [some (.ref 1)]) rfl ?_
  refine M_aload_n (pc := 0) dX11_undo_0 rfl ?_
  refine M_getR (pc := 1) dX11_undo_1 f_X11_44 at_10 (gc_1_6 hp).1 ?_
  refine M_aload_n (pc := 4) dX11_undo_4 rfl ?_
  refine M_getR (pc := 5) dX11_undo_5 f_X11_23 at_10 (gc_1_3 hp).1 ?_
  refine M_aload_n (pc := 8) dX11_undo_8 rfl ?_
  refine M_getR (pc := 9) dX11_undo_9 f_X11_37 at_10 (gc_1_5 hp).1 ?_
  obtain ⟨r1, hr2, h⟩ := bnd h
  refine M_callVi (pc := 12) dX11_undo_12 v_X11_413 rfl rfl (gc_1_6 hp).2 (Nat.le_of_ble_eq_true rfl) (C_X0_recall (d := d + 0) hp (gc_1_3 hp).2 (gc_1_5 hp).2 hr2) (Nat.le_refl _) ?_
  obtain ⟨hq3, h⟩ := chk h
  obtain rfl := Option.some.inj h
  exact M_iret (pc := 15) dX11_undo_15 rfl (by rcases hq3 with q | q <;> rw [q] <;> rfl) rfl rfl
