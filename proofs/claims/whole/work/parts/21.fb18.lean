def F_X11_slipParts : Nat → HI → Int32 → Int32 → Int32 → Option (Int64)
  | 0, _, _, _, _ => none
  | q + 1, I, x0, x1, x2 => if 0 < x0 then ((F_X11_slipParts q) I (x0 - (1 : Int32)) (x1 - (1 : Int32)) x2) >>= fun r2 => ((F_X11_slipParts q) I (x0 - (1 : Int32)) x1 x2) >>= fun r4 => some (((x2).toInt64 * r2) + ((((100 : Int32) - x2)).toInt64 * r4)) else if 0 < x1 then some (0 : Int64) else some (1 : Int64)
set_option maxRecDepth 4000 in
set_option maxHeartbeats 4000000 in
theorem C_X11_slipParts {g : gX} {P : Nat → Nat → Option Nat} (hp : Wp P) : ∀ (q : Nat) {d : Nat} {J : HJ} (I : HI) (x0 : Int32) (x1 : Int32) (x2 : Int32)  (r : Int64), F_X11_slipParts q I x0 x1 x2 = some r → Cm g mX11_slipParts (d + 1 * q + 8) [.int x0, .int x1, .int x2] (NT, I, J, P) (some (.long r)) (NT, I, J, P) := by
  intro q
  induction q with
  | zero => intro d J I x0 x1 x2  r h; cases h
  | succ q ih =>
  intro d0 J I x0 x1 x2  r h
  obtain ⟨d, hd⟩ : ∃ d, d = d0 + 1 * q := ⟨_, rfl⟩
  rw [show d0 + 1 * (q + 1) + 8 = d + 9 by omega]
  have hrc : ∀ (e : Nat) {J : HJ} (I : HI) (x0 : Int32) (x1 : Int32) (x2 : Int32)  (r : Int64), F_X11_slipParts q I x0 x1 x2 = some r → _ := fun e {J} I x0 x1 x2  r h9 => ih (d := d0 + e) (J := J) I x0 x1 x2  r h9
  simp only [show ∀ e, d0 + e + 1 * q + 8 = d + e + 8 from fun e => by omega] at hrc
  unfold F_X11_slipParts at h
  refine Cm.of (by decide) (by simp [Value.category]) (Nat.le_of_ble_eq_true rfl) (Nat.le_refl _) (ls := [some (.int x0), some (.int x1), some (.int x2)]) rfl ?_
  refine M_iload_n (pc := 0) dX11_slipParts_0 rfl ?_
  refine M_if_gt (pc := 1) (tgt := 14) dX11_slipParts_1 (by decide) (fun hc1 => ?_) (fun hc1 => ?_)
  · have h := (if_pos hc1).symm.trans h
    refine M_iload_n (pc := 14) dX11_slipParts_14 rfl ?_
    refine M_i2l (pc := 15) dX11_slipParts_15 ?_
    refine M_iload_n (pc := 16) dX11_slipParts_16 rfl ?_
    refine M_iconst (pc := 17) (v := 1) dX11_slipParts_17 (by decide) ?_
    refine M_isub (pc := 18) dX11_slipParts_18 ?_
    refine M_iload_n (pc := 19) dX11_slipParts_19 rfl ?_
    refine M_iconst (pc := 20) (v := 1) dX11_slipParts_20 (by decide) ?_
    refine M_isub (pc := 21) dX11_slipParts_21 ?_
    refine M_iload_n (pc := 22) dX11_slipParts_22 rfl ?_
    obtain ⟨r2, hr3, h⟩ := bnd h
    refine M_callSi (pc := 23) dX11_slipParts_23 s_X11_383 rfl rfl (Nat.le_of_ble_eq_true rfl) (hrc 0 _ _ _ _  _ hr3) (Nat.le_refl _) ?_
    refine M_lmul (pc := 26) dX11_slipParts_26 ?_
    refine M_bipush (pc := 27) (v := 100) dX11_slipParts_27 (by decide) ?_
    refine M_iload_n (pc := 29) dX11_slipParts_29 rfl ?_
    refine M_isub (pc := 30) dX11_slipParts_30 ?_
    refine M_i2l (pc := 31) dX11_slipParts_31 ?_
    refine M_iload_n (pc := 32) dX11_slipParts_32 rfl ?_
    refine M_iconst (pc := 33) (v := 1) dX11_slipParts_33 (by decide) ?_
    refine M_isub (pc := 34) dX11_slipParts_34 ?_
    refine M_iload_n (pc := 35) dX11_slipParts_35 rfl ?_
    refine M_iload_n (pc := 36) dX11_slipParts_36 rfl ?_
    obtain ⟨r4, hr5, h⟩ := bnd h
    refine M_callSi (pc := 37) dX11_slipParts_37 s_X11_383 rfl rfl (Nat.le_of_ble_eq_true rfl) (hrc 0 _ _ _ _  _ hr5) (Nat.le_refl _) ?_
    refine M_lmul (pc := 40) dX11_slipParts_40 ?_
    refine M_ladd (pc := 41) dX11_slipParts_41 ?_
    obtain rfl := Option.some.inj h
    exact M_lret (pc := 42) dX11_slipParts_42 rfl rfl rfl
  · have h := (if_neg hc1).symm.trans h
    refine M_iload_n (pc := 4) dX11_slipParts_4 rfl ?_
    refine M_if_gt (pc := 5) (tgt := 12) dX11_slipParts_5 (by decide) (fun hc6 => ?_) (fun hc6 => ?_)
    · have h := (if_pos hc6).symm.trans h
      refine M_lconst (pc := 12) (v := 0) dX11_slipParts_12 (by decide) ?_
      obtain rfl := Option.some.inj h
      exact M_lret (pc := 13) dX11_slipParts_13 rfl rfl rfl
    · have h := (if_neg hc6).symm.trans h
      refine M_lconst (pc := 8) (v := 1) dX11_slipParts_8 (by decide) ?_
      refine M_goto (pc := 9) (tgt := 13) dX11_slipParts_9 (by decide) ?_
      obtain rfl := Option.some.inj h
      exact M_lret (pc := 13) dX11_slipParts_13 rfl rfl rfl
