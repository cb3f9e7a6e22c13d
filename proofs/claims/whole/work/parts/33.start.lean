/-! the state behind both constructors -/
def zI : HI := fun _ _ => 0
def zJ : HJ := fun _ _ => 0
def zP : Nat → Nat → Option Nat := fun _ _ => none
def I0 : HI := nI_X12 (nI_X11 zI)
def P0 : Nat → Nat → Option Nat := nP_X12 (nP_X11 zP)
theorem zr0 (t : Nat) : zr t zI zJ zP := fun _ _ => ⟨rfl, rfl, rfl⟩
theorem zrA : zr 205 (nI_X11 zI) zJ (nP_X11 zP) := zr_X11 (zr0 2)
theorem zrB : zr 218 I0 zJ P0 := zr_X12 (zrA.mono (by decide))
/-- no reference beyond the 22nd place -/
def Bc (P : Nat → Nat → Option Nat) : Prop := ∀ a k, 22 ≤ k → P a k = none
theorem Bc.up {P : Nat → Nat → Option Nat} {a k : Nat} {x : Option Nat} (h : Bc P) (hk : k < 22) : Bc (up2 P a k x) := fun b j hj => by
  rw [up2_get, if_neg (fun q => by omega)]
  exact h b j hj
theorem bc_X1 {P : Nat → Nat → Option Nat} {a : Nat} (h : Bc P) : Bc (nP_X1 a P) := by
  unfold nP_X1; repeat (first | exact h | refine Bc.up ?_ (by decide))
theorem bc_X3 {P : Nat → Nat → Option Nat} {a : Nat} (h : Bc P) : Bc (nP_X3 a P) := by
  unfold nP_X3; repeat (first | exact h | refine Bc.up ?_ (by decide) | refine bc_X1 ?_)
theorem bc_X4 {P : Nat → Nat → Option Nat} {a : Nat} (h : Bc P) : Bc (nP_X4 a P) := by
  unfold nP_X4; repeat (first | exact h | refine Bc.up ?_ (by decide))
theorem bc_X7 {P : Nat → Nat → Option Nat} {a : Nat} (h : Bc P) : Bc (nP_X7 a P) := by
  unfold nP_X7; repeat (first | exact h | refine Bc.up ?_ (by decide))
theorem bc_X0 {P : Nat → Nat → Option Nat} (h : Bc P) : Bc (nP_X0 P) := by
  unfold nP_X0; repeat (first | exact h | refine Bc.up ?_ (by decide) | refine bc_X3 ?_ | refine bc_X7 ?_)
theorem bc_X9 {P : Nat → Nat → Option Nat} (h : Bc P) : Bc (nP_X9 P) := by
  unfold nP_X9; repeat (first | exact h | refine Bc.up ?_ (by decide))
theorem bc_X10_6 {P : Nat → Nat → Option Nat} (h : Bc P) : Bc (nP_X10_6 P) := by
  unfold nP_X10_6; repeat (first | exact h | refine Bc.up ?_ (by decide))
theorem bc_X6 {P : Nat → Nat → Option Nat} (h : Bc P) : Bc (nP_X6 P) := by
  unfold nP_X6; repeat (first | exact h | refine Bc.up ?_ (by decide) | refine bc_X3 ?_ | refine bc_X10_6 ?_)
theorem bc_X10_5 {P : Nat → Nat → Option Nat} (h : Bc P) : Bc (nP_X10_5 P) := by
  unfold nP_X10_5; repeat (first | exact h | refine Bc.up ?_ (by decide))
theorem bc_X5 {P : Nat → Nat → Option Nat} (h : Bc P) : Bc (nP_X5 P) := by
  unfold nP_X5; repeat (first | exact h | refine Bc.up ?_ (by decide) | refine bc_X4 ?_ | refine bc_X10_5 ?_)
theorem bc_X8 {P : Nat → Nat → Option Nat} (h : Bc P) : Bc (nP_X8 P) := by
  unfold nP_X8; repeat (first | exact h | refine Bc.up ?_ (by decide) | refine bc_X3 ?_)
theorem bc_X2 {P : Nat → Nat → Option Nat} (h : Bc P) : Bc (nP_X2 P) := by
  unfold nP_X2; repeat (first | exact h | refine Bc.up ?_ (by decide))
theorem bc_X11 {P : Nat → Nat → Option Nat} (h : Bc P) : Bc (nP_X11 P) := by
  unfold nP_X11; repeat (first | exact h | refine Bc.up ?_ (by decide) | refine bc_X3 ?_ | refine bc_X4 ?_ | refine bc_X7 ?_ | refine bc_X0 ?_ | refine bc_X9 ?_ | refine bc_X6 ?_ | refine bc_X5 ?_ | refine bc_X8 ?_ | refine bc_X2 ?_)
theorem bc_X12 {P : Nat → Nat → Option Nat} (h : Bc P) : Bc (nP_X12 P) := by
  unfold nP_X12; repeat (first | exact h | refine Bc.up ?_ (by decide))
theorem bc0 : Bc P0 := bc_X12 (bc_X11 (fun _ _ _ => rfl))
theorem pt_far : (ptL.all fun r => decide (r.1 < 219) && r.2.all fun q => decide (q.1 < 22)) = true := by decide +kernel
theorem PT_far {a k : Nat} (h : 219 ≤ a ∨ 22 ≤ k) : PT a k = none := by
  unfold PT
  split
  · rename_i r hr
    have h1 := List.all_eq_true.mp pt_far r (List.mem_of_find?_eq_some hr)
    simp only [Bool.and_eq_true, decide_eq_true_eq] at h1
    have h2 := List.find?_some hr
    simp only [beq_iff_eq] at h2
    split
    · rename_i q hq
      have h3 := List.all_eq_true.mp h1.2 q (List.mem_of_find?_eq_some hq)
      have h4 := List.find?_some hq
      simp only [beq_iff_eq] at h4
      simp only [decide_eq_true_eq] at h3
      omega
    · rfl
  · rfl
theorem wp0_all : ((List.range 219).all fun a => (List.range 22).all fun k => decide (P0 a k = PT a k) || (decide (k = 0) && (decide ((LT a).1 = 5) || decide ((LT a).1 = 6)))) = true := by decide +kernel
theorem wp0 : Wp P0 := by
  intro a k hn
  rcases Nat.lt_or_ge a 219 with ha | ha
  · rcases Nat.lt_or_ge k 22 with hk | hk
    · have h := List.all_eq_true.mp (List.all_eq_true.mp wp0_all a (List.mem_range.mpr ha)) k (List.mem_range.mpr hk)
      simp only [Bool.or_eq_true, Bool.and_eq_true, decide_eq_true_eq] at h
      rcases h with h | h
      · exact h
      · exact absurd ⟨h.2, h.1⟩ hn
    · rw [bc0 a k hk, PT_far (Or.inr hk)]
  · rw [(zrB a (by omega)).2.2, PT_far (Or.inl ha)]
