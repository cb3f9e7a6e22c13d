/-! what the printed functions are made of, and rules in their terms -/
abbrev HI : Type := Nat → Nat → Int32
abbrev HJ : Type := Nat → Nat → Int64
def inB (i : Int32) (n : Nat) : Bool := !(decide (i < 0)) && decide (i.toNatClampNeg < n)
def ald {α : Type} (n : Nat) (f : Nat → α) (i : Int32) : Option α := if inB i n = true then some (f i.toNatClampNeg) else none
theorem inB_in {i : Int32} {n : Nat} (h : inB i n = true) : vp_in i n := by
  simp only [inB, Bool.and_eq_true, Bool.not_eq_true', decide_eq_false_iff_not, decide_eq_true_eq] at h
  intro q
  rcases q with q | q
  · exact h.1 q
  · omega
theorem inB_lt {i : Int32} {n : Nat} (h : inB i n = true) : i.toNatClampNeg < n := by
  simp only [inB, Bool.and_eq_true, decide_eq_true_eq] at h
  exact h.2
theorem ald_some {α : Type} {n : Nat} {f : Nat → α} {i : Int32} {v : α} (h : ald n f i = some v) : inB i n = true ∧ f i.toNatClampNeg = v := by
  unfold ald at h
  by_cases q : inB i n = true
  · rw [if_pos q] at h; exact ⟨q, Option.some.inj h⟩
  · rw [if_neg q] at h; cases h
theorem bnd {α β : Type} {x : Option α} {f : α → Option β} {r : β} (h : (x >>= f) = some r) : ∃ v, x = some v ∧ f v = some r := by
  cases x with
  | none => cases h
  | some v => exact ⟨v, rfl, h⟩
theorem chk {p : Prop} [Decidable p] {α : Type} {x : Option α} {r : α} (h : (if p then x else none) = some r) : p ∧ x = some r := by
  by_cases q : p
  · rw [if_pos q] at h; exact ⟨q, h⟩
  · rw [if_neg q] at h; cases h
/-- fewer locals are known -/
def lmask : List (Option Value) → List Bool → List (Option Value)
  | o :: r, b :: bs => (if b = true then o else none) :: lmask r bs
  | _, _ => []
theorem lmask_get {v : Value} : ∀ {ls : List (Option Value)} {bs : List Bool} {i : Nat}, (lmask ls bs)[i]? = some (some v) → ls[i]? = some (some v)
  | [], bs, i, h => by simp [lmask] at h
  | o :: r, [], i, h => by simp [lmask] at h
  | o :: r, b :: bs, 0, h => by
    simp only [lmask, List.getElem?_cons_zero] at h ⊢
    by_cases q : b = true
    · rw [if_pos q] at h; exact h
    · rw [if_neg q] at h; simp at h
  | o :: r, b :: bs, i + 1, h => by
    simp only [lmask, List.getElem?_cons_succ] at h ⊢
    exact lmask_get h
section
variable {g : gX} {μ : mX} {d pc : Nat} {tt : tX} {R : rX} {ls ls' : List (Option Value)} {st : List Value} {S S' : hS} {t : Nat} {I : Nat → Nat → Int32} {J : Nat → Nat → Int64} {P : Nat → Nat → Option Nat}
theorem M_mask (bs : List Bool) (hm : lmask ls bs = ls') (k : M g μ d tt R pc ls' st S) : M g μ d tt R pc ls st S := by
  intro p e s m args below meth c A F H locs la h1 h2 h3 h4 h5
  refine k p e s m args below meth c A F H locs la h1 h2 ⟨h3.1, h3.2.1, fun q hq => ?_⟩ h4 h5
  obtain ⟨i, v, hv, rfl⟩ := lvl_mem.mp hq
  rw [← hm] at hv
  exact h3.2.2 _ (lvl_mem.mpr ⟨i, v, lmask_get hv, rfl⟩)
theorem M_aldI {a n : Nat} {i v : Int32} (hd : decode μ.2.1 pc = .ok (.iaload, 1)) (ho : AR t a 13 n) (hv : ald n (I a) i = some v) (kk : M g μ d tt R (pc + 1) ls (.int v :: st) (t, I, J, P)) : M g μ d tt R pc ls (.int i :: .ref a :: st) (t, I, J, P) := by
  obtain ⟨h1, h2⟩ := ald_some hv
  subst h2
  exact M_iald hd ho (inB_in h1) kk
theorem M_aldB {a n : Nat} {i v : Int32} (hd : decode μ.2.1 pc = .ok (.baload, 1)) (ho : AR t a 12 n) (hv : ald n (I a) i = some v) (kk : M g μ d tt R (pc + 1) ls (.int v :: st) (t, I, J, P)) : M g μ d tt R pc ls (.int i :: .ref a :: st) (t, I, J, P) := by
  obtain ⟨h1, h2⟩ := ald_some hv
  subst h2
  exact M_bald hd ho (inB_in h1) kk
theorem M_aldJ {a n : Nat} {i : Int32} {v : Int64} (hd : decode μ.2.1 pc = .ok (.laload, 1)) (ho : AR t a 14 n) (hv : ald n (J a) i = some v) (kk : M g μ d tt R (pc + 1) ls (.long v :: st) (t, I, J, P)) : M g μ d tt R pc ls (.int i :: .ref a :: st) (t, I, J, P) := by
  obtain ⟨h1, h2⟩ := ald_some hv
  subst h2
  exact M_lald hd ho (inB_in h1) kk
/-- an index that is a constant -/
theorem M_ildc {a n j : Nat} {i : Int32} (hd : decode μ.2.1 pc = .ok (.iaload, 1)) (ho : AR t a 13 n) (hi : inB i n = true) (hj : i.toNatClampNeg = j) (kk : M g μ d tt R (pc + 1) ls (.int (I a j) :: st) (t, I, J, P)) : M g μ d tt R pc ls (.int i :: .ref a :: st) (t, I, J, P) := by
  subst hj
  exact M_iald hd ho (inB_in hi) kk
theorem M_istc {a n j : Nat} {i x : Int32} (hd : decode μ.2.1 pc = .ok (.iastore, 1)) (ho : AR t a 13 n) (hi : inB i n = true) (hj : i.toNatClampNeg = j) (kk : M g μ d tt R (pc + 1) ls st (t, up2 I a j x, J, P)) : M g μ d tt R pc ls (.int x :: .int i :: .ref a :: st) (t, I, J, P) := by
  subst hj
  exact M_iast hd ho (inB_in hi) kk
theorem M_lstc {a n j : Nat} {i : Int32} {x : Int64} (hd : decode μ.2.1 pc = .ok (.lastore, 1)) (ho : AR t a 14 n) (hi : inB i n = true) (hj : i.toNatClampNeg = j) (kk : M g μ d tt R (pc + 1) ls st (t, I, up2 J a j x, P)) : M g μ d tt R pc ls (.long x :: .int i :: .ref a :: st) (t, I, J, P) := by
  subst hj
  exact M_last hd ho (inB_in hi) kk
theorem M_callVi {μ' : mX} {idx c n b : Nat} {As : List Value} {w : Value} {st0 : List Value} (hd : decode μ.2.1 pc = .ok (.invokevirtual idx, 3)) (hf : VF μ.1.cls idx c μ' n) (hn : As.length = n) (hst : st0 = As.reverse ++ .ref b :: st) (ho : OB S.1 b c) (hr : (st.map fun v => v.category).sum ≤ 8) (hC : Cm g μ' d (.ref b :: As) S (some w) S') (ht : S'.1 ≤ tt.2.1)
    (k : M g μ (d + 1) tt R (pc + 3) ls (w :: st) S') : M g μ (d + 1) tt R pc ls st0 S := M_callV hd hf hn hst ho hr hC ht k
theorem M_callVv {μ' : mX} {idx c n b : Nat} {As : List Value} {st0 : List Value} (hd : decode μ.2.1 pc = .ok (.invokevirtual idx, 3)) (hf : VF μ.1.cls idx c μ' n) (hn : As.length = n) (hst : st0 = As.reverse ++ .ref b :: st) (ho : OB S.1 b c) (hr : (st.map fun v => v.category).sum ≤ 8) (hC : Cm g μ' d (.ref b :: As) S none S') (ht : S'.1 ≤ tt.2.1)
    (k : M g μ (d + 1) tt R (pc + 3) ls st S') : M g μ (d + 1) tt R pc ls st0 S := M_callV hd hf hn hst ho hr hC ht k
theorem M_callSi {μ' : mX} {idx n : Nat} {As : List Value} {w : Value} {st0 : List Value} (hd : decode μ.2.1 pc = .ok (.invokestatic idx, 3)) (hf : SF μ.1.cls idx μ' n) (hn : As.length = n) (hst : st0 = As.reverse ++ st) (hr : (st.map fun v => v.category).sum ≤ 8) (hC : Cm g μ' d As S (some w) S') (ht : S'.1 ≤ tt.2.1)
    (k : M g μ (d + 1) tt R (pc + 3) ls (w :: st) S') : M g μ (d + 1) tt R pc ls st0 S := M_callS hd hf hn hst hr hC ht k
theorem M_mmax {idx : Nat} {x y : Int32} (hd : decode μ.2.1 pc = .ok (.invokestatic idx, 3)) (hl : Cond.methodLink μ.1.cls idx Lib.Math.max.name ∈ gW) (hs : Cond.static Lib.Math.max.name ∈ gW) (hi : Cond.initialized "java/lang/Math" ∈ gW) (hc : Cond.code Lib.Math.max.name Lib.Math.max.code 2 (some .int) ∈ gW) (hr : (st.map fun v => v.category).sum ≤ 8)
    (k : M g μ (d + 1) tt R (pc + 3) ls (.int (if x < y then y else x) :: st) S) : M g μ (d + 1) tt R pc ls (.int y :: .int x :: st) S := by
  intro p e s m args below meth c A F H locs la h1 h2 h3 h4 h5
  have hw := F.2.2.2.2.2.1
  have hm := sT_mono h5
  refine va_mmax F.1 F.2.1 (F.2.2.2.1.trans h3.1.symm) F.2.2.2.2.1 (hw _ hl) (hw _ hs) (hw _ hi) (hw _ hc) (by show 1 ≤ d + 1; omega) (by rw [rest_cat]; show _ + 13 ≤ 64 * (d + 1); omega) (by show S.1 - tt.1 ≤ tt.2.1 - tt.1 + tt.2.2; omega) (by show sT S.1 - sT tt.1 ≤ sT tt.2.1 - sT tt.1 + 6 * tt.2.2; omega) hd (k p e s m args below meth c A F H locs la h1 h2 h3 h4 h5)
theorem M_mmin {idx : Nat} {x y : Int32} (hd : decode μ.2.1 pc = .ok (.invokestatic idx, 3)) (hl : Cond.methodLink μ.1.cls idx Lib.Math.min.name ∈ gW) (hs : Cond.static Lib.Math.min.name ∈ gW) (hi : Cond.initialized "java/lang/Math" ∈ gW) (hc : Cond.code Lib.Math.min.name Lib.Math.min.code 2 (some .int) ∈ gW) (hr : (st.map fun v => v.category).sum ≤ 8)
    (k : M g μ (d + 1) tt R (pc + 3) ls (.int (if y < x then y else x) :: st) S) : M g μ (d + 1) tt R pc ls (.int y :: .int x :: st) S := by
  intro p e s m args below meth c A F H locs la h1 h2 h3 h4 h5
  have hw := F.2.2.2.2.2.1
  have hm := sT_mono h5
  refine va_mmin F.1 F.2.1 (F.2.2.2.1.trans h3.1.symm) F.2.2.2.2.1 (hw _ hl) (hw _ hs) (hw _ hi) (hw _ hc) (by show 1 ≤ d + 1; omega) (by rw [rest_cat]; show _ + 13 ≤ 64 * (d + 1); omega) (by show S.1 - tt.1 ≤ tt.2.1 - tt.1 + tt.2.2; omega) (by show sT S.1 - sT tt.1 ≤ sT tt.2.1 - sT tt.1 + 6 * tt.2.2; omega) hd (k p e s m args below meth c A F H locs la h1 h2 h3 h4 h5)
end
