theorem ar_tape : AR NT 2 13 400 := AR_of (by decide +kernel)
/-- a switch's way out -/
theorem sw_ne {x n : Int32} {k : Int} (h : ¬ x = n) (hk : n.toInt = k) : x.toInt ≠ k := fun q => h (Int32.toInt_inj.mp (q.trans hk.symm))
theorem sw_out {x : Int32} {lo hi : Int} (n : Nat) (hn : hi + 1 - lo ≤ n) (h : ∀ j : Nat, j < n → x.toInt ≠ lo + j) : x.toInt < lo ∨ hi < x.toInt := by
  rcases Int.lt_or_le x.toInt lo with q | q
  · exact Or.inl q
  · rcases Int.lt_or_le hi x.toInt with q2 | q2
    · exact Or.inr q2
    · have := h (x.toInt - lo).toNat (by omega)
      omega
def thr_i (v : Int32 ⊕ String) : Option Value ⊕ String := match v with
  | .inl x => .inl (some (.int x))
  | .inr e => .inr e
/-- a long set: its second half too -/
def lclr : List (Option Value) → Nat → List (Option Value)
  | [], _ => []
  | _ :: r, 0 => none :: r
  | o :: r, i + 1 => o :: lclr r i
theorem lclr_get {w : Value} : ∀ {ls : List (Option Value)} {i j : Nat}, (lclr ls i)[j]? = some (some w) → j ≠ i ∧ ls[j]? = some (some w)
  | [], i, j, h => by simp [lclr] at h
  | o :: r, 0, 0, h => by simp [lclr] at h
  | o :: r, 0, j + 1, h => by simp [lclr] at h; exact ⟨by omega, by simpa using h⟩
  | o :: r, i + 1, 0, h => by simp [lclr] at h; exact ⟨by omega, by simpa using h⟩
  | o :: r, i + 1, j + 1, h => by
    simp only [lclr, List.getElem?_cons_succ] at h
    obtain ⟨h1, h2⟩ := lclr_get h
    exact ⟨by omega, by simpa using h2⟩
theorem lvH.set2 {g : gX} {la : Array Slot} {nL : Nat} {ls : List (Option Value)} {i : Nat} {v : Value} (h : lv_has la nL ((i, sv g v) :: (lvl g 0 ls).filter (fun q => !(q.1 == i) && (!(q.1 == i + 1) && !(q.1 + 1 == i && q.2.category == 2))))) : lvH g la nL (lclr (lset ls i v) (i + 1)) := by
  refine ⟨h.1, h.2.1, fun q hq => ?_⟩
  obtain ⟨j, w, h1, rfl⟩ := lvl_mem.mp hq
  rw [Nat.zero_add]
  obtain ⟨h0, h1⟩ := lclr_get h1
  rcases lset_get h1 with ⟨rfl, rfl⟩ | ⟨h2, h3, h4⟩
  · exact h.2.2 _ List.mem_cons_self
  · refine h.2.2 (j, sv g w) (List.mem_cons_of_mem _ (List.mem_filter.mpr ⟨lvl_mem.mpr ⟨j, w, h3, by rw [Nat.zero_add]⟩, ?_⟩))
    simp only [sv_cat, Bool.and_eq_true, Bool.not_eq_true', beq_eq_false_iff_ne, ne_eq, Bool.and_eq_false_iff]
    refine ⟨h2, h0, ?_⟩
    by_cases q : j + 1 = i
    · exact Or.inr (fun z => h4 ⟨q, z⟩)
    · exact Or.inl q
section
variable {g : gX} {μ : mX} {d pc : Nat} {tt : tX} {R : rX} {ls ls' : List (Option Value)} {st : List Value} {S S' : hS} {t : Nat} {I : Nat → Nat → Int32} {J : Nat → Nat → Int64} {P : Nat → Nat → Option Nat}
theorem M_lstore_n {j : Fin 4} {x : Int64} (hd : decode μ.2.1 pc = .ok (.lstore_n j, 1)) (hn : (j : Nat) + 1 < μ.2.2.1) (hs : lclr (lset ls (j : Nat) (.long x)) ((j : Nat) + 1) = ls') (k : M g μ d tt R (pc + 1) ls' st S) : M g μ d tt R pc ls (.long x :: st) S := fun p e s m args below meth c A F H locs la h1 h2 h3 h4 h5 => lv_lstore_n F.1 F.2.1 hd rfl h3 hn rfl (fun la hla => k p e s m args below meth c A F H locs la h1 h2 (by rw [← hs]; exact lvH.set2 hla) h4 h5)
theorem M_lstore {i : Nat} {x : Int64} (hd : decode μ.2.1 pc = .ok (.lstore i, 2)) (hn : i + 1 < μ.2.2.1) (hs : lclr (lset ls i (.long x)) (i + 1) = ls') (k : M g μ d tt R (pc + 2) ls' st S) : M g μ d tt R pc ls (.long x :: st) S := fun p e s m args below meth c A F H locs la h1 h2 h3 h4 h5 => lv_lstore F.1 F.2.1 hd h3 hn rfl (fun la hla => k p e s m args below meth c A F H locs la h1 h2 (by rw [← hs]; exact lvH.set2 hla) h4 h5)
theorem M_copy0 {idx a b n0 n1 k : Nat} {n : Int32} (hd : decode μ.2.1 pc = .ok (.invokestatic idx, 3)) (hl : Cond.methodLink μ.1.cls idx arraycopyName ∈ gW) (hnat : Cond.native arraycopyName ∈ gW) (hst : Cond.static arraycopyName ∈ gW) (hini : Cond.initialized "java/lang/System" ∈ gW) (hd1 : 1 ≤ d) (hr : (st.map fun v => v.category).sum ≤ 8)
    (ho : AR t a 13 n1) (hb : AR t b 13 n0) (hk : n.toNatClampNeg = k) (g3 : ¬ n < 0) (g4 : k ≤ n0) (g5 : k ≤ n1)
    (kk : M g μ d tt R (pc + 3) ls st (t, up1 I a (va_cpy (I b) (I a) 0 0 k), J, P)) : M g μ d tt R pc ls (.int n :: .int 0 :: .ref a :: .int 0 :: .ref b :: st) (t, I, J, P) := by
  subst hk
  exact M_copy hd hl hnat hst hini hd1 hr ho hb (by decide) (by decide) g3 (by rw [show (0 : Int32).toNatClampNeg = 0 from rfl]; omega) (by rw [show (0 : Int32).toNatClampNeg = 0 from rfl]; omega) kk
theorem M_copyB {idx a b n0 n1 k : Nat} {n : Int32} (hd : decode μ.2.1 pc = .ok (.invokestatic idx, 3)) (hl : Cond.methodLink μ.1.cls idx arraycopyName ∈ gW) (hnat : Cond.native arraycopyName ∈ gW) (hst : Cond.static arraycopyName ∈ gW) (hini : Cond.initialized "java/lang/System" ∈ gW) (hd1 : 1 ≤ d) (hr : (st.map fun v => v.category).sum ≤ 8)
    (ho : AR t a 13 n1) (hb : AR t b 13 n0) (hk : inB n k = true) (g4 : k ≤ n0 + 1) (g5 : k ≤ n1 + 1)
    (kk : M g μ d tt R (pc + 3) ls st (t, up1 I a (va_cpy (I b) (I a) 0 0 n.toNatClampNeg), J, P)) : M g μ d tt R pc ls (.int n :: .int 0 :: .ref a :: .int 0 :: .ref b :: st) (t, I, J, P) := by
  have h1 := inB_lt hk
  have h2 : ¬ n < 0 := fun q => (inB_in hk) (Or.inl q)
  exact M_copy hd hl hnat hst hini hd1 hr ho hb (by decide) (by decide) h2 (by rw [show (0 : Int32).toNatClampNeg = 0 from rfl]; omega) (by rw [show (0 : Int32).toNatClampNeg = 0 from rfl]; omega) kk
/-- a call of a method that the receiver's class inherits; or that is abstract where it is named -/
def UF (own : String) (idx c : Nat) (x : MethodName) (μ' : mX) (n : Nat) : Prop := (Cond.methodLink own idx x ∈ gW ∧ Cond.sameMethod x.cls "BiteYears$Text" x.name x.desc ∈ gW ∧ Cond.selects (cC c) x μ'.1 ∈ gW ∧ Cond.instanceMethod μ'.1 ∈ gW ∧ Cond.initialized μ'.1.cls ∈ gW ∧ cdOf μ' ∈ gW) ∧ vwCl[c]? = some (cC c, cT c, cN c) ∧ μ'.1 = ⟨"BiteYears$Text", x.name, x.desc⟩ ∧ (parseMethodDescriptor x.desc).map (fun d => d.parameters.length) = some n ∧ μ'.2.2.1 ≤ 40
theorem M_callU {μ' : mX} {idx c n b : Nat} {x : MethodName} {As : List Value} {v : Option Value} {st0 : List Value} (hd : decode μ.2.1 pc = .ok (.invokevirtual idx, 3)) (hf : UF μ.1.cls idx c x μ' n) (hn : As.length = n) (hst : st0 = As.reverse ++ .ref b :: st) (ho : OB S.1 b c) (hr : (st.map fun v => v.category).sum ≤ 8) (hC : Cm g μ' d (.ref b :: As) S v S') (ht : S'.1 ≤ tt.2.1)
    (k : M g μ (d + 1) tt R (pc + 3) ls (v.toList ++ st) S') : M g μ (d + 1) tt R pc ls st0 S := by
  intro p e s m args below meth c0 A F H locs la h1 h2 h3 h4 h5 T hT X
  subst hst
  have hz := size_eq h1 h2 h4 F.2.2.2.2.2.2.2.2.2.2.2.2 (by rw [← hT]; exact X.heapSize)
  obtain ⟨hw, hcl, hy, hpar, hmx⟩ := hf
  have ha : ad g b = gB g + b := ad_cell ho.1 (Nat.lt_of_lt_of_le ho.2.1 h1.2.2.2)
  obtain ⟨q0, hq⟩ := wl_get (g := g) (S := S) ho.1 ho.2.1
  rw [ce_ob ho] at hq
  have hrc := va_recv F.2.2.2.2.2.2.2.2.2.1.1 h1.1 hcl hq
  have hs1 := sT_mono hC.1
  have hs2 := sT_mono h4
  have hs3 := sT_mono ht
  have ht2 := hC.1
  have e8 : (As.reverse ++ .ref b :: st).map (sv g) = (As.map (sv g)).reverse ++ .ref (ad g b) :: st.map (sv g) := by simp [sv]
  have run := va_runU (l := gl g) (e := e) (below := below) (meth := meth) (locs := locs) (cells := S.1 - tt.1) (slots := sT S.1 - sT tt.1) (g := F0 m pc la ((As.reverse ++ .ref b :: st).map (sv g))) (rest := st.map (sv g)) (As := As.map (sv g)) (b := ad g b) (C := cC c) (R := rm (d + 1) tt) (H := H) (x := x) (owner := "BiteYears$Text") ⟨F.1, F.2.1, F.2.2.2.1, F.2.2.2.2.1, F.2.2.2.2.2.1⟩ (hC.2 H.size)
    (va_cwU n F.2.2.2.2.2.1 (gW_app (fun w h => by simp only [List.mem_cons, List.not_mem_nil, or_false] at h; rcases h with rfl | rfl | rfl | rfl | rfl; exact hw.1; exact hw.2.1; exact hw.2.2.1; exact hw.2.2.2.1; exact hw.2.2.2.2.1) (gW_cons hw.2.2.2.2.2)) rfl rfl rfl hy ⟨by decide, by decide, hpar⟩ ⟨Nat.le_refl _, by show 8 + (μ'.2.2.1 + 11) + 64 * d ≤ 64 * (d + 1); omega⟩)
    ⟨blind g _ S _, by rw [ha]; exact hrc, pre_of (As := .ref b :: As) F h1 h2 hz⟩ rfl (by rw [List.length_map]; exact hn) h3.1 e8 (lv_room (by rw [rest_cat]; exact hr)) hd ⟨by show S.1 - tt.1 + (S'.1 - S.1 + 0) ≤ tt.2.1 - tt.1 + tt.2.2; omega, by show sT S.1 - sT tt.1 + (sT S'.1 - sT S.1 + 6 * 0) ≤ sT tt.2.1 - sT tt.1 + 6 * tt.2.2; omega⟩
  refine go_run run h1 h2 F.2.2.2.2.2.2.2.2.2.2.1 (fun H1 locs1 g1 g2 => ?_) T hT X
  have k9 := k p e s m args below meth c0 A F H1 locs1 la g1 g2 h3 (Nat.le_trans h4 hC.1) ht
  rw [show S.1 - tt.1 + (S'.1 - S.1 + 0) = S'.1 - tt.1 by omega, show sT S.1 - sT tt.1 + (sT S'.1 - sT S.1 + 6 * 0) = sT S'.1 - sT tt.1 by omega]
  rw [List.map_append] at k9
  cases v <;> exact k9
theorem M_callUi {μ' : mX} {idx c n b : Nat} {x : MethodName} {As : List Value} {w : Value} {st0 : List Value} (hd : decode μ.2.1 pc = .ok (.invokevirtual idx, 3)) (hf : UF μ.1.cls idx c x μ' n) (hn : As.length = n) (hst : st0 = As.reverse ++ .ref b :: st) (ho : OB S.1 b c) (hr : (st.map fun v => v.category).sum ≤ 8) (hC : Cm g μ' d (.ref b :: As) S (some w) S') (ht : S'.1 ≤ tt.2.1)
    (k : M g μ (d + 1) tt R (pc + 3) ls (w :: st) S') : M g μ (d + 1) tt R pc ls st0 S := M_callU hd hf hn hst ho hr hC ht k
theorem M_callUv {μ' : mX} {idx c n b : Nat} {x : MethodName} {As : List Value} {st0 : List Value} (hd : decode μ.2.1 pc = .ok (.invokevirtual idx, 3)) (hf : UF μ.1.cls idx c x μ' n) (hn : As.length = n) (hst : st0 = As.reverse ++ .ref b :: st) (ho : OB S.1 b c) (hr : (st.map fun v => v.category).sum ≤ 8) (hC : Cm g μ' d (.ref b :: As) S none S') (ht : S'.1 ≤ tt.2.1)
    (k : M g μ (d + 1) tt R (pc + 3) ls st S') : M g μ (d + 1) tt R pc ls st0 S := M_callU hd hf hn hst ho hr hC ht k
theorem M_mabs {idx : Nat} {x : Int32} (hd : decode μ.2.1 pc = .ok (.invokestatic idx, 3)) (hl : Cond.methodLink μ.1.cls idx Lib.Math.abs.name ∈ gW) (hs : Cond.static Lib.Math.abs.name ∈ gW) (hi : Cond.initialized "java/lang/Math" ∈ gW) (hc : Cond.code Lib.Math.abs.name Lib.Math.abs.code 1 (some .int) ∈ gW) (hr : (st.map fun v => v.category).sum ≤ 8)
    (k : M g μ (d + 1) tt R (pc + 3) ls (.int (if 0 ≤ x then x else 0 - x) :: st) S) : M g μ (d + 1) tt R pc ls (.int x :: st) S := by
  intro p e s m args below meth c A F H locs la h1 h2 h3 h4 h5
  have hw := F.2.2.2.2.2.1
  have hm := sT_mono h5
  refine va_mabs F.1 F.2.1 (F.2.2.2.1.trans h3.1.symm) F.2.2.2.2.1 (hw _ hl) (hw _ hs) (hw _ hi) (hw _ hc) (by show 1 ≤ d + 1; omega) (by rw [rest_cat]; show _ + 13 ≤ 64 * (d + 1); omega) (by show S.1 - tt.1 ≤ tt.2.1 - tt.1 + tt.2.2; omega) (by show sT S.1 - sT tt.1 ≤ sT tt.2.1 - sT tt.1 + 6 * tt.2.2; omega) hd (k p e s m args below meth c A F H locs la h1 h2 h3 h4 h5)
theorem M_callSv {μ' : mX} {idx n : Nat} {As : List Value} {st0 : List Value} (hd : decode μ.2.1 pc = .ok (.invokestatic idx, 3)) (hf : SF μ.1.cls idx μ' n) (hn : As.length = n) (hst : st0 = As.reverse ++ st) (hr : (st.map fun v => v.category).sum ≤ 8) (hC : Cm g μ' d As S none S') (ht : S'.1 ≤ tt.2.1)
    (k : M g μ (d + 1) tt R (pc + 3) ls st S') : M g μ (d + 1) tt R pc ls st0 S := M_callS hd hf hn hst hr hC ht k
end
