/-! 'throw new E("..")' -/
def xwB (own : String) (ic : Nat) (cls : String) (names : List String) : Bool := (vx_atS own ic cls names).all fun w => decide (w ∈ tables_1) && (goodWord w || (isNw w && notAO w)) && vx_ot w
def XF (own : String) (ik ic : Nat) (cls : String) (names : List String) : Prop := Bundle.fit cls = true ∧ (∀ n ∈ names, Bundle.fit n = true) ∧ Cond.classLink own ik cls ∈ gW ∧ Cond.initialized cls ∈ gW ∧ xwB own ic cls names = true ∧ names.length = 2
section
variable {g : gX} {μ : mX} {d pc : Nat} {R : rX} {ls : List (Option Value)} {st : List Value} {S : hS}
theorem xw_at {own : String} {ic : Nat} {cls : String} {names : List String} {p : Program} {s : State} {m : MethodId} {args : Array Value} {meth : Method} {c : Code} {A : Nat → Prop} {t0 : Nat} (h : xwB own ic cls names = true) (F : Fx g μ t0 p s m args meth c A) : ∀ w ∈ vx_atS own ic cls names, w.before args s = true := by
  intro w hw
  have q := List.all_eq_true.mp h w hw
  simp only [Bool.and_eq_true, decide_eq_true_eq, Bool.or_eq_true] at q
  rcases q.1.2 with q2 | ⟨q2, q3⟩
  · exact F.2.2.2.2.2.1 w (gW_in (List.mem_append_right _ q.1.1) q2)
  · have hn := F.2.2.2.2.2.2.2.2.2.1.2.2.2.2.1.1 w (List.mem_filter.mpr ⟨q.1.1, q2⟩) q3
    cases w with
    | methodLinkNest a b c d => exact va_Nw.use rfl hn
    | declares x => exact va_Nw.use rfl hn
    | castable a b => exact va_Nw.use rfl hn
    | arrayOver ty => cases q3
    | _ => cases q2
theorem xw_ot {own : String} {ik ic : Nat} {cls : String} {names : List String} (h : xwB own ic cls names = true) : ∀ w ∈ Cond.classLink own ik cls :: Cond.initialized cls :: vx_atS own ic cls names, vx_ot w = true := by
  intro w hw
  rcases List.mem_cons.mp hw with rfl | hw
  · rfl
  · rcases List.mem_cons.mp hw with rfl | hw
    · rfl
    · have q := List.all_eq_true.mp h w hw
      simp only [Bool.and_eq_true] at q
      exact q.2
theorem M_throw {tt : tX} {ik is ic j p3 p4 p6 p9 : Nat} {cls tx : String} {names : List String} (d0 : decode μ.2.1 pc = .ok (.new ik, 3)) (d3 : decode μ.2.1 p3 = .ok (.dup, 1)) (d4 : decode μ.2.1 p4 = .ok (.ldc is, 2)) (d6 : decode μ.2.1 p6 = .ok (.invokespecial ic, 3)) (d9 : decode μ.2.1 p9 = .ok (.athrow, 1)) (hpc : pc + 3 = p3 ∧ pc + 4 = p4 ∧ pc + 6 = p6 ∧ pc + 9 = p9)
    (hf : XF μ.1.cls ik ic cls names) (hj : j < NS) (hs : strL.getD j ("", 0, "") = (μ.1.cls, is, tx)) (hx9 : tt.2.2 = 1) (hR : R = (.inr cls, S)) : M g μ (d + 6) tt R pc ls [] S := by
  intro p e s m args below meth c A F H locs la h1 h2 h3 h4 h5
  subst hR
  obtain ⟨rfl, rfl, rfl, rfl⟩ := hpc
  obtain ⟨f1, f2, f3, f4, f5, f6⟩ := hf
  have hs9 := sT_mono h5
  have hO := F.2.2.2.2.2.2.2.2.2.1
  have hstr := (hO.2.2.2.2.2.2.1 j hj).1
  rw [hs] at hstr
  have hw := F.2.2.2.2.2.1
  refine vx_throwS (names := names) (mc := tt.2.1 - tt.1 + tt.2.2) (ms := sT tt.2.1 - sT tt.1 + 6 * tt.2.2) F.1 F.2.1 F.2.2.2.2.2.2.2.2.2.2.2.1 F.2.2.2.2.1 f1 f2 (hw _ f3) (hw _ f4) hstr (xw_at f5 F) (xw_ot f5) hO.2.2.1 hO.2.2.2.1 h2 (h3.1.trans F.2.2.2.1.symm) d0 d3 d4 d6 d9 (fun x hx => absurd (F.2.2.2.2.2.2.2.2.1 x hx) id) (by rw [f6]; show 2 + 3 < d + 6; omega) (by rw [f6]; show 0 + (13 * (2 + 1) + 43) ≤ 64 * (d + 6); omega) (by show S.1 - tt.1 + 1 ≤ tt.2.1 - tt.1 + tt.2.2; omega) (by show sT S.1 - sT tt.1 + 6 ≤ sT tt.2.1 - sT tt.1 + 6 * tt.2.2; omega) F.2.2.2.2.2.2.1 ?_ h2.2.2 (by omega) (by omega)
  intro t hvm hz hk
  refine ⟨rfl, ⟨?_, h1.2⟩, Nat.le_trans h2.1 hz, fun q g1 g2 => (hk q (Nat.lt_of_lt_of_le g1 h2.1)).trans (h2.2.1 q g1 g2)⟩
  exact h1.1.kept (fun k q hq => hk q.1 ((h1.1 k q hq).lt))
theorem M_throwW {tt : tX} {ik is ic j p3 p4 p7 p10 : Nat} {cls tx : String} {names : List String} (d0 : decode μ.2.1 pc = .ok (.new ik, 3)) (d3 : decode μ.2.1 p3 = .ok (.dup, 1)) (d4 : decode μ.2.1 p4 = .ok (.ldc_w is, 3)) (d7 : decode μ.2.1 p7 = .ok (.invokespecial ic, 3)) (d10 : decode μ.2.1 p10 = .ok (.athrow, 1)) (hpc : pc + 3 = p3 ∧ pc + 4 = p4 ∧ pc + 7 = p7 ∧ pc + 10 = p10)
    (hf : XF μ.1.cls ik ic cls names) (hj : j < NS) (hs : strL.getD j ("", 0, "") = (μ.1.cls, is, tx)) (hx9 : tt.2.2 = 1) (hR : R = (.inr cls, S)) : M g μ (d + 6) tt R pc ls [] S := by
  intro p e s m args below meth c A F H locs la h1 h2 h3 h4 h5
  subst hR
  obtain ⟨rfl, rfl, rfl, rfl⟩ := hpc
  obtain ⟨f1, f2, f3, f4, f5, f6⟩ := hf
  have hs9 := sT_mono h5
  have hO := F.2.2.2.2.2.2.2.2.2.1
  have hstr := (hO.2.2.2.2.2.2.1 j hj).1
  rw [hs] at hstr
  have hw := F.2.2.2.2.2.1
  refine vx_throwSW (names := names) (mc := tt.2.1 - tt.1 + tt.2.2) (ms := sT tt.2.1 - sT tt.1 + 6 * tt.2.2) F.1 F.2.1 F.2.2.2.2.2.2.2.2.2.2.2.1 F.2.2.2.2.1 f1 f2 (hw _ f3) (hw _ f4) hstr (xw_at f5 F) (xw_ot f5) hO.2.2.1 hO.2.2.2.1 h2 (h3.1.trans F.2.2.2.1.symm) d0 d3 d4 d7 d10 (fun x hx => absurd (F.2.2.2.2.2.2.2.2.1 x hx) id) (by rw [f6]; show 2 + 3 < d + 6; omega) (by rw [f6]; show 0 + (13 * (2 + 1) + 43) ≤ 64 * (d + 6); omega) (by show S.1 - tt.1 + 1 ≤ tt.2.1 - tt.1 + tt.2.2; omega) (by show sT S.1 - sT tt.1 + 6 ≤ sT tt.2.1 - sT tt.1 + 6 * tt.2.2; omega) F.2.2.2.2.2.2.1 ?_ h2.2.2 (by omega) (by omega)
  intro t hvm hz hk
  refine ⟨rfl, ⟨?_, h1.2⟩, Nat.le_trans h2.1 hz, fun q g1 g2 => (hk q (Nat.lt_of_lt_of_le g1 h2.1)).trans (h2.2.1 q g1 g2)⟩
  exact h1.1.kept (fun k q hq => hk q.1 ((h1.1 k q hq).lt))
end

section
variable {g : gX} {μ : mX} {d pc : Nat} {tt : tX} {R : rX} {ls ls' : List (Option Value)} {st : List Value} {S S' : hS}
def AF (own : String) (idx c : Nat) (x : MethodName) (μ' : mX) (n : Nat) : Prop := (Cond.methodLink own idx x ∈ gW ∧ Cond.sameMethod x.cls "BiteYears$Text" x.name x.desc ∈ gW ∧ Cond.selects (cC c) x μ'.1 ∈ gW ∧ Cond.instanceMethod μ'.1 ∈ gW ∧ Cond.initialized μ'.1.cls ∈ gW ∧ cdOf μ' ∈ gW) ∧ vwCl[c]? = some (cC c, cT c, cN c) ∧ Cond.declares ⟨"BiteYears$Text", x.name, x.desc⟩ ∈ nW ∧ (parseMethodDescriptor x.desc).map (fun d => d.parameters.length) = some n ∧ μ'.2.2.1 ≤ 40
theorem M_callA {μ' : mX} {idx c n b : Nat} {x : MethodName} {As : List Value} {v : Option Value} {st0 : List Value} (hd : decode μ.2.1 pc = .ok (.invokevirtual idx, 3)) (hf : AF μ.1.cls idx c x μ' n) (hn : As.length = n) (hst : st0 = As.reverse ++ .ref b :: st) (ho : OB S.1 b c) (hr : (st.map fun v => v.category).sum ≤ 8) (hC : Cm g μ' d (.ref b :: As) S v S') (ht : S'.1 ≤ tt.2.1)
    (k : M g μ (d + 1) tt R (pc + 3) ls (v.toList ++ st) S') : M g μ (d + 1) tt R pc ls st0 S := by
  intro p e s m args below meth c0 A F H locs la h1 h2 h3 h4 h5 T hT X
  subst hst
  have hz := size_eq h1 h2 h4 F.2.2.2.2.2.2.2.2.2.2.2.2 (by rw [← hT]; exact X.heapSize)
  obtain ⟨hw, hcl, hz9, hpar, hmx⟩ := hf
  have ha : ad g b = gB g + b := ad_cell ho.1 (Nat.lt_of_lt_of_le ho.2.1 h1.2.2.2)
  obtain ⟨q0, hq⟩ := wl_get (g := g) (S := S) ho.1 ho.2.1
  rw [ce_ob ho] at hq
  have hrc := va_recv F.2.2.2.2.2.2.2.2.2.1.1 h1.1 hcl hq
  have hs1 := sT_mono hC.1
  have hs2 := sT_mono h4
  have hs3 := sT_mono ht
  have ht2 := hC.1
  have e8 : (As.reverse ++ .ref b :: st).map (sv g) = (As.map (sv g)).reverse ++ .ref (ad g b) :: st.map (sv g) := by simp [sv]
  have run := va_runU (l := gl g) (e := e) (below := below) (meth := meth) (locs := locs) (cells := S.1 - tt.1) (slots := sT S.1 - sT tt.1) (g := F0 m pc la ((As.reverse ++ .ref b :: st).map (sv g))) (rest := st.map (sv g)) (As := As.map (sv g)) (b := ad g b) (C := cC c) (R := rm (d + 1) tt) (H := H) (x := x) (owner := "BiteYears$Text") ⟨F.1, F.2.1, F.2.2.2.1, F.2.2.2.2.1, F.2.2.2.2.2.1⟩ (hC.2 H.size)
    (va_cwA n F.2.2.2.2.2.1 (gW_app (fun w h => by simp only [List.mem_cons, List.not_mem_nil, or_false] at h; rcases h with rfl | rfl | rfl | rfl | rfl; exact hw.1; exact hw.2.1; exact hw.2.2.1; exact hw.2.2.2.1; exact hw.2.2.2.2.1) (gW_cons hw.2.2.2.2.2)) rfl rfl rfl (F.2.2.2.2.2.2.2.2.2.1.2.2.2.2.1.1 _ hz9 rfl) ⟨by decide, by decide, hpar⟩ ⟨Nat.le_refl _, by show 8 + (μ'.2.2.1 + 11) + 64 * d ≤ 64 * (d + 1); omega⟩)
    ⟨blind g _ S _, by rw [ha]; exact hrc, pre_of (As := .ref b :: As) F h1 h2 hz⟩ rfl (by rw [List.length_map]; exact hn) h3.1 e8 (lv_room (by rw [rest_cat]; exact hr)) hd ⟨by show S.1 - tt.1 + (S'.1 - S.1 + 0) ≤ tt.2.1 - tt.1 + tt.2.2; omega, by show sT S.1 - sT tt.1 + (sT S'.1 - sT S.1 + 6 * 0) ≤ sT tt.2.1 - sT tt.1 + 6 * tt.2.2; omega⟩
  refine go_run run h1 h2 F.2.2.2.2.2.2.2.2.2.2.1 (fun H1 locs1 g1 g2 => ?_) T hT X
  have k9 := k p e s m args below meth c0 A F H1 locs1 la g1 g2 h3 (Nat.le_trans h4 hC.1) ht
  rw [show S.1 - tt.1 + (S'.1 - S.1 + 0) = S'.1 - tt.1 by omega, show sT S.1 - sT tt.1 + (sT S'.1 - sT S.1 + 6 * 0) = sT S'.1 - sT tt.1 by omega]
  rw [List.map_append] at k9
  cases v <;> exact k9
theorem M_callAi {μ' : mX} {idx c n b : Nat} {x : MethodName} {As : List Value} {w : Value} {st0 : List Value} (hd : decode μ.2.1 pc = .ok (.invokevirtual idx, 3)) (hf : AF μ.1.cls idx c x μ' n) (hn : As.length = n) (hst : st0 = As.reverse ++ .ref b :: st) (ho : OB S.1 b c) (hr : (st.map fun v => v.category).sum ≤ 8) (hC : Cm g μ' d (.ref b :: As) S (some w) S') (ht : S'.1 ≤ tt.2.1)
    (k : M g μ (d + 1) tt R (pc + 3) ls (w :: st) S') : M g μ (d + 1) tt R pc ls st0 S := M_callA hd hf hn hst ho hr hC ht k
end
