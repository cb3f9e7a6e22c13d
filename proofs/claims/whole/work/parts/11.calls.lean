/-- which cells a method may change: those that are there, and new ones -/
def Aof (g : gX) (t sz : Nat) : Nat → Prop := fun q => (gB g < q ∧ q < gB g + t) ∨ sz ≤ q
def cdOf (μ : mX) : Cond := Cond.code μ.1 μ.2.1 μ.2.2.1 μ.2.2.2
/-- how a method begins -/
def Pc0 (g : gX) (args : List Value) (S : hS) (sz : Nat) : Array Value → State → Prop := va_Pc (args.map (sv g)) (fun U => U.heap.size = sz ∧ va_P (gD g) vwCl (wl g S) U.heap ∧ 1 ≤ S.1 ∧ S.1 ≤ NT ∧ Outs g (Aof g S.1 sz) U U.heap ∧ (S.1 < NT → sz = gB g + S.1) ∧ (gl g).stackTraces = false)
/-- CONTRACT: called with args in S, the method returns v and leaves S' -/
def Cm (g : gX) (μ : mX) (d : Nat) (args : List Value) (S : hS) (v : Option Value) (S' : hS) : Prop := S.1 ≤ S'.1 ∧ ∀ sz, Met (gl g) μ.1 (cdOf μ :: gW) (rm d (S.1, S'.1, 0)) (Pc0 g args S sz) (Qc g (.inl v, S') (Aof g S.1 sz)) (S'.1 - S.1 + 0) (sT S'.1 - sT S.1 + 6 * 0) (Aof g S.1 sz)
/-- CONTRACT of a method that may throw: it comes to R -/
def Cx (g : gX) (μ : mX) (d : Nat) (args : List Value) (S : hS) (R : rX) : Prop := S.1 ≤ R.2.1 ∧ ∀ sz, vx_Met (gl g) μ.1 (cdOf μ :: gW) (rm d (S.1, R.2.1, 1)) (Pc0 g args S sz) (Qc g R (Aof g S.1 sz)) (XC g R (Aof g S.1 sz)) (R.2.1 - S.1 + 1) (sT R.2.1 - sT S.1 + 6 * 1) (Aof g S.1 sz)
theorem vx_met {l : Launch} {y : MethodName} {ws : List Cond} {r : Room} {Pc : Array Value → State → Prop} {Qc : Array Value → State → Outcome → State → Prop} {XC : String → State → State → Prop} {mc ms : Nat} {free : Addr → Prop} (h : vx_Met l y ws r Pc Qc XC mc ms free) (hx : ∀ E st t, ¬ XC E st t) : Met l y ws r Pc Qc mc ms free := by
  intro p e ha hc hk s m args below hf hl hP hK
  obtain ⟨n, o, h1, h2, h3, hQ⟩ := h p e ha hc hk s m args below hf hl hP hK
  refine ⟨n, o, h1, h2, h3, ?_⟩
  rcases hQ with q | ⟨q, -, E, ce, L, hx9, -⟩
  · exact q
  · exact absurd hx9 (hx _ _ _)
def ent (args : List Value) (nL : Nat) : List (Option Value) := args.map some ++ List.replicate (nL - args.length) none
theorem lvl_none (g : gX) : ∀ (k n : Nat), lvl g n (List.replicate k none) = []
  | 0, _ => rfl
  | k + 1, n => by rw [List.replicate_succ]; exact lvl_none g k (n + 1)
theorem lvl_ent (g : gX) (k : Nat) : ∀ (args : List Value) (n : Nat), (∀ v ∈ args, v.category = 1) → lvl g n (args.map some ++ List.replicate k none) = lv_args n (args.map (sv g))
  | [], n, _ => lvl_none g k n
  | v :: r, n, h => by
    have hc : ¬ (sv g v).category = 2 := by rw [sv_cat, h v List.mem_cons_self]; decide
    show (n, sv g v) :: lvl g (n + 1) (r.map some ++ List.replicate k none) = (n, sv g v) :: lv_args (if (sv g v).category = 2 then n + 2 else n + 1) (r.map (sv g))
    rw [if_neg hc, lvl_ent g k r (n + 1) (fun w hw => h w (List.mem_cons_of_mem _ hw))]
theorem lg_len : ∀ (vs : List Value), (∀ v ∈ vs, v.category = 1) → (lg_sl vs).length = vs.length
  | [], _ => rfl
  | v :: r, h => by
    have hc : ¬ v.category = 2 := by rw [h v List.mem_cons_self]; decide
    have := lg_len r (fun w hw => h w (List.mem_cons_of_mem _ hw))
    simp only [lg_sl, List.flatMap_cons, hc, if_false, List.length_append, List.length_cons, List.length_nil] at this ⊢
    omega
theorem cov_of (g : gX) (t sz : Nat) : cov g (Aof g t sz) t := fun a h1 h2 => Or.inl ⟨by omega, by omega⟩
section
variable {g : gX} {μ : mX} {d pc : Nat} {tt : tX} {R : rX} {ls ls' : List (Option Value)} {st : List Value} {S S' : hS}
theorem enter {args : List Value} (hy : plainName μ.1.cls = true) (hc : ∀ v ∈ args, v.category = 1) (hl : args.length ≤ μ.2.2.1) {x sz : Nat} (ht : S.1 ≤ R.2.1) (hm : M g μ d (S.1, R.2.1, x) R 0 (ent args μ.2.2.1) [] S) :
    vx_Met (gl g) μ.1 (cdOf μ :: gW) (rm d (S.1, R.2.1, x)) (Pc0 g args S sz) (Qc g R (Aof g S.1 sz)) (XC g R (Aof g S.1 sz)) (R.2.1 - S.1 + x) (sT R.2.1 - sT S.1 + 6 * x) (Aof g S.1 sz) := by
  refine vx_ofW (cc := μ.2.1) (maxL := μ.2.2.1) (ret := μ.2.2.2) hy rfl ?_
  intro p e s m args9 below meth c s₁ B hml hex hv
  obtain ⟨rfl, hsz, hP, hs1, hs2, hO, hz, htr⟩ := hv
  have hts := atoms_spec (ws := cdOf μ :: gW) B.pre
  have hF : Fx g μ S.1 p s m (args.map (sv g)).toArray meth c (Aof g S.1 sz) := ⟨B.exec, B.bytes, B.returns, hml, findClass_of_methodNamed B.named, fun w hw => hts w (List.mem_cons_of_mem _ hw), B.notSynchronized, (name_of_methodNamed B.named B.method).1, hex, hO, fun q hq => Or.inr (by omega), htr, hs1, fun q => hsz.trans (hz q)⟩
  have hc2 : ∀ v ∈ args.map (sv g), v.category = 1 := by
    intro v hv
    obtain ⟨w, hw, rfl⟩ := List.mem_map.mp hv
    rw [sv_cat]; exact hc w hw
  have hlen : (lg_sl (args.map (sv g))).length = args.length := by rw [lg_len _ hc2, List.length_map]
  have hle := lv_entry (args.map (sv g)) (n := μ.2.2.1) (by rw [hlen]; exact hl)
  rw [lg_entry_eq]
  rw [← lvl_ent g (μ.2.2.1 - args.length) args 0 hc] at hle
  have k := hm p e s m (args.map (sv g)).toArray below meth c (Aof g S.1 sz) hF s.heap [] _ ⟨hP, cov_of g S.1 sz, hs1, hs2⟩ va_S.rf hle (Nat.le_refl _) ht
  rw [Nat.sub_self, Nat.sub_self] at k
  exact k
theorem Cm.of {args : List Value} {v : Option Value} (hy : plainName μ.1.cls = true) (hc : ∀ v ∈ args, v.category = 1) (hl : args.length ≤ μ.2.2.1) (ht : S.1 ≤ S'.1) (he : ent args μ.2.2.1 = ls) (hm : M g μ d (S.1, S'.1, 0) (.inl v, S') 0 ls [] S) : Cm g μ d args S v S' := by
  subst he
  refine ⟨ht, fun sz => vx_met (XC := XC g (.inl v, S') (Aof g S.1 sz)) (enter (R := (.inl v, S')) hy hc hl ht hm) ?_⟩
  intro E st t h
  cases h.1
theorem Cx.of {args : List Value} (hy : plainName μ.1.cls = true) (hc : ∀ v ∈ args, v.category = 1) (hl : args.length ≤ μ.2.2.1) (ht : S.1 ≤ R.2.1) (he : ent args μ.2.2.1 = ls) (hm : M g μ d (S.1, R.2.1, 1) R 0 ls [] S) : Cx g μ d args S R := by
  subst he
  exact ⟨ht, fun sz => enter (x := 1) hy hc hl ht hm⟩
/-! returns -/
theorem M_iret {x : Int32} {ty : FieldType} (hd : decode μ.2.1 pc = .ok (.ireturn, 1)) (hr : μ.2.2.2 = some ty) (hn : narrow ty (.int x) = .int x) (hR : R = (.inl (some (.int x)), S)) (hS : S.1 = tt.2.1) : M g μ d tt R pc ls [.int x] S := by
  intro p e s m args below meth c A F H locs la h1 h2 h3 h4 h5
  subst hR
  have hs := sT_mono h5
  refine W.widen (k := tt.2.1 - tt.1 + tt.2.2) (n := sT tt.2.1 - sT tt.1 + 6 * tt.2.2) (by omega) (by omega) (vx_ret (W.zret F.1 F.2.1 (F.2.2.1.trans hr) hn (fun t ht hW => ⟨⟨some (.int x), rfl, rfl, by rw [ht]; exact h1⟩, h2.F ht⟩) h2.2.2 hd F.2.2.2.2.2.2.1))
theorem M_vret (hd : decode μ.2.1 pc = .ok (.return_, 1)) (hr : μ.2.2.2 = none) (hR : R = (.inl none, S)) (hS : S.1 = tt.2.1) : M g μ d tt R pc ls [] S := by
  intro p e s m args below meth c A F H locs la h1 h2 h3 h4 h5
  subst hR
  have hs := sT_mono h5
  refine W.widen (k := tt.2.1 - tt.1 + tt.2.2) (n := sT tt.2.1 - sT tt.1 + 6 * tt.2.2) (by omega) (by omega) (vx_ret (W.vret F.1 F.2.1 (F.2.2.1.trans hr) (fun t ht hW => ⟨⟨none, rfl, rfl, by rw [ht]; exact h1⟩, h2.F ht⟩) h2.2.2 hd F.2.2.2.2.2.2.1))
theorem M_lret {x : Int64} (hd : decode μ.2.1 pc = .ok (.lreturn, 1)) (hr : μ.2.2.2 = some .long) (hR : R = (.inl (some (.long x)), S)) (hS : S.1 = tt.2.1) : M g μ d tt R pc ls [.long x] S := by
  intro p e s m args below meth c A F H locs la h1 h2 h3 h4 h5
  subst hR
  have hs := sT_mono h5
  refine W.widen (k := tt.2.1 - tt.1 + tt.2.2) (n := sT tt.2.1 - sT tt.1 + 6 * tt.2.2) (by omega) (by omega) (vx_ret (W.lret F.1 F.2.1 (F.2.2.1.trans hr) (fun t ht hW => ⟨⟨some (.long x), rfl, rfl, by rw [ht]; exact h1⟩, h2.F ht⟩) h2.2.2 hd (hlocks := F.2.2.2.2.2.2.1)))
/-! calls -/
theorem size_eq {A : Nat → Prop} {s : State} {H : Heap} {locs : List Loc} {t0 : Nat} (h1 : Mr g A S H) (h2 : va_S A s.heap H locs) (h4 : t0 ≤ S.1) (hz : 1 ≤ t0 ∧ (t0 < NT → s.heap.size = gB g + t0)) (hx : H.size ≤ s.heap.size + (S.1 - t0)) : S.1 < NT → H.size = gB g + S.1 := by
  intro h
  obtain ⟨hz0, hz⟩ := hz
  have hz := hz (by omega)
  have h22 := h2.1
  rcases Nat.lt_or_ge 1 S.1 with q | q
  · obtain ⟨k, hk⟩ := wl_get (g := g) (S := S) (a := S.1 - 1) (by omega) (by omega)
    have := (h1.1 k _ hk).lt
    have : gB g + (S.1 - 1) < H.size := this
    omega
  · have := h1.2.2.1
    omega
theorem aof_sub {A : Nat → Prop} {s : State} {H : Heap} {locs : List Loc} (h1 : Mr g A S H) (h2 : va_S A s.heap H locs) (hA : ∀ q, s.heap.size ≤ q → A q) : ∀ q, Aof g S.1 H.size q → A q := by
  intro q h
  rcases h with h | h
  · have := h1.2.1 (q - gB g) (by omega) (by omega)
    rwa [show gB g + (q - gB g) = q by omega] at this
  · exact hA q (Nat.le_trans h2.1 h)
theorem blind (g : gX) (args : List Value) (S : hS) (sz : Nat) : FrameBlind (Pc0 g args S sz) := by
  intro a U g' mk h
  obtain ⟨q0, q1, q2, q3, q4, q5, q6⟩ := h
  exact ⟨q0, q1, q2, q3, q4, q5.moved (u := U) (U := U.calling g' mk a) (State.WarmedH.refl U), q6⟩
theorem pre_of {p : Program} {s : State} {m : MethodId} {args : Array Value} {meth : Method} {c : Code} {A : Nat → Prop} {H : Heap} {locs : List Loc} {t0 : Nat} {As : List Value} (F : Fx g μ t0 p s m args meth c A) (h1 : Mr g A S H) (h2 : va_S A s.heap H locs) (hz : S.1 < NT → H.size = gB g + S.1) : ∀ U : State, U.heap = H → s.WarmedH U.vm → Pc0 g As S H.size (As.map (sv g)).toArray U := by
  intro U hU hW
  refine ⟨rfl, by rw [hU], by rw [hU]; exact h1.1, h1.2.2.1, h1.2.2.2, ?_, hz, F.2.2.2.2.2.2.2.2.2.2.2.1⟩
  rw [hU]
  exact ((F.2.2.2.2.2.2.2.2.2.1.kept h2.1 h2.2.1).narrow (aof_sub h1 h2 F.2.2.2.2.2.2.2.2.2.2.1)).moved hW
/-- behind a call -/
theorem go_run {p : Program} {e : Env} {s : State} {m : MethodId} {args : Array Value} {below : List Frame} {meth : Method} {c : Code} {A : Nat → Prop} {H : Heap} {locs : List Loc} {la : Array Slot} {Q : State → Prop} {R0 : Room} {v : Option Value} {a : Array Value} {st0 rest : List Value} {cells slots mc ms : Nat}
    (hr : va_Run p (gl g) e R0 s m args below meth c H locs cells slots mc ms (F0 m pc la st0) rest (Qc g (.inl v, S') (Aof g S.1 H.size) a) (Aof g S.1 H.size)) (h1 : Mr g A S H) (h2 : va_S A s.heap H locs) (hA : ∀ q, s.heap.size ≤ q → A q)
    (kk : ∀ (H1 : Heap) (locs1 : List Loc), Mr g A S' H1 → va_S A s.heap H1 locs1 → W p (gl g) e R0 s m args below meth c H1 locs1 (cells + mc) (slots + ms) Q (F0 m (pc + 3) la ((v.map (sv g)).toList ++ rest))) : W p (gl g) e R0 s m args below meth c H locs cells slots Q (F0 m pc la st0) := by
  intro T hT X
  obtain ⟨v9, st₀, t, T', L, h0, X', hL, e1, e2, ⟨⟨v8, hv8, hv, hM⟩, hz, hk⟩, st9⟩ := hr T hT X
  cases hv8
  cases hv
  rw [h0] at hz hk
  have hsub := aof_sub h1 h2 hA
  have hM' : Mr g A S' T'.heap := by
    rw [e1]
    exact ⟨hM.1, fun b hb1 hb2 => hsub _ (hM.2.1 b hb1 hb2), hM.2.2⟩
  obtain ⟨t2, a1, b1⟩ := kk T'.heap (locs ++ L) hM' ⟨Nat.le_trans h2.1 (by rw [e1]; exact hz), fun q g1 g2 => by rw [e1, hk q (Nat.lt_of_lt_of_le g1 h2.1) (fun z => g2 (hsub q z))]; exact h2.2.1 q g1 g2, fun q hq => by
      rcases List.mem_append.mp hq with h | h
      · exact h2.2.2 q h
      · exact hsub _ (hL q h)⟩ T' rfl X'
  exact ⟨t2, st9 t2 a1, b1⟩
def noMH (y : MethodName) : Prop := y.cls ≠ "java/lang/invoke/MethodHandle" ∧ y.cls ≠ "java/lang/invoke/VarHandle"
/-- what a call's place is known by: a virtual one of the receiver's own class; a static one; a constructor's -/
def VF (own : String) (idx c : Nat) (μ' : mX) (n : Nat) : Prop := (Cond.methodLink own idx μ'.1 ∈ gW ∧ Cond.instanceMethod μ'.1 ∈ gW ∧ Cond.selects (cC c) μ'.1 μ'.1 ∈ gW ∧ Cond.initialized (cC c) ∈ gW ∧ cdOf μ' ∈ gW) ∧ vwCl[c]? = some (cC c, cT c, cN c) ∧ (μ'.1.cls = cC c ∧ μ'.1.cls ≠ "java/lang/invoke/MethodHandle" ∧ μ'.1.cls ≠ "java/lang/invoke/VarHandle" ∧ (parseMethodDescriptor μ'.1.desc).map (fun d => d.parameters.length) = some n) ∧ μ'.2.2.1 ≤ 40
def SF (own : String) (idx : Nat) (μ' : mX) (n : Nat) : Prop := (Cond.methodLink own idx μ'.1 ∈ gW ∧ Cond.static μ'.1 ∈ gW ∧ Cond.initialized μ'.1.cls ∈ gW ∧ cdOf μ' ∈ gW) ∧ (μ'.1.cls ≠ "java/lang/invoke/MethodHandle" ∧ μ'.1.cls ≠ "java/lang/invoke/VarHandle" ∧ (parseMethodDescriptor μ'.1.desc).map (fun d => d.parameters.length) = some n) ∧ μ'.2.2.1 ≤ 40
theorem rest_cat (g : gX) (st : List Value) : ((st.map (sv g)).map fun v => v.category).sum = (st.map fun v => v.category).sum := by
  rw [List.map_map]; congr 2; funext v; exact sv_cat g v
theorem gW_app {a b : List Cond} (ha : ∀ w ∈ a, w ∈ gW) (hb : GoodIn gW b) : GoodIn gW (a ++ b) := fun w h => (List.mem_append.mp h).elim (fun q => gW_good w (ha w q)) (hb w)
theorem M_callV {μ' : mX} {idx c n b : Nat} {As : List Value} {v : Option Value} {st0 : List Value} (hd : decode μ.2.1 pc = .ok (.invokevirtual idx, 3)) (hf : VF μ.1.cls idx c μ' n) (hn : As.length = n) (hst : st0 = As.reverse ++ .ref b :: st) (ho : OB S.1 b c) (hr : (st.map fun v => v.category).sum ≤ 8) (hC : Cm g μ' d (.ref b :: As) S v S') (ht : S'.1 ≤ tt.2.1)
    (k : M g μ (d + 1) tt R (pc + 3) ls (v.toList ++ st) S') : M g μ (d + 1) tt R pc ls st0 S := by
  intro p e s m args below meth c0 A F H locs la h1 h2 h3 h4 h5 T hT X
  subst hst
  have hz := size_eq h1 h2 h4 F.2.2.2.2.2.2.2.2.2.2.2.2 (by rw [← hT]; exact X.heapSize)
  obtain ⟨hw, hcl, hy, hmx⟩ := hf
  have ha : ad g b = gB g + b := ad_cell ho.1 (Nat.lt_of_lt_of_le ho.2.1 h1.2.2.2)
  obtain ⟨q0, hq⟩ := wl_get (g := g) (S := S) ho.1 ho.2.1
  rw [ce_ob ho] at hq
  have hrc := va_recv F.2.2.2.2.2.2.2.2.2.1.1 h1.1 hcl hq
  have hs1 := sT_mono hC.1
  have hs2 := sT_mono h4
  have hs3 := sT_mono ht
  have ht2 := hC.1
  have e8 : (As.reverse ++ .ref b :: st).map (sv g) = (As.map (sv g)).reverse ++ .ref (ad g b) :: st.map (sv g) := by simp [sv]
  have run := va_runV (l := gl g) (e := e) (below := below) (meth := meth) (locs := locs) (cells := S.1 - tt.1) (slots := sT S.1 - sT tt.1) (g := F0 m pc la ((As.reverse ++ .ref b :: st).map (sv g))) (rest := st.map (sv g)) (As := As.map (sv g)) (b := ad g b) (C := cC c) (R := rm (d + 1) tt) (H := H) ⟨F.1, F.2.1, F.2.2.2.1, F.2.2.2.2.1, F.2.2.2.2.2.1⟩ (hC.2 H.size)
    (cwV n F.2.2.2.2.2.1 (gW_app (fun w h => by simp only [List.mem_cons, List.not_mem_nil, or_false] at h; rcases h with rfl | rfl | rfl | rfl; exact hw.1; exact hw.2.1; exact hw.2.2.1; exact hw.2.2.2.1) (gW_cons hw.2.2.2.2)) rfl rfl rfl hy ⟨Nat.le_refl _, by show 8 + (μ'.2.2.1 + 11) + 64 * d ≤ 64 * (d + 1); omega⟩)
    ⟨blind g _ S _, by rw [ha]; exact hrc, pre_of (As := .ref b :: As) F h1 h2 hz⟩ rfl (by rw [List.length_map]; exact hn) h3.1 e8 (lv_room (by rw [rest_cat]; exact hr)) hd ⟨by show S.1 - tt.1 + (S'.1 - S.1 + 0) ≤ tt.2.1 - tt.1 + tt.2.2; omega, by show sT S.1 - sT tt.1 + (sT S'.1 - sT S.1 + 6 * 0) ≤ sT tt.2.1 - sT tt.1 + 6 * tt.2.2; omega⟩
  refine go_run run h1 h2 F.2.2.2.2.2.2.2.2.2.2.1 (fun H1 locs1 g1 g2 => ?_) T hT X
  have k9 := k p e s m args below meth c0 A F H1 locs1 la g1 g2 h3 (Nat.le_trans h4 hC.1) ht
  rw [show S.1 - tt.1 + (S'.1 - S.1 + 0) = S'.1 - tt.1 by omega, show sT S.1 - sT tt.1 + (sT S'.1 - sT S.1 + 6 * 0) = sT S'.1 - sT tt.1 by omega]
  rw [List.map_append] at k9
  cases v <;> exact k9
theorem M_callS {μ' : mX} {idx n : Nat} {As : List Value} {v : Option Value} {st0 : List Value} (hd : decode μ.2.1 pc = .ok (.invokestatic idx, 3)) (hf : SF μ.1.cls idx μ' n) (hn : As.length = n) (hst : st0 = As.reverse ++ st) (hr : (st.map fun v => v.category).sum ≤ 8) (hC : Cm g μ' d As S v S') (ht : S'.1 ≤ tt.2.1)
    (k : M g μ (d + 1) tt R (pc + 3) ls (v.toList ++ st) S') : M g μ (d + 1) tt R pc ls st0 S := by
  intro p e s m args below meth c0 A F H locs la h1 h2 h3 h4 h5 T hT X
  subst hst
  have hz := size_eq h1 h2 h4 F.2.2.2.2.2.2.2.2.2.2.2.2 (by rw [← hT]; exact X.heapSize)
  obtain ⟨hw, hy, hmx⟩ := hf
  have hs1 := sT_mono hC.1
  have hs2 := sT_mono h4
  have hs3 := sT_mono ht
  have ht2 := hC.1
  have e8 : (As.reverse ++ st).map (sv g) = (As.map (sv g)).reverse ++ st.map (sv g) := by simp
  have run := va_runS (l := gl g) (e := e) (below := below) (meth := meth) (locs := locs) (cells := S.1 - tt.1) (slots := sT S.1 - sT tt.1) (g := F0 m pc la ((As.reverse ++ st).map (sv g))) (rest := st.map (sv g)) (As := As.map (sv g)) (R := rm (d + 1) tt) (H := H) ⟨F.1, F.2.1, F.2.2.2.1, F.2.2.2.2.1, F.2.2.2.2.2.1⟩ (hC.2 H.size)
    (va_cwS n F.2.2.2.2.2.1 (gW_app (fun w h => by simp only [List.mem_cons, List.not_mem_nil, or_false] at h; rcases h with rfl | rfl | rfl; exact hw.1; exact hw.2.1; exact hw.2.2.1) (gW_cons hw.2.2.2)) rfl rfl rfl hy ⟨Nat.le_refl _, by show 8 + (μ'.2.2.1 + 11) + 64 * d ≤ 64 * (d + 1); omega⟩)
    ⟨blind g _ S _, pre_of (As := As) F h1 h2 hz⟩ rfl (by rw [List.length_map]; exact hn) h3.1 e8 (lv_room (by rw [rest_cat]; exact hr)) hd ⟨by show S.1 - tt.1 + (S'.1 - S.1 + 0) ≤ tt.2.1 - tt.1 + tt.2.2; omega, by show sT S.1 - sT tt.1 + (sT S'.1 - sT S.1 + 6 * 0) ≤ sT tt.2.1 - sT tt.1 + 6 * tt.2.2; omega⟩
  refine go_run run h1 h2 F.2.2.2.2.2.2.2.2.2.2.1 (fun H1 locs1 g1 g2 => ?_) T hT X
  have k9 := k p e s m args below meth c0 A F H1 locs1 la g1 g2 h3 (Nat.le_trans h4 hC.1) ht
  rw [show S.1 - tt.1 + (S'.1 - S.1 + 0) = S'.1 - tt.1 by omega, show sT S.1 - sT tt.1 + (sT S'.1 - sT S.1 + 6 * 0) = sT S'.1 - sT tt.1 by omega]
  rw [List.map_append] at k9
  cases v <;> exact k9
end
