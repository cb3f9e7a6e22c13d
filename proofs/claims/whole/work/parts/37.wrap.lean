/-! methods with handlers: a call that may throw, its catching, the contract -/
section
variable {g : gX} {μ : mX} {nc ns pc : Nat} {Z : zX} {ls ls' : List (Option Value)} {st : List Value} {S S' : hS} {R : rX}
def YX (g : gX) (μ : mX) (Z : zX) (nc ns : Nat) (E : String) (pc : Nat) (ls : List (Option Value)) (st : List Value) (S : hS) : Prop :=
  ∀ (p : Program) (e : Env) (s : State) (m : MethodId) (args : Array Value) (below : List Frame) (meth : Method) (c : Code) (A : Nat → Prop), Fy g μ Z p s m args meth c A →
  ∀ (H : Heap) (locs : List Loc) (la : Array Slot), Mr g A S H → va_S A s.heap H locs → lvH g la μ.2.2.1 ls → ∀ (q : Addr) (ce : Cell), H[q]? = some ce → ce.vm = .none → s.vm.findClass E = some ce.cls →
  vx_W p (gl g) e Z.1 s m args below meth c H locs nc ns (Z.2.2.2 below args s A) (F0 m pc la (st.map (sv g))) q
def YH (g : gX) (μ : mX) (Z : zX) (nc ns : Nat) (pc : Nat) (ls : List (Option Value)) (S : hS) : Prop :=
  ∀ (p : Program) (e : Env) (s : State) (m : MethodId) (args : Array Value) (below : List Frame) (meth : Method) (c : Code) (A : Nat → Prop), Fy g μ Z p s m args meth c A →
  ∀ (H : Heap) (locs : List Loc) (la : Array Slot), Mr g A S H → va_S A s.heap H locs → lvH g la μ.2.2.1 ls → ∀ (q : Addr),
  W p (gl g) e Z.1 s m args below meth c H locs nc ns (Z.2.2.2 below args s A) (F0 m pc la [.ref q])
theorem Y_callX {μ' : mX} {d idx c n b : Nat} {As : List Value} {st0 : List Value} (hd : decode μ.2.1 pc = .ok (.invokevirtual idx, 3)) (hf : VF μ.1.cls idx c μ' n) (hn : As.length = n) (hst : st0 = As.reverse ++ .ref b :: st) (ho : OB S.1 b c) (hr : (st.map fun v => v.category).sum ≤ 8) (hS : S.1 = NT) (hS' : R.2.1 = NT) (hC : Cx g μ' d (.ref b :: As) S R) (hR : d + 1 ≤ Z.1.frames ∧ 8 + (40 + 11) + 64 * d ≤ Z.1.locals ∧ nc + 1 ≤ Z.1.cells ∧ ns + 6 ≤ Z.1.slots)
    (kr : ∀ v, R.1 = .inl v → Y g μ Z (nc + 1) (ns + 6) (pc + 3) ls (v.toList ++ st) R.2) (kx : ∀ E, R.1 = .inr E → YX g μ Z (nc + 1) (ns + 6) E pc ls st R.2) : Y g μ Z nc ns pc ls st0 S := by
  intro p e s m args below meth c0 A F H locs la h1 h2 h3 T hT X
  subst hst
  have hz : S.1 < NT → H.size = gB g + S.1 := fun q => absurd q (by rw [hS]; exact Nat.lt_irrefl _)
  obtain ⟨hw, hcl, hy, hmx⟩ := hf
  have ha : ad g b = gB g + b := ad_cell ho.1 (Nat.lt_of_lt_of_le ho.2.1 h1.2.2.2)
  obtain ⟨q0, hq⟩ := wl_get (g := g) (S := S) ho.1 ho.2.1
  rw [ce_ob ho] at hq
  have hrc := va_recv F.2.2.2.2.2.2.2.2.2.1.1 h1.1 hcl hq
  have e0 : R.2.1 - S.1 + 1 = 1 := by omega
  have e1 : sT R.2.1 - sT S.1 + 6 * 1 = 6 := by rw [hS, hS']; omega
  have e8 : (As.reverse ++ .ref b :: st).map (sv g) = (As.map (sv g)).reverse ++ .ref (ad g b) :: st.map (sv g) := by simp [sv]
  have run := vx_runV (l := gl g) (e := e) (below := below) (meth := meth) (locs := locs) (cells := nc) (slots := ns) (g := F0 m pc la ((As.reverse ++ .ref b :: st).map (sv g))) (rest := st.map (sv g)) (As := As.map (sv g)) (b := ad g b) (C := cC c) (R := Z.1) (H := H) ⟨F.1, F.2.1, F.2.2.2.1, F.2.2.2.2.1, F.2.2.2.2.2.1⟩ (hC.2 H.size)
    (cwV n F.2.2.2.2.2.1 (gW_app (fun w h => by simp only [List.mem_cons, List.not_mem_nil, or_false] at h; rcases h with rfl | rfl | rfl | rfl; exact hw.1; exact hw.2.1; exact hw.2.2.1; exact hw.2.2.2.1) (gW_cons hw.2.2.2.2)) rfl rfl rfl hy ⟨hR.1, by show 8 + (μ'.2.2.1 + 11) + 64 * d ≤ Z.1.locals; omega⟩)
    ⟨blind g _ S _, by rw [ha]; exact hrc, pre_ofY (As := .ref b :: As) F h1 h2 hz⟩ rfl (by rw [List.length_map]; exact hn) h3.1 e8 (lv_room (by rw [rest_cat]; exact hr)) hd ⟨by rw [e0]; exact hR.2.2.1, by rw [e1]; exact hR.2.2.2⟩
  have hA := F.2.2.2.2.2.2.2.2.2.2.1
  have hsub := aof_sub h1 h2 hA
  have mk : ∀ (st₀ t T' : State) (L : List Loc), st₀.heap = H → T'.heap = t.heap → (∀ q ∈ L, Aof g S.1 H.size q.base) → va_F (Aof g S.1 H.size) st₀ t → Mr g (Aof g S.1 H.size) R.2 t.heap → Mr g A R.2 T'.heap ∧ va_S A s.heap T'.heap (locs ++ L) := by
    intro st₀ t T' L g0 g1 g2 ⟨g3, g4⟩ g5
    rw [g0] at g3 g4
    refine ⟨by rw [g1]; exact ⟨g5.1, fun b hb1 hb2 => hsub _ (g5.2.1 b hb1 hb2), g5.2.2⟩, Nat.le_trans h2.1 (by rw [g1]; exact g3), fun q z1 z2 => by rw [g1, g4 q (Nat.lt_of_lt_of_le z1 h2.1) (fun z => z2 (hsub q z))]; exact h2.2.1 q z1 z2, fun q hq => ?_⟩
    rcases List.mem_append.mp hq with h | h
    · exact h2.2.2 q h
    · exact hsub _ (g2 q h)
  rw [e0, e1] at run
  rcases run T hT X with ⟨v9, st₀, t, T', L, g0, X', hL, g1, g2, ⟨⟨v8, hv8, hv, hM⟩, hF⟩, st9⟩ | ⟨q, st₀, t, T', L, E, ce, g0, X', hL, g1, g2, ⟨hE, hM, hF⟩, hce, hcv, hcl9, st9⟩
  · cases hv
    obtain ⟨m1, m2⟩ := mk st₀ t T' L g0 g1 hL hF hM
    obtain ⟨t2, a1, b1⟩ := kr v8 hv8 p e s m args below meth c0 A F T'.heap (locs ++ L) la m1 m2 h3 T' rfl X'
    refine ⟨t2, st9 t2 ?_, b1⟩
    have e9 : ((v8.map (sv g)).toList ++ st.map (sv g)) = (v8.toList ++ st).map (sv g) := by rw [List.map_append]; cases v8 <;> rfl
    show Steps p.tables e below (T'.setTop (F0 m (pc + 3) la ((v8.map (sv g)).toList ++ st.map (sv g)))) t2
    rw [e9]
    exact a1
  · obtain ⟨m1, m2⟩ := mk st₀ t T' L g0 g1 hL hF hM
    obtain ⟨t2, a1, b1⟩ := kx E hE p e s m args below meth c0 A F T'.heap (locs ++ L) la m1 m2 h3 q ce (by rw [g1]; exact hce) hcv hcl9 T' rfl X'
    exact ⟨t2, st9.trans a1, b1⟩
theorem YX_catch {E name : String} (pre : List ExceptionTableEntry) (x : ExceptionTableEntry) (suf : List ExceptionTableEntry) (hsplit : ∀ c args, Z.2.2.1 c args → c.exceptionTable.toList = pre ++ x :: suf) (hpass : ∀ z ∈ pre, z.catchType ≠ 0 ∧ ∃ nm : String, Cond.classLink μ.1.cls z.catchType nm ∈ gW ∧ (E, nm) ∈ ncL) (hx : covers x pc = true) (h0 : x.catchType ≠ 0)
    (hl : Cond.classLink μ.1.cls x.catchType name ∈ gW) (hcast : Cond.castable E name ∈ nW) (k : YH g μ Z nc ns x.handlerPc ls S) : YX g μ Z nc ns E pc ls st S := by
  intro p e s m args below meth c A F H locs la h1 h2 h3 q ce hq hv hcl
  have hO := F.2.2.2.2.2.2.2.2.2.1
  have hw := F.2.2.2.2.2.1
  exact vx_catch F.2.2.2.2.1 pre x suf (hsplit c args F.2.2.2.2.2.2.2.2.1) (fun z hz => by
    obtain ⟨z1, nm, z2, z3⟩ := hpass z hz
    exact Or.inr ⟨z1, nm, hw _ z2, hO.2.2.2.2.2.1 _ z3⟩) hx h0 (hw _ hl) (va_Nw.use rfl (hO.2.2.2.2.1.1 _ hcast rfl)) hq hv hcl (k p e s m args below meth c A F H locs la h1 h2 h3 q)
/-- what a wrapper's walk is about -/
def ZW (g : gX) (d : Nat) (hh : List (Nat × Nat × Nat × Nat)) (R : rX) : zX := (rm d (NT, NT, 1), NT, fun c _ => c.exceptionTable.toList = tableOf hh, fun below args s A => vx_MQ below (Qc g R A) (XC g R A) args s (NT - NT + 1) (sT NT - sT NT + 6 * 1) A)
theorem W_iret {p : Program} {e : Env} {s : State} {m : MethodId} {args : Array Value} {below : List Frame} {meth : Method} {c : Code} {A : Nat → Prop} {H : Heap} {locs : List Loc} {la : Array Slot} {d : Nat} {hh : List (Nat × Nat × Nat × Nat)} {x : Int32} (F : Fy g μ (ZW g d hh (.inl (some (.int x)), S)) p s m args meth c A) (h1 : Mr g A S H) (h2 : va_S A s.heap H locs) (hd : decode μ.2.1 pc = .ok (.ireturn, 1)) (hr : μ.2.2.2 = some .int) (hc : nc ≤ 1 ∧ ns ≤ 6) :
    W p (gl g) e (ZW g d hh (.inl (some (.int x)), S)).1 s m args below meth c H locs nc ns ((ZW g d hh (.inl (some (.int x)), S)).2.2.2 below args s A) (F0 m pc la [.int x]) := by
  refine W.widen (k := NT - NT + 1) (n := sT NT - sT NT + 6 * 1) (by rw [Nat.sub_self]; exact hc.1) (by rw [Nat.sub_self]; exact hc.2) (vx_ret (W.zret F.1 F.2.1 (F.2.2.1.trans hr) rfl (fun t ht hW => ⟨⟨some (.int x), rfl, rfl, by rw [ht]; exact h1⟩, h2.F ht⟩) h2.2.2 hd F.2.2.2.2.2.2.1))
theorem Y_iretW {d : Nat} {hh : List (Nat × Nat × Nat × Nat)} {x : Int32} (hd : decode μ.2.1 pc = .ok (.ireturn, 1)) (hr : μ.2.2.2 = some .int) (hc : nc ≤ 1 ∧ ns ≤ 6) (hR : R = (.inl (some (.int x)), S)) : Y g μ (ZW g d hh R) nc ns pc ls [.int x] S := by
  subst hR
  exact fun p e s m args below meth c A F H locs la h1 h2 _ => W_iret F h1 h2 hd hr hc
theorem YH_n {d pc1 pc2 : Nat} {hh : List (Nat × Nat × Nat × Nat)} {j : Fin 4} {n : Int} {x : Int32} (d0 : decode μ.2.1 pc = .ok (.astore_n j, 1)) (d1 : decode μ.2.1 pc1 = .ok (.iconst n, 1)) (d2 : decode μ.2.1 pc2 = .ok (.ireturn, 1)) (hp : pc + 1 = pc1 ∧ pc1 + 1 = pc2) (hn : (j : Nat) < μ.2.2.1) (hv : Int32.ofInt n = x) (hr : μ.2.2.2 = some .int) (hc : nc ≤ 1 ∧ ns ≤ 6) (hR : R = (.inl (some (.int x)), S)) : YH g μ (ZW g d hh R) nc ns pc ls S := by
  subst hR
  obtain ⟨rfl, rfl⟩ := hp
  exact fun p e s m args below meth c A F H locs la h1 h2 h3 q => lv_astore_n F.1 F.2.1 d0 rfl h3 hn rfl (fun la hla => lv_iconst F.1 F.2.1 d1 hv (W_iret F h1 h2 d2 hr hc))
theorem YH_w {d pc1 pc2 : Nat} {hh : List (Nat × Nat × Nat × Nat)} {i : Nat} {n : Int} {x : Int32} (d0 : decode μ.2.1 pc = .ok (.astore i, 2)) (d1 : decode μ.2.1 pc1 = .ok (.iconst n, 1)) (d2 : decode μ.2.1 pc2 = .ok (.ireturn, 1)) (hp : pc + 2 = pc1 ∧ pc1 + 1 = pc2) (hn : i < μ.2.2.1) (hv : Int32.ofInt n = x) (hr : μ.2.2.2 = some .int) (hc : nc ≤ 1 ∧ ns ≤ 6) (hR : R = (.inl (some (.int x)), S)) : YH g μ (ZW g d hh R) nc ns pc ls S := by
  subst hR
  obtain ⟨rfl, rfl⟩ := hp
  exact fun p e s m args below meth c A F H locs la h1 h2 h3 q => lv_astore F.1 F.2.1 d0 h3 hn rfl (fun la hla => lv_iconst F.1 F.2.1 d1 hv (W_iret F h1 h2 d2 hr hc))
def cdW (μ : mX) (hh : List (Nat × Nat × Nat × Nat)) : Cond := Cond.codeWith μ.1 μ.2.1 μ.2.2.1 μ.2.2.2 hh
/-- CONTRACT of a wrapper: it returns v and leaves S', with one thrown cell at most -/
def Cw (g : gX) (μ : mX) (hh : List (Nat × Nat × Nat × Nat)) (d : Nat) (args : List Value) (S : hS) (v : Option Value) (S' : hS) : Prop := S.1 = NT ∧ S'.1 = NT ∧ ∀ sz, Met (gl g) μ.1 (cdW μ hh :: gW) (rm d (NT, NT, 1)) (Pc0 g args S sz) (Qc g (.inl v, S') (Aof g NT sz)) (NT - NT + 1) (sT NT - sT NT + 6 * 1) (Aof g NT sz)
theorem Cw.of {args : List Value} {v : Option Value} {hh : List (Nat × Nat × Nat × Nat)} {d : Nat} (hy : plainName μ.1.cls = true) (hc : ∀ v ∈ args, v.category = 1) (hl : args.length ≤ μ.2.2.1) (he : ent args μ.2.2.1 = ls) (hS : S.1 = NT) (hS' : S'.1 = NT) (hm : Y g μ (ZW g d hh (.inl v, S')) 0 0 0 ls [] S) : Cw g μ hh d args S v S' := by
  subst he
  refine ⟨hS, hS', fun sz => vx_met (XC := XC g (.inl v, S') (Aof g NT sz)) (vx_ofWH (hh := hh) (cc := μ.2.1) (maxL := μ.2.2.1) (ret := μ.2.2.2) hy rfl ?_) ?_⟩
  · intro p e s m args9 below meth c s₁ B hml hv
    obtain ⟨rfl, hsz, hP, hs1, hs2, hO, hz, htr⟩ := hv
    have hts := atoms_spec (ws := cdW μ hh :: gW) B.pre
    have htb := vx_table (x := μ.1) B (hts (cdW μ hh) List.mem_cons_self)
    rw [hS] at hO
    have hF : Fy g μ (ZW g d hh (.inl v, S')) p s m (args.map (sv g)).toArray meth c (Aof g NT sz) := ⟨B.exec, B.bytes, B.returns, hml, findClass_of_methodNamed B.named, fun w hw => hts w (List.mem_cons_of_mem _ hw), B.notSynchronized, (name_of_methodNamed B.named B.method).1, htb, hO, fun q hq => Or.inr (by omega), htr, by show 1 ≤ NT; decide, fun q => absurd q (Nat.lt_irrefl _)⟩
    have hc2 : ∀ v ∈ args.map (sv g), v.category = 1 := by
      intro v hv
      obtain ⟨w, hw, rfl⟩ := List.mem_map.mp hv
      rw [sv_cat]; exact hc w hw
    have hlen : (lg_sl (args.map (sv g))).length = args.length := by rw [lg_len _ hc2, List.length_map]
    have hle := lv_entry (args.map (sv g)) (n := μ.2.2.1) (by rw [hlen]; exact hl)
    rw [lg_entry_eq]
    rw [← lvl_ent g (μ.2.2.1 - args.length) args 0 hc] at hle
    exact hm p e s m (args.map (sv g)).toArray below meth c (Aof g NT sz) hF s.heap [] _ ⟨hP, by rw [hS]; exact cov_of g NT sz, hs1, hs2⟩ va_S.rf hle
  · intro E st t h
    cases h.1
/-- the law calls a wrapper -/
def WF (own : String) (idx : Nat) (μ' : mX) (hh : List (Nat × Nat × Nat × Nat)) (n : Nat) : Prop := (Cond.methodLink own idx μ'.1 ∈ gW ∧ Cond.static μ'.1 ∈ gW ∧ Cond.initialized μ'.1.cls ∈ gW ∧ cdW μ' hh ∈ gW) ∧ (μ'.1.cls ≠ "java/lang/invoke/MethodHandle" ∧ μ'.1.cls ≠ "java/lang/invoke/VarHandle" ∧ (parseMethodDescriptor μ'.1.desc).map (fun d => d.parameters.length) = some n) ∧ μ'.2.2.1 ≤ 40
theorem Y_callW {μ' : mX} {hh : List (Nat × Nat × Nat × Nat)} {d idx n : Nat} {As : List Value} {w : Value} {st0 : List Value} (hd : decode μ.2.1 pc = .ok (.invokestatic idx, 3)) (hf : WF μ.1.cls idx μ' hh n) (hn : As.length = n) (hst : st0 = As.reverse ++ st) (hr : (st.map fun v => v.category).sum ≤ 8) (hC : Cw g μ' hh d As S (some w) S') (hR : d + 1 ≤ Z.1.frames ∧ 8 + (40 + 11) + 64 * d ≤ Z.1.locals ∧ nc + 1 ≤ Z.1.cells ∧ ns + 6 ≤ Z.1.slots)
    (k : Y g μ Z (nc + 1) (ns + 6) (pc + 3) ls (w :: st) S') : Y g μ Z nc ns pc ls st0 S := by
  intro p e s m args below meth c0 A F H locs la h1 h2 h3 T hT X
  subst hst
  obtain ⟨hS, hS', hM⟩ := hC
  have hz : S.1 < NT → H.size = gB g + S.1 := fun q => absurd q (by rw [hS]; exact Nat.lt_irrefl _)
  obtain ⟨hw, hy, hmx⟩ := hf
  have e0 : NT - NT + 1 = 1 := by rw [Nat.sub_self]
  have e1 : sT NT - sT NT + 6 * 1 = 6 := by rw [Nat.sub_self]
  have e8 : (As.reverse ++ st).map (sv g) = (As.map (sv g)).reverse ++ st.map (sv g) := by simp
  have run := vx_runSW (l := gl g) (e := e) (below := below) (meth := meth) (locs := locs) (cells := nc) (slots := ns) (hh := hh) (g := F0 m pc la ((As.reverse ++ st).map (sv g))) (rest := st.map (sv g)) (As := As.map (sv g)) (R := Z.1) (H := H) ⟨F.1, F.2.1, F.2.2.2.1, F.2.2.2.2.1, F.2.2.2.2.2.1⟩ (hM H.size)
    (vx_cwSW n F.2.2.2.2.2.1 (gW_app (fun w h => by simp only [List.mem_cons, List.not_mem_nil, or_false] at h; rcases h with rfl | rfl | rfl; exact hw.1; exact hw.2.1; exact hw.2.2.1) (gW_cons hw.2.2.2)) rfl (by simp only [rm]) (by simp only [rm]) hy ⟨hR.1, by show 8 + (μ'.2.2.1 + 11) + 64 * d ≤ Z.1.locals; omega⟩)
    ⟨blind g _ S _, pre_ofY (As := As) F h1 h2 hz⟩ rfl (by rw [List.length_map]; exact hn) h3.1 e8 (lv_room (by rw [rest_cat]; exact hr)) hd ⟨by rw [e0]; exact hR.2.2.1, by rw [e1]; exact hR.2.2.2⟩
  rw [e0, e1] at run
  have run' : va_Run p (gl g) e Z.1 s m args below meth c0 H locs nc ns 1 6 (F0 m pc la ((As.reverse ++ st).map (sv g))) (st.map (sv g)) (Qc g (.inl (some w), S') (Aof g S.1 H.size) (As.map (sv g)).toArray) (Aof g S.1 H.size) := by rw [hS]; exact run
  refine go_runY run' h1 h2 F.2.2.2.2.2.2.2.2.2.2.1 (fun H1 locs1 g1 g2 => ?_) T hT X
  exact k p e s m args below meth c0 A F H1 locs1 la g1 g2 h3
end
