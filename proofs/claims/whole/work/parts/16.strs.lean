/-! texts: String.length, String.charAt over the machine -/
theorem ad_str (g : gX) {j : Nat} (h : j < NS) : ad g (100000 + j) = gK g j := by
  unfold ad
  simp only [NS] at h
  rw [if_neg (by omega), if_neg (by omega), if_pos (by omega), Nat.add_sub_cancel_left]
theorem ad_row (g : gX) (j : Nat) : ad g (200000 + j) = gV g j := by
  unfold ad
  rw [if_neg (by omega), if_neg (by omega), if_neg (by omega), Nat.add_sub_cancel_left]
def slen (j : Nat) : Int32 := Int32.ofNat (lenL.getD j 0)
def sch (j : Nat) (i : Int32) : Option Int32 := ald (lenL.getD j 0) (fun k => (bytL.getD j []).getD k 0) i
theorem vx_ofWF {l : Launch} {y : MethodName} {ws ws' : List Cond} {rm : Room} {Pc : Array Value → State → Prop} {Qc : Array Value → State → Outcome → State → Prop} {XC : String → State → State → Prop} {mc ms : Nat} {free : Addr → Prop} {cc : ByteArray} {maxL : Nat} {ret : Option FieldType}
    (hy : plainFor y = true) (hw : ws = Cond.code y cc maxL ret :: ws')
    (body : ∀ p e s m args below meth c s₁, BodyLoose p l y (headSpec ws rm) cc maxL ret e s m args below meth c s₁ → c.maxLocals = maxL → (∀ x ∈ c.exceptionTable.toList, False) → Pc args s →
      W p l e (headSpec ws rm).room s m args below meth c s.heap [] 0 0 (vx_MQ below Qc XC args s mc ms free) (entryFrame m args maxL)) : vx_Met l y ws rm Pc Qc XC mc ms free := by
  refine MetFree.of_bodySF (code := cc) (maxLocals := maxL) (ret := ret) hy ?_ ?_
  · intro args s m h hn
    obtain ⟨meth, c, h1, h2, h3, h4, h5, h6, -, -⟩ := Cond.code_spec hn (atoms_spec (ws := ws) h _ (by rw [hw]; exact List.mem_cons_self))
    exact ⟨meth, c, h1, h2, h3, h4, h5, h6⟩
  · intro p e s m args below meth c s₁ B hml hP _
    have hh0 : s₁.heap = s.heap := by rw [B.state]; rfl
    have ht : ∀ x ∈ c.exceptionTable.toList, False := by
      obtain ⟨meth9, c9, h1, h2, -, -, -, -, h7, -⟩ := Cond.code_spec B.named (atoms_spec (ws := ws) B.pre _ (by rw [hw]; exact List.mem_cons_self))
      cases Option.some.inj (h1.symm.trans B.method)
      cases Option.some.inj (h2.symm.trans (Stand.of_body B).code)
      intro x hx
      rw [Array.isEmpty_iff.mp h7] at hx
      cases hx
    obtain ⟨t, a1, o, b1, b2, b3⟩ := body p e s m args below meth c s₁ B hml ht hP s₁ hh0 (Stand.of_body B)
    exact ⟨t, o, a1, b1, b2, b3⟩
section
variable {g : gX} {μ : mX} {d pc : Nat} {tt : tX} {R : rX} {ls ls' : List (Option Value)} {st : List Value} {S S' : hS}
theorem enterF {args : List Value} (hy : plainFor μ.1 = true) (hc : ∀ v ∈ args, v.category = 1) (hl : args.length ≤ μ.2.2.1) {x sz : Nat} (ht : S.1 ≤ R.2.1) (hm : M g μ d (S.1, R.2.1, x) R 0 (ent args μ.2.2.1) [] S) :
    vx_Met (gl g) μ.1 (cdOf μ :: gW) (rm d (S.1, R.2.1, x)) (Pc0 g args S sz) (Qc g R (Aof g S.1 sz)) (XC g R (Aof g S.1 sz)) (R.2.1 - S.1 + x) (sT R.2.1 - sT S.1 + 6 * x) (Aof g S.1 sz) := by
  refine vx_ofWF (cc := μ.2.1) (maxL := μ.2.2.1) (ret := μ.2.2.2) hy rfl ?_
  intro p e s m args9 below meth c s₁ B hml hex hv
  obtain ⟨rfl, hsz, hP, hs1, hs2, hO, hz, htr⟩ := hv
  have hts := atoms_spec (ws := cdOf μ :: gW) B.pre
  have hF : Fx g μ S.1 p s m (args.map (sv g)).toArray meth c (Aof g S.1 sz) := ⟨B.exec, B.bytes, B.returns, hml, findClass_of_methodNamed B.named, fun w hw => hts w (List.mem_cons_of_mem _ hw), B.notSynchronized, (name_of_methodNamed B.named B.method).1, hex, hO, fun q hq => Or.inr (by omega), htr, hs1, fun q => hsz.trans (hz q)⟩
  have hc2 : ∀ v ∈ args.map (sv g), v.category = 1 := by
    intro v hv
    obtain ⟨w, hw, rfl⟩ := List.mem_map.mp hv
    rw [sv_cat]; exact hc w hw
  have hlen : (lg_sl (args.map (sv g))).length = args.length := by rw [lg_len _ hc2, List.length_map]
  have hle := lv_entry (args.map (sv g)) (n := μ.2.2.1) (by rw [hlen]; exact hl)
  rw [lg_entry_eq]
  rw [← lvl_ent g (μ.2.2.1 - args.length) args 0 hc] at hle
  have k := hm p e s m (args.map (sv g)).toArray below meth c (Aof g S.1 sz) hF s.heap [] _ ⟨hP, cov_of g S.1 sz, hs1, hs2⟩ va_S.rf hle (Nat.le_refl _) ht
  rw [Nat.sub_self, Nat.sub_self] at k
  exact k
theorem Cm.ofF {args : List Value} {v : Option Value} (hy : plainFor μ.1 = true) (hc : ∀ v ∈ args, v.category = 1) (hl : args.length ≤ μ.2.2.1) (ht : S.1 ≤ S'.1) (he : ent args μ.2.2.1 = ls) (hm : M g μ d (S.1, S'.1, 0) (.inl v, S') 0 ls [] S) : Cm g μ d args S v S' := by
  subst he
  refine ⟨ht, fun sz => vx_met (XC := XC g (.inl v, S') (Aof g S.1 sz)) (enterF (R := (.inl v, S')) hy hc hl ht hm) ?_⟩
  intro E st t h
  cases h.1
theorem va_ldcSW {p : Program} {l : Launch} {e : Env} {R : Room} {s : State} {m : MethodId} {args : Array Value} {below : List Frame} {meth : Method} {c : Code} {H : Heap} {locs : List Loc} {cells slots : Nat} {Q : State → Prop} {cc : ByteArray} {pc : Nat} {ls : Array Slot} {rest : List Value} (hexec : p.tables.exec = Jvm.exec) (hb : c.code = cc) {own tx : String} {index q : Nat} (hown : s.vm.findClass own = some m.cls) (hZ : vk_R own index tx q s) (hdg : decode cc pc = .ok (.ldc_w index, 3))
    (k : W p l e R s m args below meth c H locs cells slots Q (F0 m (pc + 3) ls (.ref q :: rest))) : W p l e R s m args below meth c H locs cells slots Q (F0 m pc ls rest) := by
  intro T hT X
  obtain ⟨t, a1, b1⟩ := k T hT X
  exact ⟨t, X.ldcStringW hexec hown (text := tx) (a := q) hZ.1 hZ.2 (g := F0 m pc ls rest) rfl (by rw [hb]; exact hdg) t a1, b1⟩
theorem M_ldcS {j idx : Nat} {tx : String} (hd : decode μ.2.1 pc = .ok (.ldc idx, 2)) (hj : j < NS) (hs : strL.getD j ("", 0, "") = (μ.1.cls, idx, tx)) (k : M g μ d tt R (pc + 2) ls (.ref (100000 + j) :: st) S) : M g μ d tt R pc ls st S := by
  intro p e s m args below meth c A F H locs la h1 h2 h3 h4 h5
  have hO := (F.2.2.2.2.2.2.2.2.2.1.2.2.2.2.2.2.1 j hj).1
  rw [hs] at hO
  have k9 := k p e s m args below meth c A F H locs la h1 h2 h3 h4 h5
  have e9 : (Value.ref (100000 + j) :: st).map (sv g) = .ref (gK g j) :: st.map (sv g) := by show Value.ref (ad g (100000 + j)) :: _ = _; rw [ad_str g hj]
  rw [e9] at k9
  exact va_ldcS F.1 F.2.1 F.2.2.2.2.1 hO hd k9
theorem M_ldcSW {j idx : Nat} {tx : String} (hd : decode μ.2.1 pc = .ok (.ldc_w idx, 3)) (hj : j < NS) (hs : strL.getD j ("", 0, "") = (μ.1.cls, idx, tx)) (k : M g μ d tt R (pc + 3) ls (.ref (100000 + j) :: st) S) : M g μ d tt R pc ls st S := by
  intro p e s m args below meth c A F H locs la h1 h2 h3 h4 h5
  have hO := (F.2.2.2.2.2.2.2.2.2.1.2.2.2.2.2.2.1 j hj).1
  rw [hs] at hO
  have k9 := k p e s m args below meth c A F H locs la h1 h2 h3 h4 h5
  have e9 : (Value.ref (100000 + j) :: st).map (sv g) = .ref (gK g j) :: st.map (sv g) := by show Value.ref (ad g (100000 + j)) :: _ = _; rw [ad_str g hj]
  rw [e9] at k9
  exact va_ldcSW F.1 F.2.1 F.2.2.2.2.1 hO hd k9
theorem M_getSV {j idx : Nat} (hd : decode μ.2.1 pc = .ok (.getfield idx, 3)) (hj : j < NS) (hl : Cond.fieldLink μ.1.cls idx "java/lang/String" "value" "[B" ∈ gW) (k : M g μ d tt R (pc + 3) ls (.ref (200000 + j) :: st) S) : M g μ d tt R pc ls (.ref (100000 + j) :: st) S := by
  intro p e s m args below meth c A F H locs la h1 h2 h3 h4 h5
  have hO := (F.2.2.2.2.2.2.2.2.2.1.2.2.2.2.2.2.1 j hj).2.2.2.1
  have k9 := k p e s m args below meth c A F H locs la h1 h2 h3 h4 h5
  have e9 : (Value.ref (200000 + j) :: st).map (sv g) = .ref (gV g j) :: st.map (sv g) := by show Value.ref (ad g (200000 + j)) :: _ = _; rw [ad_row g j]
  rw [e9] at k9
  show W _ _ _ _ _ _ _ _ _ _ _ _ _ _ _ (F0 m pc la (.ref (ad g (100000 + j)) :: st.map (sv g)))
  rw [ad_str g hj]
  exact vk_getf F.1 F.2.1 hO h2 F.2.2.2.2.1 (F.2.2.2.2.2.1 _ hl) (fun _ h => h) hd k9
theorem M_getSC {j idx : Nat} (hd : decode μ.2.1 pc = .ok (.getfield idx, 3)) (hj : j < NS) (hl : Cond.fieldLink μ.1.cls idx "java/lang/String" "coder" "B" ∈ gW) (k : M g μ d tt R (pc + 3) ls (.int 0 :: st) S) : M g μ d tt R pc ls (.ref (100000 + j) :: st) S := by
  intro p e s m args below meth c A F H locs la h1 h2 h3 h4 h5
  have hO := (F.2.2.2.2.2.2.2.2.2.1.2.2.2.2.2.2.1 j hj).2.2.1
  show W _ _ _ _ _ _ _ _ _ _ _ _ _ _ _ (F0 m pc la (.ref (ad g (100000 + j)) :: st.map (sv g)))
  rw [ad_str g hj]
  exact vk_getf F.1 F.2.1 hO h2 F.2.2.2.2.1 (F.2.2.2.2.2.1 _ hl) (fun _ h => h) hd (k p e s m args below meth c A F H locs la h1 h2 h3 h4 h5)
theorem M_tlen {j : Nat} {v : Int32} (hd : decode μ.2.1 pc = .ok (.arraylength, 1)) (hj : j < NS) (hv : slen j = v) (k : M g μ d tt R (pc + 1) ls (.int v :: st) S) : M g μ d tt R pc ls (.ref (200000 + j) :: st) S := by
  intro p e s m args below meth c A F H locs la h1 h2 h3 h4 h5
  have hO := (F.2.2.2.2.2.2.2.2.2.1.2.2.2.2.2.2.1 j hj).2.2.2.2
  show W _ _ _ _ _ _ _ _ _ _ _ _ _ _ _ (F0 m pc la (.ref (ad g (200000 + j)) :: st.map (sv g)))
  rw [ad_row g j]
  exact va_tlen F.1 F.2.1 hO h2 hv hd (k p e s m args below meth c A F H locs la h1 h2 h3 h4 h5)
theorem M_tbld {j : Nat} {i v : Int32} (hd : decode μ.2.1 pc = .ok (.baload, 1)) (hj : j < NS) (hv : sch j i = some v) (k : M g μ d tt R (pc + 1) ls (.int v :: st) S) : M g μ d tt R pc ls (.int i :: .ref (200000 + j) :: st) S := by
  intro p e s m args below meth c A F H locs la h1 h2 h3 h4 h5
  obtain ⟨q1, q2⟩ := ald_some hv
  have hO := (F.2.2.2.2.2.2.2.2.2.1.2.2.2.2.2.2.1 j hj).2.2.2.2
  show W _ _ _ _ _ _ _ _ _ _ _ _ _ _ _ (F0 m pc la (.int i :: .ref (ad g (200000 + j)) :: st.map (sv g)))
  rw [ad_row g j]
  exact va_tb F.1 F.2.1 hO h2 (inB_in q1) (by show Value.int _ = _; rw [q2]; rfl) hd (k p e s m args below meth c A F H locs la h1 h2 h3 h4 h5)
theorem M_getCS {idx : Nat} (hd : decode μ.2.1 pc = .ok (.getstatic idx, 3)) (hl : Cond.fieldLink μ.1.cls idx "java/lang/String" "COMPACT_STRINGS" "Z" ∈ gW) (k : M g μ d tt R (pc + 3) ls (.int 1 :: st) S) : M g μ d tt R pc ls st S := fun p e s m args below meth c A F H locs la h1 h2 h3 h4 h5 =>
  va_gets F.1 F.2.1 F.2.2.2.2.2.2.2.2.2.1.2.2.2.2.2.2.2.1 h2 F.2.2.2.2.1 (F.2.2.2.2.2.1 _ hl) (fun _ h => h) hd (k p e s m args below meth c A F H locs la h1 h2 h3 h4 h5)
theorem M_getSF {idx : Nat} (hd : decode μ.2.1 pc = .ok (.getstatic idx, 3)) (hl : Cond.fieldLink μ.1.cls idx "jdk/internal/util/Preconditions" "SIOOBE_FORMATTER" "Ljava/util/function/BiFunction;" ∈ gW) (k : M g μ d tt R (pc + 3) ls (.null :: st) S) : M g μ d tt R pc ls st S := fun p e s m args below meth c A F H locs la h1 h2 h3 h4 h5 =>
  va_gets F.1 F.2.1 F.2.2.2.2.2.2.2.2.2.1.2.2.2.2.2.2.2.2 h2 F.2.2.2.2.1 (F.2.2.2.2.2.1 _ hl) (fun _ h => h) hd (k p e s m args below meth c A F H locs la h1 h2 h3 h4 h5)
theorem M_i2c {x : Int32} (hd : decode μ.2.1 pc = .ok (.i2c, 1)) (k : M g μ d tt R (pc + 1) ls (.int (x.toUInt32 % 65536).toInt32 :: st) S) : M g μ d tt R pc ls (.int x :: st) S := fun p e s m args below meth c A F H locs la h1 h2 h3 h4 h5 =>
  lv_i2c F.1 F.2.1 hd rfl (k p e s m args below meth c A F H locs la h1 h2 h3 h4 h5)
/-- a call of a text's own method -/
def TF (own : String) (idx : Nat) (μ' : mX) (n : Nat) : Prop := (Cond.methodLink own idx μ'.1 ∈ gW ∧ Cond.instanceMethod μ'.1 ∈ gW ∧ Cond.selects "java/lang/String" μ'.1 μ'.1 ∈ gW ∧ Cond.initialized "java/lang/String" ∈ gW ∧ cdOf μ' ∈ gW) ∧ (μ'.1.cls = "java/lang/String" ∧ μ'.1.cls ≠ "java/lang/invoke/MethodHandle" ∧ μ'.1.cls ≠ "java/lang/invoke/VarHandle" ∧ (parseMethodDescriptor μ'.1.desc).map (fun d => d.parameters.length) = some n) ∧ μ'.2.2.1 ≤ 40
theorem M_callT {μ' : mX} {idx n j : Nat} {As : List Value} {w : Value} {st0 : List Value} (hd : decode μ.2.1 pc = .ok (.invokevirtual idx, 3)) (hf : TF μ.1.cls idx μ' n) (hj : j < NS) (hn : As.length = n) (hst : st0 = As.reverse ++ .ref (100000 + j) :: st) (hr : (st.map fun v => v.category).sum ≤ 8) (hC : Cm g μ' d (.ref (100000 + j) :: As) S (some w) S')  (ht : S'.1 ≤ tt.2.1)
    (k : M g μ (d + 1) tt R (pc + 3) ls (w :: st) S') : M g μ (d + 1) tt R pc ls st0 S := by
  intro p e s m args below meth c0 A F H locs la h1 h2 h3 h4 h5 T hT X
  subst hst
  have hz := size_eq h1 h2 h4 F.2.2.2.2.2.2.2.2.2.2.2.2 (by rw [← hT]; exact X.heapSize)
  obtain ⟨hw, hy, hmx⟩ := hf
  have hrc : ∃ cell : Cell, H[ad g (100000 + j)]? = some cell ∧ cell.vm.isStatics = false ∧ s.vm.findClass "java/lang/String" = some cell.cls := by
    rw [ad_str g hj]
    obtain ⟨cell, q1, q2, q3, q4⟩ := ((F.2.2.2.2.2.2.2.2.2.1.2.2.2.2.2.2.1 j hj).2.1.kept h2.2.1)
    exact ⟨cell, q1, q2, q3⟩
  have hs1 := sT_mono hC.1
  have hs2 := sT_mono h4
  have hs3 := sT_mono ht
  have ht2 := hC.1
  have e8 : (As.reverse ++ .ref (100000 + j) :: st).map (sv g) = (As.map (sv g)).reverse ++ .ref (ad g (100000 + j)) :: st.map (sv g) := by simp [sv]
  have run := va_runV (l := gl g) (e := e) (below := below) (meth := meth) (locs := locs) (cells := S.1 - tt.1) (slots := sT S.1 - sT tt.1) (g := F0 m pc la ((As.reverse ++ .ref (100000 + j) :: st).map (sv g))) (rest := st.map (sv g)) (As := As.map (sv g)) (b := ad g (100000 + j)) (C := "java/lang/String") (R := rm (d + 1) tt) (H := H) ⟨F.1, F.2.1, F.2.2.2.1, F.2.2.2.2.1, F.2.2.2.2.2.1⟩ (hC.2 H.size)
    (cwV n F.2.2.2.2.2.1 (gW_app (fun w h => by simp only [List.mem_cons, List.not_mem_nil, or_false] at h; rcases h with rfl | rfl | rfl | rfl; exact hw.1; exact hw.2.1; exact hw.2.2.1; exact hw.2.2.2.1) (gW_cons hw.2.2.2.2)) rfl rfl rfl hy ⟨Nat.le_refl _, by show 8 + (μ'.2.2.1 + 11) + 64 * d ≤ 64 * (d + 1); omega⟩)
    ⟨blind g _ S _, hrc, pre_of (As := .ref (100000 + j) :: As) F h1 h2 hz⟩ rfl (by rw [List.length_map]; exact hn) h3.1 e8 (lv_room (by rw [rest_cat]; exact hr)) hd ⟨by show S.1 - tt.1 + (S'.1 - S.1 + 0) ≤ tt.2.1 - tt.1 + tt.2.2; omega, by show sT S.1 - sT tt.1 + (sT S'.1 - sT S.1 + 6 * 0) ≤ sT tt.2.1 - sT tt.1 + 6 * tt.2.2; omega⟩
  refine go_run run h1 h2 F.2.2.2.2.2.2.2.2.2.2.1 (fun H1 locs1 g1 g2 => ?_) T hT X
  have k9 := k p e s m args below meth c0 A F H1 locs1 la g1 g2 h3 (Nat.le_trans h4 hC.1) ht
  rw [show S.1 - tt.1 + (S'.1 - S.1 + 0) = S'.1 - tt.1 by omega, show sT S.1 - sT tt.1 + (sT S'.1 - sT S.1 + 6 * 0) = sT S'.1 - sT tt.1 by omega]
  exact k9
end
