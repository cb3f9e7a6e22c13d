/-! what lies outside at the law's entry, and the claim out of Steps -/
theorem tb_at {args : Array Value} {s : State} (hts : ∀ w ∈ lw_tbl, w.before args s = true) (i : Nat) {w : Cond} (h : tables_1[i]? = some w) : w.before args s = true := hts _ (List.mem_append_right _ (List.mem_of_getElem? h))
abbrev fN : List Cond := flatC (Jvm.Cond.and given_1 narrow_1)
abbrev tmS (j : Nat) : Term := .string (strL.getD j ("", 0, "")).1 (strL.getD j ("", 0, "")).2.1
abbrev tmV (j : Nat) : Term := .field (tmS j) "java/lang/String" "value" "[B"
def posL : List Nat := [343, 376, 414, 446, 462, 497, 528, 562, 597, 616, 633, 650, 680, 703, 738, 754, 778, 819, 850, 880, 903, 922, 958, 150, 127, 136, 143, 156, 241, 248, 163, 170, 177, 186, 194, 201, 210, 221, 231, 254, 286, 300, 309, 318, 326, 335, 294, 263, 272, 278, 1002, 1012, 1019, 1047, 992, 1028, 1038, 1054, 1064, 1073, 1083, 1151, 1159, 1169, 1181, 1192, 1133, 1141, 1125, 1203, 1211, 1092, 1102, 1110, 1118]
def srpL : List Nat := [917, 953, 974, 994, 1010, 1053, 1084, 1085, 1094, 1102, 1110, 1118, 1148, 1149, 1157, 1173, 1204, 1220, 1247, 1284, 1299, 1307, 1364, 739, 670, 725, 726, 752, 812, 813, 771, 772, 773, 794, 795, 796, 797, 798, 799, 821, 862, 868, 869, 870, 871, 872, 867, 844, 852, 853, 1526, 1535, 1540, 1555, 1500, 1541, 1550, 1556, 1557, 1558, 1559, 1607, 1608, 1609, 1610, 1611, 1593, 1594, 1584, 1612, 1613, 1564, 1565, 1566, 1567]
def blk (j : Nat) : List Cond := [Cond.exactly (tmS j) "java/lang/String", Cond.eq (.field (tmS j) "java/lang/String" "coder" "B") (.int 0), Cond.arrayOf (tmV j) .byte, Cond.eq (.length (tmV j)) (.int (Int32.ofNat (lenL.getD j 0)))] ++ (List.range (lenL.getD j 0)).map (fun i => Cond.eq (.elem (tmV j) (.int (Int32.ofNat i))) (.int ((bytL.getD j []).getD i 0)))
theorem fn_blk : ∀ j, j < NS → (fN.drop (posL.getD j 0)).take (4 + lenL.getD j 0) = blk j := by decide +kernel
theorem fn_mem {j : Nat} (hj : j < NS) {w : Cond} (h : w ∈ blk j) : w ∈ fN := by
  rw [← fn_blk j hj] at h
  exact List.mem_of_mem_drop (List.mem_of_mem_take h)
theorem fn_ex : ∀ j, j < NS → Cond.exactly (tmS j) "java/lang/String" ∈ fN := fun j hj => fn_mem hj (List.mem_append_left _ List.mem_cons_self)
theorem fn_co : ∀ j, j < NS → Cond.eq (.field (tmS j) "java/lang/String" "coder" "B") (.int 0) ∈ fN := fun j hj => fn_mem hj (List.mem_append_left _ (List.mem_cons_of_mem _ List.mem_cons_self))
theorem fn_ar : ∀ j, j < NS → Cond.arrayOf (tmV j) .byte ∈ fN := fun j hj => fn_mem hj (List.mem_append_left _ (List.mem_cons_of_mem _ (List.mem_cons_of_mem _ List.mem_cons_self)))
theorem fn_le : ∀ j, j < NS → Cond.eq (.length (tmV j)) (.int (Int32.ofNat (lenL.getD j 0))) ∈ fN := fun j hj => fn_mem hj (List.mem_append_left _ (List.mem_cons_of_mem _ (List.mem_cons_of_mem _ (List.mem_cons_of_mem _ List.mem_cons_self))))
theorem fn_el : ∀ j, j < NS → ∀ i, i < lenL.getD j 0 → Cond.eq (.elem (tmV j) (.int (Int32.ofNat i))) (.int ((bytL.getD j []).getD i 0)) ∈ fN := fun j hj i hi => fn_mem hj (List.mem_append_right _ (List.mem_map.mpr ⟨i, List.mem_range.mpr hi, rfl⟩))
theorem fn_sr0 : ∀ j, j < NS → tables_1[srpL.getD j 0]? = some (Cond.stringRef (strL.getD j ("", 0, "")).1 (strL.getD j ("", 0, "")).2.1 (strL.getD j ("", 0, "")).2.2) := by decide +kernel
theorem fn_sr : ∀ j, j < NS → Cond.stringRef (strL.getD j ("", 0, "")).1 (strL.getD j ("", 0, "")).2.1 (strL.getD j ("", 0, "")).2.2 ∈ tables_1 := fun j hj => List.mem_of_getElem? (fn_sr0 j hj)
theorem fn_n : ∀ j, j < NS → lenL.getD j 0 < 2 ^ 31 := by decide +kernel
theorem fn_nc : ∀ q ∈ ncL, Cond.not (Cond.castable q.1 q.2) ∈ fN := by decide +kernel
theorem sS_of {args : Array Value} {s : State} {A : Nat → Prop} (hts : ∀ w ∈ lw_tbl, w.before args s = true) (hn : ∀ w ∈ fN, w.before args s = true) (hA : ∀ a : Nat, a < s.heap.size → ¬ A a) :
    ∃ adK adV : Nat → Nat, ∀ j, j < NS → vk_R (strL.getD j ("", 0, "")).1 (strL.getD j ("", 0, "")).2.1 (strL.getD j ("", 0, "")).2.2 (adK j) s ∧ va_O "java/lang/String" (adK j) A s s.heap ∧ va_OF "java/lang/String" "coder" "B" (.int 0) (adK j) A s s.heap ∧ va_OF "java/lang/String" "value" "[B" (.ref (adV j)) (adK j) A s s.heap ∧ va_T .byte (adV j) (lenL.getD j 0) (fun i => .int ((bytL.getD j []).getD i 0)) A s s.heap := by
  have h0 : ∀ j : Nat, ∃ q : Nat × Nat, j < NS → vk_R (strL.getD j ("", 0, "")).1 (strL.getD j ("", 0, "")).2.1 (strL.getD j ("", 0, "")).2.2 q.1 s ∧ va_O "java/lang/String" q.1 A s s.heap ∧ va_OF "java/lang/String" "coder" "B" (.int 0) q.1 A s s.heap ∧ va_OF "java/lang/String" "value" "[B" (.ref q.2) q.1 A s s.heap ∧ va_T .byte q.2 (lenL.getD j 0) (fun i => .int ((bytL.getD j []).getD i 0)) A s s.heap := by
    intro j
    by_cases hj : j < NS
    · obtain ⟨a, c, cA, kA, q1, q2, q3, q4, q5, q6, -⟩ := Cond.exactly_spec (args := args) (first := s) (o := none) (s := s) (idx := []) (t := tmS j) (cls := "java/lang/String") (hn _ (fn_ex j hj))
      obtain ⟨t, ht, hT⟩ := va_Tof (f := fun i => .int ((bytL.getD j []).getD i 0)) (A := A) (fn_n j hj) (hn _ (fn_ar j hj)) (va_eqt (hn _ (fn_le j hj))) (fun i hi => va_eqt (hn _ (fn_el j hj i hi))) hA
      exact ⟨(a, t), fun _ => ⟨vk_R.of (hts _ (List.mem_append_right _ (fn_sr j hj))) q1, ⟨cA, q3, q5, by rw [q6]; exact q2, hA a (Array.getElem?_eq_some_iff.mp q3).1⟩, vk_OFof q1 (va_eqt (hn _ (fn_co j hj))) hA, vk_OFof q1 ht hA, hT⟩⟩
    · exact ⟨(0, 0), fun h => absurd h hj⟩
  obtain ⟨ad, had⟩ := Classical.axiomOfChoice h0
  exact ⟨fun j => (ad j).1, fun j => (ad j).2, fun j hj => had j hj⟩
theorem cf_all : ∀ c, c < 12 → CF c := by
  intro c h
  rcases c with _ | _ | _ | _ | _ | _ | _ | _ | _ | _ | _ | _ | c
  · exact cf0
  · exact cf1
  · exact cf2
  · exact cf3
  · exact cf4
  · exact cf5
  · exact cf6
  · exact cf7
  · exact cf8
  · exact cf9
  · exact cf10
  · exact cf11
  · omega
theorem arr_of {args : Array Value} {s : State} {ty : FieldType} (hp : ∀ C, ty ≠ .object C) (h : (Cond.arrayClass ty).before args s = true) : ∃ cA, ArrOfT s cA ty ∧ va_RA s cA ty := by
  obtain ⟨cA, kA, comp, h1, h2, h3⟩ := Cond.arrayClass_spec h
  refine ⟨cA, fun n z => ⟨fun k h => (by cases h), kA, h2, comp, h3⟩, ?_⟩
  cases ty with
  | object C => exact absurd rfl (hp C)
  | _ => exact h1
theorem arr_ofq {args : Array Value} {s : State} {C : String} (h : (Cond.arrayOver (.object C)).before args s = true) : ∃ cA, ArrOfT s cA (.object C) ∧ va_RA s cA (.object C) := by
  obtain ⟨comp, cA, kA, h1, -, h2, h3, h4⟩ := Cond.arrayOver_spec h
  exact ⟨cA, fun n z => ⟨fun k h => (by cases h), kA, h2, comp, h3⟩, kA, comp, h2, h3, h1, h4⟩
theorem isNw_tab {w : Cond} (h : isNw w = true) (hn : notAO w = true) : w.onTables = true := by
  cases w with
  | methodLinkNest a b c d => rfl
  | declares x => rfl
  | castable a b => rfl
  | arrayOver ty => cases hn
  | _ => cases h
theorem whole_of {G : HI → Prop} (hS : Steps G) (hG : G I0) {p : Program} {e : Env} {s : State} {m : MethodId} {below : List Frame} {meth : Method} {c : Code} (l : Launch) (hl : l.stackTraces = false) {b L : Nat} {xs : Nat → Int32} (hL : L ≤ 3072) (hnm : meth.name = yL_law_.name) (C0 : lw_At p s m meth c b L xs) : W p l e room_1 s m #[Value.ref b] below meth c s.heap [] 0 0 (lw_Z below #[Value.ref b] s) (entryFrame m ([Value.ref b] : List Value).toArray 7) := by
  obtain ⟨hx, hb, hr, hml, hown, hts, hX, hbl, hlk, hgv⟩ := C0
  have hn : ∀ w ∈ fN, w.before #[Value.ref b] s = true := flat_of_before _ hgv
  have hgW := gW_hts hts
  have hA : ∀ a : Nat, a < s.heap.size → ¬ (s.heap.size ≤ a) := fun a h q => by omega
  obtain ⟨D, hD⟩ : ∃ D : Nat → ClassId × (Nat → Nat), ∀ c, c < 12 → u_Kn s (cC c) (cT c) (cN c) (D c).1 (D c).2 := by
    have h0 : ∀ c : Nat, ∃ q : ClassId × (Nat → Nat), c < 12 → u_Kn s (cC c) (cT c) (cN c) q.1 q.2 := by
      intro c
      by_cases hc : c < 12
      · have hf := cf_all c hc
        obtain ⟨q1, q2, hq⟩ := u_known hgW hf.2.1 (hgW _ hf.2.2.2.2.1)
        exact ⟨(q1, q2), fun _ => hq⟩
      · exact ⟨(Classical.choice ⟨m.cls⟩, fun _ => 0), fun h => absurd h hc⟩
    obtain ⟨D, hD⟩ := Classical.axiomOfChoice h0
    exact ⟨D, hD⟩
  obtain ⟨a12, e12⟩ := arr_of (ty := .byte) (fun _ h => by cases h) (tb_at hts 943 (by decide +kernel))
  obtain ⟨a13, e13⟩ := arr_of (ty := .int) (fun _ h => by cases h) (tb_at hts 78 (by decide +kernel))
  obtain ⟨a14, e14⟩ := arr_of (ty := .long) (fun _ h => by cases h) (tb_at hts 1443 (by decide +kernel))
  have o15 : va_AO "BiteYears$Lady" s := va_AO.of (tb_at hts 212 (by decide +kernel))
  have o16 : va_AO "BiteYears$Log" s := va_AO.of (tb_at hts 214 (by decide +kernel))
  obtain ⟨a15, e15⟩ := arr_ofq (args := #[]) (va_AO.use o15)
  obtain ⟨a16, e16⟩ := arr_ofq (args := #[]) (va_AO.use o16)
  obtain ⟨adK, adV, hstr⟩ := sS_of (A := fun q => s.heap.size ≤ q) hts hn hA
  have hsi : (Cond.isRef (.static "jdk/internal/util/Preconditions" "SIOOBE_FORMATTER" "Ljava/util/function/BiFunction;")).before #[Value.ref b] s = true := hn _ (by decide +kernel)
  obtain ⟨u, hu⟩ : ∃ u : Option Nat, (Term.static "jdk/internal/util/Preconditions" "SIOOBE_FORMATTER" "Ljava/util/function/BiFunction;").eval #[Value.ref b] s none [] s = some (va_rf u) := by
    obtain ⟨v, h1, h2⟩ := Cond.isRef_spec hsi
    cases v with
    | ref a => exact ⟨some a, h1⟩
    | null => exact ⟨none, h1⟩
    | _ => cases h2
  let g : gX := (l, (fun c => (D c).1, fun c => (D c).2), fun k => if k = 12 then a12 else if k = 13 then a13 else if k = 14 then a14 else if k = 15 then a15 else a16, s.heap.size - 1, b, L, xs, adK, adV, u)
  have hO : Outs g (fun q => s.heap.size ≤ q) s s.heap := by
    refine ⟨⟨?_, ?_⟩, ⟨hX, hbl, hA b hbl⟩, ?_, ?_, ⟨?_, o15, o16⟩, ?_, hstr, ?_, ?_⟩
    · intro k q hq
      have hk : k < 12 := (List.getElem?_eq_some_iff.mp hq).1
      have h1 := (cf_all k hk).1
      cases h1.symm.trans hq
      exact hD k hk
    · intro k q hq
      have hk : k < 5 := (List.getElem?_eq_some_iff.mp hq).1
      rcases k with _ | _ | _ | _ | _ | k
      · cases hq; exact e12
      · cases hq; exact e13
      · cases hq; exact e14
      · cases hq; exact e15
      · cases hq; exact e16
      · omega
    · exact vx_Zqof (tb_at hts 901 (by decide +kernel)) (tb_at hts 20 (by decide +kernel)) (hn _ (by decide +kernel)) hA
    · exact vx_Zqof (tb_at hts 903 (by decide +kernel)) (tb_at hts 20 (by decide +kernel)) (hn _ (by decide +kernel)) hA
    · intro w hw hno
      have h1 := List.mem_filter.mp hw
      exact va_Nw.of (isNw_tab h1.2 hno) (hts _ (List.mem_append_right _ h1.1))
    · exact fun q hq => va_Nc.of (hn _ (fn_nc q hq))
    · exact va_Zof (tb_at hts 686 (by decide +kernel)) (tb_at hts 16 (by decide +kernel)) (va_eqi (hn _ (by decide +kernel))) hA
    · exact va_Zof (tb_at hts 702 (by decide +kernel)) (tb_at hts 18 (by decide +kernel)) hu hA
  have hF : Fy g mL_law_ (ZL g) p s m #[.ref b] meth c (fun q => s.heap.size ≤ q) := ⟨hx, hb, hr, hml, hown, hgW, hlk, hnm, rfl, hO, fun q h => h, hl, Nat.le_refl _, fun _ => by show s.heap.size = s.heap.size - 1 + 1; omega⟩
  have hc : ∀ v ∈ ([.ref 0] : List Value), v.category = 1 := by simp [Value.category]
  have hlen : (lg_sl (([.ref 0] : List Value).map (sv g))).length = 1 := by
    rw [lg_len _ (by intro v hv; obtain ⟨w, hw, rfl⟩ := List.mem_map.mp hv; rw [sv_cat]; exact hc w hw), List.length_map]; rfl
  have hle := lv_entry (([.ref 0] : List Value).map (sv g)) (n := 7) (by rw [hlen]; decide)
  rw [← lvl_ent g 6 [.ref 0] 0 hc] at hle
  have e0 : ([Value.ref b] : List Value) = ([.ref 0] : List Value).map (sv g) := rfl
  have hM : Mr g (fun q => s.heap.size ≤ q) (1, zI, zJ, zP) s.heap := by
    refine ⟨fun k q hq => ?_, fun a h1 h2 => ?_, Nat.le_refl _, ?_⟩
    · simp [wl, va_pl, dm] at hq
    · have h2 : a < 1 := h2
      omega
    · decide
  have k9 := law_start (g := g) hS hG hL p e s m #[.ref b] below meth c (fun q => s.heap.size ≤ q) hF s.heap [] _ hM va_S.rf hle
  intro T hT X
  obtain ⟨t, s1, s2⟩ := k9 T hT X
  refine ⟨t, ?_, s2 (fun q h => h)⟩
  rw [e0, lg_entry_eq]
  exact s1
set_option maxHeartbeats 4000000 in
theorem lw_walk {G : HI → Prop} (hS : Steps G) (hG : G I0) (l : Launch) (hl : l.stackTraces = false) (b : Addr) (xs : List Int32) : MetFree l x (headSpec (Jvm.Cond.code x code maxLocals ret :: tables_1) room_1) (lw_P b xs) (fun _ _ _ _ _ => True) lw_Q := by
  refine MetFree.of_bodyS (code := code) (maxLocals := maxLocals) (ret := ret) (by decide) ?_ ?_
  · intro args s m h hn
    obtain ⟨meth, c, h1, h2, h3, h4, h5, h6, -, -⟩ := Cond.code_spec hn (atoms_spec (ws := Jvm.Cond.code x code maxLocals ret :: tables_1) h _ List.mem_cons_self)
    exact ⟨meth, c, h1, h2, h3, h4, h5, h6⟩
  · intro p e s m args below meth c s₁ B hml0 hP _
    obtain ⟨rfl, hx, hbd, hgv⟩ := hP
    obtain ⟨scr, harrAt, hlist, hof, hsmall⟩ := hx
    obtain ⟨hcb, hkn, -, -⟩ := State.arrayAt?_spec harrAt
    have hown : s.vm.findClass R_law = some m.cls := findClass_of_methodNamed B.named
    have hts0 : ∀ c ∈ (Jvm.Cond.code x code maxLocals ret :: tables_1), c.before #[Value.ref b] s = true := atoms_spec (ws := Jvm.Cond.code x code maxLocals ret :: tables_1) B.pre
    have hts : ∀ w ∈ lw_tbl, w.before #[Value.ref b] s = true := k2_hts_sels lw_privs (fun w hw => hts0 w (List.mem_cons_of_mem _ hw)) lw_privs_ok
    have hml : c.maxLocals = 7 := B.maxLocals_eq (hts0 _ List.mem_cons_self)
    have X₀ : Stand p l e room_1 s m #[Value.ref b] below meth c s₁ [] 0 0 := Stand.of_body B
    have hh0 : s₁.heap = s.heap := by rw [B.state]; rfl
    have hsz : scr.slots.size = xs.length := by rw [← Array.length_toList, hlist, List.length_map]
    have hval : ∀ j : Nat, j < xs.length → scr.slots[j]? = some (.int (xs.getD j 0)) := fun j hj => by
      rw [← Array.getElem?_toList, hlist]
      simp [hj]
    have hbl : b < s.heap.size := (Array.getElem?_eq_some_iff.mp hcb).1
    have hX : va_X b xs.length (fun j => xs.getD j 0) s s.heap := ⟨scr, hcb, hof, hkn, hsz, hval⟩
    have K : W p l e room_1 s m #[Value.ref b] below meth c s₁.heap [] 0 0 (lw_Z below #[Value.ref b] s) (entryFrame m ([Value.ref b] : List Value).toArray 7) := by
      rw [hh0]
      exact whole_of hS hG l hl hbd (name_of_methodNamed B.named B.method).1 ⟨B.exec, B.bytes, B.returns, hml, hown, hts, hX, hbl, B.notSynchronized, hgv⟩
    obtain ⟨t, a1, o, b1, b2, b3⟩ := K s₁ rfl X₀
    exact ⟨t, o, a1, b1, b2, b3⟩
theorem lw_pre_spec {args : Array Value} {s : State} (h : (Jvm.Cond.and given_1 narrow_1).before args s = true) (hr : rest_1_c.before args s = true) : ∃ (b : Addr) (xs : List Int32), lw_P b xs args s := by
  have hs := flat_of_before _ h
  have hq := flat_of_before _ hr
  have hc : (Cond.count 1).before args s = true := hs _ (by decide +kernel)
  have harr : (Cond.arrayOf (.arg 0) .int).before args s = true := hs _ (by decide +kernel)
  have hle : (Cond.le (.length (.arg 0)) (.int 3072)).before args s = true := hs _ (by decide +kernel)
  have hlen : (Cond.isInt (.length (.arg 0))).before args s = true := hq _ (by decide +kernel)
  have hall : (Cond.all (.arg 0) (.isInt (.elem (.arg 0) (.index 0)))).before args s = true := hq _ (by decide +kernel)
  obtain ⟨b, xs, hb, hx⟩ := State.ints_of_pre rfl harr hlen hall
  have hsm : xs.length < 2 ^ 31 := hx.choose_spec.2.2.2
  have hev : (Term.length (.arg 0)).eval args s none [] s = some (.int xs.length.toInt32) := hx.length_eval hb
  have hv := Cond.le_ints hev (show (Term.int 3072).eval args s none [] s = some (.int 3072) from rfl)
  have hd : xs.length.toInt32 ≤ 3072 := by
    simpa [Cond.before, Cond.holds, hv] using hle
  have hN : xs.length ≤ 3072 := (Int32.ofNat_le_ofNat hsm (by decide)).mp (show Int32.ofNat xs.length ≤ Int32.ofNat 3072 from hd)
  exact ⟨b, xs, Cond.one_arg hc (show args[0]? = some (.ref b) from hb), hx, hN, h⟩
theorem lw_comes {G : HI → Prop} (hS : Steps G) (hG : G I0) (l : Launch) (hl : l.stackTraces = false) : Comes l x (Jvm.Cond.code x code maxLocals ret :: tables_1) room_1 (fun tb e args s => Calls_1 tb e args s ∧ rest_1 tb e args s ∧ Pre_1 tb e args s)
    (fun _ _ args s o t => lw_Q args s o t) := by
  intro p e ha hc hk s m args below hf hfit hheap happ hpre
  obtain ⟨b, xs, hP⟩ := lw_pre_spec hpre.2.2 hpre.2.1
  obtain ⟨k, o, h1, h2, h3, hQ⟩ := lw_walk hS hG l hl b xs p e ha hc hk s m args below hf ((Spec.applies_iff_loose hf).mp happ).1 hP trivial
  exact ⟨k, o, h1, h2, h3, hQ⟩
theorem lw_frame {s t : State} {o : Outcome} {args : Array Value} (h : Framed s o t [] 601024 7293034) :
    Framed s o t (fieldLocs frame_1_writes args s ++ arrayLocs frame_1_arrays args s ++ staticLocs frame_1_statics s) 601024 7293034 := h
theorem lw_limb {G : HI → Prop} (hS : Steps G) (hG : G I0) (L : Cond) (hL : ∀ (args : Array Value) (s t : State), L.after args s (.returned (some (.int 1))) t = true) :
    ArmFor flags0 classFile x code maxLocals ret World_1 tables_1 room_1 Calls_1 rest_1 Pre_1
      (fun tb e a s o t => postC L tb e a s o t ∧ Framed s o t (fieldLocs frame_1_writes a s ++ arrayLocs frame_1_arrays a s ++ staticLocs frame_1_statics s) 601024 7293034) := by
  intro l hfl _ _ p e ha hc hk s m args below hf hfit hheap happ hpre
  obtain ⟨k, o, h1, h2, h3, rfl, hF⟩ := lw_comes hS hG l (by unfold Launch.stackTraces; rw [hfl]; decide) p e ha hc hk s m args below hf hfit hheap happ hpre
  exact ⟨k, _, h1, h2, h3, hL args s _, lw_frame hF⟩
theorem vc_of {G : HI → Prop} (hS : Steps G) (hG : G I0) : Claimed_1_1 ∧ Claimed_1_2 := ⟨lw_limb hS hG limb_1_1 (fun args s t => by simp [limb_1_1, Cond.after, Cond.holds, Cond.value]), lw_limb hS hG limb_1_2 (fun args s t => Cond.after_iff.mpr (by
  first | (rw [show limb_1_2 = Cond.eq .result (.int 1) from rfl, Cond.eq_ints (x := 1) (y := 1) rfl rfl]; simp; done) | (simp [limb_1_2, Cond.value, Term.eval]; done)))⟩
