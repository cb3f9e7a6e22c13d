/-! the machine, seen from above: a heap of rows by (address, place), locals as a list, and 'M': from here the method comes to the result R -/
abbrev hS : Type := Nat × (Nat → Nat → Int32) × (Nat → Nat → Int64) × (Nat → Nat → Option Nat)
abbrev mX : Type := MethodName × ByteArray × Nat × Option FieldType
abbrev rX : Type := (Option Value ⊕ String) × hS
/-- the surroundings: launch, classes' numbers and slots, array classes, the base, the script's address, length and values, the addresses of texts -/
abbrev gX : Type := Launch × va_G × (Nat → ClassId) × Nat × Nat × Nat × (Nat → Int32) × (Nat → Nat) × (Nat → Nat) × Option Nat
abbrev gl (g : gX) : Launch := g.1
abbrev gD (g : gX) : va_G := g.2.1
abbrev gy (g : gX) : Nat → ClassId := g.2.2.1
abbrev gB (g : gX) : Nat := g.2.2.2.1
abbrev gb (g : gX) : Nat := g.2.2.2.2.1
abbrev gL (g : gX) : Nat := g.2.2.2.2.2.1
abbrev gxs (g : gX) : Nat → Int32 := g.2.2.2.2.2.2.1
abbrev gK (g : gX) : Nat → Nat := g.2.2.2.2.2.2.2.1
abbrev gV (g : gX) : Nat → Nat := g.2.2.2.2.2.2.2.2.1
abbrev gU (g : gX) : Option Nat := g.2.2.2.2.2.2.2.2.2
/-- where a relative address lies: 0 the script, below 100000 the cells, from there on the texts, from 200000 on their rows; null stands for a value that nobody asks -/
def ad (g : gX) (a : Nat) : Nat := if a = 0 then gb g else if a < 100000 then gB g + a else if a < 200000 then gK g (a - 100000) else gV g (a - 200000)
def sv (g : gX) (v : Value) : Value := match v with
  | .ref a => .ref (ad g a)
  | .null => va_rf (gU g)
  | w => w
theorem sv_cat (g : gX) (v : Value) : (sv g v).category = v.category := by
  cases v with
  | null => show (va_rf (gU g)).category = 1; cases gU g <;> rfl
  | _ => rfl
theorem ad_cell {g : gX} {a : Nat} (h1 : 1 ≤ a) (h2 : a < NT) : ad g a = gB g + a := by
  unfold ad
  rw [if_neg (by omega), if_pos (by simp only [NT] at h2; omega)]
/-- one place changed -/
def up2 {α : Type} (f : Nat → Nat → α) (a k : Nat) (x : α) : Nat → Nat → α := fun b => if b = a then (fun j => if j = k then x else f a j) else f b
theorem up2_self {α : Type} (f : Nat → Nat → α) (a k : Nat) (x : α) : up2 f a k x a = (fun j => if j = k then x else f a j) := by simp [up2]
theorem up2_ne {α : Type} (f : Nat → Nat → α) {a b : Nat} (k : Nat) (x : α) (h : b ≠ a) : up2 f a k x b = f b := by simp [up2, h]
theorem up2_get {α : Type} (f : Nat → Nat → α) (a k : Nat) (x : α) (b j : Nat) : up2 f a k x b j = if b = a ∧ j = k then x else f b j := by
  by_cases h : b = a
  · subst h; rw [up2_self]; simp
  · rw [up2_ne _ _ _ h]; simp [h]
/-- a row changed -/
def up1 {α : Type} (f : Nat → Nat → α) (a : Nat) (r : Nat → α) : Nat → Nat → α := fun b => if b = a then r else f b
theorem up1_self {α : Type} (f : Nat → Nat → α) (a : Nat) (r : Nat → α) : up1 f a r a = r := by simp [up1]
theorem up1_ne {α : Type} (f : Nat → Nat → α) {a b : Nat} (r : Nat → α) (h : b ≠ a) : up1 f a r b = f b := by simp [up1, h]
/-- a field's value, a cell -/
def fv (g : gX) (S : hS) (a k : Nat) : Value := if isR (LT a).1 k then va_rf ((S.2.2.2 a k).map (ad g)) else .int (S.2.1 a k)
def ce (g : gX) (S : hS) (a : Nat) : va_E :=
  if (LT a).1 < 12 then .inr ((LT a).1, (List.range (LT a).2).map (fv g S a))
  else if (LT a).1 < 14 then .inl (gy g (LT a).1, (LT a).2, .inl (S.2.1 a))
  else if (LT a).1 < 15 then .inl (gy g (LT a).1, (LT a).2, .inr (.inl (S.2.2.1 a)))
  else .inl (gy g (LT a).1, (LT a).2, .inr (.inr (.inr (.inr (fun i => (S.2.2.2 a i).map (ad g))))))
def dm (g : gX) (t : Nat) : List Nat := (List.range (t - 1)).map (fun k => gB g + (k + 1))
def wl (g : gX) (S : hS) : va_W := va_pl (dm g S.1) (fun q => ce g S (q - gB g))
theorem dm_mem {g : gX} {t a : Nat} (h1 : 1 ≤ a) (h2 : a < t) : gB g + a ∈ dm g t := List.mem_map.mpr ⟨a - 1, List.mem_range.mpr (by omega), by omega⟩
theorem dm_of {g : gX} {t q : Nat} (h : q ∈ dm g t) : ∃ a, 1 ≤ a ∧ a < t ∧ q = gB g + a := by
  obtain ⟨k, hk, rfl⟩ := List.mem_map.mp h
  have := List.mem_range.mp hk
  exact ⟨k + 1, by omega, by omega, rfl⟩
theorem wl_get {g : gX} {S : hS} {a : Nat} (h1 : 1 ≤ a) (h2 : a < S.1) : ∃ k : Nat, (wl g S)[k]? = some (gB g + a, ce g S a) := by
  obtain ⟨k, hk⟩ := va_pl_get (X := []) (f := fun q => ce g S (q - gB g)) (dm_mem (g := g) h1 h2)
  have hk' : (wl g S)[k]? = some (gB g + a, ce g S (gB g + a - gB g)) := hk
  rw [Nat.add_sub_cancel_left] at hk'
  exact ⟨k, hk'⟩
/-- which cells a method may change -/
def cov (g : gX) (A : Nat → Prop) (t : Nat) : Prop := ∀ a, 1 ≤ a → a < t → A (gB g + a)
theorem wl_D {g : gX} {S : hS} {A : Nat → Prop} (h : cov g A S.1) : va_D A (wl g S) := by
  have hl : ∀ (i : Nat) (q : Nat × va_E), (wl g S)[i]? = some q → i < S.1 - 1 ∧ q.1 = gB g + (i + 1) := by
    intro i q hq
    unfold wl va_pl dm at hq
    rw [List.getElem?_map, List.getElem?_map] at hq
    by_cases hi : i < S.1 - 1
    · rw [List.getElem?_range hi] at hq
      have := Option.some.inj hq
      exact ⟨hi, by rw [← this]⟩
    · rw [List.getElem?_eq_none (by rw [List.length_range]; omega)] at hq
      cases hq
  refine ⟨fun i j x y hx hy hxy => ?_, fun k q hq => ?_⟩
  · have h1 := (hl i x hx).2
    have h2 := (hl j y hy).2
    omega
  · have h1 := hl k q hq
    rw [h1.2]
    exact h (k + 1) (by omega) (by omega)
theorem wl_set {g : gX} {S S' : hS} {A : Nat → Prop} {a k : Nat} {e : va_E} (hc : cov g A S.1) (ht : S'.1 = S.1) (h1 : 1 ≤ a) (h2 : a < S.1) (hk : (wl g S)[k]? = some (gB g + a, ce g S a)) (he : ce g S' a = e) (hn : ∀ b, b ≠ a → ce g S' b = ce g S b) : (wl g S).set k (gB g + a, e) = wl g S' := by
  have hk' : ([] ++ va_pl (dm g S.1) (fun q => ce g S (q - gB g)))[k]? = some (gB g + a, (fun q => ce g S (q - gB g)) (gB g + a)) := by
    show (wl g S)[k]? = some (gB g + a, ce g S (gB g + a - gB g))
    rw [Nat.add_sub_cancel_left]
    exact hk
  have h := va_pl_set (X := []) (e := e) (wl_D (S := S) hc) (dm_mem (g := g) h1 h2) hk'
  have h' : (wl g S).set k (gB g + a, e) = va_pl (dm g S.1) (va_up (fun q => ce g S (q - gB g)) (gB g + a) e) := h
  rw [h']
  unfold wl
  rw [ht]
  have hm : ∀ q ∈ dm g S.1, (q, va_up (fun q => ce g S (q - gB g)) (gB g + a) e q) = (q, ce g S' (q - gB g)) := by
    intro q hq
    obtain ⟨b, hb1, hb2, rfl⟩ := dm_of hq
    by_cases hb : b = a
    · subst hb
      rw [va_up_self, Nat.add_sub_cancel_left, he]
    · rw [va_up_ne _ _ (by omega), Nat.add_sub_cancel_left, hn b hb]
  exact List.map_congr_left hm
/-- the heap holds the state -/
def Mr (g : gX) (A : Nat → Prop) (S : hS) (H : Heap) : Prop := va_P (gD g) vwCl (wl g S) H ∧ cov g A S.1 ∧ 1 ≤ S.1 ∧ S.1 ≤ NT
def tyL (g : gX) : List (ClassId × FieldType) := [(gy g 12, .byte), (gy g 13, .int), (gy g 14, .long), (gy g 15, .object "BiteYears$Lady"), (gy g 16, .object "BiteYears$Log")]
/-- the texts: each place of one has its own number -/
def sS (g : gX) (A : Nat → Prop) (U : State) (H : Heap) : Prop := ∀ j, j < NS → vk_R (strL.getD j ("", 0, "")).1 (strL.getD j ("", 0, "")).2.1 (strL.getD j ("", 0, "")).2.2 (gK g j) U ∧ va_O "java/lang/String" (gK g j) A U H ∧ va_OF "java/lang/String" "coder" "B" (.int 0) (gK g j) A U H ∧ va_OF "java/lang/String" "value" "[B" (.ref (gV g j)) (gK g j) A U H ∧ va_T .byte (gV g j) (lenL.getD j 0) (fun i => .int ((bytL.getD j []).getD i 0)) A U H
def notAO : Cond → Bool
  | .arrayOver _ => false
  | _ => true
theorem nw_moved {w : Cond} (hk : isNw w = true) (hn : notAO w = true) {u U : State} (hW : u.WarmedH U.vm) (h : va_Nw w u) : va_Nw w U := by
  cases w with
  | methodLinkNest a b c d => exact va_Nw.warmM hW h
  | declares x => exact va_Nw.warmD hW h
  | castable a b => exact va_Nw.warmC hW h
  | arrayOver ty => cases hn
  | _ => cases hk
/-- what lies outside: tables, the script, the statics that a throw reads, words that last, texts, two statics -/
def Outs (g : gX) (A : Nat → Prop) (U : State) (H : Heap) : Prop := va_K (gD g) vwCl (tyL g) U ∧ (va_X (gb g) (gL g) (gxs g) U H ∧ gb g < H.size ∧ ¬ A (gb g)) ∧ vx_Zq Bundle.tN "UNASSIGNED_STACK" Bundle.steD A U H ∧ vx_Zq Bundle.tN "SUPPRESSED_SENTINEL" Bundle.listD A U H ∧ ((∀ w ∈ nW, notAO w = true → va_Nw w U) ∧ va_AO "BiteYears$Lady" U ∧ va_AO "BiteYears$Log" U) ∧ (∀ q ∈ ncL, va_Nc q.1 q.2 U) ∧ sS g A U H ∧ va_Z "java/lang/String" "COMPACT_STRINGS" "Z" (.int 1) A U H ∧ va_Z "jdk/internal/util/Preconditions" "SIOOBE_FORMATTER" "Ljava/util/function/BiFunction;" (va_rf (gU g)) A U H
theorem Outs.moved {g : gX} {A : Nat → Prop} {u U : State} {H : Heap} (h : Outs g A u H) (hW : u.WarmedH U.vm) : Outs g A U H :=
  ⟨va_K.moved hW.alike h.1, ⟨h.2.1.1.moved hW.alike, h.2.1.2⟩, h.2.2.1.moved hW.alike, h.2.2.2.1.moved hW.alike, ⟨fun w hw hn => nw_moved (List.mem_filter.mp hw).2 hn hW (h.2.2.2.2.1.1 w hw hn), va_AO.moved hW.alike h.2.2.2.2.1.2.1, va_AO.moved hW.alike h.2.2.2.2.1.2.2⟩, fun q hq => va_Nc.moved hW.alike (h.2.2.2.2.2.1 q hq),
    fun j hj => ⟨(h.2.2.2.2.2.2.1 j hj).1.warm hW, va_O.moved hW.alike (h.2.2.2.2.2.2.1 j hj).2.1, va_OF.moved hW.alike (h.2.2.2.2.2.2.1 j hj).2.2.1, va_OF.moved hW.alike (h.2.2.2.2.2.2.1 j hj).2.2.2.1, va_T.moved hW.alike (h.2.2.2.2.2.2.1 j hj).2.2.2.2⟩, va_Z.moved hW.alike h.2.2.2.2.2.2.2.1, va_Z.moved hW.alike h.2.2.2.2.2.2.2.2⟩
theorem Outs.kept {g : gX} {A : Nat → Prop} {U : State} {H H1 : Heap} (h : Outs g A U H) (hz : H.size ≤ H1.size) (hq : ∀ a : Nat, a < H.size → ¬ A a → H1[a]? = H[a]?) : Outs g A U H1 :=
  ⟨h.1, ⟨h.2.1.1.kept (hq _ h.2.1.2.1 h.2.1.2.2), Nat.lt_of_lt_of_le h.2.1.2.1 hz, h.2.1.2.2⟩, h.2.2.1.kept hq, h.2.2.2.1.kept hq, h.2.2.2.2.1, h.2.2.2.2.2.1,
    fun j hj => ⟨(h.2.2.2.2.2.2.1 j hj).1, (h.2.2.2.2.2.2.1 j hj).2.1.kept hq, (h.2.2.2.2.2.2.1 j hj).2.2.1.kept hq, (h.2.2.2.2.2.2.1 j hj).2.2.2.1.kept hq, (h.2.2.2.2.2.2.1 j hj).2.2.2.2.kept hq⟩, h.2.2.2.2.2.2.2.1.kept hq, h.2.2.2.2.2.2.2.2.kept hq⟩
theorem Outs.narrow {g : gX} {A B : Nat → Prop} {U : State} {H : Heap} (h : Outs g A U H) (hAB : ∀ q, B q → A q) : Outs g B U H :=
  ⟨h.1, ⟨h.2.1.1, h.2.1.2.1, fun q => h.2.1.2.2 (hAB _ q)⟩, h.2.2.1.narrow hAB, h.2.2.2.1.narrow hAB, h.2.2.2.2.1, h.2.2.2.2.2.1,
    fun j hj => ⟨(h.2.2.2.2.2.2.1 j hj).1, (h.2.2.2.2.2.2.1 j hj).2.1.narrow hAB, (h.2.2.2.2.2.2.1 j hj).2.2.1.narrow hAB, (h.2.2.2.2.2.2.1 j hj).2.2.2.1.narrow hAB, (h.2.2.2.2.2.2.1 j hj).2.2.2.2.narrow hAB⟩, h.2.2.2.2.2.2.2.1.narrow hAB, h.2.2.2.2.2.2.2.2.narrow hAB⟩
/-- slots of the cells below t -/
def sT (t : Nat) : Nat := ((List.range t).map (fun a => (LT a).2)).sum
theorem sT_succ (t : Nat) : sT (t + 1) = sT t + (LT t).2 := by simp [sT, List.range_succ]
theorem sT_mono {a b : Nat} (h : a ≤ b) : sT a ≤ sT b := by
  induction b with
  | zero => rw [show a = 0 by omega]; exact Nat.le_refl _
  | succ n ih =>
    rcases Nat.lt_or_ge a (n + 1) with q | q
    · rw [sT_succ]; have := ih (by omega); omega
    · rw [show a = n + 1 by omega]; exact Nat.le_refl _
/-- the method, the machine -/
def Fx (g : gX) (μ : mX) (t0 : Nat) (p : Program) (s : State) (m : MethodId) (args : Array Value) (meth : Method) (c : Code) (A : Nat → Prop) : Prop :=
  p.tables.exec = Jvm.exec ∧ c.code = μ.2.1 ∧ meth.sig.returnType = μ.2.2.2 ∧ c.maxLocals = μ.2.2.1 ∧ s.vm.findClass μ.1.cls = some m.cls ∧ (∀ w ∈ gW, w.before args s = true) ∧ meth.locks = false ∧ meth.name = μ.1.name ∧ (∀ x ∈ c.exceptionTable.toList, False) ∧ Outs g A s s.heap ∧ (∀ q, s.heap.size ≤ q → A q) ∧ (gl g).stackTraces = false ∧ 1 ≤ t0 ∧ (t0 < NT → s.heap.size = gB g + t0)
abbrev tX : Type := Nat × Nat × Nat
def rm (d : Nat) (tt : tX) : Room := { frames := d, cells := tt.2.1 - tt.1 + tt.2.2, slots := sT tt.2.1 - sT tt.1 + 6 * tt.2.2, locals := 64 * d }
def Qc (g : gX) (R : rX) (A : Nat → Prop) : Array Value → State → Outcome → State → Prop := fun _ st oc t => (∃ v, R.1 = .inl v ∧ oc = .returned (v.map (sv g)) ∧ Mr g A R.2 t.heap) ∧ va_F A st t
def XC (g : gX) (R : rX) (A : Nat → Prop) : String → State → State → Prop := fun E st t => R.1 = .inr E ∧ Mr g A R.2 t.heap ∧ va_F A st t
/-- the locals that are set -/
def lvl (g : gX) : Nat → List (Option Value) → List (Nat × Value)
  | _, [] => []
  | i, none :: r => lvl g (i + 1) r
  | i, some v :: r => (i, sv g v) :: lvl g (i + 1) r
theorem lvl_mem {g : gX} {q : Nat × Value} : ∀ {ls : List (Option Value)} {n : Nat}, q ∈ lvl g n ls ↔ ∃ (i : Nat) (v : Value), ls[i]? = some (some v) ∧ q = (n + i, sv g v) := by
  intro ls
  induction ls with
  | nil => intro n; simp [lvl]
  | cons o r ih =>
    intro n
    have key : (∃ (i : Nat) (v : Value), (o :: r)[i]? = some (some v) ∧ q = (n + i, sv g v)) ↔ ((∃ v, o = some v ∧ q = (n, sv g v)) ∨ ∃ (i : Nat) (v : Value), r[i]? = some (some v) ∧ q = (n + 1 + i, sv g v)) := by
      constructor
      · rintro ⟨i, v, h1, h2⟩
        cases i with
        | zero => exact Or.inl ⟨v, by simpa using h1, h2⟩
        | succ i => exact Or.inr ⟨i, v, by simpa using h1, by rw [h2]; congr 1; omega⟩
      · rintro (⟨v, h1, h2⟩ | ⟨i, v, h1, h2⟩)
        · exact ⟨0, v, by simpa using h1, h2⟩
        · exact ⟨i + 1, v, by simpa using h1, by rw [h2]; congr 1; omega⟩
    rw [key]
    cases o with
    | none => simp only [lvl, ih]; simp
    | some w =>
      simp only [lvl, List.mem_cons, ih]
      constructor
      · rintro (h | h)
        · exact Or.inl ⟨w, rfl, h⟩
        · exact Or.inr h
      · rintro (⟨v, h1, h2⟩ | h)
        · cases h1; exact Or.inl h2
        · exact Or.inr h
def lvH (g : gX) (la : Array Slot) (nL : Nat) (ls : List (Option Value)) : Prop := lv_has la nL (lvl g 0 ls)
theorem lvH.at {g : gX} {la : Array Slot} {nL : Nat} {ls : List (Option Value)} (h : lvH g la nL ls) {i : Nat} {v : Value} (hi : ls[i]? = some (some v)) : la[i]? = some (.val (sv g v)) :=
  h.2.2 (i, sv g v) (lvl_mem.mpr ⟨i, v, hi, by rw [Nat.zero_add]⟩)
def isL2 (o : Option Value) : Bool := match o with
  | some v => v.category == 2
  | none => false
/-- a local of one slot set: a long whose second half it takes is gone -/
def lset : List (Option Value) → Nat → Value → List (Option Value)
  | [], _, _ => []
  | _ :: r, 0, v => some v :: r
  | o :: r, i + 1, v => (if i = 0 ∧ isL2 o = true then none else o) :: lset r i v
theorem lset_get {w v : Value} : ∀ {ls : List (Option Value)} {i j : Nat}, (lset ls i v)[j]? = some (some w) → (j = i ∧ w = v) ∨ (j ≠ i ∧ ls[j]? = some (some w) ∧ ¬ (j + 1 = i ∧ w.category = 2)) := by
  intro ls
  induction ls with
  | nil => intro i j h; simp [lset] at h
  | cons o r ih =>
    intro i j h
    cases i with
    | zero =>
      cases j with
      | zero => left; simp [lset] at h; exact ⟨rfl, h.symm⟩
      | succ j => right; simp [lset] at h; exact ⟨by omega, by simpa using h, by omega⟩
    | succ i =>
      cases j with
      | zero =>
        right
        simp only [lset, List.getElem?_cons_zero] at h
        by_cases hc : i = 0 ∧ isL2 o = true
        · rw [if_pos hc] at h; simp at h
        · rw [if_neg hc] at h
          have ho : o = some w := by simpa using h
          refine ⟨by omega, by simpa using ho, fun q => hc ⟨by omega, ?_⟩⟩
          rw [ho]; simp [isL2, q.2]
      | succ j =>
        simp only [lset, List.getElem?_cons_succ] at h
        rcases ih h with ⟨h1, h2⟩ | ⟨h1, h2, h3⟩
        · exact Or.inl ⟨by omega, h2⟩
        · exact Or.inr ⟨by omega, by simpa using h2, fun q => h3 ⟨by omega, q.2⟩⟩
theorem lvH.set {g : gX} {la : Array Slot} {nL : Nat} {ls : List (Option Value)} {i : Nat} {v : Value} (h : lv_has la nL ((i, sv g v) :: (lvl g 0 ls).filter (fun q => !(q.1 == i) && !(q.1 + 1 == i && q.2.category == 2)))) : lvH g la nL (lset ls i v) := by
  refine ⟨h.1, h.2.1, fun q hq => ?_⟩
  obtain ⟨j, w, h1, rfl⟩ := lvl_mem.mp hq
  rw [Nat.zero_add]
  rcases lset_get h1 with ⟨rfl, rfl⟩ | ⟨h2, h3, h4⟩
  · exact h.2.2 _ List.mem_cons_self
  · refine h.2.2 (j, sv g w) (List.mem_cons_of_mem _ (List.mem_filter.mpr ⟨lvl_mem.mpr ⟨j, w, h3, by rw [Nat.zero_add]⟩, ?_⟩))
    simp only [sv_cat, Bool.and_eq_true, Bool.not_eq_true', beq_eq_false_iff_ne, ne_eq, Bool.and_eq_false_iff]
    refine ⟨h2, ?_⟩
    by_cases q : j + 1 = i
    · exact Or.inr (fun z => h4 ⟨q, z⟩)
    · exact Or.inl q
/-- FROM HERE THE METHOD COMES TO R: method, depth, cells from tt.1 to tt.2.1 (and tt.2.2 thrown), pc, locals, stack, heap -/
def M (g : gX) (μ : mX) (d : Nat) (tt : tX) (R : rX) (pc : Nat) (ls : List (Option Value)) (st : List Value) (S : hS) : Prop :=
  ∀ (p : Program) (e : Env) (s : State) (m : MethodId) (args : Array Value) (below : List Frame) (meth : Method) (c : Code) (A : Nat → Prop), Fx g μ tt.1 p s m args meth c A →
  ∀ (H : Heap) (locs : List Loc) (la : Array Slot), Mr g A S H → va_S A s.heap H locs → lvH g la μ.2.2.1 ls → tt.1 ≤ S.1 → S.1 ≤ tt.2.1 →
  W p (gl g) e (rm d tt) s m args below meth c H locs (S.1 - tt.1) (sT S.1 - sT tt.1) (vx_MQ below (Qc g R A) (XC g R A) args s (tt.2.1 - tt.1 + tt.2.2) (sT tt.2.1 - sT tt.1 + 6 * tt.2.2) A) (F0 m pc la (st.map (sv g)))
