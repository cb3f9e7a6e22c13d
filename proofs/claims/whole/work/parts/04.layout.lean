/-! the layout: kind and places of each cell that the constructors make, by its relative address; kinds 0..11 objects, 12 bytes, 13 ints, 14 longs, 15 ladies, 16 logs -/
def ltL : List (Nat × Nat) := [(99, 0), (10, 17), (13, 400), (3, 15), (1, 5), (13, 60), (13, 12), (13, 12), (13, 12), (4, 7), (13, 12), (13, 12), (13, 12), (13, 400), (13, 64), (7, 3), (13, 240), (0, 4), (15, 12), (16, 12), (3, 15), (1, 5), (13, 60), (13, 12), (13, 12), (13, 12), (7, 3), (13, 240), (3, 15), (1, 5), (13, 60), (13, 12), (13, 12), (13, 12), (7, 3), (13, 240), (3, 15), (1, 5), (13, 60), (13, 12), (13, 12), (13, 12), (7, 3), (13, 240), (3, 15), (1, 5), (13, 60), (13, 12), (13, 12), (13, 12), (7, 3), (13, 240), (3, 15), (1, 5), (13, 60), (13, 12), (13, 12), (13, 12), (7, 3), (13, 240), (3, 15), (1, 5), (13, 60), (13, 12), (13, 12), (13, 12), (7, 3), (13, 240), (3, 15), (1, 5), (13, 60), (13, 12), (13, 12), (13, 12), (7, 3), (13, 240), (3, 15), (1, 5), (13, 60), (13, 12), (13, 12), (13, 12), (7, 3), (13, 240), (3, 15), (1, 5), (13, 60), (13, 12), (13, 12), (13, 12), (7, 3), (13, 240), (3, 15), (1, 5), (13, 60), (13, 12), (13, 12), (13, 12), (7, 3), (13, 240), (3, 15), (1, 5), (13, 60), (13, 12), (13, 12), (13, 12), (7, 3), (13, 240), (3, 15), (1, 5), (13, 60), (13, 12), (13, 12), (13, 12), (7, 3), (13, 240), (3, 15), (1, 5), (13, 60), (13, 12), (13, 12), (13, 12), (4, 7), (13, 12), (13, 12), (13, 12), (13, 400), (13, 64), (7, 3), (13, 240), (3, 15), (1, 5), (13, 60), (13, 12), (13, 12), (13, 12), (9, 4), (13, 9), (6, 6), (13, 0), (3, 15), (1, 5), (13, 60), (13, 12), (13, 12), (13, 12), (5, 9), (13, 0), (4, 7), (13, 12), (13, 12), (13, 12), (13, 400), (13, 64), (13, 21), (8, 5), (13, 6), (13, 6), (15, 7), (3, 15), (1, 5), (13, 60), (13, 12), (13, 12), (13, 12), (3, 15), (1, 5), (13, 60), (13, 12), (13, 12), (13, 12), (3, 15), (1, 5), (13, 60), (13, 12), (13, 12), (13, 12), (3, 15), (1, 5), (13, 60), (13, 12), (13, 12), (13, 12), (3, 15), (1, 5), (13, 60), (13, 12), (13, 12), (13, 12), (3, 15), (1, 5), (13, 60), (13, 12), (13, 12), (13, 12), (3, 15), (1, 5), (13, 60), (13, 12), (13, 12), (13, 12), (2, 6), (13, 60), (13, 5), (13, 5), (11, 22), (13, 2051), (13, 1202), (13, 1202), (13, 353), (13, 4236), (12, 400), (13, 5), (13, 400), (13, 6), (13, 6), (13, 4096), (14, 7), (14, 1)]
def LT (a : Nat) : Nat × Nat := ltL.getD a (99, 0)
abbrev NT : Nat := 219
def cC (c : Nat) : String := match c with
  | 0 => RX0
  | 1 => RX1
  | 2 => RX2
  | 3 => RX3
  | 4 => RX4
  | 5 => RX5
  | 6 => RX6
  | 7 => RX7
  | 8 => RX8
  | 9 => RX9
  | 10 => RX11
  | _ => RX12
def cT (c : Nat) : u_T := match c with
  | 0 => TX0
  | 1 => TX1
  | 2 => TX2
  | 3 => TX3
  | 4 => TX4
  | 5 => TX5
  | 6 => TX6
  | 7 => TX7
  | 8 => TX8
  | 9 => TX9
  | 10 => TX11
  | _ => TX12
def cN (c : Nat) : Nat := match c with
  | 0 => 4
  | 1 => 5
  | 2 => 6
  | 3 => 15
  | 4 => 7
  | 5 => 9
  | 6 => 6
  | 7 => 3
  | 8 => 5
  | 9 => 4
  | 10 => 17
  | _ => 22
def fT (c : Nat) : Nat → FieldType := match c with
  | 0 => tyX0
  | 1 => tyX1
  | 2 => tyX2
  | 3 => tyX3
  | 4 => tyX4
  | 5 => tyX5
  | 6 => tyX6
  | 7 => tyX7
  | 8 => tyX8
  | 9 => tyX9
  | 10 => tyX11
  | _ => tyX12
/-- a field that holds a reference -/
def isR (c k : Nat) : Bool := match fT c k with
  | .int => false
  | .boolean => false
  | _ => true
/-- the words that every method stands on -/
def xtW : List Cond := [Cond.selects RX5 yX10_kindAt yX10_kindAt, Cond.selects RX6 yX10_kindAt yX10_kindAt]
def gW : List Cond := (xtW ++ lw_tbl).filter goodWord
theorem gW_in {w : Cond} (h : w ∈ lw_tbl) (g : goodWord w = true) : w ∈ gW := List.mem_filter.mpr ⟨List.mem_append_right _ h, g⟩
theorem gW_x5 : Cond.selects RX5 yX10_kindAt yX10_kindAt ∈ gW := List.mem_filter.mpr ⟨List.mem_append_left _ List.mem_cons_self, by decide +kernel⟩
theorem gW_x6 : Cond.selects RX6 yX10_kindAt yX10_kindAt ∈ gW := List.mem_filter.mpr ⟨List.mem_append_left _ (List.mem_cons_of_mem _ List.mem_cons_self), by decide +kernel⟩
theorem sel_priv {C : String} {y y1 : MethodName} {s : State} {args : Array Value} (hy : y.cls ≠ "java/lang/invoke/MethodHandle" ∧ y.cls ≠ "java/lang/invoke/VarHandle") (hy1 : y1.cls ≠ "java/lang/invoke/MethodHandle" ∧ y1.cls ≠ "java/lang/invoke/VarHandle") (hc : y.cls = y1.cls)
    (h1 : (Cond.selects C y1 y1).before args s = true) (hpriv : (Cond.privateMethod y).before args s = true) (hinst : (Cond.instanceMethod y).before args s = true) : (Cond.selects C y y).before args s = true := by
  obtain ⟨c2, r2, m2, q1, q2, q3, q4, kP, hkP, hkPi⟩ := Cond.selects_spec h1
  obtain ⟨mk, methM, hnamed, hmethM, -, -⟩ := Cond.instanceMethod_spec hinst
  have hfound : s.methodFound? y.cls y.name y.desc = some mk := State.methodFound?_of_named hnamed hy
  have hcls : mk.cls = m2.cls := Option.some.inj ((findClass_of_methodNamed hnamed).symm.trans (hc ▸ findClass_of_methodNamed q3))
  have hsel : selectMethod {} s.vm c2 mk = .method mk := selectMethod_private hmethM (Cond.privateMethod_at hpriv mk methM hnamed hmethM)
  simp only [Cond.before, Cond.holds, Cond.value, q1, hfound, hnamed, hsel, hcls, hkP]
  simp; exact hkPi
theorem gW_hts {args : Array Value} {s : State} (h : ∀ w ∈ lw_tbl, w.before args s = true) : ∀ w ∈ gW, w.before args s = true := by
  have h1 : ∀ w ∈ tables_1, w.before args s = true := fun w hw => h w (List.mem_append_right _ hw)
  intro w hw
  rcases List.mem_append.mp (List.mem_filter.mp hw).1 with q | q
  · simp only [xtW, List.mem_cons, List.not_mem_nil, or_false] at q
    rcases q with rfl | rfl
    · exact sel_priv (y1 := yX10_advance) (by decide) (by decide) rfl (h1 _ (List.mem_of_getElem? (i := 653) (by decide +kernel))) (h1 _ (List.mem_of_getElem? (i := 657) (by decide +kernel))) (h1 _ (List.mem_of_getElem? (i := 658) (by decide +kernel)))
    · exact sel_priv (y1 := yX10_advance) (by decide) (by decide) rfl (h1 _ (List.mem_of_getElem? (i := 654) (by decide +kernel))) (h1 _ (List.mem_of_getElem? (i := 657) (by decide +kernel))) (h1 _ (List.mem_of_getElem? (i := 658) (by decide +kernel)))
  · exact h w q
theorem gW_at {w : Cond} (i : Nat) (h : lw_tbl[i]? = some w) (g : goodWord w = true) : w ∈ gW := gW_in (List.mem_of_getElem? h) g
theorem gW_tb {w : Cond} (i : Nat) (h : tables_1[i]? = some w) (g : goodWord w = true) : w ∈ gW := gW_in (List.mem_append_right _ (List.mem_of_getElem? h)) g
theorem gW_good : GoodIn gW gW := fun w h => ⟨h, good_of_word (List.mem_filter.mp h).2⟩
theorem gW_cons {w : Cond} (h : w ∈ gW) : GoodIn gW (w :: gW) := fun v hv => (List.mem_cons.mp hv).elim (fun e => by subst e; exact ⟨h, good_of_word (List.mem_filter.mp h).2⟩) (fun hv => gW_good v hv)
/-- what is known of a class -/
def CF (c : Nat) : Prop := vwCl[c]? = some (cC c, cT c, cN c) ∧ (∀ w ∈ u_ws (cC c) (cT c) (cN c), w ∈ gW) ∧ (∀ k, k < cN c → parseFieldDescriptor (cT c k).2.2.1 = some (fT c k)) ∧ (∀ a, a < cN c → ∀ b, b < cN c → a ≠ b → (cT c a).2.1 ≠ (cT c b).2.1) ∧ Cond.instantiable (cC c) (cN c) ∈ gW ∧ Cond.initialized (cC c) ∈ gW
theorem uw0 : ∀ w ∈ u_ws (cC 0) (cT 0) (cN 0), w ∈ gW := by
  intro w hw
  obtain ⟨k, hk, rfl⟩ := List.mem_map.mp hw
  have hk : k < 4 := List.mem_range.mp hk
  match k, hk with
  | 0, _ => exact gW_tb 222 (by decide +kernel) (by decide +kernel)
  | 1, _ => exact gW_tb 224 (by decide +kernel) (by decide +kernel)
  | 2, _ => exact gW_tb 226 (by decide +kernel) (by decide +kernel)
  | 3, _ => exact gW_tb 228 (by decide +kernel) (by decide +kernel)
  | n + 4, h => exact absurd h (by omega)
theorem cf0 : CF 0 := ⟨rfl, uw0, tyX0_ok, nmX0, gW_tb 206 (by decide +kernel) (by decide +kernel), gW_tb 6 (by decide +kernel) (by decide +kernel)⟩
theorem uw1 : ∀ w ∈ u_ws (cC 1) (cT 1) (cN 1), w ∈ gW := by
  intro w hw
  obtain ⟨k, hk, rfl⟩ := List.mem_map.mp hw
  have hk : k < 5 := List.mem_range.mp hk
  match k, hk with
  | 0, _ => exact gW_tb 67 (by decide +kernel) (by decide +kernel)
  | 1, _ => exact gW_tb 69 (by decide +kernel) (by decide +kernel)
  | 2, _ => exact gW_tb 71 (by decide +kernel) (by decide +kernel)
  | 3, _ => exact gW_tb 73 (by decide +kernel) (by decide +kernel)
  | 4, _ => exact gW_tb 75 (by decide +kernel) (by decide +kernel)
  | n + 5, h => exact absurd h (by omega)
theorem cf1 : CF 1 := ⟨rfl, uw1, tyX1_ok, nmX1, gW_tb 44 (by decide +kernel) (by decide +kernel), gW_tb 3 (by decide +kernel) (by decide +kernel)⟩
theorem uw2 : ∀ w ∈ u_ws (cC 2) (cT 2) (cN 2), w ∈ gW := by
  intro w hw
  obtain ⟨k, hk, rfl⟩ := List.mem_map.mp hw
  have hk : k < 6 := List.mem_range.mp hk
  match k, hk with
  | 0, _ => exact gW_tb 355 (by decide +kernel) (by decide +kernel)
  | 1, _ => exact gW_tb 357 (by decide +kernel) (by decide +kernel)
  | 2, _ => exact gW_tb 359 (by decide +kernel) (by decide +kernel)
  | 3, _ => exact gW_tb 361 (by decide +kernel) (by decide +kernel)
  | 4, _ => exact gW_tb 363 (by decide +kernel) (by decide +kernel)
  | 5, _ => exact gW_tb 365 (by decide +kernel) (by decide +kernel)
  | n + 6, h => exact absurd h (by omega)
theorem cf2 : CF 2 := ⟨rfl, uw2, tyX2_ok, nmX2, gW_tb 343 (by decide +kernel) (by decide +kernel), gW_tb 12 (by decide +kernel) (by decide +kernel)⟩
theorem uw3 : ∀ w ∈ u_ws (cC 3) (cT 3) (cN 3), w ∈ gW := by
  intro w hw
  obtain ⟨k, hk, rfl⟩ := List.mem_map.mp hw
  have hk : k < 15 := List.mem_range.mp hk
  match k, hk with
  | 0, _ => exact gW_tb 128 (by decide +kernel) (by decide +kernel)
  | 1, _ => exact gW_tb 130 (by decide +kernel) (by decide +kernel)
  | 2, _ => exact gW_tb 132 (by decide +kernel) (by decide +kernel)
  | 3, _ => exact gW_tb 134 (by decide +kernel) (by decide +kernel)
  | 4, _ => exact gW_tb 136 (by decide +kernel) (by decide +kernel)
  | 5, _ => exact gW_tb 138 (by decide +kernel) (by decide +kernel)
  | 6, _ => exact gW_tb 140 (by decide +kernel) (by decide +kernel)
  | 7, _ => exact gW_tb 142 (by decide +kernel) (by decide +kernel)
  | 8, _ => exact gW_tb 144 (by decide +kernel) (by decide +kernel)
  | 9, _ => exact gW_tb 146 (by decide +kernel) (by decide +kernel)
  | 10, _ => exact gW_tb 148 (by decide +kernel) (by decide +kernel)
  | 11, _ => exact gW_tb 150 (by decide +kernel) (by decide +kernel)
  | 12, _ => exact gW_tb 152 (by decide +kernel) (by decide +kernel)
  | 13, _ => exact gW_tb 154 (by decide +kernel) (by decide +kernel)
  | 14, _ => exact gW_tb 156 (by decide +kernel) (by decide +kernel)
  | n + 15, h => exact absurd h (by omega)
theorem cf3 : CF 3 := ⟨rfl, uw3, tyX3_ok, nmX3, gW_tb 38 (by decide +kernel) (by decide +kernel), gW_tb 2 (by decide +kernel) (by decide +kernel)⟩
theorem uw4 : ∀ w ∈ u_ws (cC 4) (cT 4) (cN 4), w ∈ gW := by
  intro w hw
  obtain ⟨k, hk, rfl⟩ := List.mem_map.mp hw
  have hk : k < 7 := List.mem_range.mp hk
  match k, hk with
  | 0, _ => exact gW_tb 173 (by decide +kernel) (by decide +kernel)
  | 1, _ => exact gW_tb 175 (by decide +kernel) (by decide +kernel)
  | 2, _ => exact gW_tb 177 (by decide +kernel) (by decide +kernel)
  | 3, _ => exact gW_tb 179 (by decide +kernel) (by decide +kernel)
  | 4, _ => exact gW_tb 181 (by decide +kernel) (by decide +kernel)
  | 5, _ => exact gW_tb 183 (by decide +kernel) (by decide +kernel)
  | 6, _ => exact gW_tb 185 (by decide +kernel) (by decide +kernel)
  | n + 7, h => exact absurd h (by omega)
theorem cf4 : CF 4 := ⟨rfl, uw4, tyX4_ok, nmX4, gW_tb 160 (by decide +kernel) (by decide +kernel), gW_tb 4 (by decide +kernel) (by decide +kernel)⟩
theorem uw5 : ∀ w ∈ u_ws (cC 5) (cT 5) (cN 5), w ∈ gW := by
  intro w hw
  obtain ⟨k, hk, rfl⟩ := List.mem_map.mp hw
  have hk : k < 9 := List.mem_range.mp hk
  match k, hk with
  | 0, _ => exact gW_tb 311 (by decide +kernel) (by decide +kernel)
  | 1, _ => exact gW_tb 312 (by decide +kernel) (by decide +kernel)
  | 2, _ => exact gW_tb 313 (by decide +kernel) (by decide +kernel)
  | 3, _ => exact gW_tb 314 (by decide +kernel) (by decide +kernel)
  | 4, _ => exact gW_tb 315 (by decide +kernel) (by decide +kernel)
  | 5, _ => exact gW_tb 303 (by decide +kernel) (by decide +kernel)
  | 6, _ => exact gW_tb 305 (by decide +kernel) (by decide +kernel)
  | 7, _ => exact gW_tb 307 (by decide +kernel) (by decide +kernel)
  | 8, _ => exact gW_tb 309 (by decide +kernel) (by decide +kernel)
  | n + 9, h => exact absurd h (by omega)
theorem cf5 : CF 5 := ⟨rfl, uw5, tyX5_ok, nmX5, gW_tb 291 (by decide +kernel) (by decide +kernel), gW_tb 10 (by decide +kernel) (by decide +kernel)⟩
theorem uw6 : ∀ w ∈ u_ws (cC 6) (cT 6) (cN 6), w ∈ gW := by
  intro w hw
  obtain ⟨k, hk, rfl⟩ := List.mem_map.mp hw
  have hk : k < 6 := List.mem_range.mp hk
  match k, hk with
  | 0, _ => exact gW_tb 279 (by decide +kernel) (by decide +kernel)
  | 1, _ => exact gW_tb 281 (by decide +kernel) (by decide +kernel)
  | 2, _ => exact gW_tb 283 (by decide +kernel) (by decide +kernel)
  | 3, _ => exact gW_tb 285 (by decide +kernel) (by decide +kernel)
  | 4, _ => exact gW_tb 287 (by decide +kernel) (by decide +kernel)
  | 5, _ => exact gW_tb 277 (by decide +kernel) (by decide +kernel)
  | n + 6, h => exact absurd h (by omega)
theorem cf6 : CF 6 := ⟨rfl, uw6, tyX6_ok, nmX6, gW_tb 260 (by decide +kernel) (by decide +kernel), gW_tb 9 (by decide +kernel) (by decide +kernel)⟩
theorem uw7 : ∀ w ∈ u_ws (cC 7) (cT 7) (cN 7), w ∈ gW := by
  intro w hw
  obtain ⟨k, hk, rfl⟩ := List.mem_map.mp hw
  have hk : k < 3 := List.mem_range.mp hk
  match k, hk with
  | 0, _ => exact gW_tb 198 (by decide +kernel) (by decide +kernel)
  | 1, _ => exact gW_tb 200 (by decide +kernel) (by decide +kernel)
  | 2, _ => exact gW_tb 202 (by decide +kernel) (by decide +kernel)
  | n + 3, h => exact absurd h (by omega)
theorem cf7 : CF 7 := ⟨rfl, uw7, tyX7_ok, nmX7, gW_tb 189 (by decide +kernel) (by decide +kernel), gW_tb 5 (by decide +kernel) (by decide +kernel)⟩
theorem uw8 : ∀ w ∈ u_ws (cC 8) (cT 8) (cN 8), w ∈ gW := by
  intro w hw
  obtain ⟨k, hk, rfl⟩ := List.mem_map.mp hw
  have hk : k < 5 := List.mem_range.mp hk
  match k, hk with
  | 0, _ => exact gW_tb 331 (by decide +kernel) (by decide +kernel)
  | 1, _ => exact gW_tb 333 (by decide +kernel) (by decide +kernel)
  | 2, _ => exact gW_tb 335 (by decide +kernel) (by decide +kernel)
  | 3, _ => exact gW_tb 337 (by decide +kernel) (by decide +kernel)
  | 4, _ => exact gW_tb 339 (by decide +kernel) (by decide +kernel)
  | n + 5, h => exact absurd h (by omega)
theorem cf8 : CF 8 := ⟨rfl, uw8, tyX8_ok, nmX8, gW_tb 318 (by decide +kernel) (by decide +kernel), gW_tb 11 (by decide +kernel) (by decide +kernel)⟩
theorem uw9 : ∀ w ∈ u_ws (cC 9) (cT 9) (cN 9), w ∈ gW := by
  intro w hw
  obtain ⟨k, hk, rfl⟩ := List.mem_map.mp hw
  have hk : k < 4 := List.mem_range.mp hk
  match k, hk with
  | 0, _ => exact gW_tb 250 (by decide +kernel) (by decide +kernel)
  | 1, _ => exact gW_tb 252 (by decide +kernel) (by decide +kernel)
  | 2, _ => exact gW_tb 254 (by decide +kernel) (by decide +kernel)
  | 3, _ => exact gW_tb 256 (by decide +kernel) (by decide +kernel)
  | n + 4, h => exact absurd h (by omega)
theorem cf9 : CF 9 := ⟨rfl, uw9, tyX9_ok, nmX9, gW_tb 232 (by decide +kernel) (by decide +kernel), gW_tb 7 (by decide +kernel) (by decide +kernel)⟩
theorem uw10 : ∀ w ∈ u_ws (cC 10) (cT 10) (cN 10), w ∈ gW := by
  intro w hw
  obtain ⟨k, hk, rfl⟩ := List.mem_map.mp hw
  have hk : k < 17 := List.mem_range.mp hk
  match k, hk with
  | 0, _ => exact gW_tb 385 (by decide +kernel) (by decide +kernel)
  | 1, _ => exact gW_tb 387 (by decide +kernel) (by decide +kernel)
  | 2, _ => exact gW_tb 389 (by decide +kernel) (by decide +kernel)
  | 3, _ => exact gW_tb 391 (by decide +kernel) (by decide +kernel)
  | 4, _ => exact gW_tb 393 (by decide +kernel) (by decide +kernel)
  | 5, _ => exact gW_tb 395 (by decide +kernel) (by decide +kernel)
  | 6, _ => exact gW_tb 397 (by decide +kernel) (by decide +kernel)
  | 7, _ => exact gW_tb 399 (by decide +kernel) (by decide +kernel)
  | 8, _ => exact gW_tb 401 (by decide +kernel) (by decide +kernel)
  | 9, _ => exact gW_tb 403 (by decide +kernel) (by decide +kernel)
  | 10, _ => exact gW_tb 405 (by decide +kernel) (by decide +kernel)
  | 11, _ => exact gW_tb 407 (by decide +kernel) (by decide +kernel)
  | 12, _ => exact gW_tb 409 (by decide +kernel) (by decide +kernel)
  | 13, _ => exact gW_tb 411 (by decide +kernel) (by decide +kernel)
  | 14, _ => exact gW_tb 413 (by decide +kernel) (by decide +kernel)
  | 15, _ => exact gW_tb 415 (by decide +kernel) (by decide +kernel)
  | 16, _ => exact gW_tb 417 (by decide +kernel) (by decide +kernel)
  | n + 17, h => exact absurd h (by omega)
theorem cf10 : CF 10 := ⟨rfl, uw10, tyX11_ok, nmX11, gW_tb 30 (by decide +kernel) (by decide +kernel), gW_tb 1 (by decide +kernel) (by decide +kernel)⟩
theorem uw11 : ∀ w ∈ u_ws (cC 11) (cT 11) (cN 11), w ∈ gW := by
  intro w hw
  obtain ⟨k, hk, rfl⟩ := List.mem_map.mp hw
  have hk : k < 22 := List.mem_range.mp hk
  match k, hk with
  | 0, _ => exact gW_tb 1398 (by decide +kernel) (by decide +kernel)
  | 1, _ => exact gW_tb 1400 (by decide +kernel) (by decide +kernel)
  | 2, _ => exact gW_tb 1402 (by decide +kernel) (by decide +kernel)
  | 3, _ => exact gW_tb 1404 (by decide +kernel) (by decide +kernel)
  | 4, _ => exact gW_tb 1406 (by decide +kernel) (by decide +kernel)
  | 5, _ => exact gW_tb 1408 (by decide +kernel) (by decide +kernel)
  | 6, _ => exact gW_tb 1410 (by decide +kernel) (by decide +kernel)
  | 7, _ => exact gW_tb 1412 (by decide +kernel) (by decide +kernel)
  | 8, _ => exact gW_tb 1414 (by decide +kernel) (by decide +kernel)
  | 9, _ => exact gW_tb 1416 (by decide +kernel) (by decide +kernel)
  | 10, _ => exact gW_tb 1418 (by decide +kernel) (by decide +kernel)
  | 11, _ => exact gW_tb 1420 (by decide +kernel) (by decide +kernel)
  | 12, _ => exact gW_tb 1422 (by decide +kernel) (by decide +kernel)
  | 13, _ => exact gW_tb 1424 (by decide +kernel) (by decide +kernel)
  | 14, _ => exact gW_tb 1426 (by decide +kernel) (by decide +kernel)
  | 15, _ => exact gW_tb 1428 (by decide +kernel) (by decide +kernel)
  | 16, _ => exact gW_tb 1430 (by decide +kernel) (by decide +kernel)
  | 17, _ => exact gW_tb 1432 (by decide +kernel) (by decide +kernel)
  | 18, _ => exact gW_tb 1434 (by decide +kernel) (by decide +kernel)
  | 19, _ => exact gW_tb 1436 (by decide +kernel) (by decide +kernel)
  | 20, _ => exact gW_tb 1438 (by decide +kernel) (by decide +kernel)
  | 21, _ => exact gW_tb 1440 (by decide +kernel) (by decide +kernel)
  | n + 22, h => exact absurd h (by omega)
theorem cf11 : CF 11 := ⟨rfl, uw11, tyX12_ok, nmX12, gW_tb 1371 (by decide +kernel) (by decide +kernel), gW_tb 13 (by decide +kernel) (by decide +kernel)⟩
