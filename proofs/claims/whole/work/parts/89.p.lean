section
variable {C C' M M' : HI} {n N : Nat} {x x1 x2 : Int32} {W V : Nat → Int32}
def Pk (n : Nat) (W : Nat → Int32) : Prop := WOk n W ∧ ∃ C, LR C 159 W ∧ LawR C 9 W
theorem ap159 {j : Nat} (h : j ≤ 6) : apA (159 + 6 * j) := Or.inr (Or.inr ⟨by omega, by omega⟩)
theorem Pk.tk (h : Pk n W) {d : Nat} (hd : d < n) : Pk n (tkW W d) ∧ (∀ M : HI, M 206 = W → ∃ p M', F_X12_takes M (Int32.ofNat d) = some (p, M') ∧ M' 206 = tkW W d ∧ ∀ b, b ≠ 206 → b ≠ 213 → M' b = M b) ∧ tkW W d 2 = W 2 ∧ (∀ k, 353 ≤ k → tkW W d k = W k) := by
  obtain ⟨hW, C, hL, hR⟩ := h
  obtain ⟨t1, t2, t3, t4, t5, t6⟩ := tk_sim hL hW (ap159 (j := 0) (by omega)) hR hd
  refine ⟨⟨t2, ?_⟩, t1, t3, t4⟩
  by_cases q : W 5 = 99
  · rw [t5 q]; exact ⟨C, hL, hR⟩
  · obtain ⟨C', -, c2, c3⟩ := t6 q
    exact ⟨C', c2, hR.congr (c3.law (ap159 (j := 0) (by omega))) t3 (fun k h1 _ => t4 k h1)⟩
theorem Pk.wk : ∀ (r : List Nat) {W : Nat → Int32}, Pk n W → (∀ e, e ∈ r → e < n) → Pk n (wkL W r) ∧ wkL W r 2 = W 2 ∧ (∀ k, 353 ≤ k → wkL W r k = W k) := by
  intro r
  induction r with
  | nil => intro W h _; exact ⟨h, rfl, fun _ _ => rfl⟩
  | cons d t ih =>
    intro W h he
    obtain ⟨a1, a2, a3, a4⟩ := h.tk (he d List.mem_cons_self)
    obtain ⟨b1, b2, b3⟩ := ih a1 (fun e q => he e (List.mem_cons_of_mem _ q))
    exact ⟨b1, b2.trans a3, fun k hk => (b3 k hk).trans (a4 k hk)⟩
theorem Pk.sd : ∀ (r : List Nat) {W : Nat → Int32} {g : Int32}, Pk n W → rg g 0 99 → (∀ e, e ∈ r → e < n) → rg (sdA W g r) 0 99 := by
  intro r
  induction r with
  | nil => intro W g _ h _; exact h
  | cons d t ih =>
    intro W g h hg he
    obtain ⟨a1, -, -, -⟩ := h.tk (he d List.mem_cons_self)
    refine ih a1 ?_ (fun e q => he e (List.mem_cons_of_mem _ q))
    unfold imx
    split
    · exact a1.1.2.2.2.2.1
    · exact hg
theorem Pk.sdR (h : Pk n W) {r : List Nat} (he : ∀ e, e ∈ r → e < n) : rg (sdR W r) 0 99 := h.sd r h.1.2.2.2.2.1 he
/-! the class -/
def Cst (N : Nat) (W : Nat → Int32) (C : HI) (pre : List Nat) (st : Int32 × List Nat) : Prop := C 155 0 = st.1 ∧ C 155 1 = Int32.ofNat N ∧ (∀ i, i < pre.length → C 156 i = Int32.ofNat (pre.getD i 0)) ∧ (∀ i, i < st.2.length → C 157 i = Int32.ofNat (st.2.getD i 0)) ∧ (∀ i, i ≤ pre.length → LR C (159 + 6 * i) (wkL W (pre.take i))) ∧ LawR C 9 W
def frO (C C' : HI) : Prop := ∀ b, b ≠ 14 → b ≠ 136 → b ≠ 137 → b ≠ 155 → b ≠ 156 → b ≠ 157 → (b < 159 ∨ 201 ≤ b) → C' b = C b
theorem frO.trans {A B D : HI} (h1 : frO A B) (h2 : frO B D) : frO A D := fun b q1 q2 q3 q4 q5 q6 q7 => by rw [h2 b q1 q2 q3 q4 q5 q6 q7, h1 b q1 q2 q3 q4 q5 q6 q7]
theorem frO.refl (C : HI) : frO C C := fun _ _ _ _ _ _ _ _ => rfl
theorem cl_takesA {a e : Nat} (hL : LR C a V) (hW : WOk n V) (hd : e < n) : F_X3_takes C a (Int32.ofNat e) = some (if V 5 = 99 then 0 else 1) := by
  unfold F_X3_takes
  have l4 : C a 4 = V 5 := hL.1.2.2.2.1
  have hs := hW.2.2.2.2.1
  rw [l4, cl_has hL.2 hW.1 hd, Option.bind_eq_bind, Option.bind_some]
  by_cases q : V 5 = 99
  · rw [if_pos q, if_pos (show (99 : Int32) ≤ V 5 by rw [q]; exact Int32.le_refl _)]
  · rw [if_neg q, if_neg (show ¬ (99 : Int32) ≤ V 5 by rw [ti_eq, ti_99] at q; rw [ti_le, ti_99]; have := hs.2; omega)]
    rfl
theorem Cst.weak {pre : List Nat} {e : Nat} {st : Int32 × List Nat} (h : Cst N W C (pre ++ [e]) st) : Cst N W C pre st := by
  obtain ⟨h1, h2, h3, h4, h5, h6⟩ := h
  refine ⟨h1, h2, fun i hi => ?_, h4, fun i hi => ?_, h6⟩
  · rw [h3 i (by rw [List.length_append]; omega), List.getD_eq_getElem?_getD, List.getD_eq_getElem?_getD, List.getElem?_append_left hi]
  · have := h5 i (by rw [List.length_append]; omega)
    rw [List.take_append_of_le_length hi] at this
    exact this
theorem Cst.next {pre : List Nat} {e j : Nat} {st : Int32 × List Nat} (h : Cst N W C pre st) (hj : pre.length = j) (hj6 : j < 6) {C2 : HI} (hL : LR C2 (159 + 6 * (j + 1)) (tkW (wkL W pre) e)) (hf : ∀ b, b ≠ 14 → b ≠ 136 → b ≠ 137 → (∀ i, i < 6 → b ≠ 159 + 6 * (j + 1) + i) → C2 b = C b) : Cst N W (up2 C2 156 j (Int32.ofNat e)) (pre ++ [e]) st ∧ frO C (up2 C2 156 j (Int32.ofNat e)) := by
  obtain ⟨h1, h2, h3, h4, h5, h6⟩ := h
  have f : ∀ b, b ≠ 156 → up2 C2 156 j (Int32.ofNat e) b = C2 b := fun b hb => up2_ne _ _ _ hb
  have g : ∀ b, b < 159 → b ≠ 14 → b ≠ 136 → b ≠ 137 → C2 b = C b := fun b q1 q2 q3 q4 => hf b q2 q3 q4 (fun i hi => by omega)
  refine ⟨⟨?_, ?_, fun i hi => ?_, fun i hi => ?_, fun i hi => ?_, ?_⟩, fun b q1 q2 q3 q4 q5 q6 q7 => ?_⟩
  · rw [f 155 (by decide), g 155 (by omega) (by omega) (by omega) (by omega)]; exact h1
  · rw [f 155 (by decide), g 155 (by omega) (by omega) (by omega) (by omega)]; exact h2
  · rw [List.length_append, List.length_singleton] at hi
    rw [up2_get]
    by_cases q : i = j
    · rw [if_pos ⟨rfl, q⟩, List.getD_eq_getElem?_getD, List.getElem?_append_right (by omega), q, hj, Nat.sub_self]
      rfl
    · rw [if_neg (fun w => q w.2), g 156 (by omega) (by omega) (by omega) (by omega), h3 i (by omega), List.getD_eq_getElem?_getD, List.getD_eq_getElem?_getD, List.getElem?_append_left (by omega)]
  · rw [f 157 (by decide), g 157 (by omega) (by omega) (by omega) (by omega)]; exact h4 i hi
  · rw [List.length_append, List.length_singleton] at hi
    by_cases q : i = j + 1
    · subst q
      rw [List.take_of_length_le (by rw [List.length_append, List.length_singleton]; omega)]
      have e1 : wkL W (pre ++ [e]) = tkW (wkL W pre) e := by unfold wkL; rw [List.foldl_append]; rfl
      rw [e1]
      exact hL.congr (fun i hi => f _ (by omega))
    · rw [List.take_append_of_le_length (by omega)]
      exact (h5 i (by omega)).congr (fun t ht => by rw [f _ (by omega)]; exact hf _ (by omega) (by omega) (by omega) (fun u hu => by omega))
  · exact h6.congr (fun t ht => by rw [f _ (by omega)]; exact g _ (by omega) (by omega) (by omega) (by omega)) rfl (fun _ _ _ => rfl)
  · rw [f b q5]; exact hf b q1 q2 q3 (fun i hi => by omega)
theorem og (hN : N ≤ 6) (hP : Pk n W) : ∀ k q j x pre C st, k < q → j + k = N → pre.length = j → (DS x).length = k → (∀ e, e ∈ DS x → e < n) → (∀ e, e ∈ pre → e < n) → Cst N W C pre st → ∃ C', F_X8_goOn q C (Int32.ofNat j) x (sdR W pre) 9 = some C' ∧ Cst N W C' pre (ofold W k x pre st) ∧ frO C C' := by
  have hn := hP.1.1.2.1
  intro k
  induction k with
  | zero =>
    intro q j x pre C st hq hj hp _ _ _ h
    obtain ⟨q, rfl⟩ : ∃ q', q = q' + 1 := ⟨q - 1, by omega⟩
    rw [F_X8_goOn, h.1, h.2.1]
    show ∃ C', _ ∧ Cst N W C' pre (oup W st pre) ∧ _
    unfold oup
    by_cases w : sdR W pre < st.1
    · rw [if_pos w, if_pos w, if_pos (by rw [show j = N by omega]; exact Int32.le_refl _), if_pos (inB_ofn (by omega) (by omega)), ofn_clamp (by omega)]
      refine ⟨_, rfl, ⟨?_, ?_, fun i hi => ?_, fun i hi => ?_, fun i hi => ?_, ?_⟩, fun b q1 q2 q3 q4 q5 q6 q7 => ?_⟩
      · rw [up1_get, if_neg (by decide), up2_get, if_pos ⟨rfl, rfl⟩]
      · rw [up1_get, if_neg (by decide), up2_get, if_neg (by decide)]; exact h.2.1
      · rw [up1_get, if_neg (by decide), up2_ne _ _ _ (by decide)]; exact h.2.2.1 i hi
      · rw [up1_get, if_pos rfl, pk_cpy_in (by omega) (by simp only at hi; omega), up2_ne _ _ _ (by decide), Nat.sub_zero, Nat.zero_add]
        exact h.2.2.1 i hi
      · exact (h.2.2.2.2.1 i hi).congr (fun t ht => by rw [up1_get, if_neg (by omega), up2_ne _ _ _ (by omega)])
      · exact h.2.2.2.2.2.congr (fun t ht => by rw [up1_get, if_neg (by omega), up2_ne _ _ _ (by omega)]) rfl (fun _ _ _ => rfl)
      · rw [up1_get, if_neg q6, up2_ne _ _ _ q4]
    · rw [if_neg w, if_neg w]
      exact ⟨C, rfl, h, frO.refl _⟩
  | succ k ih =>
    intro q j x pre C st hq hj hp hl hx hpre h
    obtain ⟨q, rfl⟩ : ∃ q', q = q' + 1 := ⟨q - 1, by omega⟩
    rw [F_X8_goOn, h.1, h.2.1]
    by_cases w : sdR W pre < st.1
    · rw [if_pos w, if_neg (by rw [ofn_le (by omega) (by omega)]; omega), if_pos (by rw [show (6 : Int32) = Int32.ofNat 6 from rfl, ofn_lt (by omega) (by omega)]; omega)]
      have hV := (hP.wk pre hpre).1
      have loop : ∀ r e C st, e + r = 12 → Cst N W C pre st → ∃ C', L_X8_goOn_49 (F_X8_goOn q) 9 (Int32.ofNat j) x (sdR W pre) (Int32.ofNat e) C = some C' ∧ Cst N W C' pre ((dl x e r).foldl (fun s d => ofold W k (rmv x d) (pre ++ [d]) s) st) ∧ frO C C' := by
        intro r
        induction r with
        | zero =>
          intro e C st he hC
          rw [L_X8_goOn_49, show e = 12 by omega, if_pos (by decide)]
          exact ⟨C, rfl, hC, frO.refl _⟩
        | succ r ir =>
          intro e C st he hC
          rw [L_X8_goOn_49, if_neg (by rw [show (12 : Int32) = Int32.ofNat 12 from rfl, ofn_le (by omega) (by omega)]; omega), sh_tb (by omega), dl]
          by_cases t : tb x e = true
          · have hem : e ∈ DS x := DS_mem.mpr ⟨by omega, t⟩
            have hen := hx e hem
            rw [if_pos t, if_neg (by decide), if_pos t, ofn_succ, ofn_succ, if_pos (inB_ofn (by omega) (by omega)), if_pos (inB_ofn (by omega) (by omega)), ofn_clamp (by omega), ofn_clamp (by omega), List.foldl_cons]
            have hLj := hC.2.2.2.2.1 j (by omega)
            rw [List.take_of_length_le (by omega)] at hLj
            obtain ⟨C1, c1, c2, c3⟩ := cl_copyL (C := C) (a := 159 + 6 * (j + 1)) (b := 159 + 6 * j) (fun i i' _ _ => by omega)
            have hL1 := c2 _ hLj
            rw [c1, Option.bind_eq_bind, Option.bind_some, cl_takesA hL1 hV.1 hen, Option.bind_eq_bind, Option.bind_some]
            have hR1 : LawR C1 9 (wkL W pre) := hC.2.2.2.2.2.congr (fun t ht => c3 _ (fun u hu => by omega)) (hP.wk pre hpre).2.1 (fun k hk _ => (hP.wk pre hpre).2.2 k hk)
            obtain ⟨-, -, -, -, t5, t6⟩ := tk_sim hL1 hV.1 (ap159 (by omega)) hR1 hen
            have fin : ∀ C3 : HI, Cst N W C3 (pre ++ [e]) st → frO C C3 → ∃ C', ((F_X8_goOn q C3 (Int32.ofNat (j + 1)) (x &&& (((1 : Int32) <<< (Int32.ofNat e &&& 31)) ^^^ (-1 : Int32))) (if sdR W pre < C3 (159 + 6 * (j + 1)) 4 then C3 (159 + 6 * (j + 1)) 4 else sdR W pre) 9).bind fun r17 => L_X8_goOn_49 (F_X8_goOn q) 9 (Int32.ofNat j) x (sdR W pre) (Int32.ofNat (e + 1)) r17) = some C' ∧ Cst N W C' pre ((dl x (e + 1) r).foldl (fun s d => ofold W k (rmv x d) (pre ++ [d]) s) (ofold W k (rmv x e) (pre ++ [e]) st)) ∧ frO C C' := by
              intro C3 h3 f3
              have l4 : C3 (159 + 6 * (j + 1)) 4 = wkL W (pre ++ [e]) 5 := by
                have := h3.2.2.2.2.1 (j + 1) (by rw [List.length_append, List.length_singleton]; omega)
                rw [List.take_of_length_le (by rw [List.length_append, List.length_singleton]; omega)] at this
                exact this.1.2.2.2.1
              have es : (if sdR W pre < C3 (159 + 6 * (j + 1)) 4 then C3 (159 + 6 * (j + 1)) 4 else sdR W pre) = sdR W (pre ++ [e]) := by rw [sdR_snoc, l4]; rfl
              rw [es]
              obtain ⟨C4, g1, g2, g3⟩ := ih q (j + 1) (rmv x e) (pre ++ [e]) C3 st (by omega) (by omega) (by rw [List.length_append, List.length_singleton]; omega) (by have := DS_rmv hem; omega) (fun d hd => hx d (DS_sub (by omega) hd)) (fun d hd => by
                rw [List.mem_append, List.mem_singleton] at hd
                rcases hd with hd | hd
                · exact hpre d hd
                · rw [hd]; exact hen) h3
              have g1' : F_X8_goOn q C3 (Int32.ofNat (j + 1)) (x &&& (((1 : Int32) <<< (Int32.ofNat e &&& 31)) ^^^ (-1 : Int32))) (sdR W (pre ++ [e])) 9 = some C4 := g1
              rw [g1', Option.bind_some]
              obtain ⟨C5, k1, k2, k3⟩ := ir (e + 1) C4 _ (by omega) g2.weak
              exact ⟨C5, k1, k2, (f3.trans g3).trans k3⟩
            by_cases v : wkL W pre 5 = 99
            · rw [if_pos v, if_pos rfl, if_pos (inB_ofn (by omega) (by omega))]
              have := hC.next hp (by omega) (e := e) (C2 := C1) (by rw [t5 v]; exact hL1) (fun b _ _ _ q4 => c3 b q4)
              exact fin _ this.1 this.2
            · rw [if_neg v, if_neg (by decide)]
              obtain ⟨C2, b1, b2, b3⟩ := t6 v
              rw [b1, Option.bind_some, if_pos (inB_ofn (by omega) (by omega))]
              have := hC.next hp (by omega) (e := e) (C2 := C2) b2 (fun b q1 q2 q3 q4 => by rw [b3 b q4 q1 q2 q3 (fun y => by cases y)]; exact c3 b q4)
              exact fin _ this.1 this.2
          · rw [if_neg t, if_pos rfl, if_neg t, ofn_succ]
            exact ir (e + 1) C st (by omega) hC
      exact loop 12 0 C st (by omega) h
    · rw [if_neg w, ofold_cut W (k + 1) x pre st (ile_of_not_lt w)]
      exact ⟨C, rfl, h, frO.refl _⟩
/-! the reference -/
theorem m_fkt (k : Nat) (hk : k ≤ 6) : F_X12_ordersOf M (Int32.ofNat k) = some (Int32.ofNat (fkt k)) := by
  unfold F_X12_ordersOf
  have key : ∀ r i, i + r = k + 1 → 1 ≤ i → L_X12_ordersOf_4 M (Int32.ofNat k) (Int32.ofNat (fkt (i - 1))) (Int32.ofNat i) = some (Int32.ofNat (fkt k)) := by
    intro r
    induction r with
    | zero =>
      intro i hi h1
      rw [L_X12_ordersOf_4, if_pos (by rw [ofn_lt (by omega) (by omega)]; omega), show i - 1 = k by omega]
    | succ r ih =>
      intro i hi h1
      rw [L_X12_ordersOf_4, if_neg (by rw [ofn_lt (by omega) (by omega)]; omega), ofn_succ]
      have := ih (i + 1) (by omega) (by omega)
      rw [show i + 1 - 1 = (i - 1) + 1 by omega, fkt, show i - 1 + 1 = i by omega, Nat.mul_comm, Int32.ofNat_mul] at this
      exact this
  rcases Nat.eq_zero_or_pos k with h | h
  · subst h
    rw [L_X12_ordersOf_4, if_pos (by decide)]
    rfl
  · exact key (k - 1) 2 (by omega) (by omega)
theorem m_has (j : Nat) (hj : j < 32) : F_X12_has M x (Int32.ofNat j) = some (if tb x j = true then 1 else 0) := by
  unfold F_X12_has
  rw [sh_tb hj]
  by_cases q : tb x j = true
  · rw [if_pos q, if_pos rfl]
  · rw [if_neg q, if_neg (by decide)]
theorem m_find {y4 y5 y6 y7 : Int32} : ∀ r d skip, d + r = 12 → skip < (dl x d r).length → ∃ z, L_X12_laysRow_43 M x y4 y5 y6 y7 (Int32.ofNat skip) (Int32.ofNat d) = some (z, Int32.ofNat ((dl x d r).getD skip 0)) := by
  intro r
  induction r with
  | zero => intro d skip _ h; exact absurd h (Nat.not_lt_zero _)
  | succ r ih =>
    intro d skip hd h
    rw [L_X12_laysRow_43, m_has d (by omega)]
    simp only [Option.bind_eq_bind, Option.bind_some]
    rw [dl] at h
    have hl : (dl x d (r + 1)).length ≤ 12 := by rw [dl_len]; have := cntN_le (r + 1) (fun i => tb x (d + i)); omega
    rw [dl] at hl
    rw [dl]
    by_cases t : tb x d = true
    · rw [if_pos t] at h hl
      rw [List.length_cons] at h hl
      rw [if_pos t, if_pos t, if_neg (by decide)]
      by_cases s0 : skip = 0
      · subst s0
        rw [if_pos (by decide)]
        exact ⟨_, rfl⟩
      · rw [if_neg (by rw [show (0 : Int32) = Int32.ofNat 0 from rfl, ofn_le (by omega) (by omega)]; omega), if_neg (by decide), ofn_succ]
        have es : Int32.ofNat skip - (1 : Int32) = Int32.ofNat (skip - 1) := by
          rw [ti_eq, ti_sub (by rw [ti_ofn (by omega), ti_1]; omega) (by rw [ti_ofn (by omega), ti_1]; omega), ti_ofn (by omega), ti_ofn (by omega), ti_1]; omega
        rw [es]
        obtain ⟨z, e⟩ := ih (d + 1) (skip - 1) (by omega) (by omega)
        refine ⟨z, ?_⟩
        rw [e]
        obtain ⟨s', rfl⟩ : ∃ s', skip = s' + 1 := ⟨skip - 1, by omega⟩
        rfl
    · rw [if_neg t] at h
      rw [if_neg t, if_pos rfl, if_pos rfl, ofn_succ, Int32.sub_zero, if_neg t]
      exact ih (d + 1) skip (by omega) h
theorem fkt_le : ∀ k, k < 7 → fkt k ≤ 720 := by decide
theorem m_lays (hN : N ≤ 6) : ∀ k j x num M, j + k = N → (DS x).length = k → num < fkt k → ∃ M', L_X12_laysRow_14 (Int32.ofNat N) x (Int32.ofNat num) (Int32.ofNat j) M = some M' ∧ (∀ b, b ≠ 214 → M' b = M b) ∧ (∀ i, i < j → M' 214 i = M 214 i) ∧ (∀ i, i < k → M' 214 (j + i) = Int32.ofNat ((nthR k x num).getD i 0)) ∧ (nthR k x num).length = k ∧ (∀ e, e ∈ nthR k x num → e ∈ DS x) := by
  intro k
  induction k with
  | zero =>
    intro j x num M hj _ _
    rw [L_X12_laysRow_14, if_pos (by rw [show j = N by omega]; exact Int32.le_refl _)]
    exact ⟨M, rfl, fun _ _ => rfl, fun _ _ => rfl, fun i hi => absurd hi (Nat.not_lt_zero _), rfl, fun e he => absurd he List.not_mem_nil⟩
  | succ k ih =>
    intro j x num M hj hl hnum
    have f0 := fkt_pos k
    have f7 := fkt_le k (by omega)
    have f8 := fkt_le (k + 1) (by omega)
    have hnk : num / fkt k < k + 1 := by rw [Nat.div_lt_iff_lt_mul f0]; exact hnum
    have e1 : Int32.ofNat N - (1 : Int32) - Int32.ofNat j = Int32.ofNat k := by
      have a1 : (Int32.ofNat N - (1 : Int32)).toInt = (N : Int) - 1 := by rw [ti_sub (by rw [ti_ofn (by omega), ti_1]; omega) (by rw [ti_ofn (by omega), ti_1]; omega), ti_ofn (by omega), ti_1]
      rw [ti_eq, ti_sub (by rw [ti_ofn (by omega), a1]; omega) (by rw [ti_ofn (by omega), a1]; omega), a1, ti_ofn (by omega), ti_ofn (by omega)]; omega
    rw [L_X12_laysRow_14, if_neg (by rw [ofn_le (by omega) (by omega)]; omega), e1, m_fkt k (by omega), Option.bind_eq_bind, Option.bind_some]
    have hne : ¬ Int32.ofNat (fkt k) = 0 := by rw [show (0 : Int32) = Int32.ofNat 0 from rfl, ofn_eq (by omega) (by omega)]; omega
    rw [if_pos hne, ofn_mod (by omega) f0 (by omega), ofn_div (by omega) f0 (by omega)]
    obtain ⟨z, ez⟩ := m_find (M := M) (x := x) (y4 := Int32.ofNat N) (y5 := Int32.ofNat num) (y6 := Int32.ofNat j) (y7 := Int32.ofNat (fkt k)) 12 0 (num / fkt k) (by omega) (by show _ < (DS x).length; omega)
    have ez' : L_X12_laysRow_43 M x (Int32.ofNat N) (Int32.ofNat num) (Int32.ofNat j) (Int32.ofNat (fkt k)) (Int32.ofNat (num / fkt k)) 0 = some (z, Int32.ofNat ((DS x).getD (num / fkt k) 0)) := ez
    have hmem : (DS x).getD (num / fkt k) 0 ∈ DS x := getD_mem (by omega)
    rw [ez', Option.bind_eq_bind, Option.bind_some, if_pos (inB_ofn (by omega) (by omega)), if_pos hne, ofn_clamp (by omega), ofn_succ]
    have h12 := (DS_mem.mp hmem).1
    obtain ⟨M', g1, g2, g3, g4, g5, g6⟩ := ih (j + 1) (rmv x ((DS x).getD (num / fkt k) 0)) (num % fkt k) (up2 M 214 j (Int32.ofNat ((DS x).getD (num / fkt k) 0))) (by omega) (by have := DS_rmv hmem; omega) (Nat.mod_lt _ f0)
    refine ⟨M', g1, fun b hb => by rw [g2 b hb, up2_ne _ _ _ hb], fun i hi => by rw [g3 i (by omega), up2_get, if_neg (by omega)], fun i hi => ?_, ?_, fun e he => ?_⟩
    · cases i with
      | zero => rw [Nat.add_zero, g3 j (by omega), up2_get, if_pos ⟨rfl, rfl⟩]; rfl
      | succ i => rw [show j + (i + 1) = j + 1 + i by omega, g4 i (by omega)]; rfl
    · show (_ :: nthR k _ _).length = _
      rw [List.length_cons, g5]
    · have he' : e ∈ (DS x).getD (num / fkt k) 0 :: nthR k (rmv x ((DS x).getD (num / fkt k) 0)) (num % fkt k) := he
      rw [List.mem_cons] at he'
      rcases he' with w | w
      · rw [w]; exact hmem
      · exact DS_sub h12 (g6 e w)
theorem m_sad13 (hN : N ≤ 6) : ∀ (s : List Nat) (i : Nat) (V : Nat → Int32) (g : Int32) (M : HI), i + s.length = N → M 206 = V → Pk n V → (∀ e, e ∈ s → e < n) → (∀ t, t < s.length → M 214 (i + t) = Int32.ofNat (s.getD t 0)) → ∃ M', L_X12_saddest_13 (Int32.ofNat N) g (Int32.ofNat i) M = some (sdA V g s, Bk M') ∧ frM M M' := by
  intro s
  induction s with
  | nil =>
    intro i V g M hi _ _ _ _
    rw [List.length_nil, Nat.add_zero] at hi
    rw [L_X12_saddest_13, if_pos (by rw [hi]; exact Int32.le_refl _), m_brings, Option.bind_eq_bind, Option.bind_some]
    exact ⟨M, rfl, frM.refl _⟩
  | cons d t ih =>
    intro i V g M hi hM hP he hr
    rw [List.length_cons] at hi
    rw [L_X12_saddest_13, if_neg (by rw [ofn_le (by omega) (by omega)]; omega), ald_ofn (by omega) (by omega)]
    have r0 := hr 0 (by rw [List.length_cons]; omega)
    rw [Nat.add_zero] at r0
    have r0' : M 214 i = Int32.ofNat d := r0
    obtain ⟨a1, a2, a3, a4⟩ := hP.tk (he d List.mem_cons_self)
    obtain ⟨p, M1, b1, b2, b3⟩ := a2 M hM
    rw [r0', Option.bind_eq_bind, Option.bind_some, b1, Option.bind_eq_bind, Option.bind_some, ofn_succ]
    have hf : frM M M1 := ⟨b3, by rw [b2, a3, hM], fun k hk => by rw [b2, a4 k hk, hM]⟩
    obtain ⟨M', c1, c2⟩ := ih (i + 1) (tkW V d) (imx g (tkW V d 5)) M1 (by omega) b2 a1 (fun e q => he e (List.mem_cons_of_mem _ q)) (fun u hu => by
      rw [b3 214 (by decide) (by decide), show i + 1 + u = i + (u + 1) by omega, hr (u + 1) (by rw [List.length_cons]; omega)]
      rfl)
    refine ⟨M', ?_, hf.trans c2⟩
    show L_X12_saddest_13 (Int32.ofNat N) (if g < M1 206 5 then M1 206 5 else g) (Int32.ofNat (i + 1)) M1 = _
    rw [b2]
    exact c1
theorem m_saddest (hN : N ≤ 6) {s : List Nat} (hs : s.length = N) (hP : Pk n (M 206)) (he : ∀ e, e ∈ s → e < n) (hr : ∀ t, t < s.length → M 214 t = Int32.ofNat (s.getD t 0)) : ∃ M', F_X12_saddest M (Int32.ofNat N) = some (sdR (M 206) s, M') ∧ M' 206 = M 206 ∧ ∀ b, b ≠ 206 → b ≠ 209 → b ≠ 213 → M' b = M b := by
  unfold F_X12_saddest
  rw [m_keeps, Option.bind_eq_bind, Option.bind_some]
  have e6 : Kp M 206 = M 206 := Kp_ne M (by decide)
  obtain ⟨M', a1, a2⟩ := m_sad13 (n := n) hN s 0 (M 206) (M 206 5) (Kp M) (by omega) e6 hP he (fun t ht => by rw [Kp_ne M (by decide), Nat.zero_add]; exact hr t ht)
  refine ⟨Bk M', ?_, by rw [Bk_206 (Kp_kept M) a2]; exact e6, fun b h1 h2 h3 => by rw [Bk_ne _ h1, a2.1 b h1 h3, Kp_ne M h2]⟩
  show L_X12_saddest_13 (Int32.ofNat N) (Kp M 206 5) 0 (Kp M) = _
  rw [e6]
  exact a1
theorem m_best {y2 y3 y5 y6 y7 : Int32} (hN : N ≤ 6) (hlt : y7 < y5) : ∀ r i M, i + r = N → ∃ v M', L_X12_order_75 y2 y3 (Int32.ofNat N) y5 y6 y7 (Int32.ofNat i) M = some (v, M') ∧ (∀ b, b ≠ 215 → M' b = M b) ∧ (∀ j, j < i → M' 215 j = M 215 j) ∧ (∀ j, i ≤ j → j < N → M' 215 j = M 214 j) := by
  intro r
  induction r with
  | zero =>
    intro i M hi
    rw [L_X12_order_75, if_pos (by rw [show i = N by omega]; exact Int32.le_refl _)]
    exact ⟨_, M, rfl, fun _ _ => rfl, fun _ _ => rfl, fun j h1 h2 => by omega⟩
  | succ r ih =>
    intro i M hi
    rw [L_X12_order_75, if_neg (by rw [ofn_le (by omega) (by omega)]; omega), if_neg (by rw [ti_lt] at hlt; rw [ti_le]; omega), ald_ofn (by omega) (by omega), Option.bind_eq_bind, Option.bind_some, if_pos (inB_ofn (by omega) (by omega)), ofn_clamp (by omega), ofn_succ]
    obtain ⟨v, M', a1, a2, a3, a4⟩ := ih (i + 1) (up2 M 215 i (M 214 i)) (by omega)
    refine ⟨v, M', a1, fun b hb => by rw [a2 b hb, up2_ne _ _ _ hb], fun j hj => by rw [a3 j (by omega), up2_get, if_neg (by omega)], fun j h1 h2 => ?_⟩
    by_cases q : j = i
    · subst q; rw [a3 j (by omega), up2_get, if_pos ⟨rfl, rfl⟩]
    · rw [a4 j (by omega) h2, up2_ne _ _ _ (by decide)]
theorem m_order47 (hN : N ≤ 6) (hP : Pk n W) (hl : (DS x).length = N) (hx : ∀ e, e ∈ DS x → e < n) (hbc : pc0 x = Int32.ofNat N) : ∀ r num M (st : Int32 × List Nat), num + r = fkt N → M 206 = W → (∀ i, i < st.2.length → M 215 i = Int32.ofNat (st.2.getD i 0)) → ∃ M', L_X12_order_47 x2 x (Int32.ofNat N) st.1 (Int32.ofNat num) M = L_X12_order_47 x2 x (Int32.ofNat N) (lp (fun num s => oup W s (nthR N x num)) num r st).1 (Int32.ofNat (fkt N)) M' ∧ M' 206 = W ∧ (∀ b, b ≠ 206 → b ≠ 209 → b ≠ 213 → b ≠ 214 → b ≠ 215 → M' b = M b) ∧ (∀ i, i < (lp (fun num s => oup W s (nthR N x num)) num r st).2.length → M' 215 i = Int32.ofNat ((lp (fun num s => oup W s (nthR N x num)) num r st).2.getD i 0)) := by
  have f7 := fkt_le N (by omega)
  intro r
  induction r with
  | zero =>
    intro num M st hnum hM hb
    rw [show num = fkt N by omega]
    exact ⟨M, rfl, hM, fun _ _ _ _ _ _ => rfl, hb⟩
  | succ r ih =>
    intro num M st hnum hM hb
    obtain ⟨M1, a1, a2, -, a4, a5, a6⟩ := m_lays hN N 0 x num M (by omega) hl (by omega)
    have ea : F_X12_laysRow M x (Int32.ofNat num) = some M1 := by
      unfold F_X12_laysRow
      rw [bc_pc0, hbc, Option.bind_eq_bind, Option.bind_some]
      exact a1
    have m1W : M1 206 = W := by rw [a2 206 (by decide)]; exact hM
    obtain ⟨M2, b1, b2, b3⟩ := m_saddest (n := n) (M := M1) hN a5 (by rw [m1W]; exact hP) (fun e he => hx e (a6 e he)) (fun t ht => by rw [a5] at ht; have := a4 t ht; rw [Nat.zero_add] at this; exact this)
    rw [m1W] at b1 b2
    have row : ∀ i, i < N → M2 214 i = Int32.ofNat ((nthR N x num).getD i 0) := fun i hi => by
      have := a4 i hi
      rw [Nat.zero_add] at this
      rw [b3 214 (by decide) (by decide) (by decide)]; exact this
    have fr2 : ∀ b, b ≠ 206 → b ≠ 209 → b ≠ 213 → b ≠ 214 → M2 b = M b := fun b q1 q2 q3 q4 => by rw [b3 b q1 q2 q3, a2 b q4]
    rw [L_X12_order_47, m_fkt N hN, Option.bind_eq_bind, Option.bind_some, if_neg (by rw [ofn_le (by omega) (by omega)]; omega), ea, Option.bind_eq_bind, Option.bind_some, b1, Option.bind_eq_bind, Option.bind_some]
    show ∃ M', ((L_X12_order_75 x2 x (Int32.ofNat N) st.1 (Int32.ofNat num) (sdR W (nthR N x num)) 0 M2).bind fun r27 => L_X12_order_47 x2 x (Int32.ofNat N) (if sdR W (nthR N x num) < st.1 then sdR W (nthR N x num) else st.1) (Int32.ofNat num + 1) r27.2) = L_X12_order_47 x2 x (Int32.ofNat N) (lp (fun num s => oup W s (nthR N x num)) (num + 1) r (oup W st (nthR N x num))).1 (Int32.ofNat (fkt N)) M' ∧ M' 206 = W ∧ (∀ b, b ≠ 206 → b ≠ 209 → b ≠ 213 → b ≠ 214 → b ≠ 215 → M' b = M b) ∧ (∀ i, i < (lp (fun num s => oup W s (nthR N x num)) (num + 1) r (oup W st (nthR N x num))).2.length → M' 215 i = Int32.ofNat ((lp (fun num s => oup W s (nthR N x num)) (num + 1) r (oup W st (nthR N x num))).2.getD i 0))
    rw [ofn_succ]
    by_cases w : sdR W (nthR N x num) < st.1
    · have eo : oup W st (nthR N x num) = (sdR W (nthR N x num), nthR N x num) := by unfold oup; rw [if_pos w]
      obtain ⟨v, M3, c1, c2, -, c4⟩ := m_best (y2 := x2) (y3 := x) (y6 := Int32.ofNat num) hN w N 0 M2 (by omega)
      have c1' : L_X12_order_75 x2 x (Int32.ofNat N) st.1 (Int32.ofNat num) (sdR W (nthR N x num)) 0 M2 = some (v, M3) := c1
      rw [if_pos w, c1', Option.bind_some, eo]
      obtain ⟨M', d1, d2, d3, d4⟩ := ih (num + 1) M3 (sdR W (nthR N x num), nthR N x num) (by omega) (by rw [c2 206 (by decide)]; exact b2) (fun i hi => by
        have hi' : i < N := by rw [← a5]; exact hi
        rw [c4 i (by omega) hi']; exact row i hi')
      exact ⟨M', d1, d2, fun b q1 q2 q3 q4 q5 => by rw [d3 b q1 q2 q3 q4 q5, c2 b q5, fr2 b q1 q2 q3 q4], d4⟩
    · have eo : oup W st (nthR N x num) = st := by unfold oup; rw [if_neg w]
      have c1 : L_X12_order_75 x2 x (Int32.ofNat N) st.1 (Int32.ofNat num) (sdR W (nthR N x num)) 0 M2 = some (0, M2) := by
        rw [L_X12_order_75]
        split
        · rfl
        · rw [if_pos (ile_of_not_lt w)]
      rw [if_neg w, c1, Option.bind_some, eo]
      obtain ⟨M', d1, d2, d3, d4⟩ := ih (num + 1) M2 st (by omega) b2 (fun i hi => by rw [fr2 215 (by decide) (by decide) (by decide) (by decide)]; exact hb i hi)
      exact ⟨M', d1, d2, fun b q1 q2 q3 q4 q5 => by rw [d3 b q1 q2 q3 q4 q5, fr2 b q1 q2 q3 q4], d4⟩
end
