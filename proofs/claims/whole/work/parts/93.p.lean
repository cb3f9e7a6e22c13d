section
variable {C C' M M' : HI} {n J T : Nat} {x1 x2 : Int32} {W : Nat → Int32} {vs : Nat → Nat} {c : Nat → Nat → Nat}
def Jst (c : Nat → Nat → Nat) (n J : Nat) (C : HI) (pre : List Nat) (st : Option Nat × List Nat) : Prop := C 201 0 = enc st.1 ∧ C 201 1 = Int32.ofNat J ∧ C 201 2 = Int32.ofNat n ∧ (∀ jar d, jar < J → d < n → C 202 (12 * jar + d) = Int32.ofNat (c jar d)) ∧ (∀ i, i < pre.length → C 203 i = Int32.ofNat (pre.getD i 0)) ∧ (∀ i, i < st.2.length → C 204 i = Int32.ofNat (st.2.getD i 0)) ∧ (∀ m, st.1 = some m → m < 100000)
theorem cl_worth (hc : ∀ jar d, c jar d ≤ 45) (hn : n ≤ 12) (hJ : J ≤ 5) {pre : List Nat} {st : Option Nat × List Nat} (h : Jst c n J C pre st) {jar d : Nat} (hj : jar < J) (hd : d < n) : F_X2_isWorthwhile C (Int32.ofNat jar) (Int32.ofNat d) = some (if cntN n (btr c jar d) < J then 1 else 0) := by
  obtain ⟨-, h1, h2, h3, -, -, -⟩ := h
  unfold F_X2_isWorthwhile
  have key : ∀ r e, e + r = n → L_X2_isWorthwhile_11 C (Int32.ofNat d) (Int32.ofNat jar * 12) (Int32.ofNat (cntN e (btr c jar d))) (Int32.ofNat e) = some (if cntN n (btr c jar d) < J then 1 else 0) := by
    intro r
    induction r with
    | zero =>
      intro e he
      have := cntN_le n (btr c jar d)
      rw [L_X2_isWorthwhile_11, h1, h2, show e = n by omega, if_pos (Int32.le_refl _)]
      by_cases q : cntN n (btr c jar d) < J
      · rw [if_neg (by rw [ofn_le (by omega) (by omega)]; omega), if_pos q]
      · rw [if_pos (by rw [ofn_le (by omega) (by omega)]; omega), if_neg q]
    | succ r ih =>
      intro e he
      have c1 := hc jar d
      have c2 := hc jar e
      have ih' := ih (e + 1) (by omega)
      rw [cntN_succ] at ih'
      rw [L_X2_isWorthwhile_11]
      simp only [Option.bind_eq_bind]
      rw [h2, if_neg (by rw [ofn_le (by omega) (by omega)]; omega), ix12, ix12, ald_ofn (by omega) (by omega), ald_ofn (by omega) (by omega), Option.bind_some, Option.bind_some, h3 jar e hj (by omega), h3 jar d hj hd, ofn_succ, ofn_succ]
      have es : (Int32.ofNat (c jar e) - Int32.ofNat (c jar d)).toInt = (c jar e : Int) - (c jar d : Int) := by
        rw [ti_sub (by rw [ti_ofn (by omega), ti_ofn (by omega)]; omega) (by rw [ti_ofn (by omega), ti_ofn (by omega)]; omega), ti_ofn (by omega), ti_ofn (by omega)]
      by_cases q1 : c jar e < c jar d
      · rw [if_pos (by rw [ti_lt, es, ti_0]; omega)]
        rw [if_pos (by unfold btr; simp; omega)] at ih'
        exact ih'
      · rw [if_neg (by rw [ti_lt, es, ti_0]; omega)]
        by_cases q2 : c jar e = c jar d
        · rw [if_pos (by rw [ti_eq, es, ti_0]; omega)]
          by_cases q3 : e < d
          · rw [if_neg (by rw [ofn_le (by omega) (by omega)]; omega)]
            rw [if_pos (by unfold btr; simp; omega)] at ih'
            exact ih'
          · rw [if_pos (by rw [ofn_le (by omega) (by omega)]; omega)]
            rw [if_neg (by unfold btr; simp; omega)] at ih'
            exact ih'
        · rw [if_neg (by rw [ti_eq, es, ti_0]; omega)]
          rw [if_neg (by unfold btr; simp; omega)] at ih'
          exact ih'
  exact key n 0 (by omega)
def gJX (q : Nat) (I : HI) (x1 x2 x3 : Int32) : Option HI := if (I 201 1) ≤ x1 then if inB (I 201 1) 6 = true then some (up1 (up2 I 201 0 x3) 204 (va_cpy ((up2 I 201 0 x3) 203) ((up2 I 201 0 x3) 204) 0 0 ((I 201 1)).toNatClampNeg)) else none else if x1 < (5 : Int32) then L_X2_goOn_56 (F_X2_goOn q) x1 x2 x3 (0 : Int32) I else if inB (I 201 1) 6 = true then some (up1 (up2 I 201 0 x3) 204 (va_cpy ((up2 I 201 0 x3) 203) ((up2 I 201 0 x3) 204) 0 0 ((I 201 1)).toNatClampNeg)) else none
theorem goOn_X (q : Nat) (I : HI) (x1 x2 x3 : Int32) : F_X2_goOn (q + 1) I x1 x2 x3 = if I 201 0 = -1 then gJX q I x1 x2 x3 else if x3 < I 201 0 then gJX q I x1 x2 x3 else some I := by
  rw [F_X2_goOn]; rfl
theorem Jst.weak {pre : List Nat} {e : Nat} {st : Option Nat × List Nat} (h : Jst c n J C (pre ++ [e]) st) : Jst c n J C pre st := by
  obtain ⟨h1, h2, h3, h4, h5, h6⟩ := h
  refine ⟨h1, h2, h3, h4, fun i hi => ?_, h6⟩
  rw [h5 i (by rw [List.length_append]; omega), List.getD_eq_getElem?_getD, List.getD_eq_getElem?_getD, List.getElem?_append_left hi]
theorem Jst.next {pre : List Nat} {e j : Nat} {st : Option Nat × List Nat} (h : Jst c n J C pre st) (hj : pre.length = j) : Jst c n J (up2 C 203 j (Int32.ofNat e)) (pre ++ [e]) st := by
  obtain ⟨h1, h2, h3, h4, h5, h6, h7⟩ := h
  refine ⟨h1, h2, h3, h4, fun i hi => ?_, h6, h7⟩
  rw [List.length_append, List.length_singleton] at hi
  rw [up2_get]
  by_cases q : i = j
  · rw [if_pos ⟨rfl, q⟩, List.getD_eq_getElem?_getD, List.getElem?_append_right (by omega), q, hj, Nat.sub_self]
    rfl
  · rw [if_neg (fun w => q w.2), h5 i (by omega), List.getD_eq_getElem?_getD, List.getD_eq_getElem?_getD, List.getElem?_append_left (by omega)]
theorem jg (hc : ∀ jar d, c jar d ≤ 45) (hn : n ≤ 12) (hJ5 : J ≤ 5) (hJn : J ≤ n) : ∀ k q jar s sum pre C st, k < q → jar + k = J → s < 2 ^ n → cntN n s.testBit = jar → pre.length = jar → sum ≤ 45 * jar → Jst c n J C pre st → ∃ C', F_X2_goOn q C (Int32.ofNat jar) (Int32.ofNat s) (Int32.ofNat sum) = some C' ∧ Jst c n J C' pre (jup st (sum + optJ c n k jar s) (pre ++ fbJ c n k jar s)) ∧ ∀ b, b ≠ 201 → b ≠ 203 → b ≠ 204 → C' b = C b := by
  have hp := p2n hn
  intro k
  induction k with
  | zero =>
    intro q jar s sum pre C st hq hj hs hcn hpl hsum h
    obtain ⟨q, rfl⟩ : ∃ q', q = q' + 1 := ⟨q - 1, by omega⟩
    have hX : gJX q C (Int32.ofNat jar) (Int32.ofNat s) (Int32.ofNat sum) = some (up1 (up2 C 201 0 (Int32.ofNat sum)) 204 (va_cpy ((up2 C 201 0 (Int32.ofNat sum)) 203) ((up2 C 201 0 (Int32.ofNat sum)) 204) 0 0 J)) := by
      unfold gJX
      rw [h.2.1, show jar = J by omega, if_pos (Int32.le_refl _), if_pos (inB_ofn (by omega) (by omega)), ofn_clamp (by omega)]
    have new : Jst c n J (up1 (up2 C 201 0 (Int32.ofNat sum)) 204 (va_cpy ((up2 C 201 0 (Int32.ofNat sum)) 203) ((up2 C 201 0 (Int32.ofNat sum)) 204) 0 0 J)) pre (some sum, pre) := by
      obtain ⟨h1, h2, h3, h4, h5, h6, h7⟩ := h
      refine ⟨rfl, h2, h3, h4, h5, fun i hi => ?_, fun m hm => ?_⟩
      · rw [up1_get, if_pos rfl, pk_cpy_in (by omega) (by simp only at hi; omega), up2_ne _ _ _ (by decide), Nat.sub_zero, Nat.zero_add]
        exact h5 i hi
      · simp only [Option.some.injEq] at hm; omega
    rw [goOn_X, h.1, hX]
    show ∃ C', _ ∧ Jst c n J C' pre (jup st (sum + 0) (pre ++ [])) ∧ _
    rw [Nat.add_zero, List.append_nil]
    have fr : ∀ b, b ≠ 201 → b ≠ 203 → b ≠ 204 → (up1 (up2 C 201 0 (Int32.ofNat sum)) 204 (va_cpy ((up2 C 201 0 (Int32.ofNat sum)) 203) ((up2 C 201 0 (Int32.ofNat sum)) 204) 0 0 J)) b = C b := fun b q1 _ q3 => by rw [up1_get, if_neg q3, up2_ne _ _ _ q1]
    obtain ⟨l, w⟩ := st
    cases l with
    | none => rw [if_pos (show enc (none, w).1 = -1 from rfl)]; exact ⟨_, rfl, new, fr⟩
    | some l =>
      have hl := h.2.2.2.2.2.2 l rfl
      rw [if_neg (by exact ofn_ne_m1 (by omega))]
      show ∃ C', (if Int32.ofNat sum < Int32.ofNat l then _ else _) = some C' ∧ Jst c n J C' pre (if sum < l then _ else _) ∧ _
      by_cases z : sum < l
      · rw [if_pos (by rw [ofn_lt (by omega) (by omega)]; exact z), if_pos z]; exact ⟨_, rfl, new, fr⟩
      · rw [if_neg (by rw [ofn_lt (by omega) (by omega)]; exact z), if_neg z]; exact ⟨C, rfl, h, fun _ _ _ _ => rfl⟩
  | succ k ih =>
    intro q jar s sum pre C st hq hj hs hcn hpl hsum h
    obtain ⟨q, rfl⟩ : ∃ q', q = q' + 1 := ⟨q - 1, by omega⟩
    obtain ⟨a1, a2, a3, a4, a5⟩ := fbd_spec hc (n := n) (k := k) (jar := jar) (s := s) (by omega) (by omega)
    have aw := fbd_worth hc (n := n) (J := J) (k := k) (jar := jar) (s := s) hcn hj hJn hJ5
    have loop : ∀ r e C st, e + r = n → Jst c n J C pre st → ∃ C', L_X2_goOn_56 (F_X2_goOn q) (Int32.ofNat jar) (Int32.ofNat s) (Int32.ofNat sum) (Int32.ofNat e) C = some C' ∧ Jst c n J C' pre (lp (fun e st => if decide (s.testBit e = false ∧ cntN n (btr c jar e) < J) = true then jup st (sum + valJ c n k jar s e) (pre ++ e :: fbJ c n k (jar + 1) (s ||| 2 ^ e)) else st) e r st) ∧ ∀ b, b ≠ 201 → b ≠ 203 → b ≠ 204 → C' b = C b := by
      intro r
      induction r with
      | zero =>
        intro e C st he hC
        rw [L_X2_goOn_56, hC.2.2.1, show e = n by omega, if_pos (Int32.le_refl _)]
        exact ⟨C, rfl, hC, fun _ _ _ _ => rfl⟩
      | succ r ir =>
        intro e C st he hC
        rw [L_X2_goOn_56, hC.2.2.1, if_neg (by rw [ofn_le (by omega) (by omega)]; omega), sh_tb (by omega), tb_nat (by omega), ofn_succ, ofn_succ]
        show ∃ C', _ ∧ Jst c n J C' pre (lp _ (e + 1) r (if decide (s.testBit e = false ∧ cntN n (btr c jar e) < J) = true then jup st (sum + valJ c n k jar s e) (pre ++ e :: fbJ c n k (jar + 1) (s ||| 2 ^ e)) else st)) ∧ _
        cases q0 : s.testBit e with
        | true =>
          rw [if_pos rfl, if_neg (by decide), if_neg (by simp)]
          exact ir (e + 1) C st (by omega) hC
        | false =>
          simp only [Option.bind_eq_bind]
          rw [if_pos (show (if false = true then (1 : Int32) else 0) = 0 from rfl), cl_worth hc hn hJ5 hC (by omega) (by omega), Option.bind_some]
          by_cases q1 : cntN n (btr c jar e) < J
          · rw [if_pos q1, if_neg (show ¬ (1 : Int32) = 0 by decide), if_pos (show decide (True ∧ cntN n (btr c jar e) < J) = true by simp [q1]), if_pos (inB_ofn (by omega) (by omega)), ofn_clamp (by omega), up2_ne _ _ _ (by decide), ix12, ald_ofn (by omega) (by omega), Option.bind_some, hC.2.2.2.1 jar e (by omega) (by omega), ← Int32.ofNat_add, or_ofn (by omega) (by omega)]
            have c1 := hc jar e
            obtain ⟨C4, g1, g2, g3⟩ := ih q (jar + 1) (s ||| 2 ^ e) (sum + c jar e) (pre ++ [e]) (up2 C 203 jar (Int32.ofNat e)) st (by omega) (by omega) (or_lt hs (by omega)) (by rw [pc_add (by omega) q0, hcn]) (by rw [List.length_append, List.length_singleton]; omega) (by omega) (hC.next hpl)
            rw [g1, Option.bind_some]
            have g2' := g2.weak
            rw [List.append_assoc, Nat.add_assoc] at g2'
            obtain ⟨C5, k1, k2, k3⟩ := ir (e + 1) C4 _ (by omega) g2'
            exact ⟨C5, k1, k2, fun b q1 q2 q3 => by rw [k3 b q1 q2 q3, g3 b q1 q2 q3, up2_ne _ _ _ q2]⟩
          · rw [if_neg q1, if_pos rfl, if_neg (show ¬ decide (True ∧ cntN n (btr c jar e) < J) = true by simp [q1])]
            exact ir (e + 1) C st (by omega) hC
    have hX : ∃ C', gJX q C (Int32.ofNat jar) (Int32.ofNat s) (Int32.ofNat sum) = some C' ∧ Jst c n J C' pre (jup st (sum + optJ c n (k + 1) jar s) (pre ++ fbJ c n (k + 1) jar s)) ∧ ∀ b, b ≠ 201 → b ≠ 203 → b ≠ 204 → C' b = C b := by
      unfold gJX
      rw [h.2.1, if_neg (by rw [ofn_le (by omega) (by omega)]; omega), if_pos (by rw [show (5 : Int32) = Int32.ofNat 5 from rfl, ofn_lt (by omega) (by omega)]; omega)]
      obtain ⟨C', b1, b2, b3⟩ := loop n 0 C st (by omega) h
      refine ⟨C', b1, ?_, b3⟩
      have := lp_jup (n := n) (T := fun e => decide (s.testBit e = false ∧ cntN n (btr c jar e) < J)) (g := fun e => sum + valJ c n k jar s e) (w := fun e => pre ++ e :: fbJ c n k (jar + 1) (s ||| 2 ^ e)) (d := fbd c n k jar s) (m := sum + optJ c n (k + 1) jar s) a1 (by simp [a2, aw]) (congrArg (fun y => sum + y) a3) (fun e he hT => by
        simp only [decide_eq_true_eq] at hT
        have := a5 e he hT.1
        omega) (fun e he hT => by
        simp only [decide_eq_true_eq] at hT
        have := a4 e he hT.1
        omega) st
      rw [this] at b2
      exact b2
    obtain ⟨C', b1, b2, b3⟩ := hX
    rw [goOn_X, h.1, b1]
    obtain ⟨l, w⟩ := st
    cases l with
    | none => rw [if_pos (show enc (none, w).1 = -1 from rfl)]; exact ⟨_, rfl, b2, b3⟩
    | some l =>
      have hl := h.2.2.2.2.2.2 l rfl
      rw [if_neg (by exact ofn_ne_m1 (by omega))]
      show ∃ C'', (if Int32.ofNat sum < Int32.ofNat l then _ else _) = some C'' ∧ _
      by_cases z : sum < l
      · rw [if_pos (by rw [ofn_lt (by omega) (by omega)]; exact z)]; exact ⟨_, rfl, b2, b3⟩
      · rw [if_neg (by rw [ofn_lt (by omega) (by omega)]; exact z)]
        refine ⟨C, rfl, ?_, fun _ _ _ _ => rfl⟩
        show Jst c n J C pre (if _ < l then _ else _)
        rw [if_neg (by omega)]
        exact h
theorem cl_row (hW : DOk n W) (hJ5 : J ≤ 5) {jar : Nat} (hj : jar < J) (hv : ∀ i, i < 5 * J → vs i ≤ 9) : ∀ r d (C : HI), d + r = n → C 201 2 = Int32.ofNat n → LR C 3 W → (∀ i, i < 5 * J → C 2 i = Int32.ofNat (vs i)) → ∃ v C', L_X2_search_54 4 (Int32.ofNat jar) (Int32.ofNat d) C = some (v, C') ∧ (∀ b, b ≠ 202 → C' b = C b) ∧ (∀ i, i < 12 * jar + d → C' 202 i = C 202 i) ∧ (∀ e, d ≤ e → e < n → C' 202 (12 * jar + e) = Int32.ofNat (jcN W vs jar e)) := by
  have hn := hW.2.1
  intro r
  induction r with
  | zero =>
    intro d C hd h2 _ _
    rw [L_X2_search_54, h2, show d = n by omega, if_pos (Int32.le_refl _)]
    exact ⟨_, C, rfl, fun _ _ => rfl, fun _ _ => rfl, fun e h1 h2 => by omega⟩
  | succ r ih =>
    intro d C hd h2 hL ht
    rw [L_X2_search_54, h2, if_neg (by rw [ofn_le (by omega) (by omega)]; omega), cl_farFrom hL.D (by omega) (by omega) (fun k hk => ht _ (by omega)), Option.bind_eq_bind, Option.bind_some, jfI_eq hW (fun k hk => hv _ (by omega)) (by omega), ix12, if_pos (inB_ofn (by omega) (by omega)), ofn_clamp (by omega), ofn_succ]
    obtain ⟨v, C', a1, a2, a3, a4⟩ := ih (d + 1) (up2 C 202 (12 * jar + d) (Int32.ofNat (jcN W vs jar d))) (by omega) h2 (hL.congr (fun j hj => up2_ne _ _ _ (by omega))) ht
    refine ⟨v, C', a1, fun b hb => by rw [a2 b hb, up2_ne _ _ _ hb], fun i hi => by rw [a3 i (by omega), up2_get, if_neg (by omega)], fun e h1 h2 => ?_⟩
    by_cases q : e = d
    · subst q; rw [a3 _ (by omega), up2_get, if_pos ⟨rfl, rfl⟩]
    · exact a4 e (by omega) h2
theorem cl_tab (hW : DOk n W) (hJ5 : J ≤ 5) (hv : ∀ i, i < 5 * J → vs i ≤ 9) : ∀ r jar (C : HI), jar + r = J → C 201 1 = Int32.ofNat J → C 201 2 = Int32.ofNat n → LR C 3 W → (∀ i, i < 5 * J → C 2 i = Int32.ofNat (vs i)) → (∀ j d, j < jar → d < n → C 202 (12 * j + d) = Int32.ofNat (jcN W vs j d)) → ∃ C', L_X2_search_42 4 (Int32.ofNat jar) C = F_X2_goOn 8 C' 0 0 0 ∧ (∀ b, b ≠ 202 → C' b = C b) ∧ (∀ j d, j < J → d < n → C' 202 (12 * j + d) = Int32.ofNat (jcN W vs j d)) := by
  have hn := hW.2.1
  intro r
  induction r with
  | zero =>
    intro jar C hj h1 _ _ _ htb
    rw [L_X2_search_42, h1, if_pos (by rw [show jar = J by omega]; exact Int32.le_refl _)]
    refine ⟨C, ?_, fun _ _ => rfl, fun j d q1 q2 => htb j d (by omega) q2⟩
    cases F_X2_goOn 8 C 0 0 0 <;> rfl
  | succ r ih =>
    intro jar C hj h1 h2 hL ht htb
    obtain ⟨v, C1, a1, a2, a3, a4⟩ := cl_row hW hJ5 (jar := jar) (by omega) hv n 0 C (by omega) h2 hL ht
    have a1' : L_X2_search_54 4 (Int32.ofNat jar) 0 C = some (v, C1) := a1
    rw [L_X2_search_42, h1, if_neg (by rw [ofn_le (by omega) (by omega)]; omega), a1', Option.bind_eq_bind, Option.bind_some, ofn_succ]
    obtain ⟨C', b1, b2, b3⟩ := ih (jar + 1) C1 (by omega) (by rw [a2 201 (by decide)]; exact h1) (by rw [a2 201 (by decide)]; exact h2) (hL.congr (fun j hj => a2 _ (by omega))) (fun i hi => by rw [a2 2 (by decide)]; exact ht i hi) (fun j d q1 q2 => by
      by_cases q : j = jar
      · subst q; exact a4 d (by omega) q2
      · rw [a3 _ (by omega)]; exact htb j d (by omega) q2)
    exact ⟨C', b1, fun b hb => by rw [b2 b hb, a2 b hb], b3⟩
theorem m_areJ (h11 : M 205 11 = Int32.ofNat T) (hT : T ≤ 400) (hv : ∀ i, i < T → vs i < 256 ∧ M 211 i = byI (vs i)) : ∀ (k i : Nat), i + k = T → ((∀ j, i ≤ j → j < T → vs j ≤ 9) → L_X12_areJars_26 M 1 (Int32.ofNat i) = some 1) ∧ ((∃ j, i ≤ j ∧ j < T ∧ ¬ vs j ≤ 9) → L_X12_areJars_26 M 1 (Int32.ofNat i) = some 0) := by
  have z : ∀ i, L_X12_areJars_26 M 0 (Int32.ofNat i) = some 0 := by
    intro i
    rw [L_X12_areJars_26]
    split
    · rfl
    · rfl
  intro k
  induction k with
  | zero =>
    intro i hi
    refine ⟨fun _ => ?_, fun ⟨j, h1, h2, _⟩ => by omega⟩
    rw [L_X12_areJars_26, h11, show i = T by omega, if_pos (Int32.le_refl _)]
    rfl
  | succ k ih =>
    intro i hi
    obtain ⟨a1, a2⟩ := ih (i + 1) (by omega)
    obtain ⟨v1, v2⟩ := hv i (by omega)
    have br := byI_rg v1
    rw [L_X12_areJars_26, h11, if_neg (by rw [ofn_le (by omega) (by omega)]; omega), if_neg (by decide), ald_ofn (by omega) (by omega), Option.bind_eq_bind, Option.bind_some, v2]
    by_cases q : vs i ≤ 9
    · rw [m_in1 ⟨by rw [ti_lt, br, if_pos (by omega), ti_0]; omega, by rw [ti_lt, br, if_pos (by omega), ti_9]; omega⟩, Option.bind_some, ofn_succ]
      refine ⟨fun w => a1 (fun j h1 h2 => w j (by omega) h2), fun ⟨j, h1, h2, h3⟩ => a2 ⟨j, ?_, h2, h3⟩⟩
      rcases Nat.lt_or_ge i j with y | y
      · exact y
      · exact absurd q (by rw [show i = j by omega]; exact h3)
    · rw [m_in0 (by
        by_cases y : vs i < 128
        · right; rw [ti_lt, br, if_pos y, ti_9]; omega
        · left; rw [ti_lt, br, if_neg y, ti_0]; omega), Option.bind_some, ofn_succ, z]
      exact ⟨fun w => absurd (w i (Nat.le_refl _) (by omega)) q, fun _ => rfl⟩
set_option maxRecDepth 8000 in
theorem s_jars (h : GR C M n) : ∃ r C' b M', F_X11_jars C x1 = some (r, C') ∧ F_X12_jars M x1 = some (b, M') ∧ Qs ["java/lang/IllegalArgumentException"] r b M' ∧ (∃ n', GR C' M' n') ∧ fcl C C' ∧ fmo M M' := by
  obtain ⟨T, C0, N0, vs, hT, u1, u2, u3, u4, u5, hvs, u8, u9, -⟩ := use_nat h
  have hn := u3.1.2.1.1.2.1
  have hW := u3.1.2.1.1
  have cn : C0 4 0 = Int32.ofNat n := cl_n u3.1.1.D hW
  have mn : N0 206 0 = Int32.ofNat n := hW.1
  have hp := p2n hn
  have e5 : (5 : Int32) = Int32.ofNat 5 := rfl
  have hmod : Int32.ofNat T - Int32.ofNat T / (5 : Int32) * (5 : Int32) = Int32.ofNat (T % 5) := by rw [e5]; exact ofn_mod (by omega) (by omega) (by omega)
  have hdiv : Int32.ofNat T / (5 : Int32) = Int32.ofNat (T / 5) := by rw [e5]; exact ofn_div (by omega) (by omega) (by omega)
  unfold F_X11_jars F_X12_jars
  simp only [Option.bind_eq_bind]
  rw [u1, Option.bind_some, u2, Option.bind_some]
  have bad : ∃ r C' b M', (some ((Sum.inr "java/lang/IllegalArgumentException" : Int32 ⊕ String), C0)) = some (r, C') ∧ (some ((0 : Int32), up2 N0 205 0 1)) = some (b, M') ∧ Qs ["java/lang/IllegalArgumentException"] r b M' ∧ (∃ n', GR C' M' n') ∧ fcl C C' ∧ fmo M M' := ⟨_, _, _, _, rfl, rfl, ⟨1, rfl, 0, rfl, rfl⟩, ⟨n, u3.thr 1⟩, u8, u9.trans (fmo_thr _ _)⟩
  have z0 : L_X12_areJars_26 N0 0 0 = some 0 := by
    rw [L_X12_areJars_26]
    split <;> rfl
  have q0 : ∀ k, k < 5 → (Int32.ofNat k = 0 ↔ k = 0) := fun k hk => by rw [show (0 : Int32) = Int32.ofNat 0 from rfl, ofn_eq (by omega) (by omega)]
  by_cases hgood : T ≤ 25 ∧ T % 5 = 0 ∧ ∀ j, j < T → vs j ≤ 9
  · obtain ⟨g1, g2, g3⟩ := hgood
    have h25 : ¬ (25 : Int32) < Int32.ofNat T := by rw [show (25 : Int32) = Int32.ofNat 25 from rfl, ofn_lt (by omega) (by omega)]; omega
    have eM : F_X12_areJars N0 = some 1 := by
      unfold F_X12_areJars
      rw [u4, hmod, if_pos ((q0 _ (by omega)).mpr g2), if_neg h25]
      exact (m_areJ u4 hT (fun i hi => ⟨(hvs i hi).1, (hvs i hi).2.2⟩) T 0 (by omega)).1 (fun j _ hj => g3 j hj)
    have eC : F_X11_toldAtMost C0 (Int32.ofNat T) 9 = some 1 := by
      unfold F_X11_toldAtMost
      exact (cl_told (C := C0) (T := T) (most := 9) hT (fun i hi => ⟨vs i, (hvs i hi).1, (hvs i hi).2.1⟩) T 0 (by omega)).1 (fun j _ hj => by rw [(hvs j hj).2.1, show (9 : Int32) = Int32.ofNat 9 from rfl, ofn_le (by have := (hvs j hj).1; omega) (by omega)]; exact g3 j hj)
    rw [if_neg h25, hmod, if_pos ((q0 _ (by omega)).mpr g2), eC, eM, Option.bind_some, Option.bind_some, if_neg (by decide), if_neg (by decide), m_thr0, Option.bind_some, if_pos rfl]
    dsimp only
    have e11 : N0 205 11 / 5 = Int32.ofNat (T / 5) := by rw [u4]; exact hdiv
    rw [e11]
    rw [hdiv]
    unfold F_X12_dishes
    rw [Option.bind_some, mn]
    obtain ⟨J, hJ⟩ : ∃ J, T / 5 = J := ⟨_, rfl⟩
    have hJ5 : J ≤ 5 := by omega
    have hTJ : T = 5 * J := by omega
    rw [hJ]
    unfold F_X2_search
    have em : (if Int32.ofNat J < (5 : Int32) then Int32.ofNat J else (5 : Int32)) = Int32.ofNat J := by
      rw [e5]
      by_cases q : J < 5
      · rw [if_pos (by rw [ofn_lt (by omega) (by omega)]; exact q)]
      · rw [if_neg (by rw [ofn_lt (by omega) (by omega)]; exact q), show J = 5 by omega]
    rw [em, cn]
    by_cases hJn : J ≤ n
    · rw [if_pos (show Int32.ofNat J ≤ Int32.ofNat n by rw [ofn_le (by omega) (by omega)]; exact hJn), if_pos (show Int32.ofNat J ≤ Int32.ofNat n by rw [ofn_le (by omega) (by omega)]; exact hJn)]
      have hc : ∀ jar d, jcN (N0 206) vs jar d ≤ 45 := jcN_le
      -- the class
      obtain ⟨C1, a1, a2, a3⟩ := cl_tab (W := N0 206) (vs := vs) hW hJ5 (fun i hi => g3 i (by omega)) J 0 (up2 (up2 (up2 C0 201 1 (Int32.ofNat J)) 201 2 (Int32.ofNat n)) 201 0 (-1 : Int32)) (by omega) rfl rfl (u3.1.1.congr (fun j hj => by rw [up2_ne _ _ _ (by omega), up2_ne _ _ _ (by omega), up2_ne _ _ _ (by omega)])) (fun i hi => by rw [up2_ne _ _ _ (by omega), up2_ne _ _ _ (by omega), up2_ne _ _ _ (by omega)]; exact (hvs i (by omega)).2.1) (fun j d q _ => absurd q (Nat.not_lt_zero _))
      have c0 : cntN n (0 : Nat).testBit = 0 := by
        have := cntN_ext (n := 0) (m := n) (P := (0 : Nat).testBit) (by omega) (fun d _ _ => Nat.zero_testBit d)
        rw [this]; rfl
      obtain ⟨C2, b1, b2, b3⟩ := jg hc hn hJ5 hJn J 8 0 0 0 [] C1 (none, []) (by omega) (by omega) (Nat.pos_of_ne_zero (by have := Nat.pow_pos (n := n) (show 0 < 2 by omega); omega)) c0 rfl (by omega) ⟨by rw [a2 201 (by decide)]; rfl, by rw [a2 201 (by decide)]; rfl, by rw [a2 201 (by decide)]; rfl, a3, fun i hi => absurd hi (Nat.not_lt_zero _), fun i hi => absurd hi (Nat.not_lt_zero _), fun m hm => by cases hm⟩
      have a1' : L_X2_search_42 4 0 (up2 (up2 (up2 C0 201 1 (Int32.ofNat J)) 201 2 (Int32.ofNat n)) 201 0 (-1 : Int32)) = F_X2_goOn 8 C1 0 0 0 := a1
      have b1' : F_X2_goOn 8 C1 0 0 0 = some C2 := b1
      rw [a1', b1', Option.bind_some]
      have b2' : Jst (jcN (N0 206) vs) n J C2 [] (some (optJ (jcN (N0 206) vs) n J 0 0), fbJ (jcN (N0 206) vs) n J 0 0) := by
        rw [Nat.zero_add, List.nil_append] at b2
        exact b2
      obtain ⟨f1, f2, f3⟩ := fb_spec hc (n := n) J 0 0 (by omega) (by omega)
      have fC : ∀ b, b < 201 ∨ 204 < b → C2 b = C0 b := fun b hb => by rw [b3 b (by omega) (by omega) (by omega), a2 b (by omega), up2_ne _ _ _ (by omega), up2_ne _ _ _ (by omega), up2_ne _ _ _ (by omega)]
      -- the reference
      have hJM : JM N0 (jcN (N0 206) vs) n J := ⟨mn, hn, hJ5, hJn, hc, fun jar d q1 q2 => by
        rw [m_jarFrom (vs := vs) (by omega) (by omega) (fun k hk => by rw [(hvs _ (by omega)).2.2]; exact byI_lt (by have := g3 (5 * jar + k) (by omega); omega)), jfI_eq hW (fun k hk => g3 _ (by omega)) (by omega)]⟩
      have hall : F_X12_allDishes N0 = some (Int32.ofNat (2 ^ n) - 1) := by
        unfold F_X12_allDishes F_X12_dishes
        rw [Option.bind_eq_bind, Option.bind_some, mn]
        have : ∀ n, n < 13 → ((1 : Int32) <<< (Int32.ofNat n &&& 31)) - (1 : Int32) = Int32.ofNat (2 ^ n) - 1 := by decide +kernel
        rw [this n (by omega)]
      obtain ⟨M2, k1, k2, k3, k4⟩ := m_ll5 hJM (2 ^ n) N0 (Nat.le_refl _) hJM (fun s' q1 q2 => by omega)
      have kk : F_X12_laysLeast N0 (Int32.ofNat J) = some M2 := by
        unfold F_X12_laysLeast
        rw [hall, Option.bind_eq_bind, Option.bind_some]
        exact k1
      rw [kk, Option.bind_some]
      have hpos : 0 < 2 ^ n := Nat.pow_pos (by omega)
      have hG : GR C2 M2 n := u3.congr (fun b q1 q2 => fC b (by omega)) (fun b q1 q2 _ _ => k3 b (by omega)) (fun k _ => by rw [k3 205 (by decide)])
      have hf : fcl C0 C2 := fun b hb => fC b (by omega)
      have hm : fmo N0 M2 := fun b hb => k3 b (by omega)
      have ht0 : M2 205 0 = 0 := by rw [k3 205 (by decide)]; exact u5
      have ho : optS (jcN (N0 206) vs) n J 0 = optJ (jcN (N0 206) vs) n J 0 0 := by unfold optS; rw [c0]; rfl
      by_cases q : x1 = -1
      · rw [if_pos q, if_pos q]
        exact ⟨_, _, _, _, rfl, rfl, ⟨0, by rw [thrn, ht0], rfl, by rw [b2'.1, k2 0 hpos, ho]; rfl⟩, ⟨n, hG⟩, u8.trans hf, u9.trans hm⟩
      · rw [if_neg q, if_neg q]
        unfold F_X2_nth
        rw [b2'.2.1]
        rcases nat_or x1 J (by omega) with ⟨K, hK, rfl⟩ | w
        · rw [if_neg (by rw [show (0 : Int32) = Int32.ofNat 0 from rfl, ofn_lt (by omega) (by omega)]; omega), if_neg (by rw [ofn_le (by omega) (by omega)]; omega), ald_ofn (by omega) (by omega), Option.bind_eq_bind, Option.bind_some, Option.bind_some]
          have hin : F_X12_in M2 (Int32.ofNat K) 0 (Int32.ofNat J - 1) = some 1 := m_in1 ⟨by rw [show (0 : Int32) = Int32.ofNat 0 from rfl, ofn_lt (by omega) (by omega)]; omega, by
            rw [ti_lt, ti_sub (by rw [ti_ofn (by omega), ti_1]; omega) (by rw [ti_ofn (by omega), ti_1]; omega), ti_ofn (by omega), ti_ofn (by omega), ti_1]; omega⟩
          have e81 := m_j81 k4 k2 hK K 0 0 0 (by omega) hpos c0
          have e81' : L_X12_jars_81 M2 (Int32.ofNat K) 0 0 0 = _ := e81
          rw [hin, Option.bind_some, if_neg (by decide), e81']
          exact ⟨_, _, _, _, rfl, rfl, ⟨0, by rw [thrn, ht0], rfl, by rw [b2'.2.2.2.2.2.1 K (by simp only; omega)]; rfl⟩, ⟨n, hG⟩, u8.trans hf, u9.trans hm⟩
        · have e8 : (if x1 < 0 then some (-1 : Int32) else if Int32.ofNat J ≤ x1 then some (-1 : Int32) else (ald 5 (C2 204) x1) >>= fun v3 => some v3) = some (-1) := by
            by_cases y : x1 < 0
            · rw [if_pos y]
            · rw [if_neg y, if_pos (w.resolve_left y)]
          have hin : F_X12_in M2 x1 0 (Int32.ofNat J - 1) = some 0 := m_in0 (by
            rcases w with w | w
            · exact Or.inl w
            · right
              rw [ti_le, ti_ofn (by omega)] at w
              rw [ti_lt, ti_sub (by rw [ti_ofn (by omega), ti_1]; omega) (by rw [ti_ofn (by omega), ti_1]; omega), ti_ofn (by omega), ti_1]; omega)
          rw [e8, hin, Option.bind_some, Option.bind_some, if_pos rfl]
          exact ⟨_, _, _, _, rfl, rfl, ⟨0, by rw [thrn, ht0], rfl, rfl⟩, ⟨n, hG⟩, u8.trans hf, u9.trans hm⟩
    · rw [if_neg (show ¬ Int32.ofNat J ≤ Int32.ofNat n by rw [ofn_le (by omega) (by omega)]; exact hJn), if_neg (show ¬ Int32.ofNat J ≤ Int32.ofNat n by rw [ofn_le (by omega) (by omega)]; exact hJn), Option.bind_some]
      have fC : ∀ b, b ≠ 201 → (up2 (up2 (up2 (up2 C0 201 1 (Int32.ofNat J)) 201 2 (Int32.ofNat n)) 201 0 (-1 : Int32)) 201 1 (0 : Int32)) b = C0 b := fun b hb => by rw [up2_ne _ _ _ hb, up2_ne _ _ _ hb, up2_ne _ _ _ hb, up2_ne _ _ _ hb]
      have hG : GR (up2 (up2 (up2 (up2 C0 201 1 (Int32.ofNat J)) 201 2 (Int32.ofNat n)) 201 0 (-1 : Int32)) 201 1 (0 : Int32)) N0 n := u3.congr (fun b q1 q2 => fC b (by omega)) (fun _ _ _ _ _ => rfl) (fun _ _ => rfl)
      by_cases q : x1 = -1
      · rw [if_pos q]
        exact ⟨_, _, _, _, rfl, rfl, ⟨0, by rw [thrn, u5], rfl, rfl⟩, ⟨n, hG⟩, u8.trans (fun b hb => fC b (by omega)), u9⟩
      · rw [if_neg q]
        unfold F_X2_nth
        have e1 : (up2 (up2 (up2 (up2 C0 201 1 (Int32.ofNat J)) 201 2 (Int32.ofNat n)) 201 0 (-1 : Int32)) 201 1 (0 : Int32)) 201 1 = 0 := rfl
        rw [e1]
        have e8 : ∀ z : Option Int32, (if x1 < 0 then some (-1 : Int32) else if (0 : Int32) ≤ x1 then some (-1 : Int32) else z) = some (-1) := by
          intro z
          by_cases y : x1 < 0
          · rw [if_pos y]
          · rw [if_neg y, if_pos (ile_of_not_lt y)]
        rw [e8, Option.bind_some]
        exact ⟨_, _, _, _, rfl, rfl, ⟨0, by rw [thrn, u5], rfl, rfl⟩, ⟨n, hG⟩, u8.trans (fun b hb => fC b (by omega)), u9⟩
  · have eM : F_X12_areJars N0 = some 0 := by
      unfold F_X12_areJars
      rw [u4, hmod]
      by_cases q1 : T % 5 = 0
      · rw [if_pos ((q0 _ (by omega)).mpr q1)]
        by_cases q2 : T ≤ 25
        · rw [if_neg (show ¬ (25 : Int32) < Int32.ofNat T by rw [show (25 : Int32) = Int32.ofNat 25 from rfl, ofn_lt (by omega) (by omega)]; omega)]
          refine (m_areJ u4 hT (fun i hi => ⟨(hvs i hi).1, (hvs i hi).2.2⟩) T 0 (by omega)).2 ?_
          apply Classical.byContradiction
          intro w
          exact hgood ⟨q2, q1, fun j hj => Classical.byContradiction (fun y => w ⟨j, by omega, hj, y⟩)⟩
        · rw [if_pos (show (25 : Int32) < Int32.ofNat T by rw [show (25 : Int32) = Int32.ofNat 25 from rfl, ofn_lt (by omega) (by omega)]; omega), z0]
      · rw [if_neg (fun y => q1 ((q0 _ (by omega)).mp y)), z0]
    rw [eM, Option.bind_some, if_pos rfl, m_thr1, Option.bind_some, if_neg (show ¬ (1 : Int32) = 0 by decide)]
    by_cases q2 : T ≤ 25
    · rw [if_neg (show ¬ (25 : Int32) < Int32.ofNat T by rw [show (25 : Int32) = Int32.ofNat 25 from rfl, ofn_lt (by omega) (by omega)]; omega), hmod]
      by_cases q1 : T % 5 = 0
      · have eC : F_X11_toldAtMost C0 (Int32.ofNat T) 9 = some 0 := by
          unfold F_X11_toldAtMost
          refine (cl_told (C := C0) (T := T) (most := 9) hT (fun i hi => ⟨vs i, (hvs i hi).1, (hvs i hi).2.1⟩) T 0 (by omega)).2 ?_
          apply Classical.byContradiction
          intro w
          refine hgood ⟨q2, q1, fun j hj => Classical.byContradiction (fun y => w ⟨j, by omega, hj, ?_⟩)⟩
          rw [(hvs j hj).2.1, show (9 : Int32) = Int32.ofNat 9 from rfl, ofn_le (by have := (hvs j hj).1; omega) (by omega)]; exact y
        rw [if_pos ((q0 _ (by omega)).mpr q1), eC, Option.bind_some, if_pos rfl]
        exact bad
      · rw [if_neg (fun y => q1 ((q0 _ (by omega)).mp y))]
        exact bad
    · rw [if_pos (show (25 : Int32) < Int32.ofNat T by rw [show (25 : Int32) = Int32.ofNat 25 from rfl, ofn_lt (by omega) (by omega)]; omega)]
      exact bad
end
