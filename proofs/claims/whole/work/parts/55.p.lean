section
variable {C M : HI} {n : Nat} {x1 x2 : Int32} {W : Nat → Int32}
theorem ile_of_not_lt {a b : Int32} (h : ¬ a < b) : b ≤ a := by rw [ti_lt] at h; rw [ti_le]; omega
theorem ilt_of_not_le {a b : Int32} (h : ¬ a ≤ b) : b < a := by rw [ti_le] at h; rw [ti_lt]; omega
theorem earl_spec (x : Int32) : (earl W n x = none → ∀ e, e < n → W (22 + 8 * e) ≤ x) ∧ (∀ f, earl W n x = some f → f < n ∧ x < W (22 + 8 * f) ∧ ∀ e, e < n → x < W (22 + 8 * e) → W (22 + 8 * f) ≤ W (22 + 8 * e)) := by
  have key := lp_inv (f := fun e (s : Option Nat) => if W (22 + 8 * e) ≤ x then s else match s with | none => some e | some f => if W (22 + 8 * f) ≤ W (22 + 8 * e) then s else some e) (fun i s => (s = none → ∀ e, e < i → W (22 + 8 * e) ≤ x) ∧ (∀ f, s = some f → f < i ∧ x < W (22 + 8 * f) ∧ ∀ e, e < i → x < W (22 + 8 * e) → W (22 + 8 * f) ≤ W (22 + 8 * e))) n 0 none ⟨fun _ e he => by omega, fun f h => by cases h⟩ (fun d s _ h2 hs => by
    by_cases h1 : W (22 + 8 * d) ≤ x
    · rw [if_pos h1]
      refine ⟨fun h e he => ?_, fun f hf => ?_⟩
      · rcases Nat.lt_or_ge e d with q | q
        · exact hs.1 h e q
        · rw [show e = d by omega]; exact h1
      · obtain ⟨a1, a2, a3⟩ := hs.2 f hf
        refine ⟨by omega, a2, fun e he hx => ?_⟩
        rcases Nat.lt_or_ge e d with q | q
        · exact a3 e q hx
        · rw [show e = d by omega] at hx
          rw [ti_le] at h1; rw [ti_lt] at hx; omega
    · rw [if_neg h1]
      cases s with
      | none =>
        refine ⟨fun h => (by cases h), fun f hf => ?_⟩
        cases hf
        refine ⟨by omega, ilt_of_not_le h1, fun e he hx => ?_⟩
        rcases Nat.lt_or_ge e d with q | q
        · have := hs.1 rfl e q
          rw [ti_le] at this; rw [ti_lt] at hx; omega
        · rw [show e = d by omega]; exact Int32.le_refl _
      | some g =>
        obtain ⟨a1, a2, a3⟩ := hs.2 g rfl
        simp only
        by_cases h3 : W (22 + 8 * g) ≤ W (22 + 8 * d)
        · rw [if_pos h3]
          refine ⟨fun h => (by cases h), fun f hf => ?_⟩
          cases hf
          refine ⟨by omega, a2, fun e he hx => ?_⟩
          rcases Nat.lt_or_ge e d with q | q
          · exact a3 e q hx
          · rw [show e = d by omega]; exact h3
        · rw [if_neg h3]
          refine ⟨fun h => (by cases h), fun f hf => ?_⟩
          cases hf
          refine ⟨by omega, ilt_of_not_le h1, fun e he hx => ?_⟩
          rcases Nat.lt_or_ge e d with q | q
          · have := a3 e q hx
            have h4 := ilt_of_not_le h3
            rw [ti_le] at this ⊢; rw [ti_lt] at h4; omega
          · rw [show e = d by omega]; exact Int32.le_refl _)
  rw [Nat.zero_add] at key
  exact key
/-- r is the greatest of acc and the numbers of S -/
def IsMax (S : Int32 → Prop) (acc r : Int32) : Prop := (∀ y, S y → y ≤ r) ∧ acc ≤ r ∧ (r = acc ∨ S r)
theorem IsMax.uniq {S : Int32 → Prop} {acc r r' : Int32} (h : IsMax S acc r) (h' : IsMax S acc r') : r = r' := by
  rw [ti_eq]
  have a1 := h.2.1
  have a2 := h'.2.1
  rcases h.2.2 with q | q <;> rcases h'.2.2 with q' | q'
  · rw [q, q']
  · have := h.1 _ q'; subst q; rw [ti_le] at *; omega
  · have := h'.1 _ q; subst q'; rw [ti_le] at *; omega
  · have := h.1 _ q'; have := h'.1 _ q; rw [ti_le] at *; omega
/-- the gap behind d -/
def gp (W : Nat → Int32) (n d : Nat) (y : Int32) : Prop := ∃ f, earl W n (W (22 + 8 * d)) = some f ∧ y = W (22 + 8 * f) - W (22 + 8 * d)
theorem gp_congr {d e : Nat} {y : Int32} (h : W (22 + 8 * d) = W (22 + 8 * e)) : gp W n d y → gp W n e y := by
  unfold gp; rw [h]; exact id
theorem cl_gap (hL : LR C 3 W) (hW : DOk n W) : ∃ r, F_X11_gap C = some r ∧ IsMax (fun y => ∃ d, d < n ∧ ¬ W (22 + 8 * d) = -1 ∧ gp W n d y) 0 r := by
  have hD := hL.D
  have hn := hW.2.1
  unfold F_X11_gap
  have key : ∀ (k i : Nat) (acc : Int32), i + k = n → ∃ r, L_X11_gap_4 C acc (Int32.ofNat i) = some r ∧ IsMax (fun y => ∃ d, i ≤ d ∧ d < n ∧ ¬ W (22 + 8 * d) = -1 ∧ gp W n d y) acc r := by
    intro k
    induction k with
    | zero =>
      intro i acc h
      refine ⟨acc, ?_, fun y hy => ?_, Int32.le_refl _, Or.inl rfl⟩
      · rw [L_X11_gap_4, cl_n hD hW, show i = n by omega, if_pos (Int32.le_refl _)]
      · obtain ⟨d, h1, h2, -⟩ := hy; omega
    | succ k ih =>
      intro i acc h
      rw [L_X11_gap_4, cl_n hD hW, if_neg (by rw [ofn_le (by omega) (by omega)]; omega), cl_isHad hD hW (by omega)]
      simp only [Option.bind_eq_bind, Option.bind_some]
      by_cases h0 : W (22 + 8 * i) = -1
      · rw [if_pos h0, if_pos rfl, ofn_succ]
        obtain ⟨r, e1, e2⟩ := ih (i + 1) acc (by omega)
        refine ⟨r, e1, fun y hy => ?_, e2.2.1, e2.2.2.imp id (fun q => ?_)⟩
        · obtain ⟨d, h1, h2, h3, h4⟩ := hy
          refine e2.1 y ⟨d, ?_, h2, h3, h4⟩
          rcases Nat.lt_or_ge i d with q | q
          · exact q
          · exact absurd h0 (by rw [show i = d by omega]; exact h3)
        · obtain ⟨d, h1, h2, h3⟩ := q
          exact ⟨d, by omega, h2, h3⟩
      · rw [if_neg h0, if_neg (by decide), show (6 : Nat) = (3 + 1) + 2 from rfl, cl_fst hD (by omega)]
        simp only [Option.bind_some]
        rw [cl_earl hD hW]
        simp only [Option.bind_some]
        cases he : earl W n (W (22 + 8 * i)) with
        | none =>
          rw [show enc none = -1 from rfl, if_pos rfl, ofn_succ]
          obtain ⟨r, e1, e2⟩ := ih (i + 1) acc (by omega)
          refine ⟨r, e1, fun y hy => ?_, e2.2.1, e2.2.2.imp id (fun q => ?_)⟩
          · obtain ⟨d, h1, h2, h3, h4⟩ := hy
            refine e2.1 y ⟨d, ?_, h2, h3, h4⟩
            rcases Nat.lt_or_ge i d with q | q
            · exact q
            · obtain ⟨f, hf, -⟩ := h4
              rw [show d = i by omega, he] at hf
              cases hf
          · obtain ⟨d, h1, h2, h3⟩ := q
            exact ⟨d, by omega, h2, h3⟩
        | some f =>
          have hf := ((earl_spec (W := W) (n := n) (W (22 + 8 * i))).2 f he).1
          rw [show enc (some f) = Int32.ofNat f from rfl, if_neg (ofn_ne_m1 (show f < 2147483648 by omega)), cl_fst hD (show f < 12 by omega)]
          simp only [Option.bind_some]
          rw [ofn_succ]
          obtain ⟨r, e1, e2⟩ := ih (i + 1) (if acc < W (22 + 8 * f) - W (22 + 8 * i) then W (22 + 8 * f) - W (22 + 8 * i) else acc) (by omega)
          have hgi : gp W n i (W (22 + 8 * f) - W (22 + 8 * i)) := ⟨f, he, rfl⟩
          refine ⟨r, e1, fun y hy => ?_, ?_, ?_⟩
          · obtain ⟨d, h1, h2, h3, h4⟩ := hy
            rcases Nat.lt_or_ge i d with q | q
            · exact e2.1 y ⟨d, q, h2, h3, h4⟩
            · obtain ⟨f', hf', rfl⟩ := h4
              have hdi : d = i := by omega
              subst hdi
              rw [he] at hf'
              cases hf'
              have := e2.2.1
              split at this
              · exact this
              · rename_i q2; rw [ti_lt] at q2; rw [ti_le] at this ⊢; omega
          · have := e2.2.1
            split at this
            · rename_i q2; rw [ti_lt] at q2; rw [ti_le] at this ⊢; omega
            · exact this
          · rcases e2.2.2 with q | ⟨d, h1, h2, h3⟩
            · split at q
              · exact Or.inr ⟨i, Nat.le_refl _, by omega, h0, by rw [q]; exact hgi⟩
              · exact Or.inl q
            · exact Or.inr ⟨d, by omega, h2, h3⟩
  obtain ⟨r, e1, e2⟩ := key n 0 0 (by omega)
  refine ⟨r, e1, fun y hy => ?_, e2.2.1, e2.2.2.imp id (fun q => ?_)⟩
  · obtain ⟨d, h⟩ := hy; exact e2.1 y ⟨d, by omega, h⟩
  · obtain ⟨d, h1, h⟩ := q; exact ⟨d, h⟩
theorem cntN_mono {n : Nat} {P Q : Nat → Bool} (h : ∀ d, d < n → P d = true → Q d = true) : cntN n P ≤ cntN n Q := by
  induction n with
  | zero => exact Nat.le_refl _
  | succ n ih =>
    rw [cntN_succ, cntN_succ]
    have := ih (fun d hd => h d (by omega))
    have h2 := h n (by omega)
    cases hp : P n <;> cases hq : Q n <;> simp_all <;> omega
theorem cntN_lt {n : Nat} {P Q : Nat → Bool} {e : Nat} (h : ∀ d, d < n → P d = true → Q d = true) (he : e < n) (h1 : P e = false) (h2 : Q e = true) : cntN n P < cntN n Q := by
  induction n with
  | zero => omega
  | succ n ih =>
    rw [cntN_succ, cntN_succ]
    rcases Nat.lt_or_ge e n with q | q
    · have := ih (fun d hd => h d (by omega)) q
      have h3 := h n (by omega)
      cases hp : P n <;> cases hq : Q n <;> simp_all <;> omega
    · have hen : e = n := by omega
      subst hen
      have := cntN_mono (n := e) (fun d hd => h d (by omega))
      rw [h1, h2]
      simp
      omega
theorem m_gap (hW : DOk n (M 206)) : ∃ r, F_X12_gap M = some (r, M0 M) ∧ IsMax (fun y => ∃ d, d < n ∧ ¬ M 206 (22 + 8 * d) = -1 ∧ gp (M 206) n d y) 0 r := by
  have hn := hW.2.1
  have hW0 : DOk n (M0 M 206) := hW
  have hr : ∀ d, d < 12 → rg (M 206 (22 + 8 * d)) (-1) 9999 := fun d hd => (hW.2.2 d hd).2.1
  have key : ∀ (m d : Nat) (acc : Int32), d < n → cntN n (fun e => decide (M 206 (22 + 8 * d) < M 206 (22 + 8 * e))) ≤ m → ¬ M 206 (22 + 8 * d) = -1 → ∃ r, L_X12_gap_13 (M0 M) acc (Int32.ofNat d) = some (r, M0 M) ∧ IsMax (fun y => ∃ e, e < n ∧ M 206 (22 + 8 * d) ≤ M 206 (22 + 8 * e) ∧ gp (M 206) n e y) acc r := by
    intro m
    induction m with
    | zero =>
      intro d acc hd hm h0
      rw [L_X12_gap_13, if_neg (ofn_ne_m1 (by omega)), m_fst (by omega)]
      simp only [Option.bind_eq_bind, Option.bind_some]
      rw [show M0 M 206 = M 206 from rfl, m_next (M := M0 M) hW0 (hr d (by omega)), show M0 M 206 = M 206 from rfl]
      simp only [Option.bind_some]
      cases he : earl (M 206) n (M 206 (22 + 8 * d)) with
      | none =>
        rw [show enc none = -1 from rfl, if_pos rfl, L_X12_gap_13, if_pos rfl]
        refine ⟨acc, rfl, fun y hy => ?_, Int32.le_refl _, Or.inl rfl⟩
        obtain ⟨e, h1, h2, f, hf, -⟩ := hy
        obtain ⟨g1, g2, g3⟩ := (earl_spec (W := M 206) (n := n) _).2 f hf
        have := (earl_spec (W := M 206) (n := n) _).1 he f g1
        rw [ti_le] at *; rw [ti_lt] at *; omega
      | some f =>
        obtain ⟨g1, g2, g3⟩ := (earl_spec (W := M 206) (n := n) _).2 f he
        have := cntN_lt (n := n) (P := fun _ => false) (Q := fun e => decide (M 206 (22 + 8 * d) < M 206 (22 + 8 * e))) (fun _ _ h => by cases h) g1 rfl (by simpa using g2)
        omega
    | succ m ih =>
      intro d acc hd hm h0
      rw [L_X12_gap_13, if_neg (ofn_ne_m1 (by omega)), m_fst (by omega)]
      simp only [Option.bind_eq_bind, Option.bind_some]
      rw [show M0 M 206 = M 206 from rfl, m_next (M := M0 M) hW0 (hr d (by omega)), show M0 M 206 = M 206 from rfl]
      simp only [Option.bind_some]
      cases he : earl (M 206) n (M 206 (22 + 8 * d)) with
      | none =>
        rw [show enc none = -1 from rfl, if_pos rfl, L_X12_gap_13, if_pos rfl]
        refine ⟨acc, rfl, fun y hy => ?_, Int32.le_refl _, Or.inl rfl⟩
        obtain ⟨e, h1, h2, f, hf, -⟩ := hy
        obtain ⟨g1, g2, g3⟩ := (earl_spec (W := M 206) (n := n) _).2 f hf
        have := (earl_spec (W := M 206) (n := n) _).1 he f g1
        rw [ti_le] at *; rw [ti_lt] at *; omega
      | some f =>
        obtain ⟨g1, g2, g3⟩ := (earl_spec (W := M 206) (n := n) _).2 f he
        have hf0 : ¬ M 206 (22 + 8 * f) = -1 := by
          have := (hr d (by omega)).1
          rw [ti_lt] at g2; rw [ti_eq, ti_m1]; omega
        rw [show enc (some f) = Int32.ofNat f from rfl, if_neg (ofn_ne_m1 (show f < 2147483648 by omega)), m_fst (show f < 12 by omega)]
        simp only [Option.bind_some]
        rw [show M0 M 206 = M 206 from rfl]
        obtain ⟨r, e1, e2⟩ := ih f (if acc < M 206 (22 + 8 * f) - M 206 (22 + 8 * d) then M 206 (22 + 8 * f) - M 206 (22 + 8 * d) else acc) g1 (by
          have := cntN_lt (n := n) (P := fun e => decide (M 206 (22 + 8 * f) < M 206 (22 + 8 * e))) (Q := fun e => decide (M 206 (22 + 8 * d) < M 206 (22 + 8 * e))) (fun e _ h => by
            simp only [decide_eq_true_eq] at h ⊢
            rw [ti_lt] at *; omega) g1 (by simp [Int32.lt_irrefl]) (by simpa using g2)
          omega) hf0
        refine ⟨r, e1, fun y hy => ?_, ?_, ?_⟩
        · obtain ⟨e, h1, h2, h4⟩ := hy
          by_cases hq : M 206 (22 + 8 * d) < M 206 (22 + 8 * e)
          · exact e2.1 y ⟨e, h1, g3 e h1 hq, h4⟩
          · have hee : M 206 (22 + 8 * e) = M 206 (22 + 8 * d) := by rw [ti_eq]; rw [ti_lt] at hq; rw [ti_le] at h2; omega
            obtain ⟨f', hf', rfl⟩ := h4
            rw [hee, he] at hf'
            cases hf'
            rw [hee]
            have := e2.2.1
            split at this
            · exact this
            · rename_i q2; rw [ti_lt] at q2; rw [ti_le] at this ⊢; omega
        · have := e2.2.1
          split at this
          · rename_i q2; rw [ti_lt] at q2; rw [ti_le] at this ⊢; omega
          · exact this
        · rcases e2.2.2 with q | ⟨e, h1, h2, h3⟩
          · split at q
            · exact Or.inr ⟨d, hd, Int32.le_refl _, f, he, q⟩
            · exact Or.inl q
          · refine Or.inr ⟨e, h1, ?_, h3⟩
            rw [ti_lt] at g2; rw [ti_le] at h2 ⊢; omega
  unfold F_X12_gap
  have h1 := m_next (M := M0 M) (x := -1) hW0 (by constructor <;> rw [ti_m1] <;> decide)
  rw [show (-1 : Int32) + 1 = 0 by decide] at h1
  rw [h1, show M0 M 206 = M 206 from rfl]
  simp only [Option.bind_eq_bind, Option.bind_some]
  have hs := earl_spec (W := M 206) (n := n) (-1)
  cases he : earl (M 206) n (-1) with
  | none =>
    rw [show enc none = -1 from rfl, L_X12_gap_13, if_pos rfl]
    refine ⟨0, rfl, fun y hy => ?_, Int32.le_refl _, Or.inl rfl⟩
    obtain ⟨d, h2, h3, h4⟩ := hy
    have h5 := hs.1 he d h2
    have := (hr d (by omega)).1
    rw [ti_le, ti_m1] at h5
    rw [ti_eq, ti_m1] at h3
    omega
  | some f =>
    obtain ⟨g1, g2, g3⟩ := hs.2 f he
    have hf0 : ¬ M 206 (22 + 8 * f) = -1 := by rw [ti_lt] at g2; rw [ti_eq]; omega
    obtain ⟨r, e1, e2⟩ := key _ f 0 g1 (Nat.le_refl _) hf0
    refine ⟨r, e1, fun y hy => ?_, e2.2.1, e2.2.2.imp id (fun q => ?_)⟩
    · obtain ⟨d, h2, h3, h4⟩ := hy
      refine e2.1 y ⟨d, h2, g3 d h2 ?_, h4⟩
      have := (hr d (by omega)).1
      rw [ti_eq, ti_m1] at h3
      rw [ti_lt, ti_m1]; omega
    · obtain ⟨e, h2, h3, h4⟩ := q
      refine ⟨e, h2, ?_, h4⟩
      rw [ti_lt, ti_m1] at g2
      rw [ti_le] at h3
      rw [ti_eq, ti_m1]; omega
theorem q_gap (hL : LR C 3 (M 206)) (hW : WOk n (M 206)) : ∃ r, F_X11_gap C = some r ∧ F_X12_gap M = some (r, M0 M) := by
  obtain ⟨r, h1, h2⟩ := cl_gap hL hW.1
  obtain ⟨r', h3, h4⟩ := m_gap hW.1
  rw [h2.uniq h4] at h1
  exact ⟨r', h1, h3⟩
end
