section
variable {C M : HI} {n : Nat} {x1 x2 : Int32} {W : Nat → Int32}
theorem ite10 {p : Prop} [Decidable p] : ((if p then (1 : Int32) else 0) = 0) ↔ ¬ p := by
  split <;> simp_all
theorem ite10' {p : Prop} [Decidable p] : ((if p then (1 : Int32) else 0) = 1) ↔ p := by
  split <;> simp_all
theorem has_tb {I : HI} {x : Int32} {d : Nat} (hd : d < 32) : F_X12_has I x (Int32.ofNat d) = some (if tb x d = true then 1 else 0) := by
  unfold F_X12_has
  rw [sh_tb hd]
  by_cases h : tb x d = true
  · simp [h]
  · simp [h]
theorem eq0_tb {x : Int32} : x = 0 ↔ ∀ j, j < 32 → tb x j = false := by
  constructor
  · rintro rfl j _; exact tb_0 j
  · intro h; exact tb_ext (fun j hj => by rw [h j hj, tb_0])
/-- the latest first day in a set -/
def lat (W : Nat → Int32) (S : Int32) (i k : Nat) (acc : Int32) : Int32 := lp (fun d s => if tb S d = true then (if s < W (22 + 8 * d) then W (22 + 8 * d) else s) else s) i k acc
theorem cl_dated (hL : LR C 3 W) (hW : DOk n W) {S : Int32} : ∀ (k i : Nat) (acc : Int32), i + k = n → ((∃ d, i ≤ d ∧ d < n ∧ tb S d = true ∧ W (22 + 8 * d) = -1) → L_X11_dated_18 C S acc (Int32.ofNat i) = some (-1)) ∧ ((¬ ∃ d, i ≤ d ∧ d < n ∧ tb S d = true ∧ W (22 + 8 * d) = -1) → L_X11_dated_18 C S acc (Int32.ofNat i) = some (lat W S i k acc)) := by
  have hD := hL.D
  have hn := hW.2.1
  intro k
  induction k with
  | zero =>
    intro i acc h
    refine ⟨fun ⟨d, h1, h2, _⟩ => by omega, fun _ => ?_⟩
    rw [L_X11_dated_18, cl_n hD hW, show i = n by omega, if_pos (Int32.le_refl _)]
    rfl
  | succ k ih =>
    intro i acc h
    rw [L_X11_dated_18, cl_n hD hW, if_neg (by rw [ofn_le (by omega) (by omega)]; omega), sh_tb (by omega)]
    simp only [ite10]
    rw [cl_isHad hD hW (by omega)]
    simp only [Option.bind_eq_bind, Option.bind_some]
    rw [show (6 : Nat) = (3 + 1) + 2 from rfl, cl_fst hD (by omega)]
    simp only [Option.bind_some, ofn_succ]
    by_cases h1 : tb S i = true
    · rw [if_neg (by simp [h1])]
      by_cases h2 : W (22 + 8 * i) = -1
      · rw [if_pos h2, if_pos rfl]
        exact ⟨fun _ => rfl, fun q => absurd ⟨i, Nat.le_refl _, by omega, h1, h2⟩ q⟩
      · rw [if_neg h2, if_neg (by decide)]
        obtain ⟨a1, a2⟩ := ih (i + 1) (if acc < W (22 + 8 * i) then W (22 + 8 * i) else acc) (by omega)
        refine ⟨fun ⟨d, q1, q2, q3, q4⟩ => a1 ⟨d, ?_, q2, q3, q4⟩, fun q => (a2 (fun ⟨d, q1, q2⟩ => q ⟨d, by omega, q2⟩)).trans ?_⟩
        · rcases Nat.lt_or_ge i d with q | q
          · exact q
          · exact absurd q4 (by rw [show d = i by omega]; exact h2)
        · unfold lat
          show _ = some (lp _ (i + 1) k _)
          simp only
          rw [if_pos h1]
    · rw [if_pos h1]
      obtain ⟨a1, a2⟩ := ih (i + 1) acc (by omega)
      refine ⟨fun ⟨d, q1, q2, q3, q4⟩ => a1 ⟨d, ?_, q2, q3, q4⟩, fun q => (a2 (fun ⟨d, q1, q2⟩ => q ⟨d, by omega, q2⟩)).trans ?_⟩
      · rcases Nat.lt_or_ge i d with q | q
        · exact q
        · exact absurd q3 (by rw [show d = i by omega]; exact h1)
      · unfold lat
        show _ = some (lp _ (i + 1) k _)
        simp only
        rw [if_neg h1]
theorem q_dated (hL : LR C 3 (M 206)) (hW : WOk n (M 206)) : ∃ r, F_X11_dated C x1 = some r ∧ F_X12_dated M x1 = some (r, M0 M) := by
  have hD := hL.D
  have hn := hW.1.2.1
  have hW0 : DOk n (M0 M 206) := hW.1
  unfold F_X11_dated F_X12_dated F_X1_all F_X12_allDishes F_X12_dishes
  simp only [Option.bind_eq_bind, Option.bind_some]
  have hW00 : up2 M 205 0 0 206 0 = Int32.ofNat n := hW.1.1
  rw [cl_n hD hW.1, hW00]
  generalize hS : x1 &&& (((1 : Int32) <<< (Int32.ofNat n &&& 31)) - (1 : Int32)) = S
  have hSj : ∀ j, tb S j = true → j < n := by
    intro j h
    rw [← hS, tb_and, tb_all hn] at h
    simp at h
    exact h.2
  have e1 := cl_dated (C := C) (n := n) (S := S) hL hW.1 n 0 (-1) (by omega)
  rw [show (Int32.ofNat 0) = 0 from rfl] at e1
  rw [m_newOnes hW0]
  simp only [Option.bind_some]
  by_cases h0 : S = 0
  · have hz : ∀ j, tb S j = false := by
      intro j
      rw [h0]; exact tb_0 j
    refine ⟨_, e1.2 (by rintro ⟨d, -, -, q, -⟩; rw [hz d] at q; cases q), ?_⟩
    rw [if_pos h0]
    congr 2
    have : lat (M 206) S 0 n (-1) = lp (fun _ s => s) 0 n (-1) := by
      unfold lat
      refine lp_congr _ _ _ (fun d s _ _ => ?_)
      rw [if_neg (by rw [hz d]; decide)]
    rw [this]
    have id0 : ∀ (k i : Nat) (s : Int32), lp (fun _ s => s) i k s = s := by
      intro k; induction k with
      | zero => intro i s; rfl
      | succ k ih => intro i s; exact ih (i + 1) s
    rw [id0]
  · rw [if_neg h0]
    by_cases h1 : S &&& bits n (fun d => decide (M0 M 206 (22 + 8 * d) = -1)) = 0
    · rw [if_pos h1]
      refine ⟨_, e1.2 ?_, ?_⟩
      · rintro ⟨d, -, hd, h2, h3⟩
        have := (eq0_tb.mp h1) d (by omega)
        rw [tb_and, h2, tb_bits (by omega)] at this
        simp [hd] at this
        exact this h3
      · refine lp_rule (fun s i => L_X12_dated_32 (M0 M) S s i) n (by omega) _ (fun s => (s, M0 M)) (fun s => ?_) (fun i s hi => ?_) n 0 (-1 : Int32) (by omega)
        · rw [L_X12_dated_32]
          unfold F_X12_dishes
          simp only [Option.bind_eq_bind, Option.bind_some]
          rw [hW0.1, if_pos (Int32.le_refl _)]
        · try simp only
          rw [L_X12_dated_32]
          unfold F_X12_dishes
          rw [m_fst (by omega), has_tb (by omega)]
          simp only [Option.bind_eq_bind, Option.bind_some]
          rw [hW0.1, if_neg (by rw [ofn_le (by omega) (by omega)]; omega)]
          simp only [ite10, show M0 M 206 = M 206 from rfl]
          by_cases h2 : tb S i = true
          · simp [h2]
          · simp [h2]
    · rw [if_neg h1]
      refine ⟨_, e1.1 ?_, rfl⟩
      apply Classical.byContradiction
      intro hc
      apply h1
      rw [eq0_tb]
      intro j hj
      rw [tb_and, tb_bits (by omega)]
      by_cases h2 : tb S j = true
      · have hjn := hSj j h2
        have : ¬ M 206 (22 + 8 * j) = -1 := fun q => hc ⟨j, by omega, hjn, h2, q⟩
        simp
        exact fun _ _ => this
      · simp at h2
        rw [h2]; rfl
theorem q_lover (hL : LR C 3 (M 206)) (hW : WOk n (M 206)) : ∃ r, F_X11_lover C = some r ∧ F_X12_lover M = some (r, M0 M) := by
  have hD := hL.D
  have hn := hW.1.2.1
  have hW0 : DOk n (M0 M 206) := hW.1
  unfold F_X11_lover F_X12_lover
  have e1 := lp_rule (fun (s : Int32 × Int32) i => L_X11_lover_6 C s.1 s.2 i) 8 (by decide) (fun e s => if pc0 (bits n (fun d => decide (¬ M 206 (22 + 8 * d) = -1 ∧ M 206 (24 + 8 * d) = Int32.ofNat e))) ≤ s.2 then s else (Int32.ofNat e, pc0 (bits n (fun d => decide (¬ M 206 (22 + 8 * d) = -1 ∧ M 206 (24 + 8 * d) = Int32.ofNat e))))) (fun s => s.1) (fun s => by
    rw [L_X11_lover_6, if_pos (by decide)]) (fun i s hi => by
    try simp only
    rw [L_X11_lover_6, if_neg (by rw [show (7 : Int32) = Int32.ofNat 7 from rfl, ofn_lt (by omega) (by omega)]; omega), cl_hadWith hD hW.1]
    simp only [Option.bind_eq_bind, Option.bind_some, bc_pc0]
    split <;> rfl) 8 0 ((-1 : Int32), (0 : Int32)) rfl
  have e2 := lp_rule (fun (s : Int32 × Int32) i => L_X12_lover_11 (M0 M) s.1 s.2 i) 8 (by decide) (fun e s => if pc0 (bits n (fun d => decide (¬ M 206 (22 + 8 * d) = -1 ∧ M 206 (24 + 8 * d) = Int32.ofNat e))) ≤ s.2 then s else (Int32.ofNat e, pc0 (bits n (fun d => decide (¬ M 206 (22 + 8 * d) = -1 ∧ M 206 (24 + 8 * d) = Int32.ofNat e))))) (fun s => (s.1, M0 M)) (fun s => by
    rw [L_X12_lover_11, if_pos (by decide)]) (fun i s hi => by
    try simp only
    rw [L_X12_lover_11, if_neg (by rw [show (8 : Int32) = Int32.ofNat 8 from rfl, ofn_le (by omega) (by omega)]; omega), show (7 : Int32) = Int32.ofNat 7 from rfl, m_hadAt hW0 (by decide)]
    simp only [Option.bind_eq_bind, Option.bind_some, bc_pc0]
    have e3 : bits n (fun d => decide (¬ M0 M 206 (22 + 8 * d) = -1 ∧ M0 M 206 (17 + 8 * d + 7) = Int32.ofNat i)) = bits n (fun d => decide (¬ M 206 (22 + 8 * d) = -1 ∧ M 206 (24 + 8 * d) = Int32.ofNat i)) := bits_congr (fun d hd => by rw [show 17 + 8 * d + 7 = 24 + 8 * d by omega]; rfl)
    rw [e3]
    generalize pc0 (bits n (fun d => decide (¬ M 206 (22 + 8 * d) = -1 ∧ M 206 (24 + 8 * d) = Int32.ofNat i))) = q
    by_cases h : q ≤ s.2
    · have h2 : ¬ s.2 < q := by rw [ti_le] at h; rw [ti_lt]; omega
      simp [h, h2]
    · have h2 : s.2 < q := ilt_of_not_le h
      simp [h, h2]) 8 0 ((-1 : Int32), (0 : Int32)) rfl
  exact ⟨_, e1, e2⟩
theorem q_share (hL : LR C 3 (M 206)) (hW : WOk n (M 206)) : ∃ r b k, F_X11_share C x1 = some r ∧ F_X12_share M x1 = some (b, up2 M 205 0 k) ∧ same ["java/lang/IndexOutOfBoundsException"] r k b := by
  have hD := hL.D
  have hn := hW.1.2.1
  have hW0 : DOk n (M0 M 206) := hW.1
  unfold F_X11_share F_X12_share
  rcases pl_cases x1 with h | h
  · rw [cl_pl h, m_pl h]
    simp only [Option.bind_eq_bind, Option.bind_some, m_thr0, i10, if_true, if_false]
    unfold F_X1_allHad F_X12_dishes
    rw [cl_firstIn hD hW.1, m_newOnes hW0, cl_hadAt hD hW.1, show (6 : Int32) = Int32.ofNat 6 from rfl, m_hadAt hW0 (by decide)]
    simp only [Option.bind_eq_bind, Option.bind_some, bc_pc0]
    have hW00 : up2 M 205 0 0 206 0 = Int32.ofNat n := hW.1.1
    rw [pc_bits hn, pc_bits hn, pc_bits hn, pc_bits hn, hW00]
    have hc : cntN n (fun d => decide (¬ M 206 (22 + 8 * d) = -1 ∧ ¬ M 206 (22 + 8 * d) < 0 ∧ ¬ (9999 : Int32) < M 206 (22 + 8 * d))) = cntN n (fun d => !decide (M0 M 206 (22 + 8 * d) = -1)) := by
      refine cntN_congr (fun d hd => ?_)
      have hr := (hW.1.2.2 d (by omega)).2.1
      show _ = !decide (M 206 (22 + 8 * d) = -1)
      by_cases h3 : M 206 (22 + 8 * d) = -1
      · simp [h3]
      · have h4 : ¬ M 206 (22 + 8 * d) < 0 := by rw [ti_eq, ti_m1] at h3; rw [ti_lt, ti_0]; have := hr.1; omega
        have h5 : ¬ (9999 : Int32) < M 206 (22 + 8 * d) := by rw [ti_lt, ti_9999]; have := hr.2; omega
        simp [h3, h4, h5]
    have hs := cntN_not n (fun d => decide (M0 M 206 (22 + 8 * d) = -1))
    rw [hc]
    have hm : cntN n (fun d => decide (¬ M0 M 206 (22 + 8 * d) = -1 ∧ M0 M 206 (17 + 8 * d + 6) = x1)) = cntN n (fun d => decide (¬ M 206 (22 + 8 * d) = -1 ∧ M 206 (23 + 8 * d) = x1)) := cntN_congr (fun d hd => by rw [show 17 + 8 * d + 6 = 23 + 8 * d by omega]; rfl)
    rw [hm]
    generalize cntN n (fun d => !decide (M0 M 206 (22 + 8 * d) = -1)) = a at *
    generalize cntN n (fun d => decide (M0 M 206 (22 + 8 * d) = -1)) = c at *
    generalize cntN n (fun d => decide (¬ M 206 (22 + 8 * d) = -1 ∧ M 206 (23 + 8 * d) = x1)) = q
    have e : Int32.ofNat n - Int32.ofNat c = Int32.ofNat a := by
      rw [ti_eq, ti_sub (by rw [ti_ofn (by omega), ti_ofn (by omega)]; omega) (by rw [ti_ofn (by omega), ti_ofn (by omega)]; omega), ti_ofn (by omega), ti_ofn (by omega), ti_ofn (by omega)]
      omega
    rw [e]
    by_cases ha : a = 0
    · subst ha
      rw [if_pos (by decide), if_pos (by decide)]
      exact ⟨_, _, 0, rfl, rfl, rfl, rfl⟩
    · have h1 : ¬ Int32.ofNat a = 0 := by rw [show (0 : Int32) = Int32.ofNat 0 from rfl, ofn_eq (by omega) (by omega)]; exact ha
      have h2 : ¬ Int32.ofNat a ≤ 0 := by rw [show (0 : Int32) = Int32.ofNat 0 from rfl, ofn_le (by omega) (by omega)]; omega
      rw [if_neg h1, if_neg h2, if_pos h1, if_pos h1]
      exact ⟨_, _, 0, rfl, rfl, rfl, by rw [Int32.mul_comm]⟩
  · rw [cl_plN h, m_plN h]
    simp only [Option.bind_eq_bind, Option.bind_some, m_thr1, i10, if_true, if_false]
    rw [M0_up]
    exact ⟨_, _, 1, rfl, rfl, 0, rfl, rfl⟩
/-- pairs d < e with no way between them, by the first, by the second -/
theorem q_twins (hL : LR C 3 (M 206)) (hW : WOk n (M 206)) : ∃ r, F_X11_twins C = some r ∧ F_X12_twins M = some (r, M0 M) := by
  have hD := hL.D
  have hn := hW.1.2.1
  have hW0 : DOk n (M0 M 206) := hW.1
  have i1 : ∀ d, d < n → ∀ (acc : Int32) (k i : Nat), i + k = n → ∃ z, L_X11_twins_22 C (Int32.ofNat d) acc (Int32.ofNat i) = some (lp (fun e s => if dst (M 206) d e = 0 then s + 1 else s) i k acc, z) := by
    intro d hd acc k i h
    refine ⟨Int32.ofNat n, ?_⟩
    refine lp_rule (fun s i => L_X11_twins_22 C (Int32.ofNat d) s i) n (by omega) _ (fun s => (s, Int32.ofNat n)) (fun s => ?_) (fun i s hi => ?_) k i acc h
    · rw [L_X11_twins_22, cl_n hD hW.1, if_pos (Int32.le_refl _)]
    · try simp only
      rw [L_X11_twins_22, cl_n hD hW.1, if_neg (by rw [ofn_le (by omega) (by omega)]; omega), cl_dist hD (by omega) (by omega)]
      simp only [Option.bind_eq_bind, Option.bind_some]
      split <;> rfl
  have i2 : ∀ d, d < n → ∀ (acc : Int32), L_X12_twins_19 (M0 M) (Int32.ofNat d) acc (Int32.ofNat 0) = some (lp (fun e s => if dst (M 206) d e = 0 then s + 1 else s) 0 d acc, Int32.ofNat d) := by
    intro d hd acc
    refine lp_rule (fun s i => L_X12_twins_19 (M0 M) (Int32.ofNat d) s i) d (by omega) _ (fun s => (s, Int32.ofNat d)) (fun s => ?_) (fun i s hi => ?_) d 0 acc (by omega)
    · rw [L_X12_twins_19, if_pos (Int32.le_refl _)]
    · try simp only
      rw [L_X12_twins_19, if_neg (by rw [ofn_le (by omega) (by omega)]; omega), m_farOf (by omega) (by omega), show M0 M 206 = M 206 from rfl]
      simp only [Option.bind_eq_bind, Option.bind_some]
      split
      · rfl
      · rw [Int32.add_zero]
  unfold F_X11_twins F_X12_twins
  have e1 := lp_rule (fun s i => L_X11_twins_4 C s i) n (by omega) (fun d s => lp (fun e s => if dst (M 206) d e = 0 then s + 1 else s) (d + 1) (n - (d + 1)) s) (fun s => s) (fun s => by
    rw [L_X11_twins_4, cl_n hD hW.1, if_pos (Int32.le_refl _)]) (fun i s hi => by
    try simp only
    rw [L_X11_twins_4, cl_n hD hW.1, if_neg (by rw [ofn_le (by omega) (by omega)]; omega), ofn_succ]
    obtain ⟨z, hz⟩ := i1 i hi s (n - (i + 1)) (i + 1) (by omega)
    rw [hz]
    rfl) n 0 (0 : Int32) (by omega)
  have e2 := lp_rule (fun s i => L_X12_twins_9 (M0 M) s i) n (by omega) (fun d s => lp (fun e s => if dst (M 206) d e = 0 then s + 1 else s) 0 d s) (fun s => (s, M0 M)) (fun s => by
    rw [L_X12_twins_9]
    unfold F_X12_dishes
    simp only [Option.bind_eq_bind, Option.bind_some]
    rw [hW0.1, if_pos (Int32.le_refl _)]) (fun i s hi => by
    try simp only
    rw [L_X12_twins_9]
    unfold F_X12_dishes
    simp only [Option.bind_eq_bind, Option.bind_some]
    rw [hW0.1, if_neg (by rw [ofn_le (by omega) (by omega)]; omega), show (0 : Int32) = Int32.ofNat 0 from rfl, i2 i hi s]
    rfl) n 0 (0 : Int32) (by omega)
  refine ⟨_, e1, ?_⟩
  refine e2.trans ?_
  congr 2
  -- both as numbers
  have cn : ∀ (P : Nat → Bool) (k i : Nat) (s : Int32), lp (fun e s => if P e = true then s + 1 else s) i k s = s + Int32.ofNat (lp (fun e (s : Nat) => if P e = true then s + 1 else s) i k 0) := by
    intro P k
    induction k with
    | zero => intro i s; show s = s + 0; rw [Int32.add_zero]
    | succ k ih =>
      intro i s
      rw [lp_last, lp_last, ih]
      split
      · rw [Int32.add_assoc, ofn_succ]
      · rfl
  let D : Nat → Nat → Bool := fun d e => decide (dst (M 206) d e = 0)
  have hcomm : ∀ d e, d < n → e < n → D d e = D e d := fun d e h1 h2 => by show decide _ = decide _; rw [dst_sym hW.1 (by omega) (by omega)]
  let c1 : Nat → Nat → Nat := fun m d => lp (fun e (s : Nat) => if D d e = true then s + 1 else s) (d + 1) (m - (d + 1)) 0
  let c2 : Nat → Nat := fun d => lp (fun e (s : Nat) => if D d e = true then s + 1 else s) 0 d 0
  have s1 : ∀ (k i : Nat) (s : Int32), lp (fun d s => lp (fun e s => if dst (M 206) d e = 0 then s + 1 else s) (d + 1) (n - (d + 1)) s) i k s = s + Int32.ofNat (lp (fun d (s : Nat) => s + c1 n d) i k 0) := by
    intro k
    induction k with
    | zero => intro i s; show s = s + 0; rw [Int32.add_zero]
    | succ k ih =>
      intro i s
      rw [lp_last, lp_last, ih]
      have := cn (D (i + k)) (n - (i + k + 1)) (i + k + 1) (s + Int32.ofNat (lp (fun d (s : Nat) => s + c1 n d) i k 0))
      simp only [D, decide_eq_true_eq] at this
      rw [this, Int32.add_assoc, ← Int32.ofNat_add]
      simp only [c1, D, decide_eq_true_eq]
  have s2 : ∀ (k i : Nat) (s : Int32), lp (fun d s => lp (fun e s => if dst (M 206) d e = 0 then s + 1 else s) 0 d s) i k s = s + Int32.ofNat (lp (fun d (s : Nat) => s + c2 d) i k 0) := by
    intro k
    induction k with
    | zero => intro i s; show s = s + 0; rw [Int32.add_zero]
    | succ k ih =>
      intro i s
      rw [lp_last, lp_last, ih]
      have := cn (D (i + k)) (i + k) 0 (s + Int32.ofNat (lp (fun d (s : Nat) => s + c2 d) i k 0))
      simp only [D, decide_eq_true_eq] at this
      rw [this, Int32.add_assoc, ← Int32.ofNat_add]
      simp only [c2, D, decide_eq_true_eq]
  rw [s1, s2]
  congr 2
  -- the double sums
  have h1 : ∀ m d, d < m → c1 (m + 1) d = c1 m d + (if D d m = true then 1 else 0) := by
    intro m d hd
    show lp _ (d + 1) (m + 1 - (d + 1)) 0 = lp _ (d + 1) (m - (d + 1)) 0 + _
    rw [show m + 1 - (d + 1) = (m - (d + 1)) + 1 by omega, lp_last, show d + 1 + (m - (d + 1)) = m by omega]
    split <;> rfl
  have h2 : ∀ m, m ≤ n → lp (fun d (s : Nat) => s + c2 d) 0 m 0 = lp (fun d (s : Nat) => s + c1 m d) 0 m 0 := by
    intro m
    induction m with
    | zero => intro _; rfl
    | succ m ih =>
      intro hm
      rw [lp_last, lp_last, ih (by omega), Nat.zero_add]
      have e0 : c1 (m + 1) m = 0 := by
        show lp _ (m + 1) (m + 1 - (m + 1)) 0 = 0
        rw [Nat.sub_self]; rfl
      rw [e0, Nat.add_zero]
      have e3 : ∀ k, k ≤ m → lp (fun d (s : Nat) => s + c1 (m + 1) d) 0 k 0 = lp (fun d (s : Nat) => s + c1 m d) 0 k 0 + lp (fun e (s : Nat) => if D m e = true then s + 1 else s) 0 k 0 := by
        intro k
        induction k with
        | zero => intro _; rfl
        | succ k ih2 =>
          intro hk
          rw [lp_last, lp_last, lp_last, ih2 (by omega), Nat.zero_add, h1 m k (by omega), hcomm k m (by omega) (by omega)]
          split <;> omega
      rw [e3 m (Nat.le_refl _)]
  exact h2 n (Nat.le_refl _)
end
