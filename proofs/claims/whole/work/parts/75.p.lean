section
variable {C C' M M' : HI} {n m l c : Nat} {x x1 x2 : Int32} {W : Nat → Int32}
theorem cl_read (hl : l < 60) (hm : m ≤ 60) (h0 : C c 0 = Int32.ofNat m) (h1 : C c 1 = Int32.ofNat l) (h2 : ∀ g w, g < m → w < 4 → C (c + 1) ((l + 60 - g) % 60 * 4 + w) = W (113 + 4 * g + w)) {g w : Nat} (hg : g < m) (hw : w < 4) : F_X7_read C c (Int32.ofNat g) (Int32.ofNat w) = some (W (113 + 4 * g + w)) := by
  unfold F_X7_read
  have e1 : Int32.ofNat l + (60 : Int32) - Int32.ofNat g = Int32.ofNat (l + 60 - g) := by
    rw [show (60 : Int32) = Int32.ofNat 60 from rfl, ← Int32.ofNat_add, show l + 60 = (l + 60 - g) + g by omega, Int32.ofNat_add, Int32.add_sub_cancel, Nat.add_sub_cancel]
  have hz : (l + 60 - g) % 60 < 60 := Nat.mod_lt _ (by omega)
  rw [if_neg (ofn_nneg (by omega)), h0, if_neg (by rw [ofn_le (by omega) (by omega)]; omega), if_neg (ofn_nneg (by omega)), if_pos (by rw [show (4 : Int32) = Int32.ofNat 4 from rfl, ofn_lt (by omega) (by omega)]; exact hw), h1, e1, show (60 : Int32) = Int32.ofNat 60 from rfl, ofn_mod (by omega) (by omega) (by omega)]
  have e2 : Int32.ofNat ((l + 60 - g) % 60) * (4 : Int32) + Int32.ofNat w = Int32.ofNat ((l + 60 - g) % 60 * 4 + w) := by
    rw [Int32.ofNat_add, Int32.ofNat_mul]; rfl
  rw [e2, ald_ofn (by omega) (by omega), h2 g w hg hw]
  rfl
theorem m_ofLog {g w : Nat} (hg : g < 60) (hw : w < 4) : F_X12_ofLog M (Int32.ofNat g) (Int32.ofNat w) = some (M 206 (113 + 4 * g + w)) := by
  unfold F_X12_ofLog
  have e : ((113 : Int32) + (4 : Int32) * Int32.ofNat g) + Int32.ofNat w = Int32.ofNat (113 + 4 * g + w) := by
    rw [Int32.ofNat_add, Int32.ofNat_add, Int32.ofNat_mul]; rfl
  rw [e, ald_ofn (by omega) (by omega)]
  rfl
theorem q_log (h : GR C M n) : ∃ r b k, F_X11_log C x1 x2 = some r ∧ F_X12_log M x1 x2 = some (b, up2 M 205 0 k) ∧ same ["java/util/NoSuchElementException"] r k b := by
  obtain ⟨m, l, a1, a2, a3, a4, a5, a6⟩ := h.1.2.2.1
  unfold F_X11_log F_X12_log
  rcases nat_or x2 4 (by omega) with ⟨w, hw, rfl⟩ | hx
  · rw [if_neg (ofn_nneg (by omega)), if_pos (by rw [show (3 : Int32) = Int32.ofNat 3 from rfl, ofn_le (by omega) (by omega)]; omega), m_in1 (⟨ofn_nneg (by omega), by rw [show (3 : Int32) = Int32.ofNat 3 from rfl, ofn_lt (by omega) (by omega)]; omega⟩)]
    simp only [Option.bind_eq_bind, Option.bind_some, m_thr0, i10, if_true, if_false]
    rw [show up2 M 205 0 0 206 15 = Int32.ofNat m from a3]
    rcases nat_or x1 m (by omega) with ⟨g, hg, rfl⟩ | hx
    · rw [cl_read a2 a1 a4 a5 a6 hg hw, m_in1 (⟨ofn_nneg (by omega), by
        obtain ⟨z, rfl⟩ : ∃ z, m = z + 1 := ⟨m - 1, by omega⟩
        rw [ofn_p1, ofn_lt (by omega) (by omega)]; omega⟩), Option.bind_some, Option.bind_some, if_neg (by decide), m_ofLog (by omega) hw]
      exact ⟨_, _, 0, rfl, rfl, rfl, rfl⟩
    · have hr : F_X7_read C 15 x1 (Int32.ofNat w) = some (-2) := by
        unfold F_X7_read
        by_cases q : x1 < 0
        · rw [if_pos q]
        · rw [if_neg q, a4, if_pos (hx.resolve_left q)]
      have hi : x1 < 0 ∨ Int32.ofNat m - 1 < x1 := by
        rcases hx with q | q
        · exact Or.inl q
        · right
          rw [ti_le, ti_ofn (by omega)] at q
          rw [ti_lt, ti_sub (by rw [ti_ofn (by omega), ti_1]; omega) (by rw [ti_ofn (by omega), ti_1]; omega), ti_ofn (by omega), ti_1]
          omega
      rw [hr, m_in0 hi]
      exact ⟨_, _, 0, rfl, rfl, rfl, rfl⟩
  · have hi : x2 < 0 ∨ (3 : Int32) < x2 := by
      rcases hx with q | q
      · exact Or.inl q
      · right
        rw [ti_le, ti_ofn (by omega)] at q
        rw [ti_lt, ti_3]; omega
    have e1 : (if x2 < 0 then some (Sum.inr "java/util/NoSuchElementException" : Int32 ⊕ String) else if x2 ≤ (3 : Int32) then (F_X7_read C 15 x1 x2) >>= fun r3 => some (Sum.inl r3) else some (Sum.inr "java/util/NoSuchElementException")) = some (Sum.inr "java/util/NoSuchElementException") := by
      by_cases q : x2 < 0
      · rw [if_pos q]
      · rw [if_neg q, if_neg (by have := hi.resolve_left q; rw [ti_lt] at this; rw [ti_le]; omega)]
    rw [e1, m_in0 hi]
    simp only [Option.bind_eq_bind, Option.bind_some, m_thr1, i10, if_true, if_false]
    rw [M0_up]
    exact ⟨_, _, 1, rfl, rfl, 0, rfl, rfl⟩
/-- the evening of the latest row of the first i ones in which P holds -/
def latF (W : Nat → Int32) (P : Nat → Bool) : Nat → Int32 → Int32
  | 0, z => z
  | i + 1, z => latF W P i (if P i = true then W (113 + 4 * i) else z)
theorem latF_none {P : Nat → Bool} : ∀ (i : Nat) (z : Int32), (∀ g, g < i → P g = false) → latF W P i z = z := by
  intro i
  induction i with
  | zero => intro z _; rfl
  | succ i ih =>
    intro z h
    show latF W P i (if P i = true then _ else z) = z
    rw [h i (by omega)]
    exact ih z (fun g hg => h g (by omega))
theorem latF_some {P : Nat → Bool} {j : Nat} (hj : P j = true) (hl : ∀ g, g < j → P g = false) : ∀ (i : Nat) (z : Int32), j < i → latF W P i z = W (113 + 4 * j) := by
  intro i
  induction i with
  | zero => intro z h; omega
  | succ i ih =>
    intro z h
    show latF W P i (if P i = true then W (113 + 4 * i) else z) = _
    rcases Nat.lt_or_ge j i with q | q
    · exact ih _ q
    · have : j = i := by omega
      subst this
      rw [if_pos hj]
      exact latF_none _ _ hl
theorem q_led (h : GR C M n) (hx2 : x2 = 0 ∨ x2 = 1) : ∃ r b k, F_X11_led C x1 x2 = some r ∧ F_X12_led M x1 x2 = some (b, up2 M 205 0 k) ∧ same ["java/lang/IndexOutOfBoundsException"] r k b := by
  obtain ⟨m, l, a1, a2, a3, a4, a5, a6⟩ := h.1.2.2.1
  have hD := h.1.1.D
  have hW := h.1.2.1
  have hn := hW.1.2.1
  have hW0 : DOk n (M0 M 206) := hW.1
  unfold F_X11_led F_X12_led
  rcases nat_or x1 n (by omega) with ⟨d, hd, rfl⟩ | hx
  · rw [cl_has hD hW.1 hd, m_noDish hW0 hd]
    simp only [Option.bind_eq_bind, Option.bind_some, m_thr0, i10, if_true, if_false]
    let P : Nat → Bool := fun g => decide (M 206 (113 + 4 * g + 1) = Int32.ofNat d)
    have hrd : ∀ g w, g < m → w < 4 → F_X7_read C 15 (Int32.ofNat g) (Int32.ofNat w) = some (M 206 (113 + 4 * g + w)) := fun g w hg hw => cl_read a2 a1 a4 a5 a6 hg hw
    have c1 : F_X7_rowsOf C 15 (Int32.ofNat d) = some (Int32.ofNat (cntN m P)) := by
      unfold F_X7_rowsOf cntN
      have := lp_rule (fun s i => L_X7_rowsOf_4 C 15 (Int32.ofNat d) s i) m (by omega) (fun g s => if P g = true then s + 1 else s) (fun s => s) (fun s => by
        rw [L_X7_rowsOf_4, a4, if_pos (Int32.le_refl _)]) (fun i s hi => by
        try simp only
        rw [L_X7_rowsOf_4, a4, if_neg (by rw [ofn_le (by omega) (by omega)]; omega), show (1 : Int32) = Int32.ofNat 1 from rfl, hrd i 1 hi (by omega)]
        simp only [Option.bind_eq_bind, Option.bind_some, P, decide_eq_true_eq]
        split <;> rfl) m 0 (0 : Int32) (by omega)
      refine Eq.trans this ?_
      congr 1
      have hc : ∀ k i (s : Nat), lp (fun g (s : Int32) => if P g = true then s + 1 else s) i k (Int32.ofNat s) = Int32.ofNat (lp (fun g (s : Nat) => if P g = true then s + 1 else s) i k s) := by
        intro k
        induction k with
        | zero => intro i s; rfl
        | succ k ih =>
          intro i s
          show lp _ (i + 1) k (if P i = true then Int32.ofNat s + 1 else Int32.ofNat s) = Int32.ofNat (lp _ (i + 1) k (if P i = true then s + 1 else s))
          split
          · rw [ofn_succ]; exact ih (i + 1) (s + 1)
          · exact ih (i + 1) s
      exact hc m 0 0
    have c2 : F_X7_latestEvening C 15 (Int32.ofNat d) = some (latF (M 206) P m (-1)) := by
      unfold F_X7_latestEvening
      have key : ∀ (k i : Nat), i + k = m → (∀ g, g < i → P g = false) → L_X7_latestEvening_2 C 15 (Int32.ofNat d) (Int32.ofNat i) = some (latF (M 206) P m (-1)) := by
        intro k
        induction k with
        | zero =>
          intro i hi hP
          rw [L_X7_latestEvening_2, a4, show i = m by omega, if_pos (Int32.le_refl _), latF_none m _ (fun g hg => hP g (by omega))]
        | succ k ih =>
          intro i hi hP
          rw [L_X7_latestEvening_2, a4, if_neg (by rw [ofn_le (by omega) (by omega)]; omega), show (1 : Int32) = Int32.ofNat 1 from rfl, hrd i 1 (by omega) (by omega), show (0 : Int32) = Int32.ofNat 0 from rfl, hrd i 0 (by omega) (by omega), Option.bind_eq_bind, Option.bind_some]
          by_cases q : M 206 (113 + 4 * i + 1) = Int32.ofNat d
          · rw [if_pos q, latF_some (j := i) (by simp [P, q]) hP m _ (by omega)]
            rfl
          · rw [if_neg q, show Int32.ofNat i + Int32.ofNat 1 = Int32.ofNat (i + 1) from (Int32.ofNat_add _ _).symm]
            refine ih (i + 1) (by omega) (fun g hg => ?_)
            rcases Nat.lt_or_ge g i with w | w
            · exact hP g w
            · rw [show g = i by omega]; simp [P, q]
      exact key m 0 (by omega) (fun g hg => by omega)
    have mm : ∀ (i : Nat) (acc z : Int32), i ≤ m → L_X12_led_36 (M0 M) (Int32.ofNat d) x2 acc z (Int32.ofNat i + (-1)) = some (if x2 = 0 then acc + Int32.ofNat (cntN i P) else latF (M 206) P i z, M0 M) := by
      intro i
      induction i with
      | zero =>
        intro acc z _
        rw [L_X12_led_36, if_pos (by decide)]
        split
        · show _ = some (acc + Int32.ofNat 0, M0 M)
          rw [show Int32.ofNat 0 = 0 from rfl, Int32.add_zero]
        · rfl
      | succ i ih =>
        intro acc z hi
        have e1 : F_X12_ofLog (M0 M) (Int32.ofNat i) 1 = some (M 206 (113 + 4 * i + 1)) := m_ofLog (w := 1) (by omega) (by decide)
        rw [ofn_m1, L_X12_led_36, if_neg (ofn_nneg (by omega)), e1, Option.bind_eq_bind, Option.bind_some]
        by_cases q : M 206 (113 + 4 * i + 1) = Int32.ofNat d
        · have e0 : F_X12_ofLog (M0 M) (Int32.ofNat i) 0 = some (M 206 (113 + 4 * i + 0)) := m_ofLog (w := 0) (by omega) (by decide)
          rw [if_pos q, e0, Option.bind_some, ih _ _ (by omega), cntN_succ]
          congr 2
          rw [if_pos (show P i = true by simp [P, q])]
          by_cases q2 : x2 = 0
          · rw [if_pos q2, if_pos q2, Nat.add_comm, Int32.ofNat_add, Int32.add_assoc]; rfl
          · rw [if_neg q2, if_neg q2]
            show _ = latF (M 206) P i (if P i = true then M 206 (113 + 4 * i) else z)
            rw [if_pos (show P i = true by simp [P, q])]
            rfl
        · rw [if_neg q, ih _ _ (by omega), cntN_succ]
          congr 2
          rw [if_neg (show ¬ P i = true by simp [P, q]), Nat.add_zero]
          by_cases q2 : x2 = 0
          · rw [if_pos q2, if_pos q2]
          · rw [if_neg q2, if_neg q2]
            show _ = latF (M 206) P i (if P i = true then M 206 (113 + 4 * i) else z)
            rw [if_neg (show ¬ P i = true by simp [P, q])]
    have e15 : up2 M 205 0 0 206 15 - 1 = Int32.ofNat m + (-1) := by
      rw [show up2 M 205 0 0 206 15 = Int32.ofNat m from a3]; exact Int32.sub_eq_add_neg _ _
    rw [e15, mm m 0 (-1) (Nat.le_refl _), c1, c2]
    rcases hx2 with rfl | rfl
    · rw [if_pos rfl, if_pos rfl, Int32.zero_add]
      exact ⟨_, _, 0, rfl, rfl, rfl, rfl⟩
    · rw [if_neg (by decide), if_neg (by decide)]
      exact ⟨_, _, 0, rfl, rfl, rfl, rfl⟩
  · rw [cl_hasN hD hW.1 hx, m_noDishN hW0 hx]
    simp only [Option.bind_eq_bind, Option.bind_some, m_thr1, i10, if_true, if_false]
    rw [M0_up]
    exact ⟨_, _, 1, rfl, rfl, 0, rfl, rfl⟩
end
