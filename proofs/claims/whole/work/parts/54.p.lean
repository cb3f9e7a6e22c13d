/-! queries of the dishes -/
theorem i10 : ((1 : Int32) = 0) = False := by simp
theorem z8 : ((-1 : Int32) = 0) = False := by simp
section
variable {C M : HI} {n : Nat} {x1 x2 : Int32}
theorem LR.D {C : HI} {a : Nat} {W : Nat → Int32} (h : LR C a W) : DR C (a + 1) W := h.2
abbrev M0 (M : HI) : HI := up2 M 205 0 0
theorem M0_up (M : HI) (k : Int32) : up2 (M0 M) 205 0 k = up2 M 205 0 k := up2_up2 _ _ _ _ _
theorem q_far (hL : LR C 3 (M 206)) (hW : WOk n (M 206)) : ∃ r b k, F_X11_far C x1 x2 = some r ∧ F_X12_far M x1 x2 = some (b, up2 M 205 0 k) ∧ same ["java/lang/IndexOutOfBoundsException"] r k b := by
  have hD := hL.D
  have hn := hW.1.2.1
  have hW0 : DOk n (M0 M 206) := hW.1
  unfold F_X11_far F_X12_far
  rcases nat_or x1 n (by omega) with ⟨d, hd, rfl⟩ | h1
  · rw [cl_has hD hW.1 hd, m_noDish hW0 hd]
    simp only [Option.bind_eq_bind, Option.bind_some, i10, if_true, if_false]
    rcases nat_or x2 n (by omega) with ⟨e, he, rfl⟩ | h2
    · rw [cl_has hD hW.1 he, m_noDish hW0 he]
      simp only [Option.bind_eq_bind, Option.bind_some, m_thr0, i10, if_true, if_false]
      rw [m_farOf (by omega) (by omega), cl_dist hD (by omega) (by omega)]
      exact ⟨_, _, 0, rfl, rfl, rfl, rfl⟩
    · rw [cl_hasN hD hW.1 h2, m_noDishN hW0 h2]
      simp only [Option.bind_eq_bind, Option.bind_some, m_thr1, i10, if_true, if_false]
      rw [M0_up]
      exact ⟨_, _, 1, rfl, rfl, 0, rfl, rfl⟩
  · rw [cl_hasN hD hW.1 h1, m_noDishN hW0 h1]
    simp only [Option.bind_eq_bind, Option.bind_some, m_thr1, i10, if_true, if_false]
    rw [M0_up]
    exact ⟨_, _, 1, rfl, rfl, 0, rfl, rfl⟩
theorem iabs_sym {x y : Int32} (hx : rg x 0 9) (hy : rg y 0 9) : iabs (x - y) = iabs (y - x) := by
  obtain ⟨a1, a2⟩ := hx
  obtain ⟨b1, b2⟩ := hy
  have e1 : (x - y).toInt = x.toInt - y.toInt := ti_sub (by omega) (by omega)
  have e2 : (y - x).toInt = y.toInt - x.toInt := ti_sub (by omega) (by omega)
  have e3 : ((0 : Int32) - (x - y)).toInt = y.toInt - x.toInt := by rw [ti_sub (by rw [ti_0, e1]; omega) (by rw [ti_0, e1]; omega), ti_0, e1]; omega
  have e4 : ((0 : Int32) - (y - x)).toInt = x.toInt - y.toInt := by rw [ti_sub (by rw [ti_0, e2]; omega) (by rw [ti_0, e2]; omega), ti_0, e2]; omega
  unfold iabs
  rw [ti_eq]
  split <;> split <;> rename_i h1 h2 <;> rw [ti_le, ti_0] at h1 h2 <;> rw [e1] at * <;> rw [e2] at * <;> omega
theorem dst_sym {W : Nat → Int32} (hW : DOk n W) {d e : Nat} (hd : d < 12) (he : e < 12) : dst W d e = dst W e d := by
  unfold dst
  refine lp_congr _ _ _ (fun k s _ hk => ?_)
  rw [iabs_sym ((hW.2.2 d hd).1 k (by omega)) ((hW.2.2 e he).1 k (by omega))]
theorem q_near (hL : LR C 3 (M 206)) (hW : WOk n (M 206)) : ∃ r b k, F_X11_near C x1 = some r ∧ F_X12_near M x1 = some (b, up2 M 205 0 k) ∧ same ["java/lang/IndexOutOfBoundsException"] r k b := by
  have hD := hL.D
  have hn := hW.1.2.1
  have hW0 : DOk n (M0 M 206) := hW.1
  unfold F_X11_near F_X12_near
  rcases nat_or x1 n (by omega) with ⟨d, hd, rfl⟩ | h1
  · rw [cl_has hD hW.1 hd, m_noDish hW0 hd]
    simp only [Option.bind_eq_bind, Option.bind_some, m_thr0, i10, if_true, if_false]
    have e1 := lp_rule (fun s i => L_X11_near_28 C (Int32.ofNat d) s i) n (by omega) (fun e s => if e = d then s else if M 206 8 < dst (M 206) d e then s else s ||| bitN e) (fun s => Sum.inl s) (fun s => by
      rw [L_X11_near_28, cl_n hD hW.1, if_pos (Int32.le_refl _)]) (fun i s hi => by
      try simp only
      rw [L_X11_near_28, cl_n hD hW.1, if_neg (by rw [ofn_le (by omega) (by omega)]; omega), cl_dist hD (by omega) (by omega), hL.1.2.2.2.2.2.2.1]
      simp only [Option.bind_eq_bind, Option.bind_some, ofn_eq (show i < 2147483648 by omega) (show d < 2147483648 by omega)]
      by_cases h1 : i = d
      · simp [h1]
      · by_cases h2 : M 206 8 < dst (M 206) d i
        · simp [h1, h2]
        · simp [h1, h2, bitN]) n 0 (0 : Int32) (by omega)
    have e2 := lp_rule (fun s i => L_X12_near_24 (M0 M) (Int32.ofNat d) s i) n (by omega) (fun e s => if e = d then s else if M 206 8 < dst (M 206) d e then s else s ||| bitN e) (fun s => (s, M0 M)) (fun s => by
      rw [L_X12_near_24]
      unfold F_X12_dishes
      simp only [Option.bind_eq_bind, Option.bind_some]
      rw [hW0.1, if_pos (Int32.le_refl _)]) (fun i s hi => by
      try simp only
      rw [L_X12_near_24]
      unfold F_X12_dishes
      rw [m_farOf (by omega) (by omega)]
      simp only [Option.bind_eq_bind, Option.bind_some, ofn_eq (show i < 2147483648 by omega) (show d < 2147483648 by omega)]
      rw [hW0.1, if_neg (by rw [ofn_le (by omega) (by omega)]; omega), show M0 M 206 = M 206 from rfl, dst_sym hW.1 (show i < 12 by omega) (show d < 12 by omega)]
      by_cases h1 : i = d
      · simp [h1]
      · by_cases h2 : M 206 8 < dst (M 206) d i
        · simp [h1, h2]
        · simp [h1, h2, bitN]) n 0 (0 : Int32) (by omega)
    exact ⟨_, _, 0, e1, e2, rfl, rfl⟩
  · rw [cl_hasN hD hW.1 h1, m_noDishN hW0 h1]
    simp only [Option.bind_eq_bind, Option.bind_some, m_thr1, i10, if_true, if_false]
    rw [M0_up]
    exact ⟨_, _, 1, rfl, rfl, 0, rfl, rfl⟩
theorem all_dec : ∀ n, n ≤ 12 → ∀ j, j < 32 → tb (((1 : Int32) <<< (Int32.ofNat n &&& 31)) - (1 : Int32)) j = decide (j < n) := by decide +kernel
theorem tb_all (hn : n ≤ 12) (j : Nat) : tb (((1 : Int32) <<< (Int32.ofNat n &&& 31)) - (1 : Int32)) j = decide (j < n) := by
  rcases Nat.lt_or_ge j 32 with h | h
  · exact all_dec n hn j h
  · unfold tb
    rw [BitVec.getLsbD_of_ge _ _ h]
    simp; omega
theorem q_left (hL : LR C 3 (M 206)) (hW : WOk n (M 206)) : ∃ r, F_X11_left C = some r ∧ F_X12_left M = some (r, M0 M) := by
  have hD := hL.D
  have hn := hW.1.2.1
  have hW0 : DOk n (M0 M 206) := hW.1
  unfold F_X11_left F_X12_left F_X1_all F_X1_allHad
  rw [m_newOnes hW0, cl_firstIn hD hW.1, cl_n hD hW.1]
  simp only [Option.bind_eq_bind, Option.bind_some]
  refine ⟨_, rfl, ?_⟩
  congr 2
  apply tb_ext
  intro j hj
  rw [tb_and, tb_xor, tb_m1 hj, tb_all hn, tb_bits (by omega), tb_bits (by omega), show M0 M 206 = M 206 from rfl]
  by_cases h : j < n
  · have hr := (hW.1.2.2 j (by omega)).2.1
    have h2 : ¬ M 206 (22 + 8 * j) = -1 → ¬ M 206 (22 + 8 * j) < 0 ∧ ¬ (9999 : Int32) < M 206 (22 + 8 * j) := by
      intro q
      rw [ti_eq, ti_m1] at q
      obtain ⟨r1, r2⟩ := hr
      constructor
      · rw [ti_lt, ti_0]; omega
      · rw [ti_lt, ti_9999]; omega
    by_cases h3 : M 206 (22 + 8 * j) = -1
    · simp [h, h3]
    · simp [h, h3, h2 h3]
  · simp [h]
theorem pl_cases (x : Int32) : (¬ x < 0 ∧ ¬ (7 : Int32) < x) ∨ (x < 0 ∨ (7 : Int32) < x) := by
  by_cases h : x < 0
  · exact Or.inr (Or.inl h)
  · by_cases h2 : (7 : Int32) < x
    · exact Or.inr (Or.inr h2)
    · exact Or.inl ⟨h, h2⟩
theorem cl_pl (h : ¬ x1 < 0 ∧ ¬ (7 : Int32) < x1) : F_X11_isPlace C x1 = some 1 := by unfold F_X11_isPlace; rw [if_neg h.1, if_neg h.2]
theorem cl_plN (h : x1 < 0 ∨ (7 : Int32) < x1) : F_X11_isPlace C x1 = some 0 := by
  unfold F_X11_isPlace
  by_cases h0 : x1 < 0
  · rw [if_pos h0]
  · rw [if_neg h0, if_pos (h.resolve_left h0)]
theorem m_pl (h : ¬ x1 < 0 ∧ ¬ (7 : Int32) < x1) : F_X12_noPlace M x1 = some 0 := by
  unfold F_X12_noPlace F_X12_in
  simp [h.1, h.2]
theorem m_plN (h : x1 < 0 ∨ (7 : Int32) < x1) : F_X12_noPlace M x1 = some 1 := by
  unfold F_X12_noPlace F_X12_in
  by_cases h0 : x1 < 0
  · simp [h0]
  · simp [h0, h.resolve_left h0]
theorem q_kitchen (hL : LR C 3 (M 206)) (hW : WOk n (M 206)) : ∃ r b k, F_X11_kitchen C x1 = some r ∧ F_X12_kitchen M x1 = some (b, up2 M 205 0 k) ∧ same ["java/lang/IndexOutOfBoundsException"] r k b := by
  have hD := hL.D
  have hW0 : DOk n (M0 M 206) := hW.1
  unfold F_X11_kitchen F_X12_kitchen
  rcases pl_cases x1 with h | h
  · rw [cl_pl h, m_pl h, cl_hadAt hD hW.1]
    simp only [Option.bind_eq_bind, Option.bind_some, m_thr0, i10, if_true, if_false]
    rw [show (6 : Int32) = Int32.ofNat 6 from rfl, m_hadAt hW0 (by decide)]
    refine ⟨_, _, 0, rfl, rfl, rfl, ?_⟩
    refine bits_congr (fun d hd => ?_)
    rw [show 17 + 8 * d + 6 = 23 + 8 * d by omega]
    rfl
  · rw [cl_plN h, m_plN h]
    simp only [Option.bind_eq_bind, Option.bind_some, m_thr1, i10, if_true, if_false]
    rw [M0_up]
    exact ⟨_, _, 1, rfl, rfl, 0, rfl, rfl⟩
theorem q_company (hL : LR C 3 (M 206)) (hW : WOk n (M 206)) : ∃ r b k, F_X11_company C x1 = some r ∧ F_X12_company M x1 = some (b, up2 M 205 0 k) ∧ same ["java/lang/IllegalArgumentException"] r k b := by
  have hD := hL.D
  have hW0 : DOk n (M0 M 206) := hW.1
  unfold F_X11_company F_X12_company F_X12_in
  rcases pl_cases x1 with h | h
  · have h2 : x1 ≤ 7 := by have := h.2; rw [ti_lt] at this; rw [ti_le]; omega
    rw [if_neg h.1, if_pos h2, if_neg h.1, if_neg h.2, cl_hadWith hD hW.1]
    simp only [Option.bind_eq_bind, Option.bind_some, m_thr0, i10, if_true, if_false]
    rw [show (7 : Int32) = Int32.ofNat 7 from rfl, m_hadAt hW0 (by decide)]
    refine ⟨_, _, 0, rfl, rfl, rfl, ?_⟩
    refine bits_congr (fun d hd => ?_)
    rw [show 17 + 8 * d + 7 = 24 + 8 * d by omega]
    rfl
  · have e1 : (if x1 < 0 then some (0 : Int32) else if (7 : Int32) < x1 then some (0 : Int32) else some (1 : Int32)) = some 0 := by
      by_cases h0 : x1 < 0
      · rw [if_pos h0]
      · rw [if_neg h0, if_pos (h.resolve_left h0)]
    have e2 : (if x1 < 0 then some (Sum.inr "java/lang/IllegalArgumentException" : Int32 ⊕ String) else if x1 ≤ (7 : Int32) then (F_X1_hadWith C 4 x1) >>= fun r3 => some (Sum.inl r3) else some (Sum.inr "java/lang/IllegalArgumentException")) = some (Sum.inr "java/lang/IllegalArgumentException") := by
      by_cases h0 : x1 < 0
      · rw [if_pos h0]
      · rw [if_neg h0, if_neg (by have := h.resolve_left h0; rw [ti_lt] at this; rw [ti_le]; omega)]
    rw [e1, e2]
    simp only [Option.bind_eq_bind, Option.bind_some, m_thr1, i10, if_true, if_false]
    rw [M0_up]
    exact ⟨_, _, 1, rfl, rfl, 0, rfl, rfl⟩
theorem q_oldest (hL : LR C 3 (M 206)) (hW : WOk n (M 206)) : ∃ r, F_X11_oldest C = some r ∧ F_X12_oldest M = some (r, M0 M) := by
  have hW0 : DOk n (M0 M 206) := hW.1
  unfold F_X11_oldest F_X12_oldest
  rw [cl_earl hL.D hW.1, show (0 : Int32) = -1 + 1 by decide, m_next (M := up2 M 205 0 (-1 + 1)) hW.1 (by constructor <;> rw [ti_m1] <;> decide)]
  exact ⟨_, rfl, rfl⟩
theorem q_next (hL : LR C 3 (M 206)) (hW : WOk n (M 206)) : ∃ r, F_X11_next C = some r ∧ F_X12_next M = some (r, M0 M) := by
  have hW0 : DOk n (M0 M 206) := hW.1
  have ha := hW.2.2.2.1
  unfold F_X11_next F_X12_next
  rw [cl_earl hL.D hW.1, hL.1.2.2.1, m_next (M := M0 M) hW0 ⟨by have := ha.1; omega, ha.2⟩]
  exact ⟨_, rfl, rfl⟩
theorem q_warlike (hL : LR C 3 (M 206)) (hW : WOk n (M 206)) : ∃ r, F_X11_warlike C = some r ∧ F_X12_warlike M = some (r, M0 M) := by
  have hD := hL.D
  have hn := hW.1.2.1
  have hW0 : DOk n (M0 M 206) := hW.1
  unfold F_X11_warlike F_X12_warlike
  rw [cl_firstIn hD hW.1, hL.1.2.2.2.2.2.2.2.1, hL.1.2.2.2.2.2.2.2.2.1]
  refine ⟨_, rfl, ?_⟩
  unfold bits
  refine lp_rule (fun s i => L_X12_warlike_9 (M0 M) s i) n (by omega) _ (fun s => (s, M0 M)) (fun s => ?_) (fun i s hi => ?_) n 0 (0 : Int32) (by omega)
  · rw [L_X12_warlike_9]
    unfold F_X12_dishes
    simp only [Option.bind_eq_bind, Option.bind_some]
    rw [hW0.1, if_pos (Int32.le_refl _)]
  · try simp only
    rw [L_X12_warlike_9]
    unfold F_X12_dishes F_X12_isInWar F_X12_in
    rw [m_isNew (by omega), m_fst (by omega)]
    simp only [Option.bind_eq_bind, Option.bind_some]
    rw [hW0.1, if_neg (by rw [ofn_le (by omega) (by omega)]; omega), show M0 M 206 = M 206 from rfl]
    by_cases h1 : M 206 (22 + 8 * i) = -1
    · simp [h1]
    · by_cases h2 : M 206 (22 + 8 * i) < M 206 9
      · simp [h1, h2]
      · by_cases h3 : M 206 10 < M 206 (22 + 8 * i)
        · simp [h1, h2, h3]
        · simp [h1, h2, h3, bitN]
end
