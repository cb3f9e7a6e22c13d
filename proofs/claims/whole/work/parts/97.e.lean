section
variable {C C' M M' X X' : HI} {a T n d b : Nat} {vs : Nat → Nat} {W W' : Nat → Int32}
theorem lfO_01 {F1 F2 : Option (Int32 × HI)} (h : lfO F1 F2 C X T vs) : lfO F1 (F2.bind fun r => if r.1 = 0 ∨ r.1 = 1 then some (r.1, r.2) else none) C X T vs := by
  rcases h with ⟨C', X', p', c', b', n', h1, h2, h3⟩ | ⟨C', X', p', f, h1, h2, h3⟩
  · left; exact ⟨C', X', p', c', b', n', h1, by rw [h2, Option.bind_some, if_pos (Or.inr rfl)], h3⟩
  · right; exact ⟨C', X', p', f, h1, by rw [h2, Option.bind_some, if_pos (Or.inl rfl)], h3⟩
theorem lfO_0 {F1 F2 : Option (Int32 × HI)} (h : lfO F1 F2 C X T vs) : lfO F1 (F2.bind fun r => if r.1 = 0 then some ((0 : Int32), r.2) else some ((1 : Int32), r.2)) C X T vs := by
  rcases h with ⟨C', X', p', c', b', n', h1, h2, h3⟩ | ⟨C', X', p', f, h1, h2, h3⟩
  · left; exact ⟨C', X', p', c', b', n', h1, by rw [h2, Option.bind_some, if_neg (show ¬ (1 : Int32) = 0 by decide)], h3⟩
  · right; exact ⟨C', X', p', f, h1, by rw [h2, Option.bind_some, if_pos rfl], h3⟩
theorem lfO_c01 {F1 F2 : Option (Int32 × HI)} (h : lfO F1 F2 C X T vs) : lfO (F1.bind fun r => if r.1 = 0 ∨ r.1 = 1 then some (r.1, r.2) else none) F2 C X T vs := by
  rcases h with ⟨C', X', p', c', b', n', h1, h2, h3⟩ | ⟨C', X', p', f, h1, h2, h3⟩
  · left; exact ⟨C', X', p', c', b', n', by rw [h1, Option.bind_some, if_pos (Or.inr rfl)], h2, h3⟩
  · right; exact ⟨C', X', p', f, by rw [h1, Option.bind_some, if_pos (Or.inl rfl)], h2, h3⟩
theorem lf_line (h : LSt C X T vs b n) : lfO (F_X6_readLine C) (F_X12_readLifeLine (mp X (rk vs T 1 b) b)) C X T vs := by
  obtain ⟨h1, h2, h3, h4, h5⟩ := id h
  have hb := h.tk
  have n01 : ¬ (1 : Int32) = 0 := by decide
  unfold F_X6_readLine F_X12_readLifeLine
  simp only [Option.bind_eq_bind]
  rw [cl_word h1 h2 W39, Option.bind_some, m_word h3 hb W54, Option.bind_some]
  by_cases q1 : wd vs T b w_dish = true
  · rw [bi_t q1, if_neg n01, if_neg n01]
    exact lfO_01 (lf_dish h (wd_1 q1))
  rw [bi_f q1, if_pos rfl, if_pos rfl, cl_word h1 h2 W40, Option.bind_some, m_word h3 hb W55, Option.bind_some]
  by_cases q2 : wd vs T b w_war = true
  · rw [bi_t q2, if_neg n01, wd_no q2 (by decide), if_pos rfl, m_word h3 hb W56, Option.bind_some, bi_t q2, if_neg n01]
    exact lfO_01 (lfO_c01 (lf_war h (wd_1 q2)))
  rw [bi_f q2, if_pos rfl, cl_word h1 h2 W41, Option.bind_some]
  by_cases q3 : wd vs T b w_today = true
  · rw [bi_t q3, if_neg n01, if_neg n01]
    exact lfO_01 (lf_today h (wd_1 q3))
  rw [bi_f q3, if_pos rfl, if_pos rfl, cl_word h1 h2 W42, Option.bind_some, m_word h3 hb W56, Option.bind_some, bi_f q2, if_pos rfl, m_word h3 hb W57, Option.bind_some]
  by_cases q4 : wd vs T b w_reach = true
  · rw [bi_t q4, if_neg n01, if_neg n01]
    exact lfO_01 (lf_num (ci := 7) (wi := 8) (hi := 45) h (wd_1 q4) (by omega) (by omega) (fun v hv => Or.inr (Or.inr (Or.inr (Or.inl ⟨rfl, rg_ofn (by omega) (by omega)⟩)))))
  rw [bi_f q4, if_pos rfl, if_pos rfl, cl_word h1 h2 W43, Option.bind_some, m_word h3 hb W58, Option.bind_some]
  by_cases q5 : wd vs T b w_slip = true
  · rw [bi_t q5, if_neg n01, if_neg n01]
    exact lfO_01 (lf_num (ci := 10) (wi := 11) (hi := 100) h (wd_1 q5) (by omega) (by omega) (fun v hv => Or.inr (Or.inr (Or.inr (Or.inr (Or.inr (Or.inr (Or.inl ⟨rfl, rg_ofn (by omega) (by omega)⟩))))))))
  rw [bi_f q5, if_pos rfl, if_pos rfl, cl_word h1 h2 W44, Option.bind_some, m_word h3 hb W59, Option.bind_some]
  by_cases q6 : wd vs T b w_house = true
  · rw [bi_t q6, if_neg n01, if_neg n01]
    exact lfO_01 (lf_num (ci := 11) (wi := 12) (hi := 7) h (wd_1 q6) (by omega) (by omega) (fun v hv => Or.inr (Or.inr (Or.inr (Or.inr (Or.inr (Or.inr (Or.inr (Or.inl ⟨rfl, rg_ofn (by omega) (by omega)⟩)))))))))
  rw [bi_f q6, if_pos rfl, if_pos rfl, cl_word h1 h2 W45, Option.bind_some, m_word h3 hb W60, Option.bind_some]
  by_cases q7 : wd vs T b w_wage = true
  · rw [bi_t q7, if_neg n01, if_neg n01]
    exact lfO_0 (lf_num (ci := 12) (wi := 13) (hi := 50) h (wd_1 q7) (by omega) (by omega) (fun v hv => Or.inr (Or.inr (Or.inr (Or.inr (Or.inr (Or.inr (Or.inr (Or.inr ⟨rfl, rg_ofn (by omega) (by omega)⟩)))))))))
  rw [bi_f q7, if_pos rfl, if_pos rfl]
  right
  exact ⟨C, X, _, _, rfl, rfl, hb, h2.1, frL.refl _, frX.refl _⟩
/-- all lines of a life -/
theorem lf_all : ∀ r ln (C X : HI) (p c b n : Nat), ln + r = 15 → p ≤ T → skb vs T p = b → LSt C X T vs b n → (∃ C' X' b' n' m, L_X10_firstWrong_c6_40 14 (Int32.ofNat ln) C = some (-1, C') ∧ L_X12_readAll_28 1 (Int32.ofNat ln) (mp X p c) = some (Int32.ofNat m, mp X' b' b') ∧ m ≤ 15 ∧ LSt C' X' T vs b' n' ∧ frL C C' ∧ frX X X') ∨ (∃ C' X' p' f, L_X10_firstWrong_c6_40 14 (Int32.ofNat ln) C = some (Int32.ofNat f, C') ∧ L_X12_readAll_28 1 (Int32.ofNat ln) (mp X p c) = some (-1, mp X' p' f) ∧ f ≤ T ∧ frL C C' ∧ frX X X') := by
  intro r
  induction r with
  | zero =>
    intro ln C X p c b n hr hp hpb h
    have hr0 : ln = 15 := hr
    right
    obtain ⟨h1, h2, h3, h4, h5⟩ := id h
    have e1 := m_letters (h3.mp p c) (mp_10 _ _ _) hp
    rw [hpb, mp_mp] at e1
    have e2 : F_X12_readLine (mp X p c) 1 (Int32.ofNat ln) = some (0, mp X (rk vs T 1 b) b) := by
      unfold F_X12_readLine
      simp only [Option.bind_eq_bind]
      rw [e1, Option.bind_some, if_neg (by decide), if_pos (by rw [show (14 : Int32) = Int32.ofNat 14 from rfl, ofn_le (by omega) (by omega)]; omega)]
    refine ⟨C, X, rk vs T 1 b, b, ?_, ?_, h.tk, frL.refl _, frX.refl _⟩
    · rw [L_X10_firstWrong_c6_40, if_pos (by rw [show (14 : Int32) = Int32.ofNat 14 from rfl, ofn_le (by omega) (by omega)]; omega), h2.1]
    · rw [L_X12_readAll_28, e2, Option.bind_eq_bind, Option.bind_some, if_pos rfl]
  | succ r ih =>
    intro ln C X p c b n hr hp hpb h
    obtain ⟨h1, h2, h3, h4, h5⟩ := id h
    have hT := h1.2.1
    have e1 := m_letters (h3.mp p c) (mp_10 _ _ _) hp
    rw [hpb, mp_mp] at e1
    by_cases h14 : ln = 14
    · right
      have e2 : F_X12_readLine (mp X p c) 1 (Int32.ofNat ln) = some (0, mp X (rk vs T 1 b) b) := by
        unfold F_X12_readLine
        simp only [Option.bind_eq_bind]
        rw [e1, Option.bind_some, if_neg (by decide), if_pos (by rw [show (14 : Int32) = Int32.ofNat 14 from rfl, ofn_le (by omega) (by omega)]; omega)]
      refine ⟨C, X, rk vs T 1 b, b, ?_, ?_, h.tk, frL.refl _, frX.refl _⟩
      · rw [L_X10_firstWrong_c6_40, if_pos (by rw [show (14 : Int32) = Int32.ofNat 14 from rfl, ofn_le (by omega) (by omega)]; omega), h2.1]
      · rw [L_X12_readAll_28, e2, Option.bind_eq_bind, Option.bind_some, if_pos rfl]
    · rw [L_X10_firstWrong_c6_40, L_X12_readAll_28]
      unfold F_X12_readLine
      simp only [Option.bind_eq_bind]
      rw [if_neg (show ¬ (14 : Int32) ≤ Int32.ofNat ln by rw [show (14 : Int32) = Int32.ofNat 14 from rfl, ofn_le (by omega) (by omega)]; omega), e1, Option.bind_some, if_neg (show ¬ (1 : Int32) = 0 by decide), if_neg (show ¬ (14 : Int32) ≤ Int32.ofNat ln by rw [show (14 : Int32) = Int32.ofNat 14 from rfl, ofn_le (by omega) (by omega)]; omega)]
      rcases lf_line h with ⟨C', X', p', c', b', n', f1, f2, f3, f4, f5, f6, f7⟩ | ⟨C', X', p', f, f1, f2, f3, f4, f5, f6⟩
      · obtain ⟨g1, g2, g3, g4, g5⟩ := id f5
        have hb' := f5.tk
        have hkd := kd_le (vs := vs) (T := T) b'
        have e3 := m_blanks (g3.mp p' c') (mp_10 _ _ _) f3
        rw [f4, mp_mp] at e3
        rw [f1, f2, Option.bind_some, Option.bind_some, if_neg (show ¬ (1 : Int32) = 0 by decide), if_neg (show ¬ (1 : Int32) = 0 by decide), Option.bind_some, if_neg (show ¬ (1 : Int32) = 0 by decide)]
        rw [e3, Option.bind_some]
        have m10 : mp X' b' b' 205 10 = Int32.ofNat b' := mp_10 _ _ _
        have m11 : mp X' b' b' 205 11 = Int32.ofNat T := by rw [mp_k _ _ _ (by decide), g3.1]
        by_cases q : b' = T
        · left
          rw [if_pos (show C' 138 2 = 0 by rw [g2.2.1, kd_0.mpr (by omega)]; rfl), if_pos (show mp X' b' b' 205 10 = mp X' b' b' 205 11 by rw [m10, m11, q]), ofn_succ]
          exact ⟨C', X', b', n', ln + 1, rfl, rfl, by omega, f5, f6, f7⟩
        · rw [if_neg (show ¬ C' 138 2 = 0 by rw [g2.2.1, show (0 : Int32) = Int32.ofNat 0 from rfl, ofn_eq (by omega) (by omega), kd_0]; omega), if_neg (show ¬ mp X' b' b' 205 10 = mp X' b' b' 205 11 by rw [m10, m11, ofn_eq (by omega) (by omega)]; exact q)]
          have e4 := cl_sign g1 (c := 59) g2 (by omega)
          have e4' : F_X10_isSign C' 138 59 = _ := e4
          have e5 := m_isAt (g3.mp b' b') (lo := 59) (hi := 59) (mp_10 _ _ _) hb' (by omega) (by omega)
          have e5' : F_X12_isAt (mp X' b' b') 59 59 = _ := e5
          have eq : (decide (b' < T ∧ 59 ≤ vs b' ∧ vs b' ≤ 59)) = sg vs T b' 59 := by
            unfold sg
            congr 1
            apply propext
            constructor
            · intro w
              refine ⟨?_, by omega⟩
              unfold kd
              rw [if_neg (by omega), if_neg (by omega), if_neg (by omega)]
            · intro w
              have : ¬ T ≤ b' := fun y => by have := kd_0 (vs := vs).mpr y; omega
              omega
          rw [eq] at e5'
          rw [e4', e5', Option.bind_some, Option.bind_some]
          by_cases y : sg vs T b' 59 = true
          · have k3 : kd vs T b' = 3 := by unfold sg at y; simp only [decide_eq_true_eq] at y; exact y.1
            have hn1 := nx_spec (vs := vs) hb'
            rw [bi_t y, if_neg (show ¬ (1 : Int32) = 0 by decide), if_neg (show ¬ (1 : Int32) = 0 by decide), cl_advTK g1 (by decide) g2, Option.bind_some, m10, ofn_succ, ofn_succ, mp_up10]
            rcases ih (ln + 1) (ctk C' 138 T vs (nx vs T b')) X' (b' + 1) b' (nx vs T b') n' (by omega) (by omega) (by unfold nx; rw [tnd_3 k3]) ⟨g1.tk (by decide) _, ctk_TK hn1.2.1, g3, LR_tk g4, g5⟩ with ⟨C2, X2, b2, n2, m, j1, j2, j3, j4, j5, j6⟩ | ⟨C2, X2, p2, f, j1, j2, j3, j4, j5⟩
            · left; exact ⟨C2, X2, b2, n2, m, j1, j2, j3, j4, (f6.trans frL_tk).trans j5, f7.trans j6⟩
            · right; exact ⟨C2, X2, p2, f, j1, j2, j3, (f6.trans frL_tk).trans j4, f7.trans j5⟩
          · right
            rw [bi_f y, if_pos rfl, if_pos rfl]
            dsimp only
            rw [g2.1]
            exact ⟨C', X', b', b', rfl, rfl, hb', f6, f7⟩
      · right
        rw [f1, f2, Option.bind_some, Option.bind_some, if_pos rfl, if_pos rfl, Option.bind_some, if_pos rfl]
        dsimp only
        rw [f4]
        exact ⟨C', X', p', f, rfl, rfl, f3, f5, f6⟩
end
