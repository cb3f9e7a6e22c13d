section
variable {C C' M M' X X' : HI} {vs : Nat → Nat} {T b b' l x n k i m h : Nat} {S D cs : List Nat} {q a e : Nat → Nat} {W W' : Nat → Int32} {aa : Nat}
theorem WSt.tk (h : WSt C X T vs b n q a e D) {b' : Nat} (hb : b' ≤ T) (hle : b ≤ b') : WSt (ctk C 146 T vs b') X T vs b' n q a e D := by
  obtain ⟨h1, h2, h3, h4, h5, h6, h7, h8, h9⟩ := h
  have f : ∀ y, y ≠ 146 → ctk C 146 T vs b' y = C y := fun y q => ctk_ne q
  refine ⟨h1.tk (by decide) _, ctk_TK hb, h3, ?_, h5, ?_, h7, by omega, fun j hj => ?_⟩
  · rw [f 148 (by decide), f 152 (by decide)]; exact h4
  · rw [f 148 (by decide)]; exact h6
  · rw [f 149 (by decide), f 150 (by decide), f 151 (by decide)]; exact h9 j hj
/-- all lines of a law -/
theorem lw_all (hT : T ≤ 400) : ∀ r n (C X : HI) (p c b : Nat) (q a e : Nat → Nat) (D : List Nat), n + r = 13 → n ≤ 12 → p ≤ T → skb vs T p = b → WSt C X T vs b n q a e D → (∃ C' X' b' n' q' a' e' D', L_X10_firstWrong_c5_40 12 (Int32.ofNat n) C = some (-1, C') ∧ L_X12_readAll_28 0 (Int32.ofNat n) (mp X p c) = some (Int32.ofNat n', mp X' b' b') ∧ n' ≤ 12 ∧ WSt C' X' T vs b' n' q' a' e' D' ∧ frW C C' ∧ frV X X') ∨ (∃ C' X' p' f, L_X10_firstWrong_c5_40 12 (Int32.ofNat n) C = some (Int32.ofNat f, C') ∧ L_X12_readAll_28 0 (Int32.ofNat n) (mp X p c) = some (-1, mp X' p' f) ∧ f ≤ T ∧ frW C C' ∧ frV X X') := by
  intro r
  induction r with
  | zero => intro n C X p c b q a e D hr hn; have : n = 13 := hr; omega
  | succ r ih =>
    intro n C X p c b q a e D hr hn hp hpb h
    obtain ⟨h1, h2, h3, h4, h5, h6, h7, h8, h9⟩ := id h
    have hb := h2.2.2.2
    have e1 := m_letters (h3.mp p c) (mp_10 _ _ _) hp
    rw [hpb, mp_mp] at e1
    by_cases h12 : n = 12
    · right
      have e2 : F_X12_readLine (mp X p c) 0 (Int32.ofNat n) = some (0, mp X (rk vs T 1 b) b) := by
        unfold F_X12_readLine
        simp only [Option.bind_eq_bind]
        rw [e1, Option.bind_some, if_pos trivial, if_pos (by rw [show (12 : Int32) = Int32.ofNat 12 from rfl, ofn_le (by omega) (by omega)]; omega)]
      refine ⟨C, X, rk vs T 1 b, b, ?_, ?_, hb, frW.refl _, frV.refl _⟩
      · rw [L_X10_firstWrong_c5_40, if_pos (by rw [show (12 : Int32) = Int32.ofNat 12 from rfl, ofn_le (by omega) (by omega)]; omega), h2.1]
      · rw [L_X12_readAll_28, e2, Option.bind_eq_bind, Option.bind_some, if_pos rfl]
    · have hlt12 : n < 12 := by omega
      rw [L_X10_firstWrong_c5_40, L_X12_readAll_28]
      unfold F_X12_readLine
      simp only [Option.bind_eq_bind]
      rw [if_neg (show ¬ (12 : Int32) ≤ Int32.ofNat n by rw [show (12 : Int32) = Int32.ofNat 12 from rfl, ofn_le (by omega) (by omega)]; omega), e1, Option.bind_some, if_pos trivial, if_neg (show ¬ (12 : Int32) ≤ Int32.ofNat n by rw [show (12 : Int32) = Int32.ofNat 12 from rfl, ofn_le (by omega) (by omega)]; omega)]
      rcases lw_line hT h hlt12 with ⟨C', X', p', c', b', q', a', e', D', f1, f2, f3, f4, f5, f6, f7⟩ | ⟨C', X', p', f, f1, f2, f3, f4, f5, f6⟩
      · obtain ⟨g1, g2, g3, -, -, -, -, -, -⟩ := id f5
        have hb' := g2.2.2.2
        have hkd := kd_le (vs := vs) (T := T) b'
        have e3 := m_blanks (g3.mp p' c') (mp_10 _ _ _) f3
        rw [f4, mp_mp] at e3
        rw [f1, f2, Option.bind_some, Option.bind_some, if_neg (show ¬ (1 : Int32) = 0 by decide), if_neg (show ¬ (1 : Int32) = 0 by decide), Option.bind_some, if_neg (show ¬ (1 : Int32) = 0 by decide)]
        rw [e3, Option.bind_some]
        have m10 : mp X' b' b' 205 10 = Int32.ofNat b' := mp_10 _ _ _
        have m11 : mp X' b' b' 205 11 = Int32.ofNat T := by rw [mp_k _ _ _ (by decide), g3.1]
        by_cases z : b' = T
        · left
          rw [if_pos (show C' 146 2 = 0 by rw [g2.2.1, kd_0.mpr (by omega)]; rfl), if_pos (show mp X' b' b' 205 10 = mp X' b' b' 205 11 by rw [m10, m11, z]), ofn_succ]
          exact ⟨C', X', b', n + 1, q', a', e', D', rfl, rfl, by omega, f5, f6, f7⟩
        · rw [if_neg (show ¬ C' 146 2 = 0 by rw [g2.2.1, show (0 : Int32) = Int32.ofNat 0 from rfl, ofn_eq (by omega) (by omega), kd_0]; omega), if_neg (show ¬ mp X' b' b' 205 10 = mp X' b' b' 205 11 by rw [m10, m11, ofn_eq (by omega) (by omega)]; exact z)]
          have e4 := cl_sign g1 (c := 59) g2 (by omega)
          have e4' : F_X10_isSign C' 146 59 = _ := e4
          have e5 := m_isAt (g3.mp b' b') (lo := 59) (hi := 59) (mp_10 _ _ _) hb' (by omega) (by omega)
          have e5' : F_X12_isAt (mp X' b' b') 59 59 = _ := e5
          have eq : (decide (b' < T ∧ 59 ≤ vs b' ∧ vs b' ≤ 59)) = sg vs T b' 59 := by
            unfold sg
            congr 1
            apply propext
            constructor
            · intro w
              refine ⟨?_, by omega⟩
              unfold kd
              rw [if_neg (by omega), if_neg (by omega), if_neg (by omega)]
            · intro w
              have : ¬ T ≤ b' := fun y => by have := kd_0 (vs := vs).mpr y; omega
              omega
          rw [eq] at e5'
          rw [e4', e5', Option.bind_some, Option.bind_some]
          by_cases y : sg vs T b' 59 = true
          · have k3 : kd vs T b' = 3 := (sg_3 y).1
            have hn1 := nx_spec (vs := vs) hb'
            rw [bi_t y, if_neg (show ¬ (1 : Int32) = 0 by decide), if_neg (show ¬ (1 : Int32) = 0 by decide), cl_advTK g1 (by decide) g2, Option.bind_some, m10, ofn_succ, ofn_succ, mp_up10]
            rcases ih (n + 1) (ctk C' 146 T vs (nx vs T b')) X' (b' + 1) b' (nx vs T b') q' a' e' D' (by omega) (by omega) (by omega) (by unfold nx; rw [tnd_3 k3]) (f5.tk hn1.2.1 hn1.1) with ⟨C2, X2, b2, n2, q2, a2, e2, D2, j1, j2, j3, j4, j5, j6⟩ | ⟨C2, X2, p2, f, j1, j2, j3, j4, j5⟩
            · left; exact ⟨C2, X2, b2, n2, q2, a2, e2, D2, j1, j2, j3, j4, (f6.trans frW_tk).trans j5, f7.trans j6⟩
            · right; exact ⟨C2, X2, p2, f, j1, j2, j3, (f6.trans frW_tk).trans j4, f7.trans j5⟩
          · right
            rw [bi_f y, if_pos rfl, if_pos rfl]
            dsimp only
            rw [g2.1]
            exact ⟨C', X', b', b', rfl, rfl, hb', f6, f7⟩
      · right
        rw [f1, f2, Option.bind_some, Option.bind_some, if_pos rfl, if_pos rfl, Option.bind_some, if_pos rfl]
        dsimp only
        rw [f4]
        exact ⟨C', X', p', f, rfl, rfl, f3, f5, f6⟩
/-! what GR reads of the world -/
theorem LR.congrW2 (h : LR C aa W) (hw : ∀ k, k < 113 → k ≠ 15 → k ≠ 2 → W' k = W k) : LR C aa W' := by
  obtain ⟨⟨h1, h2, h3, h4, h5, h6, h7, h8, h9, h10, h11, h12, h13, h14⟩, h15, h16⟩ := h
  refine ⟨⟨?_, ?_, ?_, ?_, ?_, ?_, ?_, ?_, ?_, ?_, ?_, ?_, ?_, ?_⟩, ?_, fun d hd => ⟨fun k hk => ?_, ?_, ?_, ?_⟩⟩
  all_goals first | rw [hw _ (by omega) (by omega) (by omega)] | skip
  · exact h1
  · exact h2
  · exact h3
  · exact h4
  · exact h5
  · exact h6
  · exact h7
  · exact h8
  · exact h9
  · exact h10
  · exact h11
  · exact h12
  · exact h13
  · exact h14
  · exact h15
  · exact (h16 d hd).1 k hk
  · exact (h16 d hd).2.1
  · exact (h16 d hd).2.2.1
  · exact (h16 d hd).2.2.2
theorem WOk.congr2 (h : WOk n W) (hw : ∀ k, k < 113 → k ≠ 2 → W' k = W k) : WOk n W' := by
  obtain ⟨⟨d1, d2, d3⟩, w1, w3, w4, w5, w7, w8, w9, w10, w11, w12, w13, w14, w15⟩ := h
  refine ⟨⟨?_, d2, fun e he => ⟨fun k hk => ?_, ?_, ?_, ?_⟩⟩, ?_, ?_, ?_, ?_, ?_, ?_, ?_, ?_, ?_, ?_, ?_, ?_, ?_⟩
  all_goals first | rw [hw _ (by omega) (by omega)] | skip
  · exact d1
  · exact (d3 e he).1 k hk
  · exact (d3 e he).2.1
  · exact (d3 e he).2.2.1
  · exact (d3 e he).2.2.2
  · exact w1
  · exact w3
  · exact w4
  · exact w5
  · exact w7
  · exact w8
  · exact w9
  · exact w10
  · exact w11
  · exact w12
  · exact w13
  · exact w14
  · exact w15
theorem GR.flt2 (h : GR C M n) {v : Int32} (hc : ∀ b, b < 130 → b ≠ 14 → b ≠ 1 → C' b = C b) (hc1 : ∀ k, k ≠ 2 → C' 1 k = C 1 k) (hc2 : C' 1 2 = v) (hw : ∀ k, k < 1202 → M' 206 k = M 206 k) (hm : ∀ b, b = 207 ∨ b = 210 ∨ b = 211 → M' b = M b) (h5 : ∀ k, k = 6 ∨ k = 7 ∨ k = 9 → M' 205 k = M 205 k) (h14 : M' 205 14 = v) : GR C' M' n := by
  obtain ⟨⟨g1, g2, g3, g4⟩, g5, g6, g7, g8⟩ := h
  refine ⟨⟨?_, ?_, ?_, ?_⟩, ?_, ?_, ?_, ?_⟩
  · exact (g1.congr (fun j hj => hc _ (by omega) (by omega) (by omega))).congrW2 (fun k q1 _ _ => hw k (by omega))
  · exact g2.congr2 (fun k q1 _ => hw k (by omega))
  · exact (g3.congr (hc _ (by omega) (by omega) (by omega)) (hc _ (by omega) (by omega) (by omega))).congrW (hw 15 (by omega)) (fun k _ q2 => hw k (by omega))
  · exact g4.congr (fun j hj => hc _ (by omega) (by omega) (by omega)) (hw 2 (by omega)) (fun k _ q2 => hw k q2)
  · exact g5.congr (fun b hb => hc b (by omega) (by omega) (by omega)) (h5 7 (by omega)) (hm 210 (by omega)) (hw 2 (by omega))
  · exact g6.congr (fun b h1 h2 => hc b (by omega) (by omega) (by omega)) (hc1 10 (by omega)) (h5 6 (by omega)) (hm 207 (by omega))
  · exact g7.congr (hc1 1 (by omega)) (hc 2 (by omega) (by omega) (by omega)) (h5 9 (by omega)) (hm 211 (by omega))
  · rw [hc2, h14]
/-- the law is laid down -/
def lwC (M : HI) (i : Nat) : HI := up1 M 206 (fun z => if 353 ≤ z ∧ z < 353 + i then M 206 (z + 849) else M 206 z)
theorem m_law52 (x : Int32) (M : HI) : L_X12_law_52 x 0 M = some (x, up2 (up2 (lwC M 849) 206 2 1) 205 7 0) := by
  have key : ∀ r i, i + r = 849 → L_X12_law_52 x (Int32.ofNat i) (lwC M i) = some (x, up2 (up2 (lwC M 849) 206 2 1) 205 7 0) := by
    intro r
    induction r with
    | zero =>
      intro i hi
      rw [L_X12_law_52, show i = 849 by omega, if_pos (by decide)]
    | succ r ih =>
      intro i hi
      have e1 : (1202 : Int32) + Int32.ofNat i = Int32.ofNat (1202 + i) := by rw [Int32.ofNat_add]; rfl
      have e2 : (353 : Int32) + Int32.ofNat i = Int32.ofNat (353 + i) := by rw [Int32.ofNat_add]; rfl
      rw [L_X12_law_52, if_neg (by rw [show (849 : Int32) = Int32.ofNat 849 from rfl, ofn_le (by omega) (by omega)]; omega), e1, e2, ald_ofn (by omega) (by omega), Option.bind_eq_bind, Option.bind_some, if_pos (inB_ofn (by omega) (by omega)), ofn_clamp (by omega), ofn_succ]
      have ex : up2 (lwC M i) 206 (353 + i) (lwC M i 206 (1202 + i)) = lwC M (i + 1) := by
        funext y j
        by_cases z : y = 206
        · subst z
          have l : ∀ i, lwC M i 206 = fun z => if 353 ≤ z ∧ z < 353 + i then M 206 (z + 849) else M 206 z := fun i => by unfold lwC; rw [up1_get, if_pos rfl]
          rw [up206g0, l, l]
          dsimp only
          by_cases u : j = 353 + i
          · rw [if_pos u, if_neg (by omega), if_pos (by omega), u]; congr 1; omega
          · rw [if_neg u]
            by_cases u2 : 353 ≤ j ∧ j < 353 + i
            · rw [if_pos u2, if_pos (by omega)]
            · rw [if_neg u2, if_neg (by omega)]
        · rw [up2_ne _ _ _ z]
          unfold lwC
          rw [up1_get, up1_get, if_neg z, if_neg z]
      rw [ex]
      exact ih (i + 1) (by omega)
  have e0 : lwC M 0 = M := by
    funext y j
    unfold lwC
    rw [up1_get]
    by_cases z : y = 206
    · subst z
      rw [if_pos rfl]
      show (if _ then _ else _) = _
      rw [if_neg (by omega)]
    · rw [if_neg z]
  have := key 849 0 (by omega)
  rw [e0] at this
  exact this
end
