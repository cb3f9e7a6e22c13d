section
variable {C C' M M' X X' : HI} {a T n d b : Nat} {vs : Nat → Nat} {W W' : Nat → Int32}
theorem len_T {T : Nat} (hT : T ≤ 400) : (if (0 : Int32) < (if (400 : Int32) < Int32.ofNat T then (400 : Int32) else Int32.ofNat T) then (if (400 : Int32) < Int32.ofNat T then (400 : Int32) else Int32.ofNat T) else (0 : Int32)) = Int32.ofNat T := by
  rw [if_neg (show ¬ (400 : Int32) < Int32.ofNat T by rw [show (400 : Int32) = Int32.ofNat 400 from rfl, ofn_lt (by omega) (by omega)]; omega)]
  by_cases q : T = 0
  · subst q; rfl
  · rw [if_pos (by rw [show (0 : Int32) = Int32.ofNat 0 from rfl, ofn_lt (by omega) (by omega)]; omega)]
theorem s_life (h : GR C M n) : ∃ r C' b M', F_X11_life C = some (r, C') ∧ F_X12_life M = some (b, M') ∧ Qs ["java/lang/IllegalArgumentException", "java/lang/UnsupportedOperationException"] r b M' ∧ (∃ n', GR C' M' n') ∧ fcl C C' ∧ fmo M M' := by
  obtain ⟨C1, c1, c2, c3⟩ := cl_copyL (C := C) (a := 140) (b := 3) (fun i j _ _ => by omega)
  rw [m_life0]
  obtain ⟨M1, hM1⟩ : ∃ M1, cpR M 208 0 206 0 1202 = M1 := ⟨_, rfl⟩
  have m1 : ∀ b, b ≠ 208 → M1 b = M b := fun b hb => by rw [← hM1]; exact cpR_ne _ hb
  have hG1 : GR C1 M1 n := h.congr (fun b q1 _ => c3 b (fun j hj => by omega)) (fun b _ _ q3 _ => m1 b q3) (fun k _ => by rw [m1 205 (by decide)])
  obtain ⟨T, hT, u1, u2, u3, u4, u5, u6, u7, u8, u9⟩ := use_sim hG1
  have hbv : ∀ i, ∃ v, i < T → v < 256 ∧ ct C1 2 i = Int32.ofNat v ∧ us M1 211 i = byI v := fun i => by
    by_cases q : i < T
    · obtain ⟨v, v1, v2, v3⟩ := u7 i q; exact ⟨v, fun _ => ⟨v1, v2, v3⟩⟩
    · exact ⟨0, fun w => absurd w q⟩
  obtain ⟨vs, hvs⟩ := Classical.axiomOfChoice hbv
  have ct3 : ∀ x, x ≠ 1 → ct C1 x = C1 x := fun x hx => up2_ne _ _ _ hx
  have us6 : us M1 206 = M 206 := by rw [us_ne _ (by decide), m1 206 (by decide)]
  -- the class's beginning
  obtain ⟨C2, hC2⟩ : ∃ C2, up2 (up2 (ct C1) 138 1 (Int32.ofNat T)) 138 4 0 = C2 := ⟨_, rfl⟩
  have f2 : ∀ x, x ≠ 138 → C2 x = ct C1 x := fun x hx => by rw [← hC2, up2_ne _ _ _ hx, up2_ne _ _ _ hx]
  have tc2 : TC C2 138 T vs := ⟨by rw [← hC2]; rfl, hT, fun i hi => ⟨(hvs i hi).1, by rw [f2 2 (by decide)]; exact (hvs i hi).2.1⟩⟩
  have ea := cl_adv tc2 (by decide) (p := 0) (by rw [← hC2]; rfl) (by omega)
  have hb0 := (skb_spec (vs := vs) (show 0 ≤ T by omega)).2.1
  have hs0 := skb_skb (vs := vs) (show 0 ≤ T by omega)
  -- the reference's beginning
  obtain ⟨X0, hX0⟩ : ∃ X0, up2 (us M1) 205 16 (0 : Int32) = X0 := ⟨_, rfl⟩
  have x0 : ∀ x, x ≠ 205 → X0 x = us M1 x := fun x hx => by rw [← hX0, up2_ne _ _ _ hx]
  have x5 : ∀ k, k ≠ 16 → X0 205 k = us M1 205 k := fun k hk => by rw [← hX0, up2_get, if_neg (fun q => hk q.2)]
  have tm0 : TM X0 T vs := ⟨by rw [x5 11 (by decide)]; exact u4, hT, fun i hi => ⟨(hvs i hi).1, by rw [x0 211 (by decide)]; exact (hvs i hi).2.2⟩⟩
  have eb := m_blanks tm0 (p := 0) (by rw [x5 10 (by decide)]; exact u6) (by omega)
  have ls0 : LSt (ctk C2 138 T vs (skb vs T 0)) X0 T vs (skb vs T 0) n := by
    refine ⟨tc2.tk (by decide) _, ctk_TK hb0, tm0, ?_, ?_⟩
    · rw [x0 206 (by decide), us6]
      exact LR_tk ((c2 _ h.1.1).congr (fun j hj => by rw [f2 _ (by omega), ct3 _ (by omega)]))
    · rw [x0 206 (by decide), us6]; exact h.1.2.1
  have key : (∃ C' X' b' n' m, F_X10_firstWrong_c6 (ct C1) (Int32.ofNat T) 14 = some (-1, C') ∧ F_X12_readAll M1 1 = some (Int32.ofNat m, mp X' b' b') ∧ m ≤ 15 ∧ LSt C' X' T vs b' n' ∧ frL (ctk C2 138 T vs (skb vs T 0)) C' ∧ frX X0 X') ∨ (∃ C' X' p' f, F_X10_firstWrong_c6 (ct C1) (Int32.ofNat T) 14 = some (Int32.ofNat f, C') ∧ F_X12_readAll M1 1 = some (-1, mp X' p' f) ∧ f ≤ T ∧ frL (ctk C2 138 T vs (skb vs T 0)) C' ∧ frX X0 X') := by
    unfold F_X10_firstWrong_c6 F_X12_readAll
    simp only [Option.bind_eq_bind]
    rw [len_T hT, hC2, ea, Option.bind_some, u2, Option.bind_some, hX0, eb, Option.bind_some]
    have k0 : ctk C2 138 T vs (skb vs T 0) 138 2 = Int32.ofNat (kd vs T (skb vs T 0)) := (ctk_TK hb0).2.1
    have hkd := kd_le (vs := vs) (T := T) (skb vs T 0)
    have m10 : mp X0 (skb vs T 0) (skb vs T 0) 205 10 = Int32.ofNat (skb vs T 0) := mp_10 _ _ _
    have m11 : mp X0 (skb vs T 0) (skb vs T 0) 205 11 = Int32.ofNat T := by rw [mp_k _ _ _ (by decide), tm0.1]
    by_cases q : skb vs T 0 = T
    · left
      rw [if_pos (show ctk C2 138 T vs (skb vs T 0) 138 2 = 0 by rw [k0, kd_0.mpr (by omega)]; rfl), if_pos (show mp X0 (skb vs T 0) (skb vs T 0) 205 10 = mp X0 (skb vs T 0) (skb vs T 0) 205 11 by rw [m10, m11, q])]
      exact ⟨_, _, _, n, 0, rfl, rfl, by omega, ls0, frL.refl _, frX.refl _⟩
    · rw [if_neg (show ¬ ctk C2 138 T vs (skb vs T 0) 138 2 = 0 by rw [k0, show (0 : Int32) = Int32.ofNat 0 from rfl, ofn_eq (by omega) (by omega), kd_0]; omega), if_neg (show ¬ mp X0 (skb vs T 0) (skb vs T 0) 205 10 = mp X0 (skb vs T 0) (skb vs T 0) 205 11 by rw [m10, m11, ofn_eq (by omega) (by omega)]; exact q)]
      exact lf_all 15 0 _ X0 (skb vs T 0) (skb vs T 0) (skb vs T 0) n (by omega) hb0 hs0 ls0
  have f3 : ∀ C', frL (ctk C2 138 T vs (skb vs T 0)) C' → ∀ x, x ≠ 138 → (x < 140 ∨ 145 < x) → C' x = ct C1 x := fun C' hf x q1 q2 => by rw [hf x q1 q2, ctk_ne q1, f2 x q1]
  have hfc : ∀ C', frL (ctk C2 138 T vs (skb vs T 0)) C' → ∀ b, 205 ≤ b → C' b = C b := fun C' hf b hb => by rw [f3 C' hf b (by omega) (by omega), ct3 b (by omega), c3 b (fun j hj => by omega)]
  have hfm : ∀ X', frX X0 X' → ∀ b, b < 205 → X' b = M b := fun X' hf b hb => by rw [hf.1 b (by omega), x0 b (by omega), us_ne _ (by omega), m1 b (by omega)]
  have bk : ∀ (X' : HI) (p' c' k1 k2 : Nat) (v1 v2 : Int32), frX X0 X' → (cpR (up2 (up2 (mp X' p' c') 205 k1 v1) 205 k2 v2) 206 0 208 0 1202) 206 = M 206 := fun X' p' c' k1 k2 v1 v2 hf => back206 (by rw [mp_ne _ _ _ (by decide), hf.1 208 (by decide), x0 208 (by decide), us_ne _ (by decide), ← hM1]) (fun k hk => by rw [mp_ne _ _ _ (by decide), hf.2 k (by omega), x0 206 (by decide), us6])
  -- a life that isn't taken
  have no : ∀ (C' X' : HI) (p' c' : Nat) (v k : Int32), frL (ctk C2 138 T vs (skb vs T 0)) C' → frX X0 X' → GR (up2 C' 1 2 v) (cpR (up2 (up2 (mp X' p' c') 205 14 v) 205 0 k) 206 0 208 0 1202) n ∧ fcl C (up2 C' 1 2 v) ∧ fmo M (cpR (up2 (up2 (mp X' p' c') 205 14 v) 205 0 k) 206 0 208 0 1202) := by
    intro C' X' p' c' v k g1 g2
    refine ⟨u3.flt (v := v) (fun b q1 q2 q3 => by rw [up2_ne _ _ _ q3, f3 C' g1 b (by omega) (by omega)]) (fun j hj => by rw [up2_get, if_neg (fun q => hj q.2), f3 C' g1 1 (by decide) (by omega)]) (by rw [up2_get, if_pos ⟨rfl, rfl⟩]) (fun b q1 q2 q3 q4 => ?_) (fun j hj => ?_) ?_, fun b hb => by rw [up2_ne _ _ _ (by omega), hfc C' g1 b hb], fun b hb => by rw [cpR_ne _ (by omega), up2_ne _ _ _ (by omega), up2_ne _ _ _ (by omega), mp_ne _ _ _ (by omega), hfm X' g2 b hb]⟩
    · by_cases q : b = 206
      · subst q; rw [bk X' p' c' 14 0 v k g2, us6]
      · rw [cpR_ne _ q, up2_ne _ _ _ (by omega), up2_ne _ _ _ (by omega), mp_ne _ _ _ (by omega), g2.1 b q, x0 b (by omega)]
    · rw [cpR_ne _ (by decide), up2_get, if_neg (by omega), up2_get, if_neg (by omega), mp_k _ _ _ (by omega), g2.1 205 (by decide), x5 j (by omega)]
    · rw [cpR_ne _ (by decide), up2_get, if_neg (by decide), up2_get, if_pos ⟨rfl, rfl⟩]
  have th : ∀ (Y : HI) (k : Int32), (cpR (up2 Y 205 0 k) 206 0 208 0 1202) 205 0 = k := fun Y k => by rw [cpR_ne _ (by decide), up2_get, if_pos ⟨rfl, rfl⟩]
  rw [hM1]
  unfold F_X11_life
  simp only [Option.bind_eq_bind]
  rw [c1, Option.bind_some, u1, Option.bind_some]
  rcases key with ⟨C', X', b', n', m, k1, k2, k3, k4, k5, k6⟩ | ⟨C', X', p', f, k1, k2, k3, k4, k5⟩
  · rw [k1, Option.bind_some, if_pos rfl, le_ok k2 k3]
    have e31 : C' 3 1 = M 206 1 := by rw [f3 C' k5 3 (by decide) (by omega), ct3 3 (by decide), c3 3 (fun j hj => by omega)]; exact h.1.1.1.1
    have e61 : mp X' b' b' 206 1 = M 206 1 := by rw [mp_ne _ _ _ (by decide), k6.2 1 (by omega), x0 206 (by decide), us6]
    have r1 := h.1.2.1.2.1
    unfold rg at r1
    by_cases q : M 206 1 = 12
    · rw [if_neg (show ¬ C' 3 1 < 12 by rw [e31, q]; decide), if_pos (show mp X' b' b' 206 1 = 12 by rw [e61, q])]
      obtain ⟨g1, g2, g3⟩ := no C' X' b' b' (-1) 2 k5 k6
      exact ⟨_, _, _, _, rfl, rfl, ⟨2, by rw [thrn, th], 1, rfl, rfl⟩, ⟨n, g1⟩, g2, g3⟩
    · have q12 : C' 3 1 < 12 := by
        rw [e31, ti_lt, ti_12]
        rw [ti_eq, ti_12] at q
        omega
      rw [if_pos q12, if_neg (show ¬ mp X' b' b' 206 1 = 12 by rw [e61]; exact q)]
      obtain ⟨C9, d1, d2, d3⟩ := cl_copyL (C := up2 C' 1 2 (-1)) (a := 3) (b := 140) (fun i j _ _ => by omega)
      rw [d1, Option.bind_some]
      unfold F_X0_clear
      rw [Option.bind_some]
      have hL9 : LR C9 3 (X' 206) := d2 _ (k4.2.2.2.1.congr (fun j hj => up2_ne _ _ _ (by omega)))
      have e91 : C9 3 1 = M 206 1 := by rw [hL9.1.1, ← e61, mp_ne _ _ _ (by decide)]
      have f9 : ∀ x, (x < 3 ∨ 8 < x) → x ≠ 1 → x ≠ 138 → (x < 140 ∨ 145 < x) → C9 x = ct C1 x := fun x q1 q2 q3 q4 => by rw [d3 x (fun j hj => by omega), up2_ne _ _ _ q2, f3 C' k5 x q3 q4]
      have g9 : ∀ k, k ≠ 2 → C9 1 k = ct C1 1 k := fun k hk => by rw [d3 1 (fun j hj => by omega), up2_get, if_neg (fun q => hk q.2), f3 C' k5 1 (by decide) (by omega)]
      have g92 : C9 1 2 = -1 := by rw [d3 1 (fun j hj => by omega), up2_get, if_pos ⟨rfl, rfl⟩]
      obtain ⟨D, hD⟩ : ∃ D, up2 (up2 C9 3 1 (C9 3 1 + 1)) 17 0 0 = D := ⟨_, rfl⟩
      have fD : ∀ x, x ≠ 3 → x ≠ 17 → D x = C9 x := fun x q1 q2 => by rw [← hD, up2_ne _ _ _ q2, up2_ne _ _ _ q1]
      obtain ⟨N, hN⟩ : ∃ N, up2 (up2 (up2 (mp X' b' b') 205 14 (-1)) 206 1 (mp X' b' b' 206 1 + 1)) 205 7 0 = N := ⟨_, rfl⟩
      have nW : N 206 = updR (X' 206) 1 (M 206 1 + 1) := by
        rw [← hN, up2_ne _ _ _ (by decide), e61, upd206, up2_ne _ _ _ (by decide), mp_ne _ _ _ (by decide)]
      have n5 : ∀ k, k ≠ 7 → k ≠ 14 → k ≠ 10 → k ≠ 12 → k ≠ 16 → N 205 k = us M1 205 k := fun k q1 q2 q3 q4 q5 => by
        rw [← hN, up2_get, if_neg (by omega), up2_ne _ _ _ (by decide), up2_get, if_neg (by omega), mp_k _ _ _ (by omega), k6.1 205 (by decide), x5 k q5]
      have n57 : N 205 7 = 0 := by rw [← hN, up2_get, if_pos ⟨rfl, rfl⟩]
      have n514 : N 205 14 = -1 := by rw [← hN, up2_get, if_neg (by decide), up2_ne _ _ _ (by decide), up2_get, if_pos ⟨rfl, rfl⟩]
      have nx' : ∀ x, x ≠ 205 → x ≠ 206 → N x = us M1 x := fun x q1 q2 => by
        rw [← hN, up2_ne _ _ _ q1, up2_ne _ _ _ q2, up2_ne _ _ _ q1, mp_ne _ _ _ q1, k6.1 x q2, x0 x q1]
      have wk : ∀ k, k = 2 ∨ k = 15 ∨ 113 ≤ k → N 206 k = us M1 206 k := fun k hk => by rw [nW, updR_ne (by omega), k6.2 k (by omega), x0 206 (by decide)]
      have hadd : C9 3 1 + 1 = M 206 1 + 1 := by rw [e91]
      have hG : GR D N n' := by
        obtain ⟨⟨g1, g2, g3, g4⟩, g5, g6, g7, g8⟩ := id u3
        obtain ⟨m0, fr, -, a2, -, a4, -⟩ := id g5
        refine ⟨⟨?_, ?_, ?_, ?_⟩, ?_, ?_, ?_, ?_⟩
        · rw [nW]
          have := hL9.set2 (x := M 206 1 + 1) (ci := 1) (wi := 1) (Or.inl ⟨rfl, rfl⟩)
          exact this.congr (fun j hj => by rw [← hD, up2_ne _ _ _ (by omega), hadd])
        · rw [nW]
          refine k4.2.2.2.2.set2 (Or.inl ⟨rfl, ?_⟩)
          rw [ti_eq, ti_12] at q
          unfold rg
          rw [ti_add (by rw [ti_1]; omega) (by rw [ti_1]; omega), ti_1]
          omega
        · exact (g3.congr (by rw [fD 15 (by decide) (by decide), f9 15 (by omega) (by decide) (by decide) (by omega)]) (by rw [fD 16 (by decide) (by decide), f9 16 (by omega) (by decide) (by decide) (by omega)])).congrW (wk 15 (by omega)) (fun k q1 q2 => wk k (by omega))
        · exact g4.congr (fun j hj => by rw [fD _ (by omega) (by omega), f9 _ (by omega) (by omega) (by omega) (by omega)]) (wk 2 (by omega)) (fun k q1 _ => wk k (by omega))
        · refine ActR.none D N (by rw [← hD, up2_get, if_pos ⟨rfl, rfl⟩]) ⟨fr, a2, ?_⟩ n57
          rw [← hD, up2_get, if_neg (by decide), up2_ne _ _ _ (by decide), f9 17 (by omega) (by decide) (by decide) (by omega)]; exact a4
        · exact g6.congr (fun b q1 q2 => by rw [fD _ (by omega) (by omega), f9 _ (by omega) (by omega) (by omega) (by omega)]) (by rw [fD 1 (by decide) (by decide), g9 10 (by decide)]) (n5 6 (by decide) (by decide) (by decide) (by decide) (by decide)) (nx' 207 (by decide) (by decide))
        · exact g7.congr (by rw [fD 1 (by decide) (by decide), g9 1 (by decide)]) (by rw [fD 2 (by decide) (by decide), f9 2 (by omega) (by decide) (by decide) (by omega)]) (n5 9 (by decide) (by decide) (by decide) (by decide) (by decide)) (nx' 211 (by decide) (by decide))
        · rw [fD 1 (by decide) (by decide), g92, n514]
      have hr : D 3 1 = mp X' b' b' 206 1 + 1 := by rw [← hD, up2_ne _ _ _ (by decide), up2_get, if_pos ⟨rfl, rfl⟩, e91, e61]
      have ht : N 205 0 = 0 := by rw [n5 0 (by decide) (by decide) (by decide) (by decide) (by decide)]; exact u5
      rw [hD, hN]
      exact ⟨_, _, _, _, rfl, rfl, ⟨0, by rw [thrn, ht], rfl, hr⟩, ⟨n', hG⟩, fun b hb => by rw [fD b (by omega) (by omega), d3 b (fun j hj => by omega), up2_ne _ _ _ (by omega), hfc C' k5 b hb], fun b hb => by rw [← hN, up2_ne _ _ _ (by omega), up2_ne _ _ _ (by omega), up2_ne _ _ _ (by omega), mp_ne _ _ _ (by omega), hfm X' k6 b hb]⟩
  · rw [k1, Option.bind_some, if_neg (show ¬ Int32.ofNat f = -1 from ofn_ne_m1 (by omega)), le_bad k2, mp_12]
    obtain ⟨g1, g2, g3⟩ := no C' X' p' f (Int32.ofNat f) 1 k4 k5
    exact ⟨_, _, _, _, rfl, rfl, ⟨1, by rw [thrn, th], 0, rfl, rfl⟩, ⟨n, g1⟩, g2, g3⟩
end
