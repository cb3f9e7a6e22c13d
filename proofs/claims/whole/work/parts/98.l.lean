section
variable {C C' M M' X X' : HI} {vs : Nat → Nat} {T b n : Nat} {D : List Nat} {q a e : Nat → Nat}
theorem s_law (h : GR C M n) : ∃ r C' b M', F_X11_law C = some (r, C') ∧ F_X12_law M = some (b, M') ∧ Qs ["java/lang/IllegalArgumentException"] r b M' ∧ (∃ n', GR C' M' n') ∧ fcl C C' ∧ fmo M M' := by
  obtain ⟨C1, hC1⟩ : ∃ C1, up2 (up2 C 148 0 (0 : Int32)) 148 5 (0 : Int32) = C1 := ⟨_, rfl⟩
  have c3 : ∀ x, x ≠ 148 → C1 x = C x := fun x hx => by rw [← hC1, up2_ne _ _ _ hx, up2_ne _ _ _ hx]
  have c10 : C1 148 0 = 0 := by rw [← hC1, up2_get, if_neg (by decide), up2_get, if_pos ⟨rfl, rfl⟩]
  have c15 : C1 148 5 = 0 := by rw [← hC1, up2_get, if_pos ⟨rfl, rfl⟩]
  have hG1 : GR C1 M n := h.congr (fun b q1 _ => c3 b (by omega)) (fun _ _ _ _ _ => rfl) (fun _ _ => rfl)
  obtain ⟨T, hT, u1, u2, u3, u4, u5, u6, u7, u8, u9⟩ := use_sim hG1
  have hbv : ∀ i, ∃ v, i < T → v < 256 ∧ ct C1 2 i = Int32.ofNat v ∧ us M 211 i = byI v := fun i => by
    by_cases q : i < T
    · obtain ⟨v, v1, v2, v3⟩ := u7 i q; exact ⟨v, fun _ => ⟨v1, v2, v3⟩⟩
    · exact ⟨0, fun w => absurd w q⟩
  obtain ⟨vs, hvs⟩ := Classical.axiomOfChoice hbv
  have ct3 : ∀ x, x ≠ 1 → ct C1 x = C1 x := fun x hx => up2_ne _ _ _ hx
  have us6 : us M 206 = M 206 := us_ne _ (by decide)
  obtain ⟨C2, hC2⟩ : ∃ C2, up2 (up2 (ct C1) 146 1 (Int32.ofNat T)) 146 4 0 = C2 := ⟨_, rfl⟩
  have f2 : ∀ x, x ≠ 146 → C2 x = ct C1 x := fun x hx => by rw [← hC2, up2_ne _ _ _ hx, up2_ne _ _ _ hx]
  have tc2 : TC C2 146 T vs := ⟨by rw [← hC2]; rfl, hT, fun i hi => ⟨(hvs i hi).1, by rw [f2 2 (by decide)]; exact (hvs i hi).2.1⟩⟩
  have ea := cl_adv tc2 (by decide) (p := 0) (by rw [← hC2]; rfl) (by omega)
  have hb0 := (skb_spec (vs := vs) (show 0 ≤ T by omega)).2.1
  have hs0 := skb_skb (vs := vs) (show 0 ≤ T by omega)
  obtain ⟨X0, hX0⟩ : ∃ X0, up2 (us M) 205 16 (0 : Int32) = X0 := ⟨_, rfl⟩
  have x0 : ∀ x, x ≠ 205 → X0 x = us M x := fun x hx => by rw [← hX0, up2_ne _ _ _ hx]
  have x5 : ∀ k, k ≠ 16 → X0 205 k = us M 205 k := fun k hk => by rw [← hX0, up2_get, if_neg (fun q => hk q.2)]
  have x16 : X0 205 16 = 0 := by rw [← hX0, up2_get, if_pos ⟨rfl, rfl⟩]
  have tm0 : TM X0 T vs := ⟨by rw [x5 11 (by decide)]; exact u4, hT, fun i hi => ⟨(hvs i hi).1, by rw [x0 211 (by decide)]; exact (hvs i hi).2.2⟩⟩
  have eb := m_blanks tm0 (p := 0) (by rw [x5 10 (by decide)]; exact u6) (by omega)
  have ls0 : WSt (ctk C2 146 T vs (skb vs T 0)) X0 T vs (skb vs T 0) 0 (fun _ => 0) (fun _ => 0) (fun _ => 0) [] := by
    refine ⟨tc2.tk (by decide) _, ctk_TK hb0, tm0, ⟨?_, fun i hi => absurd hi (Nat.not_lt_zero _)⟩, ⟨x16, fun i hi => absurd hi (Nat.not_lt_zero _)⟩, ?_, rfl, Nat.zero_le _, fun j hj => absurd hj (Nat.not_lt_zero _)⟩
    · rw [ctk_ne (by decide), f2 148 (by decide), ct3 148 (by decide)]; exact c15
    · rw [ctk_ne (by decide), f2 148 (by decide), ct3 148 (by decide)]; exact c10
  have key : (∃ C' X' b' n' q' a' e' D', F_X10_firstWrong_c5 (ct C1) (Int32.ofNat T) 12 = some (-1, C') ∧ F_X12_readAll M 0 = some (Int32.ofNat n', mp X' b' b') ∧ n' ≤ 12 ∧ WSt C' X' T vs b' n' q' a' e' D' ∧ frW (ctk C2 146 T vs (skb vs T 0)) C' ∧ frV X0 X') ∨ (∃ C' X' p' f, F_X10_firstWrong_c5 (ct C1) (Int32.ofNat T) 12 = some (Int32.ofNat f, C') ∧ F_X12_readAll M 0 = some (-1, mp X' p' f) ∧ f ≤ T ∧ frW (ctk C2 146 T vs (skb vs T 0)) C' ∧ frV X0 X') := by
    unfold F_X10_firstWrong_c5 F_X12_readAll
    simp only [Option.bind_eq_bind]
    rw [len_T hT, hC2, ea, Option.bind_some, u2, Option.bind_some, hX0, eb, Option.bind_some]
    have k0 : ctk C2 146 T vs (skb vs T 0) 146 2 = Int32.ofNat (kd vs T (skb vs T 0)) := (ctk_TK hb0).2.1
    have hkd := kd_le (vs := vs) (T := T) (skb vs T 0)
    have m10 : mp X0 (skb vs T 0) (skb vs T 0) 205 10 = Int32.ofNat (skb vs T 0) := mp_10 _ _ _
    have m11 : mp X0 (skb vs T 0) (skb vs T 0) 205 11 = Int32.ofNat T := by rw [mp_k _ _ _ (by decide), tm0.1]
    by_cases q : skb vs T 0 = T
    · left
      rw [if_pos (show ctk C2 146 T vs (skb vs T 0) 146 2 = 0 by rw [k0, kd_0.mpr (by omega)]; rfl), if_pos (show mp X0 (skb vs T 0) (skb vs T 0) 205 10 = mp X0 (skb vs T 0) (skb vs T 0) 205 11 by rw [m10, m11, q])]
      exact ⟨_, _, _, 0, _, _, _, _, rfl, rfl, by omega, ls0, frW.refl _, frV.refl _⟩
    · rw [if_neg (show ¬ ctk C2 146 T vs (skb vs T 0) 146 2 = 0 by rw [k0, show (0 : Int32) = Int32.ofNat 0 from rfl, ofn_eq (by omega) (by omega), kd_0]; omega), if_neg (show ¬ mp X0 (skb vs T 0) (skb vs T 0) 205 10 = mp X0 (skb vs T 0) (skb vs T 0) 205 11 by rw [m10, m11, ofn_eq (by omega) (by omega)]; exact q)]
      exact lw_all hT 13 0 _ X0 (skb vs T 0) (skb vs T 0) (skb vs T 0) _ _ _ _ (by omega) (by omega) hb0 hs0 ls0
  have f3 : ∀ C', frW (ctk C2 146 T vs (skb vs T 0)) C' → ∀ x, (x < 146 ∨ 154 < x) → C' x = ct C1 x := fun C' hf x q1 => by rw [hf x q1, ctk_ne (by omega), f2 x (by omega)]
  have hfc : ∀ C', frW (ctk C2 146 T vs (skb vs T 0)) C' → ∀ b, 205 ≤ b → C' b = C b := fun C' hf b hb => by rw [f3 C' hf b (by omega), ct3 b (by omega), c3 b (by omega)]
  have hfm : ∀ X', frV X0 X' → ∀ b, b < 205 → X' b = M b := fun X' hf b hb => by rw [hf.1 b (by omega) (by omega), x0 b (by omega), us_ne _ (by omega)]
  have hcl : F_X4_clear C 148 = some C1 := by unfold F_X4_clear; rw [hC1]
  unfold F_X11_law F_X12_law
  simp only [Option.bind_eq_bind]
  rw [hcl, Option.bind_some, u1, Option.bind_some]
  rcases key with ⟨C', X', b', n', q', a', e', D', k1, k2, k3, k4, k5, k6⟩ | ⟨C', X', p', f, k1, k2, k3, k4, k5⟩
  · rw [k1, Option.bind_some, if_pos rfl, k2, Option.bind_some, if_pos (show (0 : Int32) ≤ Int32.ofNat n' by rw [show (0 : Int32) = Int32.ofNat 0 from rfl, ofn_le (by omega) (by omega)]; omega), m_thr0, Option.bind_some, if_pos rfl, m_law52]
    obtain ⟨w1, w2, w3, w4, w5, w6, w7, w8, w9⟩ := id k4
    have hbT := w2.2.2.2
    obtain ⟨C9, d1, d2, d3, d4⟩ := cl_copyW (C := up2 C' 1 2 (-1)) (a := 9) (b := 148) (fun i j _ _ => by omega)
    rw [d1, Option.bind_some]
    unfold F_X0_clear
    rw [Option.bind_some]
    -- the law as data
    obtain ⟨L, hL⟩ : ∃ L : LD, ((n', q', a', e', fun i => D'.getD i 0) : LD) = L := ⟨_, rfl⟩
    have ok : LawOk L := by
      rw [← hL]
      refine ⟨k3, fun j hj => ?_⟩
      obtain ⟨-, -, y1, y2, y3, y4, y5⟩ := w9 j hj
      exact ⟨y1, y2, y3, by show e' j ≤ 400; omega, y5⟩
    have lc : LawC (up2 C' 1 2 (-1)) 148 L := by
      rw [← hL]
      unfold LawC
      rw [up2_ne _ _ _ (by decide), up2_ne _ _ _ (by decide), up2_ne _ _ _ (by decide), up2_ne _ _ _ (by decide), up2_ne _ _ _ (by decide)]
      refine ⟨w6, fun j hj => ?_⟩
      obtain ⟨⟨z1, z2, z3⟩, -, -, -, -, y4, -⟩ := w9 j hj
      exact ⟨z1, z2, z3, fun t ht => w4.2 t (by have : t < e' j := ht; omega)⟩
    have lc9 : LawC C9 9 L := d3 L ok lc
    have f9 : ∀ x, (x < 9 ∨ 13 < x) → x ≠ 1 → (x < 146 ∨ 154 < x) → C9 x = ct C1 x := fun x q1 q2 q3 => by rw [d4 x (fun j hj => by omega), up2_ne _ _ _ q2, f3 C' k5 x q3]
    have g9 : ∀ k, k ≠ 2 → C9 1 k = ct C1 1 k := fun k hk => by rw [d4 1 (fun j hj => by omega), up2_get, if_neg (fun q => hk q.2), f3 C' k5 1 (by omega)]
    have g92 : C9 1 2 = -1 := by rw [d4 1 (fun j hj => by omega), up2_get, if_pos ⟨rfl, rfl⟩]
    obtain ⟨E, hE⟩ : ∃ E, up2 C9 17 0 0 = E := ⟨_, rfl⟩
    have fE : ∀ x, x ≠ 17 → E x = C9 x := fun x q1 => by rw [← hE, up2_ne _ _ _ q1]
    obtain ⟨Y, hY⟩ : ∃ Y, up2 (up2 (mp X' b' b') 205 14 (-1 : Int32)) 206 1202 (Int32.ofNat n') = Y := ⟨_, rfl⟩
    have yW : ∀ k, Y 206 k = if k = 1202 then Int32.ofNat n' else X' 206 k := fun k => by rw [← hY, up206g0, up2_ne _ _ _ (by decide), mp_ne _ _ _ (by decide)]
    have yx : ∀ x, x ≠ 205 → x ≠ 206 → Y x = X' x := fun x q1 q2 => by rw [← hY, up2_ne _ _ _ q2, up2_ne _ _ _ q1, mp_ne _ _ _ q1]
    have y5 : ∀ k, k ≠ 14 → k ≠ 10 → k ≠ 12 → Y 205 k = X' 205 k := fun k q1 q2 q3 => by rw [← hY, up2_ne _ _ _ (by decide), up2_get, if_neg (fun q => q1 q.2), mp_k _ _ _ ⟨q2, q3⟩]
    have y14 : Y 205 14 = -1 := by rw [← hY, up2_ne _ _ _ (by decide), up2_get, if_pos ⟨rfl, rfl⟩]
    obtain ⟨N, hN⟩ : ∃ N, up2 (up2 (lwC Y 849) 206 2 1) 205 7 0 = N := ⟨_, rfl⟩
    have nW : ∀ k, N 206 k = if k = 2 then 1 else if 353 ≤ k ∧ k < 1202 then Y 206 (k + 849) else Y 206 k := fun k => by
      rw [← hN, up2_ne _ _ _ (by decide), up206g0]
      by_cases z : k = 2
      · rw [if_pos z, if_pos z]
      · rw [if_neg z, if_neg z]
        unfold lwC
        rw [up1_get, if_pos rfl]
    have nlo : ∀ k, k < 353 → k ≠ 2 → N 206 k = us M 206 k := fun k q1 q2 => by rw [nW, if_neg q2, if_neg (by omega), yW, if_neg (by omega), k6.2.2 k (by omega), x0 206 (by decide)]
    have nhi : ∀ k, 353 ≤ k → k < 1202 → N 206 k = if k = 353 then Int32.ofNat n' else X' 206 (k + 849) := fun k q1 q2 => by
      rw [nW, if_neg (by omega), if_pos ⟨q1, q2⟩, yW]
      by_cases z : k = 353
      · rw [if_pos (by omega), if_pos z]
      · rw [if_neg (by omega), if_neg z]
    have nx' : ∀ x, x ≠ 205 → x ≠ 206 → N x = us M x := fun x q1 q2 => by
      rw [← hN, up2_ne _ _ _ q1, up2_ne _ _ _ q2]
      unfold lwC
      rw [up1_get, if_neg q2, yx x q1 q2, k6.1 x q1 q2, x0 x q1]
    have n5 : ∀ k, k ≠ 7 → k ≠ 14 → k ≠ 10 → k ≠ 12 → k ≠ 13 → k ≠ 16 → N 205 k = us M 205 k := fun k q1 q2 q3 q4 q5 q6 => by
      rw [← hN, up2_get, if_neg (fun q => q1 q.2), up2_ne _ _ _ (by decide)]
      unfold lwC
      rw [up1_get, if_neg (by decide), y5 k q2 q3 q4, k6.2.1 k q5 q6, x5 k q6]
    have n57 : N 205 7 = 0 := by rw [← hN, up2_get, if_pos ⟨rfl, rfl⟩]
    have n514 : N 205 14 = -1 := by
      rw [← hN, up2_get, if_neg (by decide), up2_ne _ _ _ (by decide)]
      unfold lwC
      rw [up1_get, if_neg (by decide), y14]
    have lW : LawW (N 206) L := by
      rw [← hL]
      refine ⟨?_, fun j hj => ?_⟩
      · rw [nhi 353 (by omega) (by omega), if_pos rfl]
      · have hj' : j < n' := hj
        obtain ⟨-, ⟨z1, z2, z3, z4⟩, -, -, -, y4, -⟩ := w9 j hj'
        refine ⟨?_, ?_, ?_, ?_, fun t ht => ?_⟩
        · rw [nhi _ (by omega) (by omega), if_neg (by omega), show 354 + 4 * j + 849 = 1203 + 4 * j by omega]; exact z1
        · rw [nhi _ (by omega) (by omega), if_neg (by omega), show 355 + 4 * j + 849 = 1204 + 4 * j by omega]; exact z2
        · rw [nhi _ (by omega) (by omega), if_neg (by omega), show 356 + 4 * j + 849 = 1205 + 4 * j by omega]; exact z3
        · rw [nhi _ (by omega) (by omega), if_neg (by omega), show 357 + 4 * j + 849 = 1206 + 4 * j by omega]; exact z4
        · have ht' : t < e' j := ht
          obtain ⟨v1, v2⟩ := w5.2 t (by omega)
          refine ⟨?_, ?_⟩
          · rw [nhi _ (by omega) (by omega), if_neg (by omega), show 402 + 2 * t + 849 = 1251 + 2 * t by omega]; exact v1
          · rw [nhi _ (by omega) (by omega), if_neg (by omega), show 403 + 2 * t + 849 = 1252 + 2 * t by omega]; exact v2
    have hG : GR E N n := by
      obtain ⟨⟨g1, g2, g3, g4⟩, g5, g6, g7, g8⟩ := id u3
      obtain ⟨m0, fr, -, a2, -, a4, -⟩ := id g5
      refine ⟨⟨?_, ?_, ?_, ?_⟩, ?_, ?_, ?_, ?_⟩
      · exact (g1.congr (fun j hj => by rw [fE _ (by omega), f9 _ (by omega) (by omega) (by omega)])).congrW2 (fun k q1 _ q3 => nlo k (by omega) q3)
      · exact g2.congr2 (fun k q1 q2 => nlo k (by omega) q2)
      · exact (g3.congr (by rw [fE 15 (by decide), f9 15 (by omega) (by decide) (by omega)]) (by rw [fE 16 (by decide), f9 16 (by omega) (by decide) (by omega)])).congrW (nlo 15 (by omega) (by decide)) (fun k q1 q2 => nlo k (by omega) (by omega))
      · left
        refine ⟨by rw [nW, if_pos rfl], L, ok, lc9.congr (fun j hj => fE _ (by omega)), lW⟩
      · refine ActR.none E N (by rw [← hE, up2_get, if_pos ⟨rfl, rfl⟩]) ⟨fr, a2, ?_⟩ n57
        rw [← hE, up2_get, if_neg (by decide), f9 17 (by omega) (by decide) (by omega)]; exact a4
      · exact g6.congr (fun b q1 q2 => by rw [fE _ (by omega), f9 _ (by omega) (by omega) (by omega)]) (by rw [fE 1 (by decide), g9 10 (by decide)]) (n5 6 (by decide) (by decide) (by decide) (by decide) (by decide) (by decide)) (nx' 207 (by decide) (by decide))
      · exact g7.congr (by rw [fE 1 (by decide), g9 1 (by decide)]) (by rw [fE 2 (by decide), f9 2 (by omega) (by decide) (by omega)]) (n5 9 (by decide) (by decide) (by decide) (by decide) (by decide) (by decide)) (nx' 211 (by decide) (by decide))
      · rw [fE 1 (by decide), g92, n514]
    have hr : E 9 0 = Int32.ofNat n' := by rw [fE 9 (by decide), d2, up2_ne _ _ _ (by decide)]; exact w6
    have ht : N 205 0 = 0 := by rw [n5 0 (by decide) (by decide) (by decide) (by decide) (by decide) (by decide)]; exact u5
    dsimp only
    rw [hE, hY, hN]
    exact ⟨_, _, _, _, rfl, rfl, ⟨0, by rw [thrn, ht], rfl, hr⟩, ⟨n, hG⟩, fun b hb => by rw [fE b (by omega), d4 b (fun j hj => by omega), up2_ne _ _ _ (by omega), hfc C' k5 b hb], fun b hb => by rw [nx' b (by omega) (by omega), us_ne _ (by omega)]⟩
  · rw [k1, Option.bind_some, if_neg (show ¬ Int32.ofNat f = -1 from ofn_ne_m1 (by omega)), k2, Option.bind_some, if_neg (show ¬ (0 : Int32) ≤ -1 by decide), m_thr1, Option.bind_some, if_neg (show ¬ (1 : Int32) = 0 by decide)]
    dsimp only
    rw [mp_12]
    have hG : GR (up2 C' 1 2 (Int32.ofNat f)) (up2 (up2 (mp X' p' f) 205 14 (Int32.ofNat f)) 205 0 1) n := by
      refine u3.flt2 (v := Int32.ofNat f) (fun b q1 q2 q3 => by rw [up2_ne _ _ _ q3, f3 C' k4 b (by omega)]) (fun k hk => by rw [up2_get, if_neg (fun q => hk q.2), f3 C' k4 1 (by omega)]) (by rw [up2_get, if_pos ⟨rfl, rfl⟩]) (fun k hk => ?_) (fun b hb => ?_) (fun k hk => ?_) ?_
      · rw [up2_ne _ _ _ (by decide), up2_ne _ _ _ (by decide), mp_ne _ _ _ (by decide), k5.2.2 k hk, x0 206 (by decide)]
      · rw [up2_ne _ _ _ (by omega), up2_ne _ _ _ (by omega), mp_ne _ _ _ (by omega), k5.1 b (by omega) (by omega), x0 b (by omega)]
      · rw [up2_get, if_neg (by omega), up2_get, if_neg (by omega), mp_k _ _ _ (by omega), k5.2.1 k (by omega) (by omega), x5 k (by omega)]
      · rw [up2_get, if_neg (by decide), up2_get, if_pos ⟨rfl, rfl⟩]
    exact ⟨_, _, _, _, rfl, rfl, ⟨1, by rw [thrn, up2_get, if_pos ⟨rfl, rfl⟩], 0, rfl, rfl⟩, ⟨n, hG⟩, fun b hb => by rw [up2_ne _ _ _ (by omega), hfc C' k4 b hb], fun b hb => by rw [up2_ne _ _ _ (by omega), up2_ne _ _ _ (by omega), mp_ne _ _ _ (by omega), hfm X' k5 b hb]⟩
end
