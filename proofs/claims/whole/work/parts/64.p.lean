section
variable {C M : HI} {a l n d : Nat} {W W' : Nat → Int32} {t p : Int32} {c : Option Nat}
theorem m_at {k : Nat} : F_X12_at M (Int32.ofNat d) (Int32.ofNat k) = some (Int32.ofNat (17 + 8 * d + k)) := by
  unfold F_X12_at
  rw [ix_at]
theorem m_takes (hM : M 206 = W) (hW : WOk n W) (h99 : ¬ W 5 = 99) (hd : d < n) (hcup : cup W n d (W 8) = enc c) (hc : ∀ e, c = some e → e < n ∧ ¬ W (22 + 8 * e) = -1) (hT : ∀ M, M 206 = W → ∃ M', F_X12_turnsBy M (Int32.ofNat d) = some (t, M') ∧ ∀ b, b ≠ 213 → M' b = M b) (hP : ∀ M, M 206 = W → ∃ M', F_X12_paysBy M (Int32.ofNat d) = some (p, M') ∧ ∀ b, b ≠ 213 → M' b = M b) : ∃ M', F_X12_takes M (Int32.ofNat d) = some (p, M') ∧ M' 206 = tellW (bitW W d t p c) (Int32.ofNat d) (enc c) ∧ ∀ b, b ≠ 206 → b ≠ 213 → M' b = M b := by
  have hn := hW.1.2.1
  obtain ⟨M1, p1, p2⟩ := hP M hM
  have hM1 : M1 206 = W := by rw [p2 206 (by decide)]; exact hM
  obtain ⟨M2, t1, t2⟩ := hT M1 hM1
  have hM2 : M2 206 = W := by rw [t2 206 (by decide)]; exact hM1
  have hcb : F_X12_callsBy M (Int32.ofNat d) = some (enc c) := by
    have := m_callsBy (M := M) (n := n) (by rw [hM]; exact hW.1) (by rw [hM]; exact hW.2.2.2.2.2.2.1) hd
    rw [this, hM, hcup]
  unfold F_X12_takes F_X12_takesNone
  rw [hM, if_neg h99, hcb]
  simp only [Option.bind_eq_bind, Option.bind_some, if_true]
  rw [p1]
  simp only [Option.bind_some]
  rw [t1]
  simp only [Option.bind_some]
  rw [hM1, hM2]
  -- the tail, for a day v
  have tail : ∀ (U : HI) (v : Int32), v = fct W d c 1 → U = up2 (up2 (up2 M2 206 14 (if W 14 + p < 9999 then W 14 + p else 9999)) 206 5 (if 0 < (if W 5 + t < 99 then W 5 + t else 99) then (if W 5 + t < 99 then W 5 + t else 99) else 0)) 206 4 v → ∃ M', ((F_X12_isNew U (Int32.ofNat d)).bind fun r29 => if r29 = 0 then (F_X12_tells (up2 U 206 6 (W 6 + 1)) (Int32.ofNat d) (enc c)).bind fun r32 => some (p, r32) else (F_X12_at U (Int32.ofNat d) (5 : Int32)).bind fun r34 => if inB r34 2051 = true then (F_X12_at (up2 U 206 (r34).toNatClampNeg (W 3)) (Int32.ofNat d) (6 : Int32)).bind fun r37 => if inB r37 2051 = true then (F_X12_at (up2 (up2 U 206 (r34).toNatClampNeg (W 3)) 206 (r37).toNatClampNeg ((up2 U 206 (r34).toNatClampNeg (W 3)) 206 12)) (Int32.ofNat d) (7 : Int32)).bind fun r40 => if inB r40 2051 = true then (F_X12_tells (up2 (up2 (up2 (up2 U 206 (r34).toNatClampNeg (W 3)) 206 (r37).toNatClampNeg ((up2 U 206 (r34).toNatClampNeg (W 3)) 206 12)) 206 (r40).toNatClampNeg (-1 : Int32)) 206 6 (((up2 (up2 (up2 U 206 (r34).toNatClampNeg (W 3)) 206 (r37).toNatClampNeg ((up2 U 206 (r34).toNatClampNeg (W 3)) 206 12)) 206 (r40).toNatClampNeg (-1 : Int32)) 206 6) + (1 : Int32))) (Int32.ofNat d) (enc c)).bind fun r43 => some (p, r43) else none else none else none) = some (p, M') ∧ M' 206 = tellW (bitW W d t p c) (Int32.ofNat d) (enc c) ∧ ∀ b, b ≠ 206 → b ≠ 213 → M' b = M b := by
    intro U v hv hU
    have u0 : ∀ k, U 206 k = if k = 4 then v else if k = 5 then (if 0 < (if W 5 + t < 99 then W 5 + t else 99) then (if W 5 + t < 99 then W 5 + t else 99) else 0) else if k = 14 then (if W 14 + p < 9999 then W 14 + p else 9999) else W k := by
      intro k
      rw [hU]
      simp only [up2_get, true_and]
      rw [hM2]
    have uf : ∀ b, b ≠ 206 → b ≠ 213 → U b = M b := fun b h1 h2 => by rw [hU, up2_ne _ _ _ h1, up2_ne _ _ _ h1, up2_ne _ _ _ h1, t2 b h2, p2 b h2]
    have un : U 206 (22 + 8 * d) = W (22 + 8 * d) := by rw [u0, if_neg (by omega), if_neg (by omega), if_neg (by omega)]
    rw [m_isNew (by omega), un]
    simp only [Option.bind_some]
    by_cases h0 : W (22 + 8 * d) = -1
    · rw [if_pos h0, if_neg (by decide)]
      rw [show (5 : Int32) = Int32.ofNat 5 from rfl, show (6 : Int32) = Int32.ofNat 6 from rfl, show (7 : Int32) = Int32.ofNat 7 from rfl]
      simp only [m_at, Option.bind_some, inB_ofn (show 17 + 8 * d + 5 < 2051 by omega) (show 17 + 8 * d + 5 < 2147483648 by omega), inB_ofn (show 17 + 8 * d + 6 < 2051 by omega) (show 17 + 8 * d + 6 < 2147483648 by omega), inB_ofn (show 17 + 8 * d + 7 < 2051 by omega) (show 17 + 8 * d + 7 < 2147483648 by omega), if_true, ofn_clamp (show 17 + 8 * d + 5 < 2147483648 by omega), ofn_clamp (show 17 + 8 * d + 6 < 2147483648 by omega), ofn_clamp (show 17 + 8 * d + 7 < 2147483648 by omega)]
      generalize hX : (up2 (up2 (up2 (up2 U 206 (17 + 8 * d + 5) (W 3)) 206 (17 + 8 * d + 6) ((up2 U 206 (17 + 8 * d + 5) (W 3)) 206 12)) 206 (17 + 8 * d + 7) (-1 : Int32)) 206 6 (((up2 (up2 (up2 U 206 (17 + 8 * d + 5) (W 3)) 206 (17 + 8 * d + 6) ((up2 U 206 (17 + 8 * d + 5) (W 3)) 206 12)) 206 (17 + 8 * d + 7) (-1 : Int32)) 206 6) + (1 : Int32))) = X
      have hX6 : X 206 = bitW W d t p c := by
        funext k
        rw [← hX]
        simp only [up2_get, true_and, u0]
        unfold bitW
        rw [if_neg (show ¬ (6 : Nat) = 17 + 8 * d + 7 by omega), if_neg (show ¬ (6 : Nat) = 17 + 8 * d + 6 by omega), if_neg (show ¬ (6 : Nat) = 17 + 8 * d + 5 by omega), if_neg (show ¬ (12 : Nat) = 17 + 8 * d + 5 by omega)]
        by_cases k6 : k = 6
        · subst k6; simp
        · by_cases k7 : k = 17 + 8 * d + 7
          · rw [if_neg k6, if_pos k7, if_neg (by omega), if_neg (by omega), if_neg (by omega), if_neg k6, if_neg (by omega), if_neg (by omega), if_pos ⟨h0, by omega⟩]
          · by_cases k8 : k = 17 + 8 * d + 6
            · rw [if_neg k6, if_neg k7, if_pos k8, if_neg (show ¬ k = 14 by omega), if_neg (show ¬ k = 5 by omega), if_neg (show ¬ k = 4 by omega), if_neg k6, if_neg (show ¬ (W (22 + 8 * d) = -1 ∧ k = 22 + 8 * d) from fun q => by omega), if_pos (show W (22 + 8 * d) = -1 ∧ k = 23 + 8 * d from ⟨h0, by omega⟩)]; rfl
            · by_cases k9 : k = 17 + 8 * d + 5
              · rw [if_neg k6, if_neg k7, if_neg k8, if_pos k9, if_neg (show ¬ k = 14 by omega), if_neg (show ¬ k = 5 by omega), if_neg (show ¬ k = 4 by omega), if_neg k6, if_pos (show W (22 + 8 * d) = -1 ∧ k = 22 + 8 * d from ⟨h0, by omega⟩)]
              · have q1 : ¬ (W (22 + 8 * d) = -1 ∧ k = 22 + 8 * d) := fun q => by omega
                have q2 : ¬ (W (22 + 8 * d) = -1 ∧ k = 23 + 8 * d) := fun q => by omega
                have q3 : ¬ (W (22 + 8 * d) = -1 ∧ k = 24 + 8 * d) := fun q => by omega
                rw [if_neg k6, if_neg k7, if_neg k8, if_neg k9, if_neg k6, if_neg q1, if_neg q2, if_neg q3]
                by_cases k4 : k = 4
                · subst k4; simp [hv]
                · by_cases k5 : k = 5
                  · subst k5; simp
                  · simp [k4, k5]
      obtain ⟨M', e1, e2, e3⟩ := m_tells X (Int32.ofNat d) (enc c)
      rw [e1]
      refine ⟨M', rfl, by rw [e2, hX6], fun b h1 h2 => ?_⟩
      rw [e3 b h1, ← hX, up2_ne _ _ _ h1, up2_ne _ _ _ h1, up2_ne _ _ _ h1, up2_ne _ _ _ h1]
      exact uf b h1 h2
    · rw [if_neg h0, if_pos rfl]
      have hX6 : (up2 U 206 6 (W 6 + 1)) 206 = bitW W d t p c := by
        funext k
        simp only [up2_get, true_and, u0]
        unfold bitW
        by_cases k6 : k = 6
        · subst k6; simp
        · have q1 : ∀ z, ¬ (W (22 + 8 * d) = -1 ∧ k = z) := fun z q => h0 q.1
          rw [if_neg k6, if_neg k6, if_neg (q1 _), if_neg (q1 _), if_neg (q1 _)]
          by_cases k4 : k = 4
          · subst k4; simp [hv]
          · by_cases k5 : k = 5
            · subst k5; simp
            · simp [k4, k5]
      obtain ⟨M', e1, e2, e3⟩ := m_tells (up2 U 206 6 (W 6 + 1)) (Int32.ofNat d) (enc c)
      rw [e1]
      refine ⟨M', rfl, by rw [e2, hX6], fun b h1 h2 => ?_⟩
      rw [e3 b h1, up2_ne _ _ _ h1]
      exact uf b h1 h2
  cases c with
  | none =>
    rw [if_pos (show enc none = -1 from rfl)]
    exact tail _ (W 3) rfl rfl
  | some e =>
    have he := hc e rfl
    rw [if_neg (show ¬ enc (some e) = -1 from ofn_ne_m1 (by omega)), show enc (some e) = Int32.ofNat e from rfl, m_fst (by omega)]
    simp only [Option.bind_some]
    refine tail _ _ ?_ rfl
    simp only [up2_get, true_and]
    rw [if_neg (by omega), if_neg (by omega), hM2]
    rfl
theorem m_takes99 (hM : M 206 5 = 99) {x : Int32} : F_X12_takes M x = some (-1, M) := by
  unfold F_X12_takes F_X12_takesNone
  rw [if_pos hM]
  rfl
/-- a bite of the lady at a beside a spoon of the reference -/
theorem bite_sim (hL : LR C a (M 206)) (hW : WOk n (M 206)) (ha : apS a) (hal : ∀ j, j < 6 → a + j ≠ l + 5) (hl : ∀ j, j < 6 → l + j ≠ 136 ∧ l + j ≠ 137) (hR : LawR C l (M 206)) (hd : d < n) (h99 : ¬ M 206 5 = 99) : ∃ (c : Option Nat) (t p : Int32) (C' M' : HI), F_X3_bite C a (Int32.ofNat d) l = some C' ∧ F_X12_takes M (Int32.ofNat d) = some (p, M') ∧ rg p 0 770 ∧ C' 136 2 = p ∧ C' 136 0 = enc c ∧ LR C' a (bitW (M 206) d t p c) ∧ WOk n (bitW (M 206) d t p c) ∧ M' 206 = tellW (bitW (M 206) d t p c) (Int32.ofNat d) (enc c) ∧ (∀ b, (∀ j, j < 6 → b ≠ a + j) → b ≠ 136 → b ≠ 137 → b ≠ l + 5 → C' b = C b) ∧ (∀ b, b ≠ 206 → b ≠ 213 → M' b = M b) := by
  obtain ⟨c, t, p, s1, s2, s3, s4, ⟨C1, C2, q1, q2, q3, q4, q5, q6, q7⟩, s5, s6⟩ := serve_sim hL hW ha hl hR hd
  obtain ⟨C', b1, b2, b3⟩ := cl_bite (c := c) hL hW.1 hal ha hd q1 q2 q3 q4 q6 q7
  obtain ⟨M', m1, m2, m3⟩ := m_takes (t := t) (p := p) rfl hW h99 hd s1 s2 s5 s6
  have a6 : ∀ j, j < 6 → 136 ≠ a + j := fun j hj q => (ha j hj).1 q.symm
  refine ⟨c, t, p, C', M', b1, m1, s4, ?_, ?_, b2, bitW_ok hW s2 s3 s4 hd, m2, fun b h1 h2 h3 h4 => by rw [b3 b h1, q7 b h2 h3 h4], m3⟩
  · rw [b3 136 a6]; exact q4
  · rw [b3 136 a6]; exact q5
end
