section
variable {C C' M M' : HI} {n N : Nat} {x x1 x2 : Int32} {W V : Nat → Int32}
theorem m_order0 : F_X12_order M x1 x2 = if pc0 (x1 &&& (((1 : Int32) <<< (M 206 0 &&& 31)) - (1 : Int32))) ≤ (6 : Int32) then L_X12_order_47 x2 (x1 &&& (((1 : Int32) <<< (M 206 0 &&& 31)) - (1 : Int32))) (pc0 (x1 &&& (((1 : Int32) <<< (M 206 0 &&& 31)) - (1 : Int32)))) (1000000 : Int32) (0 : Int32) (up2 M 205 0 0) else some (0, up2 M 205 0 1) := by
  unfold F_X12_order F_X12_allDishes F_X12_dishes
  rw [Option.bind_eq_bind, Option.bind_eq_bind, Option.bind_some, Option.bind_some, bc_pc0, Option.bind_eq_bind, Option.bind_some, show up2 M 205 0 0 206 0 = M 206 0 from rfl]
  split
  · rw [m_thr0, Option.bind_some, if_pos rfl]
  · rw [m_thr1, Option.bind_some, if_neg (show ¬ (1 : Int32) = 0 by decide), up2_up2]
theorem c_order0 : F_X11_order C x1 x2 = if pc0 (x1 &&& (((1 : Int32) <<< (C 4 0 &&& 31)) - (1 : Int32))) ≤ (6 : Int32) then (F_X8_search C 3 (x1 &&& (((1 : Int32) <<< (C 4 0 &&& 31)) - (1 : Int32))) 9).bind (fun r6 => if x2 = (-1 : Int32) then some ((Sum.inl (r6 155 0)), r6) else (F_X8_nth r6 x2).bind fun r9 => some ((Sum.inl r9), r6)) else some ((Sum.inr "java/lang/IllegalArgumentException"), C) := by
  unfold F_X11_order F_X1_all
  rw [Option.bind_eq_bind, Option.bind_some, bc_pc0, Option.bind_eq_bind, Option.bind_some]
theorem s_order (h : GR C M n) : ∃ r C' b M', F_X11_order C x1 x2 = some (r, C') ∧ F_X12_order M x1 x2 = some (b, M') ∧ Qs ["java/lang/IllegalArgumentException"] r b M' ∧ (∃ n', GR C' M' n') ∧ fcl C C' ∧ fmo M M' := by
  have hD := h.1.1.D
  have hW := h.1.2.1
  have hn := hW.1.2.1
  rw [c_order0, m_order0, cl_n hD hW.1, hW.1.1]
  generalize hS : x1 &&& (((1 : Int32) <<< (Int32.ofNat n &&& 31)) - (1 : Int32)) = x
  have hxj : ∀ j, tb x j = true → j < n := by
    intro j hj
    rw [← hS, tb_and, tb_all hn] at hj
    simp at hj
    exact hj.2
  obtain ⟨N, hN⟩ : ∃ N, (DS x).length = N := ⟨_, rfl⟩
  have hbc : pc0 x = Int32.ofNat N := by
    rw [pc_tb (fun j h1 h2 => by
      cases q : tb x j with
      | false => rfl
      | true => have := hxj j q; omega)]
    rw [← hN]
    unfold DS
    have ef : (fun i => tb x (0 + i)) = tb x := by funext i; rw [Nat.zero_add]
    rw [dl_len, ef]
  have hN12 : N ≤ 12 := by rw [← hN]; unfold DS; rw [dl_len]; exact cntN_le _ _
  have hx : ∀ e, e ∈ DS x → e < n := fun e he => hxj e (DS_mem.mp he).2
  rw [hbc]
  by_cases h6 : N ≤ 6
  · rw [if_pos (show Int32.ofNat N ≤ (6 : Int32) by rw [show (6 : Int32) = Int32.ofNat 6 from rfl, ofn_le (by omega) (by omega)]; omega), if_pos (show Int32.ofNat N ≤ (6 : Int32) by rw [show (6 : Int32) = Int32.ofNat 6 from rfl, ofn_le (by omega) (by omega)]; omega)]
    -- the class
    have hcp : ∀ A : HI, ∃ C', F_X3_copy A 159 3 = some C' ∧ (∀ W, LR A 3 W → LR C' 159 W) ∧ ∀ x, (∀ j, j < 6 → x ≠ 159 + j) → C' x = A x := fun A => cl_copyL (C := A) (a := 159) (b := 3) (fun i j _ _ => by omega)
    obtain ⟨C1, c1, c2, c3⟩ := hcp (up2 (up2 C 155 1 (Int32.ofNat N)) 155 0 (100 : Int32))
    have f1 : ∀ b, b < 159 → b ≠ 155 → C1 b = C b := fun b q1 q2 => by rw [c3 b (fun j hj => by omega), up2_ne _ _ _ q2, up2_ne _ _ _ q2]
    have hL1 : LR C1 159 (M 206) := c2 _ (h.1.1.congr (fun j hj => by rw [up2_ne _ _ _ (by omega), up2_ne _ _ _ (by omega)]))
    have hR1 : LawR C1 9 (M 206) := h.1.2.2.2.congr (fun j hj => f1 _ (by omega) (by omega)) rfl (fun _ _ _ => rfl)
    have hP : Pk n (M 206) := ⟨hW, C1, hL1, hR1⟩
    have s1 : Cst N (M 206) C1 [] (100, []) := by
      refine ⟨?_, ?_, fun i hi => absurd hi (Nat.not_lt_zero _), fun i hi => absurd hi (Nat.not_lt_zero _), fun i hi => ?_, hR1⟩
      · rw [c3 155 (fun j hj => by omega), up2_get, if_pos ⟨rfl, rfl⟩]
      · rw [c3 155 (fun j hj => by omega), up2_get, if_neg (by decide), up2_get, if_pos ⟨rfl, rfl⟩]
      · have : i = 0 := by rw [List.length_nil] at hi; omega
        subst this
        exact hL1
    obtain ⟨C2, g1, g2, g3⟩ := og h6 hP N 8 0 x [] C1 (100, []) (by omega) (by omega) rfl hN hx (fun e he => absurd he List.not_mem_nil) s1
    have es : F_X8_search C 3 x 9 = some C2 := by
      unfold F_X8_search
      rw [bc_pc0, hbc, Option.bind_eq_bind, Option.bind_some, if_pos (by decide)]
      have em : (if Int32.ofNat N < (6 : Int32) then Int32.ofNat N else (6 : Int32)) = Int32.ofNat N := by
        rw [show (6 : Int32) = Int32.ofNat 6 from rfl]
        by_cases q : N < 6
        · rw [if_pos (by rw [ofn_lt (by omega) (by omega)]; exact q)]
        · rw [if_neg (by rw [ofn_lt (by omega) (by omega)]; exact q), show N = 6 by omega]
      have c1' : F_X3_copy (up2 (up2 C 155 1 (Int32.ofNat N)) 155 0 (100 : Int32)) (159 + 6 * ((0 : Int32)).toNatClampNeg) 3 = some C1 := c1
      rw [em, c1', Option.bind_eq_bind, Option.bind_some]
      have e4 : C1 3 4 = sdR (M 206) [] := by rw [f1 3 (by omega) (by omega)]; exact h.1.1.1.2.2.2.1
      have g1' : F_X8_goOn 8 C1 0 x (sdR (M 206) []) 9 = some C2 := g1
      rw [e4, g1']
      rfl
    rw [es, Option.bind_some]
    -- the reference
    obtain ⟨M2, k1, k2, k3, k4⟩ := m_order47 (x2 := x2) h6 hP hN hx hbc (fkt N) 0 (up2 M 205 0 0) (1000000, []) (by omega) rfl (fun i hi => absurd hi (Nat.not_lt_zero _))
    have k1' : L_X12_order_47 x2 x (Int32.ofNat N) 1000000 0 (up2 M 205 0 0) = _ := k1
    have en := ofold_num (M 206) N x [] (1000000, []) hN
    have en' : lp (fun num s => oup (M 206) s (nthR N x num)) 0 (fkt N) (1000000, []) = ofold (M 206) N x [] (1000000, []) := en
    have sd99 : ∀ r : List Nat, (∀ e, e ∈ r → e ∈ ([] : List Nat) ∨ e ∈ DS x) → rg (sdR (M 206) r) 0 99 := fun r he => hP.sdR (fun e q => by
      rcases he e q with w | w
      · exact absurd w List.not_mem_nil
      · exact hx e w)
    have ea : ofold (M 206) N x [] (1000000, []) = ofold (M 206) N x [] (100, []) := ofold_any (M 206) N x [] _ _ hN (fun r he => by
      have := (sd99 r he).2
      refine ⟨?_, ?_⟩
      · show sdR (M 206) r < 1000000
        rw [ti_lt, ti_mill]; omega
      · show sdR (M 206) r < 100
        rw [ti_lt, ti_100]; omega)
    have el := ofold_len (M 206) N x [] (100, []) hN (Or.inr (fun r he => by
      have := (sd99 r he).2
      show sdR (M 206) r < 100
      rw [ti_lt, ti_100]; omega))
    rw [List.length_nil, Nat.zero_add] at el
    rw [en', ea] at k1' k4
    generalize ofold (M 206) N x [] (100, []) = st at k1' k4 g2 el
    have hth : M2 205 = up2 M 205 0 0 205 := k3 205 (by decide) (by decide) (by decide) (by decide) (by decide)
    have hG : GR C2 M2 n := h.congr (fun b q1 q2 => by rw [g3 b q2 (by omega) (by omega) (by omega) (by omega) (by omega) (by omega), f1 b (by omega) (by omega)]) (fun b q1 q2 q3 q4 => by
      by_cases q : b = 206
      · subst q; exact k2
      · rw [k3 b q q4 (by omega) (by omega) (by omega), up2_ne _ _ _ (by omega)]) (fun k hk => by rw [hth, up2_get, if_neg (by omega)])
    have hf : fcl C C2 := fun b hb => by rw [g3 b (by omega) (by omega) (by omega) (by omega) (by omega) (by omega) (by omega), c3 b (fun j hj => by omega), up2_ne _ _ _ (by omega), up2_ne _ _ _ (by omega)]
    have hm : fmo M M2 := fun b hb => by rw [k3 b (by omega) (by omega) (by omega) (by omega) (by omega), up2_ne _ _ _ (by omega)]
    have ht0 : M2 205 0 = 0 := by rw [hth, up2_get, if_pos ⟨rfl, rfl⟩]
    rw [k1', L_X12_order_47, m_fkt N h6, Option.bind_eq_bind, Option.bind_some, if_pos (Int32.le_refl _)]
    by_cases q : x2 = -1
    · rw [if_pos q, if_pos q]
      exact ⟨_, _, _, _, rfl, rfl, ⟨0, by rw [thrn, ht0], rfl, g2.1⟩, ⟨n, hG⟩, hf, hm⟩
    · rw [if_neg q, if_neg q]
      unfold F_X8_nth
      rw [g2.2.1]
      rcases nat_or x2 N (by omega) with ⟨d, hd, rfl⟩ | w
      · rw [if_neg (by rw [show (0 : Int32) = Int32.ofNat 0 from rfl, ofn_lt (by omega) (by omega)]; omega), if_neg (by rw [ofn_le (by omega) (by omega)]; omega), ald_ofn (by omega) (by omega), Option.bind_eq_bind, Option.bind_some, Option.bind_some]
        have hin : F_X12_in M2 (Int32.ofNat d) 0 (Int32.ofNat N - 1) = some 1 := m_in1 ⟨by rw [show (0 : Int32) = Int32.ofNat 0 from rfl, ofn_lt (by omega) (by omega)]; omega, by
          rw [ti_lt, ti_sub (by rw [ti_ofn (by omega), ti_1]; omega) (by rw [ti_ofn (by omega), ti_1]; omega), ti_ofn (by omega), ti_ofn (by omega), ti_1]; omega⟩
        rw [hin, Option.bind_some, if_neg (by decide), ald_ofn (by omega) (by omega), Option.bind_some]
        exact ⟨_, _, _, _, rfl, rfl, ⟨0, by rw [thrn, ht0], rfl, by rw [g2.2.2.2.1 d (by omega), k4 d (by omega)]⟩, ⟨n, hG⟩, hf, hm⟩
      · have e8 : (if x2 < 0 then some (-1 : Int32) else if Int32.ofNat N ≤ x2 then some (-1 : Int32) else (ald 6 (C2 157) x2) >>= fun v3 => some v3) = some (-1) := by
          by_cases y : x2 < 0
          · rw [if_pos y]
          · rw [if_neg y, if_pos (w.resolve_left y)]
        have hin : F_X12_in M2 x2 0 (Int32.ofNat N - 1) = some 0 := m_in0 (by
          rcases w with w | w
          · exact Or.inl w
          · right
            rw [ti_le, ti_ofn (by omega)] at w
            rw [ti_lt, ti_sub (by rw [ti_ofn (by omega), ti_1]; omega) (by rw [ti_ofn (by omega), ti_1]; omega), ti_ofn (by omega), ti_1]; omega)
        rw [e8, hin, Option.bind_some, Option.bind_some, if_pos rfl]
        exact ⟨_, _, _, _, rfl, rfl, ⟨0, by rw [thrn, ht0], rfl, rfl⟩, ⟨n, hG⟩, hf, hm⟩
  · rw [if_neg (show ¬ Int32.ofNat N ≤ (6 : Int32) by rw [show (6 : Int32) = Int32.ofNat 6 from rfl, ofn_le (by omega) (by omega)]; omega), if_neg (show ¬ Int32.ofNat N ≤ (6 : Int32) by rw [show (6 : Int32) = Int32.ofNat 6 from rfl, ofn_le (by omega) (by omega)]; omega)]
    exact ⟨_, _, _, _, rfl, rfl, ⟨1, rfl, 0, rfl, rfl⟩, ⟨n, h.thr 1⟩, fcl.refl _, fmo_thr _ _⟩
end
