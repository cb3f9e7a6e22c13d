section
variable {C C' M M' : HI} {n N T d b : Nat} {x1 x2 : Int32} {W : Nat → Int32}
/-- the tape, as numbers -/
theorem use_nat (h : GR C M n) : ∃ T C0 N0, ∃ vs : Nat → Nat, T ≤ 400 ∧ F_X11_takeTape C = some (Int32.ofNat T, C0) ∧ F_X12_uses M = some N0 ∧ GR C0 N0 n ∧ N0 205 11 = Int32.ofNat T ∧ N0 205 0 = 0 ∧ (∀ i, i < T → vs i < 256 ∧ C0 2 i = Int32.ofNat (vs i) ∧ N0 211 i = byI (vs i)) ∧ fcl C C0 ∧ fmo M N0 ∧ N0 205 10 = 0 := by
  obtain ⟨T, hT, u1, u2, u3, u4, u5, u6, u7, u8, u9⟩ := use_sim h
  have hb : ∀ i, ∃ v, i < T → v < 256 ∧ ct C 2 i = Int32.ofNat v ∧ us M 211 i = byI v := fun i => by
    by_cases q : i < T
    · obtain ⟨v, v1, v2, v3⟩ := u7 i q; exact ⟨v, fun _ => ⟨v1, v2, v3⟩⟩
    · exact ⟨0, fun w => absurd w q⟩
  obtain ⟨vs, hvs⟩ := Classical.axiomOfChoice hb
  exact ⟨T, _, _, vs, hT, u1, u2, u3, u4, u5, fun i hi => hvs i hi, u8, u9, u6⟩
theorem s_unknown (h : GR C M n) : ∃ r C' b M', F_X11_unknown C = some (r, C') ∧ F_X12_unknown M = some (b, M') ∧ Qs ["java/lang/IllegalArgumentException"] r b M' ∧ (∃ n', GR C' M' n') ∧ fcl C C' ∧ fmo M M' := by
  obtain ⟨T, C0, N0, vs, hT, u1, u2, u3, u4, u5, hvs, u8, u9, -⟩ := use_nat h
  unfold F_X11_unknown F_X12_unknown
  simp only [Option.bind_eq_bind]
  rw [u1, Option.bind_some, u2, Option.bind_some, u4]
  by_cases q : T ≤ 20
  · have q' : Int32.ofNat T ≤ (20 : Int32) := by rw [show (20 : Int32) = Int32.ofNat 20 from rfl, ofn_le (by omega) (by omega)]; exact q
    rw [if_pos q', if_pos q', cl_fit u3.1.1 u3.1.2.1.1 hT (fun i hi => ⟨(hvs i hi).1, (hvs i hi).2.1⟩), Option.bind_some, m_thr0, Option.bind_some, if_pos rfl, m_fit (M := N0) u3.1.2.1.1 u4 hT (fun i hi => ⟨(hvs i hi).1, (hvs i hi).2.2⟩), Option.bind_some]
    exact ⟨_, _, _, _, rfl, rfl, ⟨0, by rw [thrn]; exact congrArg some u5, rfl, rfl⟩, ⟨n, u3⟩, u8, u9⟩
  · have q' : ¬ Int32.ofNat T ≤ (20 : Int32) := by rw [show (20 : Int32) = Int32.ofNat 20 from rfl, ofn_le (by omega) (by omega)]; exact q
    rw [if_neg q', if_neg q', m_thr1, Option.bind_some, if_neg (show ¬ (1 : Int32) = 0 by decide)]
    exact ⟨_, _, _, _, rfl, rfl, ⟨1, rfl, 0, rfl, rfl⟩, ⟨n, u3.thr 1⟩, u8, u9.trans (fmo_thr _ _)⟩
/-- the greater part, when d is served -/
def prt (m q : Nat) : Int32 := if Int32.ofNat q < Int32.ofNat m - Int32.ofNat q then Int32.ofNat m - Int32.ofNat q else Int32.ofNat q
theorem prt_rg {m q : Nat} (hq : q ≤ m) (hm : m ≤ 12) : (prt m q).toInt ≤ 12 := by
  unfold prt
  have e : (Int32.ofNat m - Int32.ofNat q).toInt = (m : Int) - q := by rw [ti_sub (by rw [ti_ofn (by omega), ti_ofn (by omega)]; omega) (by rw [ti_ofn (by omega), ti_ofn (by omega)]; omega), ti_ofn (by omega), ti_ofn (by omega)]
  split
  · rw [e]; omega
  · rw [ti_ofn (by omega)]; omega
def ntl (W : Nat → Int32) (n : Nat) (P : Nat → Bool) (d : Nat) : Nat := cntN n (fun e => P e && decide (W (22 + 8 * e) ≤ W (22 + 8 * d)))
theorem ntl_le (P : Nat → Bool) : ntl W n P d ≤ cntN n P := cntN_mono (fun e _ h => by simp at h; exact h.1)
theorem s_serve (h : GR C M n) : ∃ r C' b M', F_X11_serve C = some (r, C') ∧ F_X12_serve M = some (b, M') ∧ Qs ["java/lang/IllegalArgumentException"] r b M' ∧ (∃ n', GR C' M' n') ∧ fcl C C' ∧ fmo M M' := by
  obtain ⟨T, C0, N0, vs, hT, u1, u2, u3, u4, u5, hvs, u8, u9, -⟩ := use_nat h
  have hn := u3.1.2.1.1.2.1
  have hD := u3.1.1.D
  have hW := u3.1.2.1.1
  unfold F_X11_serve F_X12_serve
  simp only [Option.bind_eq_bind]
  rw [u1, Option.bind_some, u2, Option.bind_some, u4]
  by_cases q : T ≤ 20
  · have q' : Int32.ofNat T ≤ (20 : Int32) := by rw [show (20 : Int32) = Int32.ofNat 20 from rfl, ofn_le (by omega) (by omega)]; exact q
    rw [if_pos q', if_pos q', cl_fit u3.1.1 u3.1.2.1.1 hT (fun i hi => ⟨(hvs i hi).1, (hvs i hi).2.1⟩), Option.bind_some, m_thr0, Option.bind_some, if_pos rfl, m_fit (M := N0) u3.1.2.1.1 u4 hT (fun i hi => ⟨(hvs i hi).1, (hvs i hi).2.2⟩), Option.bind_some, bc_pc0, Option.bind_some, bc_pc0, Option.bind_some, pc_bits hn]
    let P : Nat → Bool := fitA (N0 206) vs T
    have hPhad : ∀ e, P e = true → ¬ N0 206 (22 + 8 * e) = -1 := fun e he => by
      have : fitA (N0 206) vs T e = true := he
      unfold fitA at this
      exact (of_decide_eq_true this).1
    have hm12 : cntN n P ≤ 12 := Nat.le_trans (cntN_le n P) hn
    have gp : ∀ d, d < n → F_X11_greaterPart C0 (Int32.ofNat d) (bits n P) = some (prt (cntN n P) (ntl (N0 206) n P d)) := by
      intro d hd
      unfold F_X11_greaterPart
      have e1 : ald 12 (C0 6) (Int32.ofNat d) = some (N0 206 (22 + 8 * d)) := cl_fst hD (by omega)
      have e2 : F_X1_firstIn C0 4 0 (N0 206 (22 + 8 * d)) = some (bits n (fun e => decide (¬ N0 206 (22 + 8 * e) = -1 ∧ ¬ N0 206 (22 + 8 * e) < 0 ∧ ¬ N0 206 (22 + 8 * d) < N0 206 (22 + 8 * e)))) := cl_firstIn hD hW
      rw [e1, Option.bind_eq_bind, Option.bind_some, e2, Option.bind_some, bc_pc0, Option.bind_some, bc_pc0, Option.bind_some, pc_bits hn]
      have e3 : pc0 (bits n P &&& bits n (fun e => decide (¬ N0 206 (22 + 8 * e) = -1 ∧ ¬ N0 206 (22 + 8 * e) < 0 ∧ ¬ N0 206 (22 + 8 * d) < N0 206 (22 + 8 * e)))) = Int32.ofNat (ntl (N0 206) n P d) := by
        have : bits n P &&& bits n (fun e => decide (¬ N0 206 (22 + 8 * e) = -1 ∧ ¬ N0 206 (22 + 8 * e) < 0 ∧ ¬ N0 206 (22 + 8 * d) < N0 206 (22 + 8 * e))) = bits n (fun e => P e && decide (N0 206 (22 + 8 * e) ≤ N0 206 (22 + 8 * d))) := by
          apply tb_ext
          intro j _
          rw [tb_and, tb_bits (by omega), tb_bits (by omega), tb_bits (by omega)]
          by_cases hj : j < n
          · simp only [hj, decide_true, Bool.true_and]
            cases hp : P j with
            | false => rfl
            | true =>
              have h0 := hPhad j hp
              obtain ⟨f, f1, f2⟩ := fst_nat hW (show j < 12 by omega) h0
              have h1 : ¬ N0 206 (22 + 8 * j) < 0 := by rw [f2]; exact ofn_nneg (by omega)
              simp only [Bool.true_and]
              congr 1
              apply propext
              constructor
              · rintro ⟨-, -, w⟩; exact ile_of_not_lt w
              · intro w; exact ⟨h0, h1, by rw [ti_le] at w; rw [ti_lt]; omega⟩
          · simp [hj]
        rw [this, pc_bits hn]
        rfl
      rw [e3]
      rfl
    have mp : ∀ (d : Nat) (x3 x4 : Int32), d < n → ∃ z, L_X12_serve_79 N0 (bits n P) (Int32.ofNat (cntN n P)) x3 x4 (Int32.ofNat d) 0 0 = some (Int32.ofNat (ntl (N0 206) n P d), z) := by
      intro d x3 x4 hd
      refine ⟨Int32.ofNat n, ?_⟩
      have := lp_rule (fun s i => L_X12_serve_79 N0 (bits n P) (Int32.ofNat (cntN n P)) x3 x4 (Int32.ofNat d) s i) n (by omega) (fun e s => if (P e && decide (N0 206 (22 + 8 * e) ≤ N0 206 (22 + 8 * d))) = true then s + 1 else s) (fun s => (s, Int32.ofNat n)) (fun s => by
        rw [L_X12_serve_79]
        unfold F_X12_dishes
        rw [Option.bind_eq_bind, Option.bind_some, hW.1, if_pos (Int32.le_refl _)]) (fun i s hi => by
        try simp only
        rw [L_X12_serve_79]
        unfold F_X12_dishes
        rw [has_tb (by omega), m_fst (show i < 12 by omega), m_fst (show d < 12 by omega)]
        simp only [Option.bind_eq_bind, Option.bind_some]
        rw [hW.1, if_neg (by rw [ofn_le (by omega) (by omega)]; omega), tb_bits (by omega)]
        simp only [ite10, hi, decide_true, Bool.true_and, Int32.add_zero]
        cases hp : P i with
        | false => simp
        | true =>
          by_cases w : N0 206 (22 + 8 * i) ≤ N0 206 (22 + 8 * d)
          · have w2 : ¬ N0 206 (22 + 8 * d) < N0 206 (22 + 8 * i) := by rw [ti_le] at w; rw [ti_lt]; omega
            simp [w, w2]
          · have w2 : N0 206 (22 + 8 * d) < N0 206 (22 + 8 * i) := ilt_of_not_le w
            simp [w, w2]) n 0 (0 : Int32) (by omega)
      refine Eq.trans this ?_
      congr 2
      have hc : ∀ k i (s : Nat), lp (fun e (s : Int32) => if (P e && decide (N0 206 (22 + 8 * e) ≤ N0 206 (22 + 8 * d))) = true then s + 1 else s) i k (Int32.ofNat s) = Int32.ofNat (lp (fun e (s : Nat) => if (P e && decide (N0 206 (22 + 8 * e) ≤ N0 206 (22 + 8 * d))) = true then s + 1 else s) i k s) := by
        intro k
        induction k with
        | zero => intro i s; rfl
        | succ k ih =>
          intro i s
          show lp _ (i + 1) k (if _ then Int32.ofNat s + 1 else Int32.ofNat s) = Int32.ofNat (lp _ (i + 1) k (if _ then s + 1 else s))
          split
          · rw [ofn_succ]; exact ih (i + 1) (s + 1)
          · exact ih (i + 1) s
      exact hc n 0 0
    by_cases hm : 2 ≤ cntN n P
    · have key : ∀ (k i : Nat) (best lc lm : Int32), i + k = n → ((best = -1 ∧ lc = 13 ∧ lm = 1000000) ∨ (lc = lm)) → ∃ r, L_X11_serve_47 C0 (bits n P) best lc (Int32.ofNat i) = some (Sum.inl r, C0) ∧ L_X12_serve_47 N0 (bits n P) (Int32.ofNat (cntN n P)) best lm (Int32.ofNat i) = some (r, N0) := by
        intro k
        induction k with
        | zero =>
          intro i best lc lm hi _
          refine ⟨best, ?_, ?_⟩
          · rw [L_X11_serve_47, show C0 4 0 = Int32.ofNat n from cl_n hD hW, show i = n by omega, if_pos (Int32.le_refl _)]
          · rw [L_X12_serve_47]
            unfold F_X12_dishes
            rw [Option.bind_eq_bind, Option.bind_some, hW.1, show i = n by omega, if_pos (Int32.le_refl _)]
        | succ k ih =>
          intro i best lc lm hi hb
          have eh : F_X1_isHad C0 4 (Int32.ofNat i) = some (if N0 206 (22 + 8 * i) = -1 then 0 else 1) := cl_isHad hD hW (by omega)
          have ec : L_X11_serve_47 C0 (bits n P) best lc (Int32.ofNat i) = (if N0 206 (22 + 8 * i) = -1 then L_X11_serve_47 C0 (bits n P) best lc (Int32.ofNat (i + 1)) else if lc ≤ prt (cntN n P) (ntl (N0 206) n P i) then L_X11_serve_47 C0 (bits n P) best lc (Int32.ofNat (i + 1)) else L_X11_serve_47 C0 (bits n P) (Int32.ofNat i) (prt (cntN n P) (ntl (N0 206) n P i)) (Int32.ofNat (i + 1))) := by
            rw [L_X11_serve_47, show C0 4 0 = Int32.ofNat n from cl_n hD hW, if_neg (by rw [ofn_le (by omega) (by omega)]; omega), gp i (by omega), Option.bind_eq_bind, Option.bind_some, eh, Option.bind_some, ofn_succ]
            by_cases w : N0 206 (22 + 8 * i) = -1
            · rw [if_pos w, if_pos w, if_pos rfl]
            · rw [if_neg w, if_neg w, if_neg (by decide)]
          obtain ⟨z, hz⟩ := mp i best lm (by omega)
          have em : L_X12_serve_47 N0 (bits n P) (Int32.ofNat (cntN n P)) best lm (Int32.ofNat i) = (if N0 206 (22 + 8 * i) = -1 then L_X12_serve_47 N0 (bits n P) (Int32.ofNat (cntN n P)) best lm (Int32.ofNat (i + 1)) else if lm ≤ prt (cntN n P) (ntl (N0 206) n P i) then L_X12_serve_47 N0 (bits n P) (Int32.ofNat (cntN n P)) best (if prt (cntN n P) (ntl (N0 206) n P i) < lm then prt (cntN n P) (ntl (N0 206) n P i) else lm) (Int32.ofNat (i + 1)) else L_X12_serve_47 N0 (bits n P) (Int32.ofNat (cntN n P)) (Int32.ofNat i) (if prt (cntN n P) (ntl (N0 206) n P i) < lm then prt (cntN n P) (ntl (N0 206) n P i) else lm) (Int32.ofNat (i + 1))) := by
            rw [L_X12_serve_47]
            unfold F_X12_dishes
            rw [Option.bind_eq_bind, Option.bind_some, hW.1, if_neg (by rw [ofn_le (by omega) (by omega)]; omega), if_neg (by rw [show (1 : Int32) = Int32.ofNat 1 from rfl, ofn_le (by omega) (by omega)]; omega), m_isNew (show i < 12 by omega), Option.bind_some, hz, ofn_succ]
            by_cases w : N0 206 (22 + 8 * i) = -1
            · rw [if_pos w, if_pos w, if_neg (by decide)]
            · rw [if_neg w, if_neg w, if_pos rfl]
              rfl
          have hp12 : (prt (cntN n P) (ntl (N0 206) n P i)).toInt ≤ 12 := prt_rg (ntl_le P) hm12
          generalize prt (cntN n P) (ntl (N0 206) n P i) = p at ec em hp12
          rw [ec, em]
          by_cases w : N0 206 (22 + 8 * i) = -1
          · rw [if_pos w, if_pos w]
            exact ih (i + 1) best lc lm (by omega) hb
          · rw [if_neg w, if_neg w]
            rcases hb with ⟨rfl, rfl, rfl⟩ | rfl
            · have y1 : ¬ (13 : Int32) ≤ p := by rw [ti_le, show (13 : Int32).toInt = 13 by decide]; omega
              have y2 : ¬ (1000000 : Int32) ≤ p := by rw [ti_le, ti_mill]; omega
              rw [if_neg y1, if_neg y2, if_pos (ilt_of_not_le y2)]
              exact ih (i + 1) _ p p (by omega) (Or.inr rfl)
            · by_cases y : lc ≤ p
              · rw [if_pos y, if_pos y, if_neg (show ¬ p < lc by rw [ti_le] at y; rw [ti_lt]; omega)]
                exact ih (i + 1) best lc lc (by omega) (Or.inr rfl)
              · rw [if_neg y, if_neg y, if_pos (ilt_of_not_le y)]
                exact ih (i + 1) _ p p (by omega) (Or.inr rfl)
      obtain ⟨r, e1, e2⟩ := key n 0 (-1) 13 1000000 (by omega) (Or.inl ⟨rfl, rfl, rfl⟩)
      rw [if_pos (show (2 : Int32) ≤ Int32.ofNat (cntN n P) by rw [show (2 : Int32) = Int32.ofNat 2 from rfl, ofn_le (by omega) (by omega)]; exact hm)]
      exact ⟨_, _, _, _, e1, e2, ⟨0, by rw [thrn, u5], rfl, rfl⟩, ⟨n, u3⟩, u8, u9⟩
    · rw [if_neg (show ¬ (2 : Int32) ≤ Int32.ofNat (cntN n P) by rw [show (2 : Int32) = Int32.ofNat 2 from rfl, ofn_le (by omega) (by omega)]; exact hm)]
      have e2 : L_X12_serve_47 N0 (bits n P) (Int32.ofNat (cntN n P)) (-1) 1000000 0 = some (-1, N0) := by
        rw [L_X12_serve_47]
        unfold F_X12_dishes
        rw [Option.bind_eq_bind, Option.bind_some]
        split
        · rfl
        · rw [if_pos (show Int32.ofNat (cntN n P) ≤ 1 by rw [show (1 : Int32) = Int32.ofNat 1 from rfl, ofn_le (by omega) (by omega)]; omega)]
      exact ⟨_, _, _, _, rfl, e2, ⟨0, by rw [thrn, u5], rfl, rfl⟩, ⟨n, u3⟩, u8, u9⟩
  · have q' : ¬ Int32.ofNat T ≤ (20 : Int32) := by rw [show (20 : Int32) = Int32.ofNat 20 from rfl, ofn_le (by omega) (by omega)]; exact q
    rw [if_neg q', if_neg q', m_thr1, Option.bind_some, if_neg (show ¬ (1 : Int32) = 0 by decide)]
    exact ⟨_, _, _, _, rfl, rfl, ⟨1, rfl, 0, rfl, rfl⟩, ⟨n, u3.thr 1⟩, u8, u9.trans (fmo_thr _ _)⟩
end
