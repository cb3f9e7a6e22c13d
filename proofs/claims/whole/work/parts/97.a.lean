section
variable {C C' M M' X X' : HI} {a T n d b : Nat} {vs : Nat → Nat} {W W' : Nat → Int32}
theorem LR_tk (h : LR C 140 W) {b : Nat} : LR (ctk C 138 T vs b) 140 W := h.congr (fun j hj => ctk_ne (by omega))
theorem sm_ne {v : Nat} : ¬ (some v = (none : Option Nat)) := fun w => by cases w
theorem LSt.tk (h : LSt C X T vs b n) : b ≤ T := h.2.1.2.2.2
/-- number lines -/
theorem lf_num (h : LSt C X T vs b n) (hk : kd vs T b = 1) {ci wi hi : Nat} (hp : (ci = 2 ∧ wi = 3) ∨ (ci = 3 ∧ wi = 4) ∨ (ci = 7 ∧ wi = 8) ∨ (ci = 8 ∧ wi = 9) ∨ (ci = 9 ∧ wi = 10) ∨ (ci = 10 ∧ wi = 11) ∨ (ci = 11 ∧ wi = 12) ∨ (ci = 12 ∧ wi = 13)) (hhi : hi ≤ 1000) (hok : ∀ v, v ≤ hi → okI wi (Int32.ofNat v)) : lfO ((F_X10_numberBehind C 138 0 (Int32.ofNat hi)).bind fun r => if r.1 = (-1 : Int32) then some ((0 : Int32), (up2 r.2 140 ci r.1)) else some ((1 : Int32), (up2 r.2 140 ci r.1))) (F_X12_readNumber (mp X (rk vs T 1 b) b) (Int32.ofNat wi) 0 (Int32.ofNat hi)) C X T vs := by
  obtain ⟨h1, h2, h3, h4, h5⟩ := id h
  have hb := h.tk
  have hn1 := nx_spec (vs := vs) hb
  have hn2 := nx_spec (vs := vs) hn1.2.1
  have e1 := cl_numBehind h1 (by decide) (lo := 0) (hi := hi) h2 (by omega) hhi
  have e1' : F_X10_numberBehind C 138 0 (Int32.ofNat hi) = _ := e1
  have e2 := m_readNumber h3 (p := rk vs T 1 b) (c := b) (k := wi) (lo := 0) (hi := hi) (rk_le hb).2 (by omega) (by omega) hhi
  have e2' : F_X12_readNumber (mp X (rk vs T 1 b) b) (Int32.ofNat wi) 0 (Int32.ofNat hi) = _ := e2
  have en : skb vs T (rk vs T 1 b) = nx vs T b := by rw [← tnd_1 hk]; rfl
  rw [e1', e2', en, Option.bind_some]
  cases q : nAt vs T 0 hi (nx vs T b) with
  | none =>
    right
    refine ⟨_, X, _, _, by rw [if_pos (show enc none = -1 from rfl), if_pos rfl], rfl, hn1.2.1, ?_, ?_, frX.refl _⟩
    · rw [up2_ne _ _ _ (by decide)]; exact (ctk_TK (C := C) (a := 138) (vs := vs) hn1.2.1).1
    · exact frL_tk.trans (frL_up 140 (by omega))
  | some v =>
    have hv := nAt_rg q
    left
    refine ⟨ctk (up2 C 140 ci (Int32.ofNat v)) 138 T vs (nx vs T (nx vs T b)), up2 X 206 wi (Int32.ofNat v), tnd vs T (nx vs T b), nx vs T b, nx vs T (nx vs T b), n, ?_, rfl, (tnd_spec hn1.2.1).2.1, rfl, ⟨?_, ctk_TK hn2.2.1, h3.up (by decide) (Or.inl (by decide)), ?_, ?_⟩, ?_, frX_up (by omega)⟩
    · rw [if_neg (show ¬ enc (some v) = -1 from ofn_ne_m1 (by omega)), if_neg sm_ne, ← ctk_up (by decide)]
      rfl
    · exact (h1.up (by decide) (Or.inl (by decide))).tk (by decide) _
    · rw [upd206]
      exact LR_tk (h4.set2 (Or.inr hp))
    · rw [upd206]
      exact h5.set2 (hok v hv.2.1)
    · exact (frL_up 140 (by omega)).trans frL_tk
/-- the day of today -/
theorem lf_today (h : LSt C X T vs b n) (hk : kd vs T b = 1) : lfO ((F_X10_numberBehind C 138 0 999).bind fun r34 => if r34.1 = (-1 : Int32) then some ((0 : Int32), (up2 (up2 r34.2 140 2 r34.1) 140 3 r34.1)) else some ((1 : Int32), (up2 (up2 r34.2 140 2 r34.1) 140 3 r34.1))) (F_X12_readToday (mp X (rk vs T 1 b) b)) C X T vs := by
  obtain ⟨h1, h2, h3, h4, h5⟩ := id h
  have hb := h.tk
  have hn1 := nx_spec (vs := vs) hb
  have hn2 := nx_spec (vs := vs) hn1.2.1
  have e1 := cl_numBehind h1 (by decide) (lo := 0) (hi := 999) h2 (by omega) (by omega)
  have e1' : F_X10_numberBehind C 138 0 999 = _ := e1
  have e2 := m_readNumber h3 (p := rk vs T 1 b) (c := b) (k := 3) (lo := 0) (hi := 999) (rk_le hb).2 (by omega) (by omega) (by omega)
  have e2' : F_X12_readNumber (mp X (rk vs T 1 b) b) 3 0 999 = _ := e2
  have en : skb vs T (rk vs T 1 b) = nx vs T b := by rw [← tnd_1 hk]; rfl
  unfold F_X12_readToday
  rw [e1', e2', en, Option.bind_some, Option.bind_eq_bind, Option.bind_some]
  cases q : nAt vs T 0 999 (nx vs T b) with
  | none =>
    right
    refine ⟨_, X, _, _, by rw [if_pos (show enc none = -1 from rfl), if_pos rfl], rfl, hn1.2.1, ?_, ?_, frX.refl _⟩
    · rw [up2_ne _ _ _ (by decide), up2_ne _ _ _ (by decide)]; exact (ctk_TK (C := C) (a := 138) (vs := vs) hn1.2.1).1
    · exact (frL_tk.trans (frL_up 140 (by omega))).trans (frL_up 140 (by omega))
  | some v =>
    have hv := nAt_rg q
    left
    refine ⟨ctk (up2 (up2 C 140 2 (Int32.ofNat v)) 140 3 (Int32.ofNat v)) 138 T vs (nx vs T (nx vs T b)), up2 (up2 X 206 3 (Int32.ofNat v)) 206 4 (Int32.ofNat v), tnd vs T (nx vs T b), nx vs T b, nx vs T (nx vs T b), n, ?_, ?_, (tnd_spec hn1.2.1).2.1, rfl, ⟨?_, ctk_TK hn2.2.1, (h3.up (by decide) (Or.inl (by decide))).up (by decide) (Or.inl (by decide)), ?_, ?_⟩, ?_, (frX_up (by omega)).trans (frX_up (by omega))⟩
    · rw [if_neg (show ¬ enc (some v) = -1 from ofn_ne_m1 (by omega)), if_neg sm_ne, ← ctk_up (by decide), ← ctk_up (by decide)]
      rfl
    · dsimp only
      rw [if_neg (show ¬ (1 : Int32) = 0 by decide)]
      rw [mp_up206]
      have e3 : mp (up2 X 206 3 (Int32.ofNat v)) (tnd vs T (nx vs T b)) (nx vs T b) 206 3 = Int32.ofNat v := by rw [mp_ne _ _ _ (by decide), up2_get, if_pos ⟨rfl, rfl⟩]
      rw [e3]
    · exact ((h1.up (by decide) (Or.inl (by decide))).up (by decide) (Or.inl (by decide))).tk (by decide) _
    · rw [upd206, upd206]
      exact LR_tk ((h4.set2 (Or.inr (Or.inl ⟨rfl, rfl⟩))).set2 (Or.inr (Or.inr (Or.inl ⟨rfl, rfl⟩))))
    · rw [upd206, upd206]
      have r : rg (Int32.ofNat v) 0 9999 := rg_ofn (by omega) (by omega)
      exact (h5.set2 (Or.inr (Or.inl ⟨rfl, r⟩))).set2 (Or.inr (Or.inr (Or.inl ⟨rfl, r⟩)))
    · exact ((frL_up 140 (by omega)).trans (frL_up 140 (by omega))).trans frL_tk
/-- the war -/
theorem lf_war (h : LSt C X T vs b n) (hk : kd vs T b = 1) : lfO (F_X6_readWar C) (F_X12_readWar (mp X (rk vs T 1 b) b)) C X T vs := by
  obtain ⟨h1, h2, h3, h4, h5⟩ := id h
  have hb := h.tk
  have hn1 := nx_spec (vs := vs) hb
  have hn2 := nx_spec (vs := vs) hn1.2.1
  have hn3 := nx_spec (vs := vs) hn2.2.1
  have hn4 := nx_spec (vs := vs) hn3.2.1
  have e1 := cl_numBehind h1 (by decide) (lo := 0) (hi := 999) h2 (by omega) (by omega)
  have e1' : F_X10_numberBehind C 138 0 999 = _ := e1
  have e2 := m_number (h3.mp (rk vs T 1 b) b) (lo := 0) (hi := 999) (mp_10 _ _ _) (rk_le hb).2 (by omega) (by omega)
  have e2' : F_X12_number (mp X (rk vs T 1 b) b) 0 999 = _ := e2
  have en : skb vs T (rk vs T 1 b) = nx vs T b := by rw [← tnd_1 hk]; rfl
  unfold F_X6_readWar F_X12_readWar
  simp only [Option.bind_eq_bind]
  rw [e1', e2', en, Option.bind_some, Option.bind_some, mp_mp]
  cases q : nAt vs T 0 999 (nx vs T b) with
  | none =>
    right
    rw [if_pos rfl]
    refine ⟨_, X, _, _, by rw [if_pos (show enc none = -1 from rfl)], by rw [if_neg (show ¬ (0 : Int32) ≤ enc none by decide)], hn1.2.1, (ctk_TK hn1.2.1).1, frL_tk, frX.refl _⟩
  | some v =>
    have hv := nAt_rg q
    rw [if_neg sm_ne, if_neg (show ¬ enc (some v) = -1 from ofn_ne_m1 (by omega)), if_pos (show (0 : Int32) ≤ enc (some v) by show (0 : Int32) ≤ Int32.ofNat v; rw [show (0 : Int32) = Int32.ofNat 0 from rfl, ofn_le (by omega) (by omega)]; omega)]
    have k2 : TK (ctk C 138 T vs (nx vs T (nx vs T b))) 138 T vs (nx vs T (nx vs T b)) := ctk_TK hn2.2.1
    have c2 : TC (ctk C 138 T vs (nx vs T (nx vs T b))) 138 T vs := h1.tk (by decide) _
    dsimp only
    rw [cl_word c2 k2 W46, Option.bind_some, ← tnd_2 hv.2.2]
    have e4 := m_after (h3.mp (tnd vs T (nx vs T b)) (nx vs T b)) (lo := v) (hi := 999) (mp_10 _ _ _) (tnd_spec hn1.2.1).2.1 W53 (by omega) (by omega)
    rw [show skb vs T (tnd vs T (nx vs T b)) = nx vs T (nx vs T b) from rfl] at e4
    have e4' : F_X12_after (mp X (tnd vs T (nx vs T b)) (nx vs T b)) 53 (enc (some v)) 999 = _ := e4
    rw [e4', Option.bind_some]
    by_cases w : wd vs T (nx vs T (nx vs T b)) w_to = true
    · rw [bi_t w, if_pos w, if_neg (show ¬ (1 : Int32) = 0 by decide)]
      dsimp only
      rw [ctk_up (by decide)]
      have c3 : TC (ctk (up2 C 140 8 (Int32.ofNat v)) 138 T vs (nx vs T (nx vs T b))) 138 T vs := (h1.up (by decide) (Or.inl (by decide))).tk (by decide) _
      have e5 := cl_numBehind c3 (by decide) (lo := v) (hi := 999) (ctk_TK hn2.2.1) (by omega) (by omega)
      have e5' : F_X10_numberBehind (ctk (up2 C 140 8 (enc (some v))) 138 T vs (nx vs T (nx vs T b))) 138 (enc (some v)) 999 = _ := e5
      rw [e5', Option.bind_some, ctk_ctk, mp_mp]
      cases q2 : nAt vs T v 999 (nx vs T (nx vs T (nx vs T b))) with
      | none =>
        right
        rw [if_pos rfl]
        refine ⟨_, X, _, _, by rw [if_pos (show enc none = -1 from rfl)], by rw [if_neg (show ¬ (0 : Int32) ≤ enc none by decide)], hn3.2.1, ?_, ?_, frX.refl _⟩
        · rw [up2_ne _ _ _ (by decide)]; exact (ctk_TK (C := up2 C 140 8 (Int32.ofNat v)) (a := 138) (vs := vs) hn3.2.1).1
        · exact ((frL_up 140 (by omega)).trans frL_tk).trans (frL_up 140 (by omega))
      | some u =>
        have hu := nAt_rg q2
        left
        rw [if_neg sm_ne]
        refine ⟨ctk (up2 (up2 C 140 8 (Int32.ofNat v)) 140 9 (Int32.ofNat u)) 138 T vs (nx vs T (nx vs T (nx vs T (nx vs T b)))), up2 (up2 X 206 9 (Int32.ofNat v)) 206 10 (Int32.ofNat u), tnd vs T (nx vs T (nx vs T (nx vs T b))), nx vs T (nx vs T (nx vs T b)), nx vs T (nx vs T (nx vs T (nx vs T b))), n, ?_, ?_, (tnd_spec hn3.2.1).2.1, rfl, ⟨?_, ctk_TK hn4.2.1, (h3.up (by decide) (Or.inl (by decide))).up (by decide) (Or.inl (by decide)), ?_, ?_⟩, ?_, (frX_up (by omega)).trans (frX_up (by omega))⟩
        · rw [if_neg (show ¬ enc (some u) = -1 from ofn_ne_m1 (by omega)), ctk_up (by decide)]
          rfl
        · rw [if_pos (show (0 : Int32) ≤ enc (some u) by show (0 : Int32) ≤ Int32.ofNat u; rw [show (0 : Int32) = Int32.ofNat 0 from rfl, ofn_le (by omega) (by omega)]; omega), mp_up206, mp_up206, ← tnd_2 hu.2.2]
          rfl
        · exact ((h1.up (by decide) (Or.inl (by decide))).up (by decide) (Or.inl (by decide))).tk (by decide) _
        · rw [upd206, upd206]
          exact LR_tk ((h4.set2 (Or.inr (Or.inr (Or.inr (Or.inr (Or.inl ⟨rfl, rfl⟩)))))).set2 (Or.inr (Or.inr (Or.inr (Or.inr (Or.inr (Or.inl ⟨rfl, rfl⟩)))))))
        · rw [upd206, upd206]
          have r1 : rg (Int32.ofNat v) 0 999 := rg_ofn (by omega) (by omega)
          have r2 : rg (Int32.ofNat u) 0 999 := rg_ofn (by omega) (by omega)
          exact (h5.set2 (Or.inr (Or.inr (Or.inr (Or.inr (Or.inl ⟨rfl, r1⟩)))))).set2 (Or.inr (Or.inr (Or.inr (Or.inr (Or.inr (Or.inl ⟨rfl, r2⟩))))))
        · exact ((frL_up 140 (by omega)).trans (frL_up 140 (by omega))).trans frL_tk
    · right
      rw [bi_f w, if_neg w, if_pos rfl]
      refine ⟨_, X, _, _, rfl, by rw [if_neg (show ¬ (0 : Int32) ≤ -1 by decide), mp_mp], hn2.2.1, (ctk_TK hn2.2.1).1, frL_tk, frX.refl _⟩
end
