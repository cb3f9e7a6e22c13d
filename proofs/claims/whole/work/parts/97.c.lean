section
variable {C C' M M' X X' : HI} {a T n d b : Nat} {vs : Nat → Nat} {W W' : Nat → Int32}
def adC (C : HI) (d : Nat) (y p c : Int32) : HI := up2 (up2 (up2 (up2 C 141 0 (Int32.ofNat (d + 1))) 143 d y) 144 d p) 145 d c
def adX (X : HI) (d : Nat) (y p c : Int32) : HI := up2 (up2 (up2 X 206 (22 + 8 * d) y) 206 (23 + 8 * d) p) 206 (24 + 8 * d) c
theorem encp {v : Nat} (h : v ≤ 1000) : (0 : Int32) ≤ enc (some v) := by
  show (0 : Int32) ≤ Int32.ofNat v
  rw [show (0 : Int32) = Int32.ofNat 0 from rfl, ofn_le (by omega) (by omega)]; omega
theorem encn : ¬ (0 : Int32) ≤ enc none := by decide
theorem m_put3 (hd : d < 12) (X : HI) (p b : Nat) (y q c : Int32) : ((F_X12_at (mp X p b) (Int32.ofNat d) (5 : Int32)).bind fun r13 => if inB r13 2051 = true then (F_X12_at (up2 (mp X p b) 206 (r13).toNatClampNeg y) (Int32.ofNat d) (6 : Int32)).bind fun r16 => if inB r16 2051 = true then (F_X12_at (up2 (up2 (mp X p b) 206 (r13).toNatClampNeg y) 206 (r16).toNatClampNeg q) (Int32.ofNat d) (7 : Int32)).bind fun r19 => if inB r19 2051 = true then some ((1 : Int32), (up2 (up2 (up2 (mp X p b) 206 (r13).toNatClampNeg y) 206 (r16).toNatClampNeg q) 206 (r19).toNatClampNeg c)) else none else none else none) = some (1, mp (adX X d y q c) p b) := by
  rw [show (5 : Int32) = Int32.ofNat 5 from rfl, m_at, Option.bind_some, if_pos (inB_ofn (by omega) (by omega)), ofn_clamp (by omega), show (6 : Int32) = Int32.ofNat 6 from rfl, m_at, Option.bind_some, if_pos (inB_ofn (by omega) (by omega)), ofn_clamp (by omega), show (7 : Int32) = Int32.ofNat 7 from rfl, m_at, Option.bind_some, if_pos (inB_ofn (by omega) (by omega)), ofn_clamp (by omega), mp_up206, mp_up206, mp_up206, show 17 + 8 * d + 5 = 22 + 8 * d by omega, show 17 + 8 * d + 6 = 23 + 8 * d by omega, show 17 + 8 * d + 7 = 24 + 8 * d by omega]
  rfl
theorem lf_first (h1 : TC C 138 T vs) {b2 p c : Nat} (k2 : TK C 138 T vs b2) (hX : TM X T vs) (hp : p ≤ T) (hpb : skb vs T p = b2) (hw : wd vs T b2 w_first = true) (h0 : C 141 0 = Int32.ofNat d) (hd : d < 12) : (∃ y q u b' p' c', F_X6_readFirst C = some (1, adC (ctk C 138 T vs b') d y q u) ∧ F_X12_readFirst (mp X p c) (Int32.ofNat d) = some (1, mp (adX X d y q u) p' c') ∧ skb vs T p' = b' ∧ p' ≤ T ∧ b' ≤ T ∧ rg y (-1) 9999 ∧ rg q (-1) 7 ∧ rg u (-1) 7) ∨ (∃ p' f, F_X6_readFirst C = some (0, ctk C 138 T vs f) ∧ F_X12_readFirst (mp X p c) (Int32.ofNat d) = some (0, mp X p' f) ∧ f ≤ T) := by
  have hb := k2.2.2.2
  have hn1 := nx_spec (vs := vs) hb
  have hn2 := nx_spec (vs := vs) hn1.2.1
  have hn3 := nx_spec (vs := vs) hn2.2.1
  have hn4 := nx_spec (vs := vs) hn3.2.1
  have hn5 := nx_spec (vs := vs) hn4.2.1
  have hn6 := nx_spec (vs := vs) hn5.2.1
  have e0 := m_passes (hX.mp p c) (mp_10 _ _ _) hp W50
  rw [hpb, mp_mp, if_pos hw, bi_t hw] at e0
  have e1 := cl_numBehind h1 (by decide) (lo := 0) (hi := 999) k2 (by omega) (by omega)
  have e1' : F_X10_numberBehind C 138 0 999 = _ := e1
  have e2 := m_number (hX.mp (tnd vs T b2) b2) (lo := 0) (hi := 999) (mp_10 _ _ _) (tnd_spec hb).2.1 (by omega) (by omega)
  have e2' : F_X12_number (mp X (tnd vs T b2) b2) 0 999 = _ := e2
  rw [mp_mp, show skb vs T (tnd vs T b2) = nx vs T b2 from rfl] at e2'
  unfold F_X6_readFirst F_X12_readFirst
  simp only [Option.bind_eq_bind]
  rw [e1', e0, Option.bind_some, Option.bind_some, if_neg (show ¬ (1 : Int32) = 0 by decide)]
  dsimp only
  rw [e2', Option.bind_some]
  cases q : nAt vs T 0 999 (nx vs T b2) with
  | none =>
    right
    rw [if_pos (show (none : Option Nat) = none from rfl), if_pos (show enc none = -1 from rfl), if_neg encn]
    exact ⟨_, _, rfl, rfl, hn1.2.1⟩
  | some v =>
    have hv := nAt_rg q
    rw [if_neg sm_ne, if_neg (show ¬ enc (some v) = -1 from ofn_ne_m1 (by omega)), if_pos (encp (by omega))]
    dsimp only
    have c3 : TC (ctk C 138 T vs (nx vs T (nx vs T b2))) 138 T vs := h1.tk (by decide) _
    have k3 : TK (ctk C 138 T vs (nx vs T (nx vs T b2))) 138 T vs (nx vs T (nx vs T b2)) := ctk_TK hn2.2.1
    have e4 := m_after (hX.mp (rk vs T 2 (nx vs T b2)) (nx vs T b2)) (lo := 0) (hi := 7) (mp_10 _ _ _) (rk_le hn1.2.1).2 W51 (by omega) (by omega)
    have en : skb vs T (rk vs T 2 (nx vs T b2)) = nx vs T (nx vs T b2) := by rw [← tnd_2 hv.2.2]; rfl
    rw [en, mp_mp, mp_mp] at e4
    have e4' : F_X12_after (mp X (rk vs T 2 (nx vs T b2)) (nx vs T b2)) 51 0 7 = _ := e4
    rw [cl_word c3 k3 W48, Option.bind_some, e4', Option.bind_some]
    by_cases w : wd vs T (nx vs T (nx vs T b2)) w_at = true
    · have e5 := cl_numBehind c3 (by decide) (lo := 0) (hi := 7) k3 (by omega) (by omega)
      have e5' : F_X10_numberBehind (ctk C 138 T vs (nx vs T (nx vs T b2))) 138 0 7 = _ := e5
      rw [bi_t w, if_pos w, if_neg (show ¬ (1 : Int32) = 0 by decide), e5', Option.bind_some, ctk_ctk]
      dsimp only
      cases q2 : nAt vs T 0 7 (nx vs T (nx vs T (nx vs T b2))) with
      | none =>
        right
        rw [if_pos (show (none : Option Nat) = none from rfl), if_pos (show enc none = -1 from rfl), if_neg encn]
        exact ⟨_, _, rfl, rfl, hn3.2.1⟩
      | some u =>
        have hu := nAt_rg q2
        have c4 : TC (ctk C 138 T vs (nx vs T (nx vs T (nx vs T (nx vs T b2))))) 138 T vs := h1.tk (by decide) _
        have k4 : TK (ctk C 138 T vs (nx vs T (nx vs T (nx vs T (nx vs T b2))))) 138 T vs (nx vs T (nx vs T (nx vs T (nx vs T b2)))) := ctk_TK hn4.2.1
        have e6 := m_passes (hX.mp (rk vs T 2 (nx vs T (nx vs T (nx vs T b2)))) (nx vs T (nx vs T (nx vs T b2)))) (mp_10 _ _ _) (rk_le hn3.2.1).2 W52
        have en2 : skb vs T (rk vs T 2 (nx vs T (nx vs T (nx vs T b2)))) = nx vs T (nx vs T (nx vs T (nx vs T b2))) := by rw [← tnd_2 hu.2.2]; rfl
        rw [en2, mp_mp] at e6
        rw [if_neg sm_ne, if_neg (show ¬ enc (some u) = -1 from ofn_ne_m1 (by omega)), if_pos (encp (by omega)), cl_word c4 k4 W49, Option.bind_some, e6, Option.bind_some]
        have ry : rg (Int32.ofNat v) (-1) 9999 := ⟨by rw [ti_ofn (by omega)]; omega, by rw [ti_ofn (by omega)]; omega⟩
        have rq : rg (Int32.ofNat u) (-1) 7 := ⟨by rw [ti_ofn (by omega)]; omega, by rw [ti_ofn (by omega)]; omega⟩
        by_cases z : wd vs T (nx vs T (nx vs T (nx vs T (nx vs T b2)))) w_with = true
        · have e7 := cl_numBehind c4 (by decide) (lo := 0) (hi := 7) k4 (by omega) (by omega)
          have e7' : F_X10_numberBehind (ctk C 138 T vs (nx vs T (nx vs T (nx vs T (nx vs T b2))))) 138 0 7 = _ := e7
          have e8 := m_number (hX.mp (tnd vs T (nx vs T (nx vs T (nx vs T (nx vs T b2))))) (nx vs T (nx vs T (nx vs T (nx vs T b2))))) (lo := 0) (hi := 7) (mp_10 _ _ _) (tnd_spec hn4.2.1).2.1 (by omega) (by omega)
          have e8' : F_X12_number (mp X (tnd vs T (nx vs T (nx vs T (nx vs T (nx vs T b2))))) (nx vs T (nx vs T (nx vs T (nx vs T b2))))) 0 7 = _ := e8
          rw [mp_mp, show skb vs T (tnd vs T (nx vs T (nx vs T (nx vs T (nx vs T b2))))) = nx vs T (nx vs T (nx vs T (nx vs T (nx vs T b2)))) from rfl] at e8'
          rw [bi_t z, if_pos z, if_neg (show ¬ (1 : Int32) = 0 by decide), if_neg (show ¬ (1 : Int32) = 0 by decide), e7', Option.bind_some, ctk_ctk]
          dsimp only
          rw [e8', Option.bind_some]
          cases q3 : nAt vs T 0 7 (nx vs T (nx vs T (nx vs T (nx vs T (nx vs T b2))))) with
          | none =>
            right
            rw [if_pos (show (none : Option Nat) = none from rfl), if_pos (show enc none = -1 from rfl), if_neg encn]
            exact ⟨_, _, rfl, rfl, hn5.2.1⟩
          | some o =>
            have ho := nAt_rg q3
            left
            have ru : rg (Int32.ofNat o) (-1) 7 := ⟨by rw [ti_ofn (by omega)]; omega, by rw [ti_ofn (by omega)]; omega⟩
            have ha : (ctk C 138 T vs (nx vs T (nx vs T (nx vs T (nx vs T (nx vs T (nx vs T b2))))))) 141 0 = Int32.ofNat d := by rw [ctk_ne (by decide)]; exact h0
            rw [if_neg sm_ne, if_neg (show ¬ enc (some o) = -1 from ofn_ne_m1 (by omega)), if_pos (encp (by omega)), cl_add ha hd, Option.bind_some]
            dsimp only
            rw [m_put3 hd]
            refine ⟨_, _, _, nx vs T (nx vs T (nx vs T (nx vs T (nx vs T (nx vs T b2))))), _, _, rfl, rfl, ?_, (rk_le hn5.2.1).2, hn6.2.1, ry, rq, ru⟩
            rw [← tnd_2 ho.2.2]; rfl
        · left
          have ha : (ctk C 138 T vs (nx vs T (nx vs T (nx vs T (nx vs T b2))))) 141 0 = Int32.ofNat d := by rw [ctk_ne (by decide)]; exact h0
          rw [bi_f z, if_neg z, if_pos rfl, if_pos rfl, cl_add ha hd, Option.bind_some]
          dsimp only
          rw [m_put3 hd]
          refine ⟨_, _, _, nx vs T (nx vs T (nx vs T (nx vs T b2))), _, _, rfl, rfl, nx_skb hn3.2.1, hn4.2.1, hn4.2.1, ry, rq, ?_⟩
          exact ⟨by rw [ti_m1]; omega, by rw [ti_m1]; omega⟩
    · right
      rw [bi_f w, if_neg w, if_pos rfl]
      dsimp only
      rw [if_neg (show ¬ (0 : Int32) ≤ -1 by decide)]
      exact ⟨_, _, rfl, rfl, hn2.2.1⟩
end
