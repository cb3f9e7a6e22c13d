section
variable {C C' X X' : HI} {vs : Nat → Nat} {T b b' l x n k i m h : Nat} {S D cs : List Nat} {q a e : Nat → Nat}
def lwO (F1 F2 : Option (Int32 × HI)) (C X : HI) (T : Nat) (vs : Nat → Nat) (n : Nat) : Prop := (∃ C' X' p' c' b' q' a' e' D', F1 = some (1, C') ∧ F2 = some (1, mp X' p' c') ∧ p' ≤ T ∧ skb vs T p' = b' ∧ WSt C' X' T vs b' (n + 1) q' a' e' D' ∧ frW C C' ∧ frV X X') ∨ (∃ C' X' p' f, F1 = some (0, C') ∧ F2 = some (0, mp X' p' f) ∧ f ≤ T ∧ C' 146 3 = Int32.ofNat f ∧ frW C C' ∧ frV X X')
/-- the kind of a line -/
def kh (vs : Nat → Nat) (T b : Nat) : Option Nat := if wd vs T b w_grief = true then some 0 else if wd vs T b w_joy = true then some 1 else if wd vs T b w_pay = true then some 2 else none
theorem kh_rg {v : Nat} (h : kh vs T b = some v) : v ≤ 2 ∧ kd vs T b = 1 := by
  unfold kh at h
  by_cases q1 : wd vs T b w_grief = true
  · rw [if_pos q1] at h; cases h; exact ⟨by omega, wd_1 q1⟩
  rw [if_neg q1] at h
  by_cases q2 : wd vs T b w_joy = true
  · rw [if_pos q2] at h; cases h; exact ⟨by omega, wd_1 q2⟩
  rw [if_neg q2] at h
  by_cases q3 : wd vs T b w_pay = true
  · rw [if_pos q3] at h; cases h; exact ⟨by omega, wd_1 q3⟩
  rw [if_neg q3] at h
  cases h
theorem cl_kind (h1 : TC C 146 T vs) (h2 : TK C 146 T vs b) : F_X5_kindHere C = some (enc (kh vs T b)) := by
  have n01 : ¬ (1 : Int32) = 0 := by decide
  unfold F_X5_kindHere kh
  simp only [Option.bind_eq_bind]
  rw [cl_word h1 h2 W24, Option.bind_some]
  by_cases q1 : wd vs T b w_grief = true
  · rw [bi_t q1, if_neg n01, if_pos q1]; rfl
  rw [bi_f q1, if_pos rfl, if_neg q1, cl_word h1 h2 W25, Option.bind_some]
  by_cases q2 : wd vs T b w_joy = true
  · rw [bi_t q2, if_neg n01, if_pos q2]; rfl
  rw [bi_f q2, if_pos rfl, if_neg q2, cl_word h1 h2 W26, Option.bind_some]
  by_cases q3 : wd vs T b w_pay = true
  · rw [bi_t q3, if_neg n01, if_pos q3]; rfl
  rw [bi_f q3, if_pos rfl, if_neg q3]; rfl
theorem m_kind (h : TM X T vs) (hb : b ≤ T) (y : Int32) : F_X12_readLawLine (mp X (rk vs T 1 b) b) y = lwB (mp X (rk vs T 1 b) b) y (enc (kh vs T b)) := by
  have n01 : ¬ (1 : Int32) = 0 := by decide
  rw [lw_eq]
  unfold kh
  simp only [Option.bind_eq_bind]
  rw [m_word h hb W71, Option.bind_some]
  by_cases q1 : wd vs T b w_grief = true
  · rw [bi_t q1, if_neg n01, if_pos q1]; rfl
  rw [bi_f q1, if_pos rfl, if_neg q1, m_word h hb W72, Option.bind_some]
  by_cases q2 : wd vs T b w_joy = true
  · rw [bi_t q2, if_neg n01, if_pos q2]; rfl
  rw [bi_f q2, if_pos rfl, if_neg q2, m_word h hb W73, Option.bind_some]
  by_cases q3 : wd vs T b w_pay = true
  · rw [bi_t q3, if_neg n01, if_pos q3]; rfl
  rw [bi_f q3, if_pos rfl, if_neg q3]; rfl
theorem lw_line (hT : T ≤ 400) (hS : WSt C X T vs b n q a e D) (hn : n < 12) : lwO (F_X5_readLine C) (F_X12_readLawLine (mp X (rk vs T 1 b) b) (Int32.ofNat n)) C X T vs n := by
  obtain ⟨h1, h2, h3, h4, h5, h6, h7, h8, h9⟩ := id hS
  have hb := h2.2.2.2
  have hn1 := nx_spec (vs := vs) hb
  have hn2 := nx_spec (vs := vs) hn1.2.1
  have hn3 := nx_spec (vs := vs) hn2.2.1
  have ek : (1203 : Int32) + (4 : Int32) * Int32.ofNat n = Int32.ofNat (1203 + 4 * n) := by rw [Int32.ofNat_add, Int32.ofNat_mul]; rfl
  have ek2 : Int32.ofNat (1203 + 4 * n) + (2 : Int32) = Int32.ofNat (1205 + 4 * n) := by rw [show (2 : Int32) = Int32.ofNat 2 from rfl, ← Int32.ofNat_add]; congr 1; omega
  have ek3 : Int32.ofNat (1203 + 4 * n) + (3 : Int32) = Int32.ofNat (1206 + 4 * n) := by rw [show (3 : Int32) = Int32.ofNat 3 from rfl, ← Int32.ofNat_add]; congr 1; omega
  have ek1 : Int32.ofNat (1203 + 4 * n) + (1 : Int32) = Int32.ofNat (1204 + 4 * n) := by rw [ofn_succ]; congr 1; omega
  rw [m_kind h3 hb]
  unfold F_X5_readLine lwB
  simp only [Option.bind_eq_bind]
  rw [cl_kind h1 h2, Option.bind_some, ek, ek1, ek2, ek3, if_pos (inB_ofn (show 1203 + 4 * n < 2051 by omega) (by omega)), ofn_clamp (by omega), mp_up206, ald_ofn (show 1203 + 4 * n < 2051 by omega) (by omega), Option.bind_some, mp_ne _ _ _ (show (206 : Nat) ≠ 205 by decide), up206g0, if_pos rfl]
  cases qk : kh vs T b with
  | none =>
    right
    rw [if_pos (show enc none = -1 from rfl), if_neg encn]
    exact ⟨C, _, _, b, rfl, rfl, hb, h2.1, frW.refl _, frV_up (by omega)⟩
  | some κ =>
    obtain ⟨hκ, hk1⟩ := kh_rg qk
    have hlt := (kd_1.mp hk1).1
    have hb1 := hn1.2.2.1 hlt
    have e1 := cl_numBehind h1 (by decide) (lo := 0) (hi := 60) h2 (by omega) (by omega)
    have e1' : F_X10_numberBehind C 146 0 60 = _ := e1
    have tm1 : TM (up2 X 206 (1203 + 4 * n) (Int32.ofNat κ)) T vs := h3.up (by decide) (Or.inl (by decide))
    have e2 := m_number (tm1.mp (rk vs T 1 b) b) (lo := 0) (hi := 60) (mp_10 _ _ _) (rk_le hb).2 (by omega) (by omega)
    have e2' : F_X12_number (mp (up2 X 206 (1203 + 4 * n) (enc (some κ))) (rk vs T 1 b) b) 0 60 = _ := e2
    have en : skb vs T (rk vs T 1 b) = nx vs T b := by rw [← tnd_1 hk1]; rfl
    rw [en, mp_mp] at e2'
    rw [if_neg (show ¬ enc (some κ) = -1 from ofn_ne_m1 (by omega)), if_pos (encp (show κ ≤ 1000 by omega)), e1', Option.bind_some, e2', Option.bind_some, if_pos (inB_ofn (show 1204 + 4 * n < 2051 by omega) (by omega)), ofn_clamp (show 1204 + 4 * n < 2147483648 by omega)]
    dsimp only
    rw [mp_up206, ald_ofn (show 1204 + 4 * n < 2051 by omega) (by omega), Option.bind_some, mp_ne _ _ _ (show (206 : Nat) ≠ 205 by decide), up206g0 _ (1204 + 4 * n) (1204 + 4 * n), if_pos (show 1204 + 4 * n = 1204 + 4 * n from rfl)]
    cases qa : nAt vs T 0 60 (nx vs T b) with
    | none =>
      right
      rw [if_pos (show (none : Option Nat) = none from rfl), if_pos (show enc none = -1 from rfl), if_neg encn]
      exact ⟨ctk C 146 T vs (nx vs T b), _, _, nx vs T b, rfl, rfl, hn1.2.1, (ctk_TK hn1.2.1).1, frW_tk, (frV_up (by omega)).trans (frV_up (by omega))⟩
    | some am =>
      have ha := nAt_rg qa
      have hlt1 := (kd_2.mp ha.2.2).1
      have hb2 := hn2.2.2.1 hlt1
      obtain ⟨X3, hX3⟩ : ∃ X3, up2 (up2 (up2 (up2 X 206 (1203 + 4 * n) (Int32.ofNat κ)) 206 (1204 + 4 * n) (Int32.ofNat am)) 206 (1205 + 4 * n) (Int32.ofNat D.length)) 205 13 0 = X3 := ⟨_, rfl⟩
      have f3 : frV X X3 := by
        rw [← hX3]
        exact (((frV_up (by omega)).trans (frV_up (by omega))).trans (frV_up (by omega))).trans frV_13
      have w3 : ∀ j, X3 206 j = if j = 1205 + 4 * n then Int32.ofNat D.length else if j = 1204 + 4 * n then Int32.ofNat am else if j = 1203 + 4 * n then Int32.ofNat κ else X 206 j := by
        intro j
        rw [← hX3, up2_ne _ _ _ (by decide), up206g0, up206g0, up206g0]
      have s3 : X3 205 16 = Int32.ofNat D.length := by
        rw [← hX3, up2_get, if_neg (by decide), up2_ne _ _ _ (by decide), up2_ne _ _ _ (by decide), up2_ne _ _ _ (by decide)]; exact h5.1
      have d3 : X3 205 13 = Int32.ofNat 0 := by rw [← hX3, up2_get, if_pos ⟨rfl, rfl⟩]; rfl
      have tm3 : TM X3 T vs := h3.frV f3
      have ms3 : MS X3 D 0 := ⟨s3, d3, fun i hi => by
        have := h8
        rw [w3, w3, if_neg (by omega), if_neg (by omega), if_neg (by omega), if_neg (by omega), if_neg (by omega), if_neg (by omega)]
        exact h5.2 i hi⟩
      have e16 : mp (up2 (up2 X 206 (1203 + 4 * n) (Int32.ofNat κ)) 206 (1204 + 4 * n) (enc (some am))) (rk vs T 2 (nx vs T b)) (nx vs T b) 205 16 = Int32.ofNat D.length := by
        rw [mp_k _ _ _ (by decide), up2_ne _ _ _ (by decide), up2_ne _ _ _ (by decide)]; exact h5.1
      have hX3' : up2 (up2 (up2 (up2 X 206 (1203 + 4 * n) (Int32.ofNat κ)) 206 (1204 + 4 * n) (enc (some am))) 206 (1205 + 4 * n) (Int32.ofNat D.length)) 205 13 0 = X3 := hX3
      have ep := m_passes (tm3.mp (rk vs T 2 (nx vs T b)) (nx vs T b)) (mp_10 _ _ _) (rk_le hn1.2.1).2 W74
      have en2 : skb vs T (rk vs T 2 (nx vs T b)) = nx vs T (nx vs T b) := by rw [← tnd_2 ha.2.2]; rfl
      rw [en2, mp_mp] at ep
      have c2 : TC (ctk C 146 T vs (nx vs T (nx vs T b))) 146 T vs := h1.tk (by decide) _
      have k2 : TK (ctk C 146 T vs (nx vs T (nx vs T b))) 146 T vs (nx vs T (nx vs T b)) := ctk_TK hn2.2.1
      rw [if_neg sm_ne, if_neg (show ¬ enc (some am) = -1 from ofn_ne_m1 (by omega)), if_pos (encp (show am ≤ 1000 by omega)), if_pos (inB_ofn (show 1205 + 4 * n < 2051 by omega) (by omega)), ofn_clamp (show 1205 + 4 * n < 2147483648 by omega), e16, mp_up206, mp_up5 _ _ _ _ (by decide), hX3', ep, Option.bind_some, cl_word c2 k2 W23, Option.bind_some]
      -- the line's end
      have fin : ∀ (C5 X5 : HI) (p' c' b' : Nat) (cs : List Nat), TC C5 146 T vs → TK C5 146 T vs b' → TM X5 T vs → (C5 148 5 = Int32.ofNat (D ++ cs).length ∧ ∀ i, i < (D ++ cs).length → C5 152 i = Int32.ofNat ((D ++ cs).getD i 0)) → (X5 205 16 = Int32.ofNat (D ++ cs).length ∧ ∀ i, i < (D ++ cs).length → X5 206 (1251 + 2 * i) = Int32.ofNat (stp ((D ++ cs).getD i 0)) ∧ X5 206 (1252 + 2 * i) = Int32.ofNat (nmb ((D ++ cs).getD i 0))) → (D ++ cs).length ≤ b' → p' ≤ T → skb vs T p' = b' → (∀ y, y ≠ 146 → y ≠ 148 → y ≠ 152 → y ≠ 154 → C5 y = C y) → (∀ k, k ≠ 5 → C5 148 k = C 148 k) → frV X X5 → (∀ k, k < 1251 → X5 206 k = X3 206 k) → (∃ tsf, tyC cs [] = some tsf ∧ (tsf = [] ∨ tsf = [true])) → lwO ((F_X4_endLine C5 148 (enc (some κ)) (enc (some am))).bind fun r17 => some ((1 : Int32), r17)) (some ((1 : Int32), up2 (mp X5 p' c') 206 (1206 + 4 * n) (mp X5 p' c' 205 16))) C X T vs n := by
        intro C5 X5 p' c' b' cs t1 t2 t3 t4 t5 t6 t7 t8 t9 t10 t11 t12 t13
        left
        obtain ⟨C6, g1, g2, g3, g4, g5, g6, g7⟩ := cl_end (C := C5) (n := n) (by rw [t10 0 (by decide)]; exact h6) hn (enc (some κ)) (enc (some am))
        have e5 : mp X5 p' c' 205 16 = Int32.ofNat (D ++ cs).length := by rw [mp_k _ _ _ (by decide)]; exact t5.1
        refine ⟨C6, up2 X5 206 (1206 + 4 * n) (Int32.ofNat (D ++ cs).length), p', c', b', _, _, _, D ++ cs, by rw [g1, Option.bind_some], by rw [e5, mp_up206], t7, t8, hS.next hκ (show am ≤ 60 by omega) ?_ ?_ (t3.up (by decide) (Or.inl (by decide))) ?_ ?_ g2 t6 ?_ ?_ ?_ ?_ ?_ t13, ?_, t11.trans (frV_up (by omega))⟩
        · exact ⟨by rw [g7 146 (by decide) (by decide) (by decide) (by decide)]; exact t1.1, hT, fun i hi => by rw [g7 2 (by decide) (by decide) (by decide) (by decide)]; exact t1.2.2 i hi⟩
        · unfold TK; rw [g7 146 (by decide) (by decide) (by decide) (by decide)]; exact t2
        · exact ⟨by rw [g3]; exact t4.1, fun i hi => by rw [g7 152 (by decide) (by decide) (by decide) (by decide)]; exact t4.2 i hi⟩
        · refine ⟨by rw [up2_ne _ _ _ (by decide)]; exact t5.1, fun i hi => ?_⟩
          rw [up206g0, up206g0, if_neg (by omega), if_neg (by omega)]
          exact t5.2 i hi
        · intro j; rw [g4 j, t9 149 (by decide) (by decide) (by decide) (by decide)]; rfl
        · intro j; rw [g5 j, t9 150 (by decide) (by decide) (by decide) (by decide)]; rfl
        · intro j; rw [g6 j, t9 151 (by decide) (by decide) (by decide) (by decide), t4.1]
        · rw [up206g0, up206g0, up206g0, up206g0, if_neg (by omega), if_neg (by omega), if_neg (by omega), if_pos rfl, t12 _ (by omega), t12 _ (by omega), t12 _ (by omega), w3, w3, w3, if_neg (by omega), if_neg (by omega), if_pos rfl, if_neg (by omega), if_pos rfl, if_pos rfl]
          exact ⟨rfl, rfl, rfl, rfl⟩
        · intro k q1 q2
          rw [up206g0, if_neg (by omega), t12 k (by omega), w3, if_neg (by omega), if_neg (by omega), if_neg (by omega)]
        · intro y hy
          rw [g7 y (by omega) (by omega) (by omega) (by omega), t9 y (by omega) (by omega) (by omega) (by omega)]
      have inb3 : inB (Int32.ofNat (1206 + 4 * n)) 2051 = true := inB_ofn (by omega) (by omega)
      by_cases qi : wd vs T (nx vs T (nx vs T b)) w_if = true
      · have hlt2 := wd_lt qi
        have hb3 := hn3.2.2.1 hlt2
        have ea := cl_advTK c2 (by decide) k2
        rw [ctk_ctk] at ea
        rw [bi_t qi, if_pos qi, if_neg (show ¬ (1 : Int32) = 0 by decide), if_neg (show ¬ (1 : Int32) = 0 by decide), ea, Option.bind_some]
        dsimp only
        have hC : CSd (up2 (up2 (ctk C 146 T vs (nx vs T (nx vs T (nx vs T b)))) 146 7 0) 146 8 0) T vs (nx vs T (nx vs T (nx vs T b))) [] D 0 := by
          have tc := h1.tk (a := 146) (by decide) (nx vs T (nx vs T (nx vs T b)))
          have tk : TK (ctk C 146 T vs (nx vs T (nx vs T (nx vs T b)))) 146 T vs (nx vs T (nx vs T (nx vs T b))) := ctk_TK hn3.2.1
          refine ⟨(tc.up (by decide) (Or.inr (by decide))).up (by decide) (Or.inr (by decide)), ?_, ?_, ?_, trivial, ?_, fun i hi => ?_⟩
          · exact ⟨by rw [up2_get, if_neg (by decide), up2_get, if_neg (by decide)]; exact tk.1, by rw [up2_get, if_neg (by decide), up2_get, if_neg (by decide)]; exact tk.2.1, by rw [up2_get, if_neg (by decide), up2_get, if_neg (by decide)]; exact tk.2.2.1, tk.2.2.2⟩
          · rw [up2_get, if_neg (by decide), up2_get, if_pos ⟨rfl, rfl⟩]; rfl
          · rw [up2_get, if_pos ⟨rfl, rfl⟩]; rfl
          · rw [up2_ne _ _ _ (by decide), up2_ne _ _ _ (by decide), ctk_ne (by decide)]; exact h4.1
          · rw [up2_ne _ _ _ (by decide), up2_ne _ _ _ (by decide), ctk_ne (by decide)]; exact h4.2 i hi
        have hfr : ∀ C5, frK (up2 (up2 (ctk C 146 T vs (nx vs T (nx vs T (nx vs T b)))) 146 7 0) 146 8 0) C5 → frK C C5 := fun C5 hf => ((frK_tk.trans frK_146).trans frK_146).trans hf
        unfold F_X5_readCondition
        rcases cond_sim hT hn3.2.1 _ X3 D (tnd vs T (nx vs T (nx vs T b))) (nx vs T (nx vs T b)) hC tm3 (tnd_spec hn2.2.1).2.1 rfl ms3 (by omega) with ⟨cs, b', C5, X5, p', c', j1, j2, j3, j4, j5, j6, j7, j8, j9, j10, j11, j12⟩ | ⟨f, C5, X5, p', j1, j2, j3, j4, j5, j6⟩
        · rw [j1, j2, Option.bind_some, Option.bind_some, if_neg (show ¬ (1 : Int32) = 0 by decide), if_neg (show ¬ (1 : Int32) = 0 by decide), if_pos inb3, ofn_clamp (by omega)]
          have hf5 := hfr C5 j11
          exact fin C5 X5 p' c' b' cs j6.1 j6.2.1 j7 ⟨j6.2.2.2.2.2.1, j6.2.2.2.2.2.2⟩ ⟨j8.1, j8.2.2⟩ (by omega) j3 j4 hf5.1 hf5.2 (f3.trans j12.V) (fun k hk => j12.2.2 k hk) ⟨[true], j10, Or.inr rfl⟩
        · right
          rw [j1, j2, Option.bind_some, Option.bind_some, if_pos rfl, if_pos rfl]
          exact ⟨C5, X5, p', f, rfl, rfl, j3, j4, (hfr C5 j5).W, f3.trans j6.V⟩
      · rw [bi_f qi, if_neg qi, if_pos rfl, if_pos rfl, if_pos inb3, ofn_clamp (by omega)]
        have hf2 : frK C (ctk C 146 T vs (nx vs T (nx vs T b))) := frK_tk
        refine fin (ctk C 146 T vs (nx vs T (nx vs T b))) X3 (nx vs T (nx vs T b)) (nx vs T (nx vs T b)) (nx vs T (nx vs T b)) [] c2 k2 tm3 ?_ ?_ ?_ hn2.2.1 (nx_skb hn1.2.1) hf2.1 hf2.2 f3 (fun _ _ => rfl) ⟨[], rfl, Or.inl rfl⟩
        · rw [List.append_nil]
          exact ⟨by rw [ctk_ne (by decide)]; exact h4.1, fun i hi => by rw [ctk_ne (by decide)]; exact h4.2 i hi⟩
        · rw [List.append_nil]
          exact ⟨ms3.1, ms3.2.2⟩
        · rw [List.append_nil]; omega
end
