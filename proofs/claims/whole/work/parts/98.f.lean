def smT (I : HI) : Option (Int32 × HI) := (F_X12_readSum I).bind fun r10 => if r10.1 = 0 then some ((0 : Int32), r10.2) else (F_X12_sign r10.2 (60 : Int32)).bind fun r13 => if r13.1 = 0 then (F_X12_sign r13.2 (62 : Int32)).bind fun r24 => if r24.1 = 0 then some ((0 : Int32), r24.2) else (F_X12_readSum r24.2).bind fun r27 => if r27.1 = 0 then some ((0 : Int32), r27.2) else if r13.1 = 0 then (F_X12_emits r27.2 (12 : Int32) (0 : Int32)).bind fun r31 => some ((1 : Int32), r31) else (F_X12_emits r27.2 (11 : Int32) (0 : Int32)).bind fun r33 => some ((1 : Int32), r33) else (F_X12_readSum r13.2).bind fun r16 => if r16.1 = 0 then some ((0 : Int32), r16.2) else if r13.1 = 0 then (F_X12_emits r16.2 (12 : Int32) (0 : Int32)).bind fun r20 => some ((1 : Int32), r20) else (F_X12_emits r16.2 (11 : Int32) (0 : Int32)).bind fun r22 => some ((1 : Int32), r22)
def smM (I : HI) : Option (Int32 × HI) := (F_X12_readTag I).bind fun r7 => if r7.1 = 0 then smT r7.2 else some ((1 : Int32), r7.2)
section
variable {C C' X X' : HI} {vs : Nat → Nat} {T b l x n k i m : Nat} {S D E : List Nat}
/-- a state's word -/
def sh (vs : Nat → Nat) (T b : Nat) : Option Nat := if wd vs T b w_new = true then some 6 else if wd vs T b w_war = true then some 7 else if wd vs T b w_alone = true then some 8 else none
theorem sh_rg {v : Nat} (h : sh vs T b = some v) : 6 ≤ v ∧ v ≤ 8 ∧ kd vs T b = 1 := by
  unfold sh at h
  by_cases q1 : wd vs T b w_new = true
  · rw [if_pos q1] at h; cases h; exact ⟨by omega, by omega, wd_1 q1⟩
  rw [if_neg q1] at h
  by_cases q2 : wd vs T b w_war = true
  · rw [if_pos q2] at h; cases h; exact ⟨by omega, by omega, wd_1 q2⟩
  rw [if_neg q2] at h
  by_cases q3 : wd vs T b w_alone = true
  · rw [if_pos q3] at h; cases h; exact ⟨by omega, by omega, wd_1 q3⟩
  rw [if_neg q3] at h
  cases h
theorem cl_state (h1 : TC C 146 T vs) (h2 : TK C 146 T vs b) : F_X5_stateHere C = some (enc (sh vs T b)) := by
  have n01 : ¬ (1 : Int32) = 0 := by decide
  unfold F_X5_stateHere sh
  simp only [Option.bind_eq_bind]
  rw [cl_word h1 h2 W30, Option.bind_some]
  by_cases q1 : wd vs T b w_new = true
  · rw [bi_t q1, if_neg n01, if_pos q1]; rfl
  rw [bi_f q1, if_pos rfl, if_neg q1, cl_word h1 h2 W31, Option.bind_some]
  by_cases q2 : wd vs T b w_war = true
  · rw [bi_t q2, if_neg n01, if_pos q2]; rfl
  rw [bi_f q2, if_pos rfl, if_neg q2, cl_word h1 h2 W32, Option.bind_some]
  by_cases q3 : wd vs T b w_alone = true
  · rw [bi_t q3, if_neg n01, if_pos q3]; rfl
  rw [bi_f q3, if_pos rfl, if_neg q3]; rfl
theorem cl_rstate (h : CSd C T vs b S D m) (hD : D.length < 400) : match sh vs T b with
    | none => F_X5_readState C = some (0, C)
    | some v => ∃ C', F_X5_readState C = some (1, C') ∧ CSd C' T vs (nx vs T b) S (D ++ [1000 + v]) m ∧ frK C C' := by
  unfold F_X5_readState
  simp only [Option.bind_eq_bind]
  rw [cl_state h.1 h.2.1, Option.bind_some]
  cases q : sh vs T b with
  | none => rw [if_pos (show enc none = -1 from rfl)]
  | some v =>
    have hv := sh_rg q
    obtain ⟨C1, a1, a2, a3, -, -⟩ := h.add hD (1000 + v)
    obtain ⟨C2, b1, b2, b3⟩ := a2.tl
    have e : (1000 : Int32) + enc (some v) = Int32.ofNat (1000 + v) := by rw [Int32.ofNat_add]; rfl
    rw [if_neg (show ¬ enc (some v) = -1 from ofn_ne_m1 (by omega)), e, a1, Option.bind_some, b1, Option.bind_some]
    exact ⟨C2, rfl, b2, a3.trans b3⟩
theorem m_rtag (h : TM X T vs) {p c : Nat} (hp : p ≤ T) (hpb : skb vs T p = b) (hM : MS X E k) (hE : E.length < 400) : match sh vs T b with
    | none => F_X12_readTag (mp X p c) = some (0, mp X b b)
    | some v => ∃ X', F_X12_readTag (mp X p c) = some (1, mp X' (tnd vs T b) b) ∧ TM X' T vs ∧ MS X' (E ++ [1000 + v]) k ∧ frY X X' := by
  have n01 : ¬ (1 : Int32) = 0 := by decide
  have hb : b ≤ T := by rw [← hpb]; exact (skb_spec hp).2.1
  have e1 := m_letters (h.mp p c) (mp_10 _ _ _) hp
  rw [hpb, mp_mp] at e1
  have em : ∀ (w : List Nat) (v : Nat), wd vs T b w = true → 6 ≤ v → v ≤ 8 → ∃ X', (F_X12_emits (mp X (rk vs T 1 b) b) (Int32.ofNat v) 0) = some (mp X' (tnd vs T b) b) ∧ TM X' T vs ∧ MS X' (E ++ [1000 + v]) k ∧ frY X X' := by
    intro w v hw h6 h8
    have es : stp (1000 + v) = v := by unfold stp; rw [if_neg (by omega)]; omega
    have en : nmb (1000 + v) = 0 := by unfold nmb; rw [if_neg (by omega)]
    have hem := hM.em (1000 + v)
    rw [es, en] at hem
    refine ⟨emX X E.length (Int32.ofNat v) 0, by rw [m_emit hM hE, tnd_1 (wd_1 hw)], h.fr (emX_fr _ _ _), hem, emX_fr _ _ _⟩
  unfold F_X12_readTag sh
  simp only [Option.bind_eq_bind]
  rw [e1, Option.bind_some, m_word h hb W66, Option.bind_some]
  by_cases q1 : wd vs T b w_new = true
  · obtain ⟨X', a1, a2⟩ := em _ 6 q1 (by omega) (by omega)
    have a1' : F_X12_emits (mp X (rk vs T 1 b) b) 6 0 = _ := a1
    rw [bi_t q1, if_neg n01, if_pos q1, a1', Option.bind_some]
    exact ⟨X', rfl, a2⟩
  rw [bi_f q1, if_pos rfl, if_neg q1, m_word h hb W56, Option.bind_some]
  by_cases q2 : wd vs T b w_war = true
  · obtain ⟨X', a1, a2⟩ := em _ 7 q2 (by omega) (by omega)
    have a1' : F_X12_emits (mp X (rk vs T 1 b) b) 7 0 = _ := a1
    rw [bi_t q2, if_neg n01, if_pos q2, a1', Option.bind_some]
    exact ⟨X', rfl, a2⟩
  rw [bi_f q2, if_pos rfl, if_neg q2, m_word h hb W67, Option.bind_some]
  by_cases q3 : wd vs T b w_alone = true
  · obtain ⟨X', a1, a2⟩ := em _ 8 q3 (by omega) (by omega)
    have a1' : F_X12_emits (mp X (rk vs T 1 b) b) 8 0 = _ := a1
    rw [bi_t q3, if_neg n01, if_pos q3, a1', Option.bind_some]
    exact ⟨X', rfl, a2⟩
  rw [bi_f q3, if_pos rfl, if_neg q3, mp_12, mp_up10]
theorem ty_cmp {x : Nat} (hx : x = 1011 ∨ x = 1012) {ts : List Bool} (ht : ts.length ≤ 57) : tyC [x] (false :: false :: ts) = some (true :: ts) := by
  rw [tyC_1 (by simp only [List.length_cons]; omega)]
  rcases hx with rfl | rfl <;> rfl
theorem smp_ex (hT : T ≤ 400) (b : Nat) (hb : b ≤ T) : ∃ res, ResOk T b res ∧ tyT res ∧ Cspec vs T smC 0 b res ∧ ∀ k, Mspec vs T smM 0 k b res := by
  have hskb : ∀ p, p ≤ T → skb vs T p = b → skb vs T b = b := fun p hp h => by rw [← h]; exact skb_skb hp
  cases hs : sh vs T b with
  | some v =>
    have hv := sh_rg hs
    have hlt := (kd_1.mp hv.2.2).1
    have hn1 := nx_spec (vs := vs) hb
    refine ⟨Sum.inl ([1000 + v], nx vs T b), ⟨by show b + 1 ≤ _; have := hn1.2.2.1 hlt; omega, hn1.2.2.1 hlt, hn1.2.1⟩, fun ts ht => ?_, fun C S D m h hD => ?_, fun k X E p c h1 h2 h3 h4 h5 => ?_⟩
    · show tyC [1000 + v] ts = _
      rw [tyC_1 (by omega)]
      unfold tyS
      rw [if_neg (by omega), if_pos (by omega)]
    · have e := cl_rstate h (by omega)
      rw [hs] at e
      obtain ⟨C', a1, a2, a3⟩ := e
      refine ⟨C', ?_, a2, a3⟩
      unfold smC
      rw [a1, Option.bind_some, if_neg (show ¬ (1 : Int32) = 0 by decide)]
    · have e := m_rtag h1 h2 h3 h4 (c := c) (by omega)
      rw [hs] at e
      obtain ⟨X', a1, a2, a3, a4⟩ := e
      refine ⟨X', tnd vs T b, b, ?_, (tnd_spec hb).2.1, rfl, a2, a3, a4⟩
      unfold smM
      rw [a1, Option.bind_some, if_neg (show ¬ (1 : Int32) = 0 by decide)]
  | none =>
    have cr : ∀ (C : HI) (S D : List Nat) (m : Nat), CSd C T vs b S D m → D.length + 0 < b → smC C = F_X5_readComparison C := by
      intro C S D m h hD
      have e := cl_rstate h (by omega)
      rw [hs] at e
      have e' : F_X5_readState C = some (0, C) := e
      unfold smC
      rw [e', Option.bind_some, if_pos rfl]
    have mr : ∀ (k : Nat) (X : HI) (E : List Nat) (p c : Nat), TM X T vs → p ≤ T → skb vs T p = b → MS X E k → E.length + 0 < b → smM (mp X p c) = smT (mp X b b) := by
      intro k X E p c h1 h2 h3 h4 h5
      have e := m_rtag h1 h2 h3 h4 (c := c) (by omega)
      rw [hs] at e
      have e' : F_X12_readTag (mp X p c) = some (0, mp X b b) := e
      unfold smM
      rw [e', Option.bind_some, if_pos rfl]
    obtain ⟨⟨res1, r1, r2, r3, r4⟩, -⟩ := sum_ex (vs := vs) hT (T - b) b (Nat.le_refl _) hb
    cases res1 with
    | inr f =>
      refine ⟨Sum.inr f, r1, trivial, fun C S D m h hD => ?_, fun k X E p c h1 h2 h3 h4 h5 => ?_⟩
      · obtain ⟨C1, a1, a2, a3⟩ := r3 C S D m h hD
        refine ⟨C1, ?_, a2, a3⟩
        rw [cr C S D m h hD]
        unfold F_X5_readComparison F_X5_readSum
        have a1' : L_X5_readSum_2 0 C = some (0, C1) := a1
        rw [a1', Option.bind_eq_bind, Option.bind_some, if_pos rfl]
      · obtain ⟨X1, p', a1, a2⟩ := r4 k X E b b h1 hb (hskb p h2 h3) h4 h5
        refine ⟨X1, p', ?_, a2⟩
        rw [mr k X E p c h1 h2 h3 h4 h5]
        unfold smT
        rw [a1, Option.bind_some, if_pos rfl]
    | inl q =>
      obtain ⟨z1, z2, z3⟩ := r1
      have hq := nx_spec (vs := vs) z3
      -- the class behind the first sum
      have c1 : ∀ (C : HI) (S D : List Nat) (m : Nat), CSd C T vs b S D m → D.length + 0 < b → ∃ C1, CSd C1 T vs q.2 S (D ++ q.1) m ∧ frK C C1 ∧ ∀ (x : Nat), (x = 1011 ∧ sg vs T q.2 60 = true) ∨ (x = 1012 ∧ ¬ sg vs T q.2 60 = true ∧ sg vs T q.2 62 = true) → smC C = (F_X5_readSum (ctk C1 146 T vs (nx vs T q.2))).bind fun r22 => if r22.1 = 0 then some ((0 : Int32), r22.2) else (F_X4_add r22.2 148 (Int32.ofNat x)).bind fun r26 => some ((1 : Int32), r26) := by
        intro C S D m h hD
        obtain ⟨C1, a1, a2, a3⟩ := r3 C S D m h hD
        have a1' : L_X5_readSum_2 0 C = some (1, C1) := a1
        have e60 := cl_sign a2.1 (c := 60) a2.2.1 (by omega)
        have e60' : F_X10_isSign C1 146 60 = _ := e60
        have e62 := cl_sign a2.1 (c := 62) a2.2.1 (by omega)
        have e62' : F_X10_isSign C1 146 62 = _ := e62
        refine ⟨C1, a2, a3, fun x hx => ?_⟩
        rw [cr C S D m h hD]
        unfold F_X5_readComparison
        simp only [Option.bind_eq_bind]
        rw [show F_X5_readSum C = some (1, C1) from a1', Option.bind_some, if_neg (show ¬ (1 : Int32) = 0 by decide), e60', Option.bind_some]
        rcases hx with ⟨rfl, hx⟩ | ⟨rfl, hx1, hx2⟩
        · rw [bi_t hx, if_neg (show ¬ (1 : Int32) = 0 by decide), a2.adv.1, Option.bind_some]
          congr 1
        · rw [bi_f hx1, if_pos rfl, e62', Option.bind_some, bi_t hx2, if_neg (show ¬ (1 : Int32) = 0 by decide), a2.adv.1, Option.bind_some]
          congr 1
      have m1 : ∀ (k : Nat) (X : HI) (E : List Nat) (p c : Nat), TM X T vs → p ≤ T → skb vs T p = b → MS X E k → E.length + 0 < b → ∃ X1, TM X1 T vs ∧ MS X1 (E ++ q.1) k ∧ frY X X1 ∧ (∀ (x : Nat), (x = 11 ∧ sg vs T q.2 60 = true) ∨ (x = 12 ∧ ¬ sg vs T q.2 60 = true ∧ sg vs T q.2 62 = true) → smM (mp X p c) = (F_X12_readSum (mp X1 (tnd vs T q.2) q.2)).bind fun r22 => if r22.1 = 0 then some ((0 : Int32), r22.2) else (F_X12_emits r22.2 (Int32.ofNat x) (0 : Int32)).bind fun r26 => some ((1 : Int32), r26)) ∧ (¬ sg vs T q.2 60 = true → ¬ sg vs T q.2 62 = true → smM (mp X p c) = some (0, mp X1 q.2 q.2)) := by
        intro k X E p c h1 h2 h3 h4 h5
        obtain ⟨X1, p', c', a1, a2, a3, a4, a5, a6⟩ := r4 k X E b b h1 hb (hskb p h2 h3) h4 h5
        have e60 := m_sign (a4.mp p' c') (c := 60) (mp_10 _ _ _) a2 (by omega)
        have e60' : F_X12_sign (mp X1 p' c') 60 = _ := e60
        rw [a3, mp_mp] at e60'
        have e62 := m_sign (a4.mp q.2 q.2) (c := 62) (mp_10 _ _ _) z3 (by omega)
        have e62' : F_X12_sign (mp X1 q.2 q.2) 62 = _ := e62
        have esk : skb vs T q.2 = q.2 := by rw [← a3]; exact skb_skb a2
        rw [esk, mp_mp] at e62'
        refine ⟨X1, a4, a5, a6, fun x hx => ?_, fun hx1 hx2 => ?_⟩
        · rw [mr k X E p c h1 h2 h3 h4 h5]
          unfold smT
          rw [a1, Option.bind_some, if_neg (show ¬ (1 : Int32) = 0 by decide), e60', Option.bind_some]
          rcases hx with ⟨rfl, hx⟩ | ⟨rfl, hx1, hx2⟩
          · rw [bi_t hx, if_pos hx, if_neg (show ¬ (1 : Int32) = 0 by decide)]
            congr 1
          · rw [bi_f hx1, if_neg hx1, if_pos rfl, e62', Option.bind_some, bi_t hx2, if_pos hx2, if_neg (show ¬ (1 : Int32) = 0 by decide)]
            congr 1
        · rw [mr k X E p c h1 h2 h3 h4 h5]
          unfold smT
          rw [a1, Option.bind_some, if_neg (show ¬ (1 : Int32) = 0 by decide), e60', Option.bind_some, bi_f hx1, if_neg hx1, if_pos rfl, e62', Option.bind_some, bi_f hx2, if_neg hx2, if_pos rfl]
      by_cases hsg : sg vs T q.2 60 = true ∨ sg vs T q.2 62 = true
      · obtain ⟨x, hx, hxc, hxm⟩ : ∃ x, (x = 1011 ∨ x = 1012) ∧ ((x = 1011 ∧ sg vs T q.2 60 = true) ∨ (x = 1012 ∧ ¬ sg vs T q.2 60 = true ∧ sg vs T q.2 62 = true)) ∧ ((x - 1000 = 11 ∧ sg vs T q.2 60 = true) ∨ (x - 1000 = 12 ∧ ¬ sg vs T q.2 60 = true ∧ sg vs T q.2 62 = true)) := by
          by_cases y : sg vs T q.2 60 = true
          · exact ⟨1011, Or.inl rfl, Or.inl ⟨rfl, y⟩, Or.inl ⟨rfl, y⟩⟩
          · exact ⟨1012, Or.inr rfl, Or.inr ⟨rfl, y, hsg.resolve_left y⟩, Or.inr ⟨rfl, y, hsg.resolve_left y⟩⟩
        have hlt : q.2 < T := by
          rcases hsg with y | y
          · exact sg_lt y
          · exact sg_lt y
        have hq2 := hq.2.2.1 hlt
        obtain ⟨⟨res2, s1, s2, s3, s4⟩, -⟩ := sum_ex (vs := vs) hT (T - nx vs T q.2) (nx vs T q.2) (Nat.le_refl _) hq.2.1
        cases res2 with
        | inr f =>
          refine ⟨Sum.inr f, s1, trivial, fun C S D m h hD => ?_, fun k X E p c h1 h2 h3 h4 h5 => ?_⟩
          · obtain ⟨C1, a1, a2, a3⟩ := c1 C S D m h hD
            obtain ⟨C2, b1, b2, b3⟩ := s3 _ S _ m (a1.tk hq.2.1) (by rw [List.length_append]; omega)
            have b1' : F_X5_readSum (ctk C1 146 T vs (nx vs T q.2)) = some (0, C2) := b1
            refine ⟨C2, ?_, b2, (a2.trans frK_tk).trans b3⟩
            rw [a3 x hxc, b1', Option.bind_some, if_pos rfl]
          · obtain ⟨X1, a1, a2, a3, a4, -⟩ := m1 k X E p c h1 h2 h3 h4 h5
            obtain ⟨X2, p', b1, b2⟩ := s4 k X1 _ (tnd vs T q.2) q.2 a1 (tnd_spec z3).2.1 rfl a2 (by rw [List.length_append]; omega)
            refine ⟨X2, p', ?_, a3.trans b2⟩
            rw [a4 (x - 1000) hxm, b1, Option.bind_some, if_pos rfl]
        | inl u =>
          obtain ⟨t1, t2, t3⟩ := s1
          refine ⟨Sum.inl (q.1 ++ u.1 ++ [x], u.2), ⟨?_, by show b < u.2; omega, t3⟩, fun ts ht => ?_, fun C S D m h hD => ?_, fun k X E p c h1 h2 h3 h4 h5 => ?_⟩
          · show b + (q.1 ++ u.1 ++ [x]).length ≤ u.2
            rw [List.length_append, List.length_append, List.length_singleton]; omega
          · show tyC (q.1 ++ u.1 ++ [x]) ts = _
            rw [tyC_app, tyC_app, r2 ts (by omega), Option.bind_some, s2 (false :: ts) (by rw [List.length_cons]; omega), Option.bind_some, ty_cmp hx ht]
          · obtain ⟨C1, a1, a2, a3⟩ := c1 C S D m h hD
            obtain ⟨C2, b1, b2, b3⟩ := s3 _ S _ m (a1.tk hq.2.1) (by rw [List.length_append]; omega)
            have b1' : F_X5_readSum (ctk C1 146 T vs (nx vs T q.2)) = some (1, C2) := b1
            obtain ⟨C3, d1, d2, d3, -, -⟩ := b2.add (by rw [List.length_append, List.length_append]; omega) x
            refine ⟨C3, ?_, ?_, ((a2.trans frK_tk).trans b3).trans d3⟩
            · rw [a3 x hxc, b1', Option.bind_some, if_neg (show ¬ (1 : Int32) = 0 by decide), d1, Option.bind_some]
            · show CSd C3 T vs u.2 S (D ++ (q.1 ++ u.1 ++ [x])) m
              rw [List.append_assoc, List.append_assoc] at d2
              rw [List.append_assoc]
              exact d2
          · obtain ⟨X1, a1, a2, a3, a4, -⟩ := m1 k X E p c h1 h2 h3 h4 h5
            obtain ⟨X2, p', c', b1, b2, b3, b4, b5, b6⟩ := s4 k X1 _ (tnd vs T q.2) q.2 a1 (tnd_spec z3).2.1 rfl a2 (by rw [List.length_append]; omega)
            have es : stp x = x - 1000 := by unfold stp; rw [if_neg (by omega)]
            have en : nmb x = 0 := by unfold nmb; rw [if_neg (by omega)]
            have hem := b5.em x
            rw [es, en, List.append_assoc, List.append_assoc] at hem
            have e3 := m_emit b5 (by rw [List.length_append, List.length_append]; omega) p' c' (Int32.ofNat (x - 1000)) 0
            refine ⟨_, p', c', ?_, b2, b3, b4.fr (emX_fr (Int32.ofNat (x - 1000)) 0 (E ++ q.1 ++ u.1).length), ?_, (a3.trans b6).trans (emX_fr _ _ _)⟩
            · rw [a4 (x - 1000) hxm, b1, Option.bind_some, if_neg (show ¬ (1 : Int32) = 0 by decide), e3, Option.bind_some]
            · show MS _ (E ++ (q.1 ++ u.1 ++ [x])) k
              rw [List.append_assoc]
              exact hem
      · have n60 : ¬ sg vs T q.2 60 = true := fun y => hsg (Or.inl y)
        have n62 : ¬ sg vs T q.2 62 = true := fun y => hsg (Or.inr y)
        refine ⟨Sum.inr q.2, z3, trivial, fun C S D m h hD => ?_, fun k X E p c h1 h2 h3 h4 h5 => ?_⟩
        · obtain ⟨C1, a1, a2, a3⟩ := r3 C S D m h hD
          have a1' : L_X5_readSum_2 0 C = some (1, C1) := a1
          have e60 := cl_sign a2.1 (c := 60) a2.2.1 (by omega)
          have e60' : F_X10_isSign C1 146 60 = _ := e60
          have e62 := cl_sign a2.1 (c := 62) a2.2.1 (by omega)
          have e62' : F_X10_isSign C1 146 62 = _ := e62
          refine ⟨C1, ?_, a2.2.1.1, a3⟩
          rw [cr C S D m h hD]
          unfold F_X5_readComparison
          simp only [Option.bind_eq_bind]
          rw [show F_X5_readSum C = some (1, C1) from a1', Option.bind_some, if_neg (show ¬ (1 : Int32) = 0 by decide), e60', Option.bind_some, bi_f n60, if_pos rfl, e62', Option.bind_some, bi_f n62, if_pos rfl]
        · obtain ⟨X1, a1, a2, a3, -, a5⟩ := m1 k X E p c h1 h2 h3 h4 h5
          exact ⟨X1, q.2, a5 n60 n62, a3⟩
end
