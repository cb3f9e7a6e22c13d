def sTl (i : Int32) (r : HI) : Option (Int32 × HI) := (F_X10_advance r 146).bind fun r51 => (F_X10_isSign r51 146 (43 : Int32)).bind fun r53 => if r53 = 0 then some ((1 : Int32), r51) else (F_X10_advance r51 146).bind fun r56 => L_X5_readSum_2 (i + (1 : Int32)) r56
def mS1 (I : HI) : Option (Int32 × HI) := (F_X12_readPart I).bind fun r7 => if r7.1 = 0 then some ((0 : Int32), r7.2) else (F_X12_emits r7.2 (10 : Int32) (0 : Int32)).bind fun r10 => L_X12_readSum_9 r10
section
variable {C C' X X' : HI} {vs : Nat → Nat} {T b l x n k i m : Nat} {S D E : List Nat}
theorem cl_sumstep (h : CSd C T vs b S D m) (hi : i < 400) : L_X5_readSum_2 (Int32.ofNat i) C = match pt vs T b with
    | none => some (0, C)
    | some c => (F_X4_add C 148 (Int32.ofNat c)).bind fun r => if Int32.ofNat i ≤ 0 then sTl (Int32.ofNat i) r else (F_X4_add r 148 (1010 : Int32)).bind fun r' => sTl (Int32.ofNat i) r' := by
  have e1 := cl_num h.1 (lo := 0) (hi := 999) h.2.1 (by omega) (by omega)
  have e1' : F_X10_number C 146 0 999 = _ := e1
  rw [L_X5_readSum_2]
  simp only [Option.bind_eq_bind]
  rw [if_neg (show ¬ (400 : Int32) ≤ Int32.ofNat i by rw [show (400 : Int32) = Int32.ofNat 400 from rfl, ofn_le (by omega) (by omega)]; omega), e1', Option.bind_some, cl_value h.1 h.2.1, Option.bind_some]
  unfold pt
  cases q : nAt vs T 0 999 b with
  | some v =>
    have hv := nAt_rg q
    rw [if_neg (show ¬ enc (some v) = -1 from ofn_ne_m1 (by omega)), if_neg (show ¬ enc (some v) = -1 from ofn_ne_m1 (by omega))]
    rfl
  | none =>
    rw [if_pos (show enc none = -1 from rfl)]
    cases q2 : vh vs T b with
    | none => rw [if_pos (show enc none = -1 from rfl)]; rfl
    | some v =>
      have hv := vh_rg q2
      rw [if_neg (show ¬ enc (some v) = -1 from ofn_ne_m1 (by omega)), if_pos (show enc none = -1 from rfl)]
      have e : (1000 : Int32) + enc (some v) = Int32.ofNat (1000 + v) := by rw [Int32.ofNat_add]; rfl
      rw [e]
      rfl
theorem CSd.tl (h : CSd C T vs b S D m) : ∃ C1, (F_X10_advance C 146 = some C1 ∧ CSd C1 T vs (nx vs T b) S D m ∧ frK C C1) := ⟨_, h.adv.1, h.adv.2, frK_tk⟩
def ResOk1 (T b : Nat) : RS → Prop
  | Sum.inl r => b + r.1.length ≤ r.2 + 1 ∧ b < r.2 ∧ r.2 ≤ T
  | Sum.inr f => f ≤ T
def ty0 : RS → Prop
  | Sum.inl r => ∀ ts : List Bool, ts.length ≤ 58 → tyC r.1 ts = some (false :: ts)
  | Sum.inr _ => True
def ty1 : RS → Prop
  | Sum.inl r => ∀ ts : List Bool, ts.length ≤ 58 → tyC r.1 (false :: ts) = some (false :: ts)
  | Sum.inr _ => True
def tyT : RS → Prop
  | Sum.inl r => ∀ ts : List Bool, ts.length ≤ 57 → tyC r.1 ts = some (true :: ts)
  | Sum.inr _ => True
theorem ty_pt {c : Nat} (h : c < 1006) {ts : List Bool} (ht : ts.length ≤ 60) (cs : List Nat) : tyC (c :: cs) ts = tyC cs (false :: ts) := by
  show (if ts.length ≤ 60 then (tyS c ts).bind (fun t => tyC cs t) else none) = _
  rw [if_pos ht]
  unfold tyS
  rw [if_pos h]
  rfl
theorem ty_plus {ts : List Bool} (ht : ts.length ≤ 58) (cs : List Nat) : tyC (1010 :: cs) (false :: false :: ts) = tyC cs (false :: ts) := by
  show (if (false :: false :: ts).length ≤ 60 then (tyS 1010 (false :: false :: ts)).bind (fun t => tyC cs t) else none) = _
  rw [if_pos (by simp only [List.length_cons]; omega)]
  rfl
theorem m_plus (h : TM X T vs) (hb : b ≤ T) : L_X12_readSum_9 (mp X (tnd vs T b) b) = if sg vs T (nx vs T b) 43 = true then mS1 (mp X (tnd vs T (nx vs T b)) (nx vs T b)) else some (1, mp X (nx vs T b) (nx vs T b)) := by
  have e := m_sign (h.mp (tnd vs T b) b) (c := 43) (mp_10 _ _ _) (tnd_spec hb).2.1 (by omega)
  have e' : F_X12_sign (mp X (tnd vs T b) b) 43 = _ := e
  rw [mp_mp, show skb vs T (tnd vs T b) = nx vs T b from rfl] at e'
  rw [L_X12_readSum_9]
  simp only [Option.bind_eq_bind]
  rw [e', Option.bind_some]
  by_cases q : sg vs T (nx vs T b) 43 = true
  · rw [bi_t q, if_pos q, if_pos q, if_neg (show ¬ (1 : Int32) = 0 by decide)]
    rfl
  · rw [bi_f q, if_neg q, if_neg q, if_pos rfl]
theorem sum_ex (hT : T ≤ 400) : ∀ r b, T - b ≤ r → b ≤ T → (∃ res, ResOk T b res ∧ ty0 res ∧ Cspec vs T (fun C => L_X5_readSum_2 0 C) 0 b res ∧ ∀ k, Mspec vs T F_X12_readSum 0 k b res) ∧ (∃ res, ResOk1 T b res ∧ ty1 res ∧ (∀ i, 1 ≤ i → i < b → Cspec vs T (fun C => L_X5_readSum_2 (Int32.ofNat i) C) 1 b res) ∧ ∀ k, Mspec vs T mS1 1 k b res) := by
  intro r
  induction r with
  | zero =>
    intro b hr hb
    cases hp : pt vs T b with
    | some c => have := (pt_rg hp).2; omega
    | none =>
      refine ⟨⟨Sum.inr b, hb, trivial, fun C S D m h hD => ?_, fun k X E p c h1 h2 h3 h4 h5 => ?_⟩, ⟨Sum.inr b, hb, trivial, fun i i1 i2 C S D m h hD => ?_, fun k X E p c h1 h2 h3 h4 h5 => ?_⟩⟩
      · have e := cl_sumstep (i := 0) h (by omega)
        rw [hp] at e
        exact ⟨C, e, h.2.1.1, frK.refl _⟩
      · have e := m_part h1 h2 h3 h4 (c := c) (by omega)
        rw [hp] at e
        obtain ⟨X', p', a1, a2⟩ := e
        refine ⟨X', p', ?_, a2⟩
        unfold F_X12_readSum
        rw [a1, Option.bind_eq_bind, Option.bind_some, if_pos rfl]
      · have e := cl_sumstep (i := i) h (by omega)
        rw [hp] at e
        exact ⟨C, e, h.2.1.1, frK.refl _⟩
      · have e := m_part h1 h2 h3 h4 (c := c) (by omega)
        rw [hp] at e
        obtain ⟨X', p', a1, a2⟩ := e
        refine ⟨X', p', ?_, a2⟩
        unfold mS1
        rw [a1, Option.bind_some, if_pos rfl]
  | succ r ih =>
    intro b hr hb
    cases hp : pt vs T b with
    | none =>
      refine ⟨⟨Sum.inr b, hb, trivial, fun C S D m h hD => ?_, fun k X E p c h1 h2 h3 h4 h5 => ?_⟩, ⟨Sum.inr b, hb, trivial, fun i i1 i2 C S D m h hD => ?_, fun k X E p c h1 h2 h3 h4 h5 => ?_⟩⟩
      · have e := cl_sumstep (i := 0) h (by omega)
        rw [hp] at e
        exact ⟨C, e, h.2.1.1, frK.refl _⟩
      · have e := m_part h1 h2 h3 h4 (c := c) (by omega)
        rw [hp] at e
        obtain ⟨X', p', a1, a2⟩ := e
        refine ⟨X', p', ?_, a2⟩
        unfold F_X12_readSum
        rw [a1, Option.bind_eq_bind, Option.bind_some, if_pos rfl]
      · have e := cl_sumstep (i := i) h (by omega)
        rw [hp] at e
        exact ⟨C, e, h.2.1.1, frK.refl _⟩
      · have e := m_part h1 h2 h3 h4 (c := c) (by omega)
        rw [hp] at e
        obtain ⟨X', p', a1, a2⟩ := e
        refine ⟨X', p', ?_, a2⟩
        unfold mS1
        rw [a1, Option.bind_some, if_pos rfl]
    | some c =>
      obtain ⟨hc, hlt⟩ := pt_rg hp
      have hn1 := nx_spec (vs := vs) hb
      have hb1 := hn1.2.2.1 hlt
      have hn2 := nx_spec (vs := vs) hn1.2.1
      -- the class behind a part
      have ct : ∀ (i : Nat) (C : HI) (S D : List Nat) (m : Nat), CSd C T vs b S D m → (sg vs T (nx vs T b) 43 = true → ∃ C2, sTl (Int32.ofNat i) C = L_X5_readSum_2 (Int32.ofNat (i + 1)) C2 ∧ CSd C2 T vs (nx vs T (nx vs T b)) S D m ∧ frK C C2) ∧ (¬ sg vs T (nx vs T b) 43 = true → ∃ C1, sTl (Int32.ofNat i) C = some (1, C1) ∧ CSd C1 T vs (nx vs T b) S D m ∧ frK C C1) := by
        intro i C S D m h
        obtain ⟨C1, a1, a2, a3⟩ := h.tl
        have e := cl_sign a2.1 (c := 43) a2.2.1 (by omega)
        have e' : F_X10_isSign C1 146 43 = _ := e
        unfold sTl
        rw [a1, Option.bind_some, e', Option.bind_some]
        refine ⟨fun q => ?_, fun q => ?_⟩
        · obtain ⟨C2, b1, b2, b3⟩ := a2.tl
          rw [bi_t q, if_neg (show ¬ (1 : Int32) = 0 by decide), b1, Option.bind_some, ofn_succ]
          exact ⟨C2, rfl, b2, a3.trans b3⟩
        · rw [bi_f q, if_pos rfl]
          exact ⟨C1, rfl, a2, a3⟩
      -- the class's step
      have c0 : ∀ (C : HI) (S D : List Nat) (m : Nat), CSd C T vs b S D m → D.length + 0 < b → ∃ C1, L_X5_readSum_2 0 C = sTl (Int32.ofNat 0) C1 ∧ CSd C1 T vs b S (D ++ [c]) m ∧ frK C C1 := by
        intro C S D m h hD
        have e := cl_sumstep (i := 0) h (by omega)
        rw [hp] at e
        obtain ⟨C1, a1, a2, a3, -, -⟩ := h.add (by omega) c
        have e2 : L_X5_readSum_2 0 C = _ := e
        dsimp only at e2
        rw [a1, Option.bind_some, if_pos (by decide)] at e2
        exact ⟨C1, e2, a2, a3⟩
      have c1 : ∀ (i : Nat) (C : HI) (S D : List Nat) (m : Nat), 1 ≤ i → i < b → CSd C T vs b S D m → D.length + 1 < b → ∃ C1, L_X5_readSum_2 (Int32.ofNat i) C = sTl (Int32.ofNat i) C1 ∧ CSd C1 T vs b S (D ++ [c, 1010]) m ∧ frK C C1 := by
        intro i C S D m i1 i2 h hD
        have e := cl_sumstep (i := i) h (by omega)
        rw [hp] at e
        obtain ⟨C1, a1, a2, a3, -, -⟩ := h.add (by omega) c
        obtain ⟨C2, b1, b2, b3, -, -⟩ := a2.add (by rw [List.length_append, List.length_singleton]; omega) 1010
        have b1' : F_X4_add C1 148 1010 = some C2 := b1
        dsimp only at e
        rw [a1, Option.bind_some, if_neg (show ¬ Int32.ofNat i ≤ 0 by rw [show (0 : Int32) = Int32.ofNat 0 from rfl, ofn_le (by omega) (by omega)]; omega), b1', Option.bind_some] at e
        rw [List.append_assoc] at b2
        exact ⟨C2, e, b2, a3.trans b3⟩
      -- the reference's step
      have m0 : ∀ (k : Nat) (X : HI) (E : List Nat) (p cc : Nat), TM X T vs → p ≤ T → skb vs T p = b → MS X E k → E.length + 0 < b → ∃ X1, F_X12_readSum (mp X p cc) = L_X12_readSum_9 (mp X1 (tnd vs T b) b) ∧ TM X1 T vs ∧ MS X1 (E ++ [c]) k ∧ frY X X1 := by
        intro k X E p cc h1 h2 h3 h4 h5
        have e := m_part h1 h2 h3 h4 (c := cc) (by omega)
        rw [hp] at e
        obtain ⟨X1, a1, a2, a3, a4⟩ := e
        refine ⟨X1, ?_, a2, a3, a4⟩
        unfold F_X12_readSum
        rw [a1, Option.bind_eq_bind, Option.bind_some, if_neg (show ¬ (1 : Int32) = 0 by decide)]
      have m1 : ∀ (k : Nat) (X : HI) (E : List Nat) (p cc : Nat), TM X T vs → p ≤ T → skb vs T p = b → MS X E k → E.length + 1 < b → ∃ X1, mS1 (mp X p cc) = L_X12_readSum_9 (mp X1 (tnd vs T b) b) ∧ TM X1 T vs ∧ MS X1 (E ++ [c, 1010]) k ∧ frY X X1 := by
        intro k X E p cc h1 h2 h3 h4 h5
        have e := m_part h1 h2 h3 h4 (c := cc) (by omega)
        rw [hp] at e
        obtain ⟨X1, a1, a2, a3, a4⟩ := e
        have e3 := m_emit a3 (by rw [List.length_append, List.length_singleton]; omega) (tnd vs T b) b 10 0
        refine ⟨emX X1 (E ++ [c]).length 10 0, ?_, a2.fr (emX_fr _ _ _), ?_, a4.trans (emX_fr 10 0 _)⟩
        · unfold mS1
          rw [a1, Option.bind_some, if_neg (show ¬ (1 : Int32) = 0 by decide), e3, Option.bind_some]
        · have := a3.em 1010
          rw [List.append_assoc] at this
          exact this
      by_cases q : sg vs T (nx vs T b) 43 = true
      · have hlt1 := sg_lt q
        have hb2 := hn2.2.2.1 hlt1
        obtain ⟨-, res, r1, r2, r3, r4⟩ := ih (nx vs T (nx vs T b)) (by omega) hn2.2.1
        cases res with
        | inr f =>
          refine ⟨⟨Sum.inr f, r1, trivial, fun C S D m h hD => ?_, fun k X E p cc h1 h2 h3 h4 h5 => ?_⟩, ⟨Sum.inr f, r1, trivial, fun i i1 i2 C S D m h hD => ?_, fun k X E p cc h1 h2 h3 h4 h5 => ?_⟩⟩
          · obtain ⟨C1, a1, a2, a3⟩ := c0 C S D m h hD
            obtain ⟨C2, b1, b2, b3⟩ := (ct 0 C1 S _ m a2).1 q
            obtain ⟨C3, d1, d2, d3⟩ := r3 1 (by omega) (by omega) C2 S _ m b2 (by rw [List.length_append, List.length_singleton]; omega)
            exact ⟨C3, by show L_X5_readSum_2 0 C = _; rw [a1, b1]; exact d1, d2, (a3.trans b3).trans d3⟩
          · obtain ⟨X1, a1, a2, a3, a4⟩ := m0 k X E p cc h1 h2 h3 h4 h5
            obtain ⟨X2, p', d1, d2⟩ := r4 k X1 _ (tnd vs T (nx vs T b)) (nx vs T b) a2 (tnd_spec hn1.2.1).2.1 rfl a3 (by rw [List.length_append, List.length_singleton]; omega)
            exact ⟨X2, p', by rw [a1, m_plus a2 hb, if_pos q]; exact d1, a4.trans d2⟩
          · obtain ⟨C1, a1, a2, a3⟩ := c1 i C S D m i1 i2 h hD
            obtain ⟨C2, b1, b2, b3⟩ := (ct i C1 S _ m a2).1 q
            obtain ⟨C3, d1, d2, d3⟩ := r3 (i + 1) (by omega) (by omega) C2 S _ m b2 (by rw [List.length_append]; simp only [List.length_cons, List.length_nil]; omega)
            exact ⟨C3, by show L_X5_readSum_2 (Int32.ofNat i) C = _; rw [a1, b1]; exact d1, d2, (a3.trans b3).trans d3⟩
          · obtain ⟨X1, a1, a2, a3, a4⟩ := m1 k X E p cc h1 h2 h3 h4 h5
            obtain ⟨X2, p', d1, d2⟩ := r4 k X1 _ (tnd vs T (nx vs T b)) (nx vs T b) a2 (tnd_spec hn1.2.1).2.1 rfl a3 (by rw [List.length_append]; simp only [List.length_cons, List.length_nil]; omega)
            exact ⟨X2, p', by rw [a1, m_plus a2 hb, if_pos q]; exact d1, a4.trans d2⟩
        | inl rr =>
          obtain ⟨z1, z2, z3⟩ := r1
          refine ⟨⟨Sum.inl ([c] ++ rr.1, rr.2), ⟨?_, by show b < rr.2; omega, z3⟩, fun ts ht => ?_, fun C S D m h hD => ?_, fun k X E p cc h1 h2 h3 h4 h5 => ?_⟩, ⟨Sum.inl ([c, 1010] ++ rr.1, rr.2), ⟨?_, by show b < rr.2; omega, z3⟩, fun ts ht => ?_, fun i i1 i2 C S D m h hD => ?_, fun k X E p cc h1 h2 h3 h4 h5 => ?_⟩⟩
          · show b + ([c] ++ rr.1).length ≤ rr.2
            rw [List.length_append, List.length_singleton]; omega
          · show tyC (c :: rr.1) ts = _
            rw [ty_pt hc (by omega)]
            exact r2 ts ht
          · obtain ⟨C1, a1, a2, a3⟩ := c0 C S D m h hD
            obtain ⟨C2, b1, b2, b3⟩ := (ct 0 C1 S _ m a2).1 q
            obtain ⟨C3, d1, d2, d3⟩ := r3 1 (by omega) (by omega) C2 S _ m b2 (by rw [List.length_append, List.length_singleton]; omega)
            rw [List.append_assoc] at d2
            exact ⟨C3, by show L_X5_readSum_2 0 C = _; rw [a1, b1]; exact d1, d2, (a3.trans b3).trans d3⟩
          · obtain ⟨X1, a1, a2, a3, a4⟩ := m0 k X E p cc h1 h2 h3 h4 h5
            obtain ⟨X2, p', c', d1, d2, d3, d4, d5, d6⟩ := r4 k X1 _ (tnd vs T (nx vs T b)) (nx vs T b) a2 (tnd_spec hn1.2.1).2.1 rfl a3 (by rw [List.length_append, List.length_singleton]; omega)
            rw [List.append_assoc] at d5
            exact ⟨X2, p', c', by rw [a1, m_plus a2 hb, if_pos q]; exact d1, d2, d3, d4, d5, a4.trans d6⟩
          · show b + ([c, 1010] ++ rr.1).length ≤ rr.2 + 1
            rw [List.length_append]; simp only [List.length_cons, List.length_nil]; omega
          · show tyC (c :: 1010 :: rr.1) (false :: ts) = _
            rw [ty_pt hc (by rw [List.length_cons]; omega), ty_plus ht]
            exact r2 ts ht
          · obtain ⟨C1, a1, a2, a3⟩ := c1 i C S D m i1 i2 h hD
            obtain ⟨C2, b1, b2, b3⟩ := (ct i C1 S _ m a2).1 q
            obtain ⟨C3, d1, d2, d3⟩ := r3 (i + 1) (by omega) (by omega) C2 S _ m b2 (by rw [List.length_append]; simp only [List.length_cons, List.length_nil]; omega)
            rw [List.append_assoc] at d2
            exact ⟨C3, by show L_X5_readSum_2 (Int32.ofNat i) C = _; rw [a1, b1]; exact d1, d2, (a3.trans b3).trans d3⟩
          · obtain ⟨X1, a1, a2, a3, a4⟩ := m1 k X E p cc h1 h2 h3 h4 h5
            obtain ⟨X2, p', c', d1, d2, d3, d4, d5, d6⟩ := r4 k X1 _ (tnd vs T (nx vs T b)) (nx vs T b) a2 (tnd_spec hn1.2.1).2.1 rfl a3 (by rw [List.length_append]; simp only [List.length_cons, List.length_nil]; omega)
            rw [List.append_assoc] at d5
            exact ⟨X2, p', c', by rw [a1, m_plus a2 hb, if_pos q]; exact d1, d2, d3, d4, d5, a4.trans d6⟩
      · refine ⟨⟨Sum.inl ([c], nx vs T b), ⟨by show b + 1 ≤ _; omega, hb1, hn1.2.1⟩, fun ts ht => ?_, fun C S D m h hD => ?_, fun k X E p cc h1 h2 h3 h4 h5 => ?_⟩, ⟨Sum.inl ([c, 1010], nx vs T b), ⟨by show b + 2 ≤ _ + 1; omega, hb1, hn1.2.1⟩, fun ts ht => ?_, fun i i1 i2 C S D m h hD => ?_, fun k X E p cc h1 h2 h3 h4 h5 => ?_⟩⟩
        · show tyC [c] ts = _
          rw [ty_pt hc (by omega)]
          rfl
        · obtain ⟨C1, a1, a2, a3⟩ := c0 C S D m h hD
          obtain ⟨C2, b1, b2, b3⟩ := (ct 0 C1 S _ m a2).2 q
          exact ⟨C2, by show L_X5_readSum_2 0 C = _; rw [a1, b1], b2, a3.trans b3⟩
        · obtain ⟨X1, a1, a2, a3, a4⟩ := m0 k X E p cc h1 h2 h3 h4 h5
          exact ⟨X1, _, _, by rw [a1, m_plus a2 hb, if_neg q], hn1.2.1, nx_skb hb, a2, a3, a4⟩
        · show tyC [c, 1010] (false :: ts) = _
          rw [ty_pt hc (by rw [List.length_cons]; omega), ty_plus ht]
          rfl
        · obtain ⟨C1, a1, a2, a3⟩ := c1 i C S D m i1 i2 h hD
          obtain ⟨C2, b1, b2, b3⟩ := (ct i C1 S _ m a2).2 q
          exact ⟨C2, by show L_X5_readSum_2 (Int32.ofNat i) C = _; rw [a1, b1], b2, a3.trans b3⟩
        · obtain ⟨X1, a1, a2, a3, a4⟩ := m1 k X E p cc h1 h2 h3 h4 h5
          exact ⟨X1, _, _, by rw [a1, m_plus a2 hb, if_neg q], hn1.2.1, nx_skb hb, a2, a3, a4⟩
end
