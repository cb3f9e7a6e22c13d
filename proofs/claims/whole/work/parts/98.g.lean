section
variable {C C' X X' : HI} {vs : Nat → Nat} {T b l x n k i m h : Nat} {S D E : List Nat} {sm : Nat → RS}
/-- what a reading comes to, on the reference's side and in the pure run -/
def QQ (vs : Nat → Nat) (T : Nat) (sm : Nat → RS) (F : HI → Option (Int32 × HI)) (k h : Nat) (St : List Nat → Prop) (Post : Nat → Prop) (b : Nat) (res : RS) : Prop := ResOk T b res ∧ (match res with
  | Sum.inl r => (∀ ts : List Bool, ts.length ≤ h → tyC r.1 ts = some (true :: ts)) ∧ Post r.2
  | Sum.inr _ => True) ∧ Mspec vs T F 0 k b res ∧ ∀ S D, dpS S = k → St S → match res with
  | Sum.inl r => aF vs T sm true b S D = aF vs T sm false r.2 S (D ++ r.1)
  | Sum.inr f => aF vs T sm true b S D = some (Sum.inr f)
def st15 (S : List Nat) : Prop := S = [] ∨ S.head? = some 0
def st14 (S : List Nat) : Prop := S = [] ∨ S.head? = some 0 ∨ S.head? = some 1015
theorem st15_s (h : st15 S) : setl 1015 S D = (S, D) := by
  cases S with
  | nil => rfl
  | cons x S =>
    rcases h with w | w
    · cases w
    · simp at w; exact setl_stay (Or.inl w)
theorem st14_s (h : st14 S) : setl 1014 S D = (S, D) := by
  cases S with
  | nil => rfl
  | cons x S =>
    rcases h with w | w | w
    · cases w
    · simp at w; exact setl_stay (Or.inl w)
    · simp at w; exact setl_stay (Or.inr (by omega))
theorem ty_join {x : Nat} (hx : x = 1014 ∨ x = 1015) {ts : List Bool} (ht : ts.length ≤ 57) : tyC [x] (true :: true :: ts) = some (true :: ts) := by
  rw [tyC_1 (by simp only [List.length_cons]; omega)]
  rcases hx with rfl | rfl <;> rfl
def LQ (vs : Nat → Nat) (T : Nat) (sm : Nat → RS) (F : HI → Option (Int32 × HI)) (k h : Nat) (St : List Nat → Prop) (Post : Nat → Prop) (b : Nat) (res : RS) : Prop := (match res with
  | Sum.inl r => b + r.1.length ≤ r.2 ∧ r.2 ≤ T ∧ (∀ ts : List Bool, ts.length ≤ h → tyC r.1 (true :: ts) = some (true :: ts)) ∧ Post r.2
  | Sum.inr f => f ≤ T) ∧ Mspec vs T F 0 k b res ∧ ∀ S D, dpS S = k → St S → match res with
  | Sum.inl r => aF vs T sm false b S D = aF vs T sm false r.2 S (D ++ r.1)
  | Sum.inr f => aF vs T sm false b S D = some (Sum.inr f)
theorem loop_ex (hT : T ≤ 400) {w : List Nat} {sW : Nat} {inner Lp : HI → Option (Int32 × HI)} {St St1 : List Nat → Prop} {Post : Nat → Prop} (hLp : ∀ I, Lp I = (F_X12_passes I sW).bind fun r4 => if r4.1 = 0 then some ((1 : Int32), r4.2) else (inner r4.2).bind fun r7 => if r7.1 = 0 then some ((0 : Int32), r7.2) else (F_X12_emits r7.2 (Int32.ofNat (x - 1000)) (0 : Int32)).bind fun r10 => Lp r10) (hs : Ws sW w) (hx : x = 1014 ∨ x = 1015) (hh : h ≤ 56) (hSt1 : ∀ S, St S → St1 (x :: S)) (hJ : ∀ b S D, wd vs T b w = true → St S → aF vs T sm false b S D = aF vs T sm true (nx vs T b) (x :: S) D) (hV : ∀ b S D, Post b → aF vs T sm false b (x :: S) D = aF vs T sm false b S (D ++ [x])) (hin : ∀ b, b ≤ T → ∃ res, QQ vs T sm inner k (h + 1) St1 Post b res) : ∀ r b, T - b ≤ r → b ≤ T → Post b → ∃ res, LQ vs T sm Lp k h St (fun b => Post b ∧ ¬ wd vs T b w = true) b res := by
  have stop : ∀ b, b ≤ T → Post b → ¬ wd vs T b w = true → ∃ res, LQ vs T sm Lp k h St (fun b => Post b ∧ ¬ wd vs T b w = true) b res := by
    intro b hb hP hw
    refine ⟨Sum.inl ([], b), ⟨Nat.le_refl _, hb, fun ts _ => rfl, hP, hw⟩, fun X E p c h1 h2 h3 h4 h5 => ?_, fun S D _ _ => ?_⟩
    · have e := m_passes (h1.mp p c) (mp_10 _ _ _) h2 hs
      rw [h3, mp_mp, if_neg hw, bi_f hw] at e
      refine ⟨X, b, b, ?_, hb, by rw [← h3]; exact skb_skb h2, h1, by rw [List.append_nil]; exact h4, frY.refl _⟩
      rw [hLp, e, Option.bind_some, if_pos rfl]
    · show aF vs T sm false b S D = aF vs T sm false b S (D ++ [])
      rw [List.append_nil]
  intro r
  induction r with
  | zero =>
    intro b hr hb hP
    exact stop b hb hP (fun y => by have := wd_lt y; omega)
  | succ r ih =>
    intro b hr hb hP
    by_cases hw : wd vs T b w = true
    · have hlt := wd_lt hw
      have hn1 := nx_spec (vs := vs) hb
      have hb1 := hn1.2.2.1 hlt
      have hd : ∀ S, dpS (x :: S) = dpS S := fun S => by
        show (if x = 0 ∨ x = 1013 then 1 else 0) + dpS S = _
        rw [if_neg (by omega)]; omega
      obtain ⟨res, r1, r2, r3, r4⟩ := hin (nx vs T b) hn1.2.1
      have pas : ∀ (X : HI) (p c : Nat), TM X T vs → p ≤ T → skb vs T p = b → Lp (mp X p c) = (inner (mp X (tnd vs T b) b)).bind fun r7 => if r7.1 = 0 then some ((0 : Int32), r7.2) else (F_X12_emits r7.2 (Int32.ofNat (x - 1000)) (0 : Int32)).bind fun r10 => Lp r10 := by
        intro X p c h1 h2 h3
        have e := m_passes (h1.mp p c) (mp_10 _ _ _) h2 hs
        rw [h3, mp_mp, if_pos hw, bi_t hw] at e
        rw [hLp, e, Option.bind_some, if_neg (show ¬ (1 : Int32) = 0 by decide)]
      cases res with
      | inr f =>
        refine ⟨Sum.inr f, r1, fun X E p c h1 h2 h3 h4 h5 => ?_, fun S D hS hSt => ?_⟩
        · obtain ⟨X', p', a1, a2⟩ := r3 X E (tnd vs T b) b h1 (tnd_spec hb).2.1 rfl h4 (by omega)
          exact ⟨X', p', by rw [pas X p c h1 h2 h3, a1, Option.bind_some, if_pos rfl], a2⟩
        · show aF vs T sm false b S D = _
          rw [hJ b S D hw hSt]
          exact r4 (x :: S) D (by rw [hd]; exact hS) (hSt1 S hSt)
      | inl q =>
        obtain ⟨z1, z2, z3⟩ := r1
        obtain ⟨t1, t2⟩ := r2
        obtain ⟨res2, u1, u2, u3⟩ := ih q.2 (by omega) z3 t2
        have em : ∀ (X : HI) (E : List Nat) (p c : Nat), TM X T vs → p ≤ T → skb vs T p = b → MS X E k → E.length + 0 < b → ∃ X2 p2 c2, Lp (mp X p c) = Lp (mp X2 p2 c2) ∧ p2 ≤ T ∧ skb vs T p2 = q.2 ∧ TM X2 T vs ∧ MS X2 (E ++ (q.1 ++ [x])) k ∧ frY X X2 := by
          intro X E p c h1 h2 h3 h4 h5
          obtain ⟨X1, p1, c1, a1, a2, a3, a4, a5, a6⟩ := r3 X E (tnd vs T b) b h1 (tnd_spec hb).2.1 rfl h4 (by omega)
          have es : stp x = x - 1000 := by unfold stp; rw [if_neg (by omega)]
          have en : nmb x = 0 := by unfold nmb; rw [if_neg (by omega)]
          have hem := a5.em x
          rw [es, en, List.append_assoc] at hem
          have e3 := m_emit a5 (by rw [List.length_append]; omega) p1 c1 (Int32.ofNat (x - 1000)) 0
          refine ⟨emX X1 (E ++ q.1).length (Int32.ofNat (x - 1000)) 0, p1, c1, ?_, a2, a3, a4.fr (emX_fr _ _ _), hem, a6.trans (emX_fr _ _ _)⟩
          rw [pas X p c h1 h2 h3, a1, Option.bind_some, if_neg (show ¬ (1 : Int32) = 0 by decide), e3, Option.bind_some]
        have cp : ∀ S D, dpS S = k → St S → aF vs T sm false b S D = aF vs T sm false q.2 S (D ++ (q.1 ++ [x])) := by
          intro S D hS hSt
          have e := r4 (x :: S) D (by rw [hd]; exact hS) (hSt1 S hSt)
          have e' : aF vs T sm true (nx vs T b) (x :: S) D = aF vs T sm false q.2 (x :: S) (D ++ q.1) := e
          rw [hJ b S D hw hSt, e', hV q.2 S (D ++ q.1) t2, List.append_assoc]
        cases res2 with
        | inr f =>
          refine ⟨Sum.inr f, u1, fun X E p c h1 h2 h3 h4 h5 => ?_, fun S D hS hSt => ?_⟩
          · obtain ⟨X2, p2, c2, a1, a2, a3, a4, a5, a6⟩ := em X E p c h1 h2 h3 h4 h5
            obtain ⟨X3, p3, b1, b2⟩ := u2 X2 _ p2 c2 a4 a2 a3 a5 (by rw [List.length_append, List.length_append, List.length_singleton]; omega)
            exact ⟨X3, p3, by rw [a1, b1], a6.trans b2⟩
          · show aF vs T sm false b S D = _
            rw [cp S D hS hSt]
            exact u3 S _ hS hSt
        | inl u =>
          obtain ⟨v1, v2, v3, v4⟩ := u1
          refine ⟨Sum.inl (q.1 ++ [x] ++ u.1, u.2), ⟨?_, v2, fun ts ht => ?_, v4⟩, fun X E p c h1 h2 h3 h4 h5 => ?_, fun S D hS hSt => ?_⟩
          · show b + (q.1 ++ [x] ++ u.1).length ≤ u.2
            rw [List.length_append, List.length_append, List.length_singleton]; omega
          · show tyC (q.1 ++ [x] ++ u.1) (true :: ts) = _
            rw [tyC_app, tyC_app, t1 (true :: ts) (by rw [List.length_cons]; omega), Option.bind_some, ty_join hx (by omega), Option.bind_some]
            exact v3 ts ht
          · obtain ⟨X2, p2, c2, a1, a2, a3, a4, a5, a6⟩ := em X E p c h1 h2 h3 h4 h5
            obtain ⟨X3, p3, c3, b1, b2, b3, b4, b5, b6⟩ := u2 X2 _ p2 c2 a4 a2 a3 a5 (by rw [List.length_append, List.length_append, List.length_singleton]; omega)
            rw [List.append_assoc] at b5
            exact ⟨X3, p3, c3, by rw [a1, b1], b2, b3, b4, b5, a6.trans b6⟩
          · show aF vs T sm false b S D = aF vs T sm false u.2 S (D ++ (q.1 ++ [x] ++ u.1))
            have e := u3 S (D ++ (q.1 ++ [x])) hS hSt
            have e' : aF vs T sm false q.2 S (D ++ (q.1 ++ [x])) = aF vs T sm false u.2 S (D ++ (q.1 ++ [x]) ++ u.1) := e
            rw [cp S D hS hSt, e', List.append_assoc]
    · exact stop b hb hP hw
theorem seq_ex (hT : T ≤ 400) {w : List Nat} {sW : Nat} {inner Lp F : HI → Option (Int32 × HI)} {St St1 : List Nat → Prop} {Post : Nat → Prop} (hF : ∀ I, F I = (inner I).bind fun r1 => if r1.1 = 0 then some ((0 : Int32), r1.2) else Lp r1.2) (hLp : ∀ I, Lp I = (F_X12_passes I sW).bind fun r4 => if r4.1 = 0 then some ((1 : Int32), r4.2) else (inner r4.2).bind fun r7 => if r7.1 = 0 then some ((0 : Int32), r7.2) else (F_X12_emits r7.2 (Int32.ofNat (x - 1000)) (0 : Int32)).bind fun r10 => Lp r10) (hs : Ws sW w) (hx : x = 1014 ∨ x = 1015) (hh : h ≤ 56) (hSt : ∀ S, St S → St1 S) (hSt1 : ∀ S, St S → St1 (x :: S)) (hJ : ∀ b S D, wd vs T b w = true → St S → aF vs T sm false b S D = aF vs T sm true (nx vs T b) (x :: S) D) (hV : ∀ b S D, Post b → aF vs T sm false b (x :: S) D = aF vs T sm false b S (D ++ [x])) (hin : ∀ b, b ≤ T → ∃ res, QQ vs T sm inner k (h + 1) St1 Post b res) (b : Nat) (hb : b ≤ T) : ∃ res, QQ vs T sm F k h St (fun b => Post b ∧ ¬ wd vs T b w = true) b res := by
  obtain ⟨res, r1, r2, r3, r4⟩ := hin b hb
  cases res with
  | inr f =>
    refine ⟨Sum.inr f, r1, trivial, fun X E p c h1 h2 h3 h4 h5 => ?_, fun S D hS hSt' => r4 S D hS (hSt S hSt')⟩
    obtain ⟨X', p', a1, a2⟩ := r3 X E p c h1 h2 h3 h4 h5
    exact ⟨X', p', by rw [hF, a1, Option.bind_some, if_pos rfl], a2⟩
  | inl q =>
    obtain ⟨z1, z2, z3⟩ := r1
    obtain ⟨t1, t2⟩ := r2
    obtain ⟨res2, u1, u2, u3⟩ := loop_ex hT hLp hs hx hh hSt1 hJ hV hin (T - q.2) q.2 (Nat.le_refl _) z3 t2
    cases res2 with
    | inr f =>
      refine ⟨Sum.inr f, u1, trivial, fun X E p c h1 h2 h3 h4 h5 => ?_, fun S D hS hSt' => ?_⟩
      · obtain ⟨X1, p1, c1, a1, a2, a3, a4, a5, a6⟩ := r3 X E p c h1 h2 h3 h4 h5
        obtain ⟨X2, p2, b1, b2⟩ := u2 X1 _ p1 c1 a4 a2 a3 a5 (by rw [List.length_append]; omega)
        exact ⟨X2, p2, by rw [hF, a1, Option.bind_some, if_neg (show ¬ (1 : Int32) = 0 by decide)]; exact b1, a6.trans b2⟩
      · have e : aF vs T sm true b S D = aF vs T sm false q.2 S (D ++ q.1) := r4 S D hS (hSt S hSt')
        show aF vs T sm true b S D = _
        rw [e]
        exact u3 S _ hS hSt'
    | inl u =>
      obtain ⟨v1, v2, v3, v4⟩ := u1
      refine ⟨Sum.inl (q.1 ++ u.1, u.2), ⟨?_, by show b < u.2; omega, v2⟩, ⟨fun ts ht => ?_, v4⟩, fun X E p c h1 h2 h3 h4 h5 => ?_, fun S D hS hSt' => ?_⟩
      · show b + (q.1 ++ u.1).length ≤ u.2
        rw [List.length_append]; omega
      · show tyC (q.1 ++ u.1) ts = _
        rw [tyC_app, t1 ts (by omega), Option.bind_some]
        exact v3 ts ht
      · obtain ⟨X1, p1, c1, a1, a2, a3, a4, a5, a6⟩ := r3 X E p c h1 h2 h3 h4 h5
        obtain ⟨X2, p2, c2, b1, b2, b3, b4, b5, b6⟩ := u2 X1 _ p1 c1 a4 a2 a3 a5 (by rw [List.length_append]; omega)
        rw [List.append_assoc] at b5
        exact ⟨X2, p2, c2, by rw [hF, a1, Option.bind_some, if_neg (show ¬ (1 : Int32) = 0 by decide)]; exact b1, b2, b3, b4, b5, a6.trans b6⟩
      · have e : aF vs T sm true b S D = aF vs T sm false q.2 S (D ++ q.1) := r4 S D hS (hSt S hSt')
        have e2 : aF vs T sm false q.2 S (D ++ q.1) = aF vs T sm false u.2 S (D ++ q.1 ++ u.1) := u3 S _ hS hSt'
        show aF vs T sm true b S D = aF vs T sm false u.2 S (D ++ (q.1 ++ u.1))
        rw [e, e2, List.append_assoc]
/-- a whole condition, if its atoms can be read -/
theorem cond_of (hT : T ≤ 400) {rc : HI → Option (Int32 × HI)} (hk : k ≤ 6) (hin : ∀ b, b ≤ T → ∃ res, QQ vs T sm rc k (2 * k + 1 + 1) (fun _ => True) (fun _ => True) b res) (b : Nat) (hb : b ≤ T) : ∃ res, QQ vs T sm (F_X12_readCond rc) k (2 * k) st15 (fun b => (True ∧ ¬ wd vs T b w_and = true) ∧ ¬ wd vs T b w_or = true) b res := by
  have hall : ∀ b, b ≤ T → ∃ res, QQ vs T sm (F_X12_readAllOf rc) k (2 * k + 1) st14 (fun b => True ∧ ¬ wd vs T b w_and = true) b res := fun b hb => seq_ex (x := 1014) (sW := 69) (w := w_and) (inner := rc) (Lp := L_X12_readAllOf_9 rc) (F := F_X12_readAllOf rc) (St := st14) (St1 := fun _ => True) (Post := fun _ => True) hT (fun I => rfl) (fun I => by rw [L_X12_readAllOf_9]; rfl) W69 (Or.inl rfl) (by omega) (fun _ _ => trivial) (fun _ _ => trivial) (fun b S D hw hS => aF_and hw (fun D => st14_s hS)) (fun b S D _ => vk1 (Or.inr rfl)) hin b hb
  exact seq_ex (x := 1015) (sW := 70) (w := w_or) (inner := F_X12_readAllOf rc) (Lp := L_X12_readCond_9 rc) (F := F_X12_readCond rc) (St := st15) (St1 := st14) (Post := fun b => True ∧ ¬ wd vs T b w_and = true) hT (fun I => rfl) (fun I => by rw [L_X12_readCond_9]; rfl) W70 (Or.inr rfl) (by omega) (fun S hS => by rcases hS with w | w; exact Or.inl w; exact Or.inr (Or.inl w)) (fun S _ => Or.inr (Or.inr rfl)) (fun b S D hw hS => aF_or hw (fun D => st15_s hS)) (fun b S D hP => vk2 hP.2) hall b hb
end
