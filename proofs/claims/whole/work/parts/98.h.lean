section
variable {C C' X X' : HI} {vs : Nat → Nat} {T b l x n k i m h : Nat} {S D E : List Nat} {sm : Nat → RS}
theorem MS.dp (h : MS X E k) (v : Nat) : MS (up2 X 205 13 (Int32.ofNat v)) E v := by
  obtain ⟨h1, h2, h3⟩ := h
  exact ⟨by rw [up2_get, if_neg (by decide)]; exact h1, by rw [up2_get, if_pos ⟨rfl, rfl⟩], fun i hi => by rw [up2_ne _ _ _ (by decide)]; exact h3 i hi⟩
theorem frY_13 {v : Int32} : frY X (up2 X 205 13 v) := ⟨fun y q1 _ => up2_ne _ _ _ q1, fun k q1 _ => by rw [up2_get, if_neg (fun w => q1 w.2)], fun k _ => by rw [up2_ne _ _ _ (by decide)]⟩
theorem atom_ex (hT : T ≤ 400) (hsm : ∀ b, b ≤ T → ResOk T b (sm b) ∧ tyT (sm b) ∧ Cspec vs T smC 0 b (sm b) ∧ ∀ k, Mspec vs T smM 0 k b (sm b)) : ∀ q k, 7 ≤ q + k → k ≤ 6 → ∀ b, b ≤ T → ∃ res, QQ vs T sm (F_X12_readAtom q) k (2 * k + 1 + 1) (fun _ => True) (fun _ => True) b res := by
  intro q
  induction q with
  | zero => intro k h1 h2; omega
  | succ q ih =>
    intro k hq hk b hb
    have hn1 := nx_spec (vs := vs) hb
    have s40 : ∀ (X : HI) (p c : Nat), TM X T vs → p ≤ T → skb vs T p = b → F_X12_sign (mp X p c) 40 = some (bi (sg vs T b 40), mp X (if sg vs T b 40 = true then tnd vs T b else b) b) := by
      intro X p c h1 h2 h3
      have e := m_sign (h1.mp p c) (c := 40) (mp_10 _ _ _) h2 (by omega)
      have e' : F_X12_sign (mp X p c) 40 = _ := e
      rw [h3, mp_mp] at e'
      exact e'
    have snot : ∀ (X : HI) (p : Nat), TM X T vs → p ≤ T → skb vs T p = b → F_X12_passes (mp X b b) 68 = some (bi (wd vs T b w_not), mp X (if wd vs T b w_not = true then tnd vs T b else b) b) := by
      intro X p h1 h2 h3
      have e := m_passes (h1.mp b b) (mp_10 _ _ _) hb W68
      rw [show skb vs T b = b by rw [← h3]; exact skb_skb h2, mp_mp] at e
      exact e
    by_cases q40 : sg vs T b 40 = true
    · have hlt := sg_lt q40
      have hb1 := hn1.2.2.1 hlt
      have nn := sg_wd (w := w_not) q40
      by_cases k6 : k = 6
      · refine ⟨Sum.inr b, hb, trivial, fun X E p c h1 h2 h3 h4 h5 => ⟨X, tnd vs T b, ?_, frY.refl _⟩, fun S D hS _ => ?_⟩
        · rw [F_X12_readAtom]
          simp only [Option.bind_eq_bind]
          rw [s40 X p c h1 h2 h3, Option.bind_some, bi_t q40, if_pos q40, if_neg (show ¬ (1 : Int32) = 0 by decide), if_pos (show mp X (tnd vs T b) b 205 13 = 6 by rw [mp_k _ _ _ (by decide), h4.2.1, k6]; rfl)]
        · show aF vs T sm true b S D = _
          rw [aF_t, if_neg nn, if_pos q40, if_neg (by omega)]
      · obtain ⟨res, r1, r2, r3, r4⟩ := cond_of (sm := sm) hT (show k + 1 ≤ 6 by omega) (ih (k + 1) (by omega) (by omega)) (nx vs T b) hn1.2.1
        have rd : ∀ (X : HI) (E : List Nat) (p c : Nat), TM X T vs → p ≤ T → skb vs T p = b → MS X E k → F_X12_readAtom (q + 1) (mp X p c) = (F_X12_readCond (F_X12_readAtom q) (mp (up2 X 205 13 (Int32.ofNat (k + 1))) (tnd vs T b) b)).bind fun r42 => if r42.1 = 0 then some ((0 : Int32), r42.2) else (F_X12_sign (up2 r42.2 205 13 ((r42.2 205 13) - (1 : Int32))) (41 : Int32)).bind fun r45 => if r45.1 = 0 ∨ r45.1 = 1 then some (r45.1, r45.2) else none := by
          intro X E p c h1 h2 h3 h4
          have e13 : mp X (tnd vs T b) b 205 13 = Int32.ofNat k := by rw [mp_k _ _ _ (by decide)]; exact h4.2.1
          rw [F_X12_readAtom]
          simp only [Option.bind_eq_bind]
          rw [s40 X p c h1 h2 h3, Option.bind_some, bi_t q40, if_pos q40, if_neg (show ¬ (1 : Int32) = 0 by decide), if_neg (show ¬ mp X (tnd vs T b) b 205 13 = 6 by rw [e13, show (6 : Int32) = Int32.ofNat 6 from rfl, ofn_eq (by omega) (by omega)]; exact k6)]
          dsimp only
          rw [e13, ofn_succ, mp_up5 _ _ _ _ (by decide)]
        have ca : ∀ S D, dpS S = k → aF vs T sm true b S D = aF vs T sm true (nx vs T b) (0 :: S) D := by
          intro S D hS
          rw [aF_t, if_neg nn, if_pos q40, if_pos (by omega)]
        have hd0 : ∀ S, dpS S = k → dpS (0 :: S) = k + 1 := fun S hS => by
          show 1 + dpS S = _
          omega
        cases res with
        | inr f =>
          refine ⟨Sum.inr f, r1, trivial, fun X E p c h1 h2 h3 h4 h5 => ?_, fun S D hS _ => ?_⟩
          · obtain ⟨X2, p2, a1, a2⟩ := r3 _ E (tnd vs T b) b (h1.up (v := Int32.ofNat (k + 1)) (k := 13) (x := 205) (by decide) (Or.inr (by decide))) (tnd_spec hb).2.1 rfl (h4.dp (k + 1)) (by omega)
            exact ⟨X2, p2, by rw [rd X E p c h1 h2 h3 h4, a1, Option.bind_some, if_pos rfl], frY_13.trans a2⟩
          · show aF vs T sm true b S D = _
            rw [ca S D hS]
            exact r4 (0 :: S) D (hd0 S hS) (Or.inr rfl)
        | inl u =>
          obtain ⟨z1, z2, z3⟩ := r1
          obtain ⟨t1, ⟨-, t2⟩, t3⟩ := r2
          have hn2 := nx_spec (vs := vs) z3
          have mo : ∀ (X : HI) (E : List Nat) (p c : Nat), TM X T vs → p ≤ T → skb vs T p = b → MS X E k → E.length + 0 < b → ∃ X3, F_X12_readAtom (q + 1) (mp X p c) = some (bi (sg vs T u.2 41), mp X3 (if sg vs T u.2 41 = true then tnd vs T u.2 else u.2) u.2) ∧ TM X3 T vs ∧ MS X3 (E ++ u.1) k ∧ frY X X3 := by
            intro X E p c h1 h2 h3 h4 h5
            obtain ⟨X2, p2, c2, a1, a2, a3, a4, a5, a6⟩ := r3 _ E (tnd vs T b) b (h1.up (v := Int32.ofNat (k + 1)) (k := 13) (x := 205) (by decide) (Or.inr (by decide))) (tnd_spec hb).2.1 rfl (h4.dp (k + 1)) (by omega)
            have e13 : mp X2 p2 c2 205 13 = Int32.ofNat (k + 1) := by rw [mp_k _ _ _ (by decide)]; exact a5.2.1
            have tm3 : TM (up2 X2 205 13 (Int32.ofNat k)) T vs := a4.up (by decide) (Or.inr (by decide))
            have e := m_sign (tm3.mp p2 c2) (c := 41) (mp_10 _ _ _) a2 (by omega)
            have e' : F_X12_sign (mp (up2 X2 205 13 (Int32.ofNat k)) p2 c2) 41 = _ := e
            rw [a3, mp_mp] at e'
            refine ⟨up2 X2 205 13 (Int32.ofNat k), ?_, tm3, a5.dp k, (frY_13.trans a6).trans frY_13⟩
            rw [rd X E p c h1 h2 h3 h4, a1, Option.bind_some, if_neg (show ¬ (1 : Int32) = 0 by decide)]
            dsimp only
            rw [e13, sub1 (by omega), mp_up5 _ _ _ _ (by decide), e', Option.bind_some]
            by_cases y : sg vs T u.2 41 = true
            · rw [bi_t y, if_pos (Or.inr rfl)]
            · rw [bi_f y, if_pos (Or.inl rfl)]
          have cc : ∀ S D, dpS S = k → aF vs T sm true b S D = aF vs T sm false u.2 (0 :: S) (D ++ u.1) := by
            intro S D hS
            rw [ca S D hS]
            exact r4 (0 :: S) D (hd0 S hS) (Or.inr rfl)
          by_cases y : sg vs T u.2 41 = true
          · have hlt2 := sg_lt y
            have hu := hn2.2.2.1 hlt2
            refine ⟨Sum.inl (u.1, nx vs T u.2), ⟨by show b + u.1.length ≤ _; omega, by show b < _; omega, hn2.2.1⟩, ⟨fun ts ht => t1 ts (by omega), trivial⟩, fun X E p c h1 h2 h3 h4 h5 => ?_, fun S D hS _ => ?_⟩
            · obtain ⟨X3, a1, a2, a3, a4⟩ := mo X E p c h1 h2 h3 h4 h5
              rw [bi_t y, if_pos y] at a1
              exact ⟨X3, _, _, a1, (tnd_spec z3).2.1, rfl, a2, a3, a4⟩
            · show aF vs T sm true b S D = aF vs T sm false (nx vs T u.2) S (D ++ u.1)
              rw [cc S D hS, aF_close y]
          · refine ⟨Sum.inr u.2, z3, trivial, fun X E p c h1 h2 h3 h4 h5 => ?_, fun S D hS _ => ?_⟩
            · obtain ⟨X3, a1, a2, a3, a4⟩ := mo X E p c h1 h2 h3 h4 h5
              rw [bi_f y, if_neg y] at a1
              exact ⟨X3, _, a1, a4⟩
            · show aF vs T sm true b S D = _
              rw [cc S D hS, aF_open y t2 t3]
    · by_cases qn : wd vs T b w_not = true
      · have hlt := wd_lt qn
        have hb1 := hn1.2.2.1 hlt
        by_cases k6 : k = 6
        · refine ⟨Sum.inr b, hb, trivial, fun X E p c h1 h2 h3 h4 h5 => ⟨X, tnd vs T b, ?_, frY.refl _⟩, fun S D hS _ => ?_⟩
          · rw [F_X12_readAtom]
            simp only [Option.bind_eq_bind]
            rw [s40 X p c h1 h2 h3, Option.bind_some, bi_f q40, if_neg q40, if_pos rfl]
            dsimp only
            rw [snot X p h1 h2 h3, Option.bind_some, bi_t qn, if_pos qn, if_neg (show ¬ (1 : Int32) = 0 by decide), if_pos (show mp X (tnd vs T b) b 205 13 = 6 by rw [mp_k _ _ _ (by decide), h4.2.1, k6]; rfl)]
          · show aF vs T sm true b S D = _
            rw [aF_t, if_pos qn, if_neg (by omega)]
        · obtain ⟨res, r1, r2, r3, r4⟩ := ih (k + 1) (by omega) (by omega) (nx vs T b) hn1.2.1
          have rd : ∀ (X : HI) (E : List Nat) (p c : Nat), TM X T vs → p ≤ T → skb vs T p = b → MS X E k → F_X12_readAtom (q + 1) (mp X p c) = (F_X12_readAtom q (mp (up2 X 205 13 (Int32.ofNat (k + 1))) (tnd vs T b) b)).bind fun r36 => if r36.1 = 0 then some ((0 : Int32), r36.2) else (F_X12_emits (up2 r36.2 205 13 ((r36.2 205 13) - (1 : Int32))) (13 : Int32) (0 : Int32)).bind fun r39 => some ((1 : Int32), r39) := by
            intro X E p c h1 h2 h3 h4
            have e13 : mp X (tnd vs T b) b 205 13 = Int32.ofNat k := by rw [mp_k _ _ _ (by decide)]; exact h4.2.1
            rw [F_X12_readAtom]
            simp only [Option.bind_eq_bind]
            rw [s40 X p c h1 h2 h3, Option.bind_some, bi_f q40, if_neg q40, if_pos rfl]
            dsimp only
            rw [snot X p h1 h2 h3, Option.bind_some, bi_t qn, if_pos qn, if_neg (show ¬ (1 : Int32) = 0 by decide), if_neg (show ¬ mp X (tnd vs T b) b 205 13 = 6 by rw [e13, show (6 : Int32) = Int32.ofNat 6 from rfl, ofn_eq (by omega) (by omega)]; exact k6)]
            dsimp only
            rw [e13, ofn_succ, mp_up5 _ _ _ _ (by decide)]
          have ca : ∀ S D, dpS S = k → aF vs T sm true b S D = aF vs T sm true (nx vs T b) (1013 :: S) D := by
            intro S D hS
            rw [aF_t, if_pos qn, if_pos (by omega)]
          have hd0 : ∀ S, dpS S = k → dpS (1013 :: S) = k + 1 := fun S hS => by
            show 1 + dpS S = _
            omega
          cases res with
          | inr f =>
            refine ⟨Sum.inr f, r1, trivial, fun X E p c h1 h2 h3 h4 h5 => ?_, fun S D hS _ => ?_⟩
            · obtain ⟨X2, p2, a1, a2⟩ := r3 _ E (tnd vs T b) b (h1.up (v := Int32.ofNat (k + 1)) (k := 13) (x := 205) (by decide) (Or.inr (by decide))) (tnd_spec hb).2.1 rfl (h4.dp (k + 1)) (by omega)
              exact ⟨X2, p2, by rw [rd X E p c h1 h2 h3 h4, a1, Option.bind_some, if_pos rfl], frY_13.trans a2⟩
            · show aF vs T sm true b S D = _
              rw [ca S D hS]
              exact r4 (1013 :: S) D (hd0 S hS) trivial
          | inl u =>
            obtain ⟨z1, z2, z3⟩ := r1
            refine ⟨Sum.inl (u.1 ++ [1013], u.2), ⟨?_, by show b < u.2; omega, z3⟩, ⟨fun ts ht => ?_, trivial⟩, fun X E p c h1 h2 h3 h4 h5 => ?_, fun S D hS _ => ?_⟩
            · show b + (u.1 ++ [1013]).length ≤ u.2
              rw [List.length_append, List.length_singleton]; omega
            · show tyC (u.1 ++ [1013]) ts = _
              rw [tyC_app, r2.1 ts (by omega), Option.bind_some, tyC_1 (by rw [List.length_cons]; omega)]
              rfl
            · obtain ⟨X2, p2, c2, a1, a2, a3, a4, a5, a6⟩ := r3 _ E (tnd vs T b) b (h1.up (v := Int32.ofNat (k + 1)) (k := 13) (x := 205) (by decide) (Or.inr (by decide))) (tnd_spec hb).2.1 rfl (h4.dp (k + 1)) (by omega)
              have e13 : mp X2 p2 c2 205 13 = Int32.ofNat (k + 1) := by rw [mp_k _ _ _ (by decide)]; exact a5.2.1
              have ms3 := a5.dp k
              have e3 := m_emit ms3 (by rw [List.length_append]; omega) p2 c2 13 0
              have hem := ms3.em 1013
              rw [List.append_assoc] at hem
              have tm3 : TM (up2 X2 205 13 (Int32.ofNat k)) T vs := a4.up (by decide) (Or.inr (by decide))
              refine ⟨emX (up2 X2 205 13 (Int32.ofNat k)) (E ++ u.1).length 13 0, p2, c2, ?_, a2, a3, tm3.fr (emX_fr _ _ _), hem, ((frY_13.trans a6).trans frY_13).trans (emX_fr _ _ _)⟩
              rw [rd X E p c h1 h2 h3 h4, a1, Option.bind_some, if_neg (show ¬ (1 : Int32) = 0 by decide)]
              dsimp only
              rw [e13, sub1 (by omega), mp_up5 _ _ _ _ (by decide), e3, Option.bind_some]
            · have e : aF vs T sm true (nx vs T b) (1013 :: S) D = aF vs T sm false u.2 (1013 :: S) (D ++ u.1) := r4 (1013 :: S) D (hd0 S hS) trivial
              show aF vs T sm true b S D = aF vs T sm false u.2 S (D ++ (u.1 ++ [1013]))
              rw [ca S D hS, e, vk1 (Or.inl rfl), List.append_assoc]
      · obtain ⟨o1, o2, -, o4⟩ := hsm b hb
        have rd : ∀ (X : HI) (p c : Nat), TM X T vs → p ≤ T → skb vs T p = b → F_X12_readAtom (q + 1) (mp X p c) = smM (mp X b b) := by
          intro X p c h1 h2 h3
          rw [F_X12_readAtom]
          simp only [Option.bind_eq_bind]
          rw [s40 X p c h1 h2 h3, Option.bind_some, bi_f q40, if_neg q40, if_pos rfl]
          dsimp only
          rw [snot X p h1 h2 h3, Option.bind_some, bi_f qn, if_neg qn, if_pos rfl]
          rfl
        have o4k := o4 k
        have ca : ∀ S D, aF vs T sm true b S D = match sm b with
            | Sum.inl r => aF vs T sm false r.2 S (D ++ r.1)
            | Sum.inr f => some (Sum.inr f) := by
          intro S D
          rw [aF_t, if_neg qn, if_neg q40]
          rfl
        have hskb : ∀ p, p ≤ T → skb vs T p = b → skb vs T b = b := fun p hp h => by rw [← h]; exact skb_skb hp
        cases hr : sm b with
        | inr f =>
          rw [hr] at o1 o4k
          refine ⟨Sum.inr f, o1, trivial, fun X E p c h1 h2 h3 h4 h5 => ?_, fun S D hS _ => ?_⟩
          · obtain ⟨X2, p2, a1, a2⟩ := o4k X E b b h1 hb (hskb p h2 h3) h4 h5
            exact ⟨X2, p2, by rw [rd X p c h1 h2 h3, a1], a2⟩
          · show aF vs T sm true b S D = _
            rw [ca, hr]
        | inl u =>
          rw [hr] at o1 o2 o4k
          refine ⟨Sum.inl u, o1, ⟨fun ts ht => o2 ts (by omega), trivial⟩, fun X E p c h1 h2 h3 h4 h5 => ?_, fun S D hS _ => ?_⟩
          · obtain ⟨X2, p2, c2, a1, a2⟩ := o4k X E b b h1 hb (hskb p h2 h3) h4 h5
            exact ⟨X2, p2, c2, by rw [rd X p c h1 h2 h3, a1], a2⟩
          · show aF vs T sm true b S D = _
            rw [ca, hr]
/-- both read a condition alike -/
theorem cond_sim (hT : T ≤ 400) (hb : b ≤ T) (C X : HI) (D : List Nat) (p c : Nat) (h : CSd C T vs b [] D 0) (h1 : TM X T vs) (h2 : p ≤ T) (h3 : skb vs T p = b) (h4 : MS X D 0) (h5 : D.length < b) : (∃ cs b' C' X' p' c', L_X5_readCondition_12 0 C = some (1, C') ∧ F_X12_readCond (F_X12_readAtom 32) (mp X p c) = some (1, mp X' p' c') ∧ p' ≤ T ∧ skb vs T p' = b' ∧ b' ≤ T ∧ CSd C' T vs b' [] (D ++ cs) 0 ∧ TM X' T vs ∧ MS X' (D ++ cs) 0 ∧ (D ++ cs).length < b' ∧ tyC cs [] = some [true] ∧ frK C C' ∧ frY X X') ∨ (∃ f C' X' p', L_X5_readCondition_12 0 C = some (0, C') ∧ F_X12_readCond (F_X12_readAtom 32) (mp X p c) = some (0, mp X' p' f) ∧ f ≤ T ∧ C' 146 3 = Int32.ofNat f ∧ frK C C' ∧ frY X X') := by
  have hex : ∀ b, ∃ res, b ≤ T → ResOk T b res ∧ tyT res ∧ Cspec vs T smC 0 b res ∧ ∀ k, Mspec vs T smM 0 k b res := fun b => by
    by_cases q : b ≤ T
    · obtain ⟨res, r⟩ := smp_ex (vs := vs) hT b q; exact ⟨res, fun _ => r⟩
    · exact ⟨Sum.inr 0, fun w => absurd w q⟩
  obtain ⟨sm, hsm⟩ := Classical.axiomOfChoice hex
  have hsm2 : ∀ b, b ≤ T → ¬ wd vs T b w_not = true → ¬ sg vs T b 40 = true → ResOk T b (sm b) ∧ Csp vs T b (sm b) := by
    intro b hb _ _
    obtain ⟨o1, -, o3, -⟩ := hsm b hb
    refine ⟨o1, fun C S D h hD => ?_⟩
    have := o3 C S D (dpS S) h (by omega)
    cases hr : sm b with
    | inl r => rw [hr] at this; exact this
    | inr f => rw [hr] at this; exact this
  obtain ⟨res, r1, r2, r3, r4⟩ := cond_of (sm := sm) (k := 0) hT (by omega) (atom_ex hT hsm 32 0 (by omega) (by omega)) b hb
  obtain ⟨res', e1, e2⟩ := (cl_run (sm := sm) hT hsm2 (T - b) b (Nat.le_refl _) hb).1 [] D C 0 h trivial (by show 0 ≤ 6; omega) (by show D.length + 0 < b; omega) (by omega)
  have e4 := r4 [] D rfl (Or.inl rfl)
  have m := r3 X D p c h1 h2 h3 h4 (by omega)
  cases res with
  | inr f =>
    right
    have e4' : aF vs T sm true b [] D = some (Sum.inr f) := e4
    rw [e4'] at e1
    cases e1
    obtain ⟨C', a1, a2, a3, a4⟩ := e2
    obtain ⟨X', p', b1, b2⟩ := m
    exact ⟨f, C', X', p', a1, b1, a3, a2, a4, b2⟩
  | inl u =>
    left
    obtain ⟨t1, ⟨-, t2⟩, t3⟩ := r2
    have e4' : aF vs T sm true b [] D = aF vs T sm false u.2 [] (D ++ u.1) := e4
    rw [e4', aF_end t2 t3] at e1
    cases e1
    obtain ⟨C', a1, a2, a3, a4, a5⟩ := e2
    obtain ⟨X', p', c', b1, b2, b3, b4, b5, b6⟩ := m
    exact ⟨u.1, u.2, C', X', p', c', a1, b1, b2, b3, r1.2.2, a2, b4, b5, a3, t1 [] (by show 0 ≤ _; omega), a5, b6⟩
end
