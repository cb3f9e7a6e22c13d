def smC (I : HI) : Option (Int32 × HI) := (F_X5_readState I).bind fun r5 => if r5.1 = 0 then F_X5_readComparison r5.2 else some ((1 : Int32), r5.2)
def rsK (i : Int32) (I : HI) : Option (Int32 × HI) := (F_X5_joiningHere I).bind fun r10 => if r10 = (-1 : Int32) then (F_X5_settle I (1015 : Int32)).bind fun r17 => if (r17 146 7) = 0 then some ((1 : Int32), r17) else some ((0 : Int32), r17) else (F_X5_settle I r10).bind fun r13 => (F_X5_putOff r13 r10).bind fun r15 => L_X5_readCondition_12 (i + (1 : Int32)) r15
section
variable {C C' : HI} {vs : Nat → Nat} {T b l x n : Nat} {S D : List Nat} {sm : Nat → RS}
def ResOk (T b : Nat) : RS → Prop
  | Sum.inl r => b + r.1.length ≤ r.2 ∧ b < r.2 ∧ r.2 ≤ T
  | Sum.inr f => f ≤ T
def Csp (vs : Nat → Nat) (T b : Nat) (res : RS) : Prop := ∀ (C : HI) (S D : List Nat), CS C T vs b S D → D.length < b → match res with
  | Sum.inl r => ∃ C', smC C = some (1, C') ∧ CS C' T vs r.2 S (D ++ r.1) ∧ frK C C'
  | Sum.inr f => ∃ C', smC C = some (0, C') ∧ C' 146 3 = Int32.ofNat f ∧ frK C C'
def Enc (vs : Nat → Nat) (T : Nat) (F : Option (Int32 × HI)) (C : HI) : RS → Prop
  | Sum.inl r => ∃ C', F = some (1, C') ∧ CS C' T vs r.2 [] r.1 ∧ r.1.length < r.2 ∧ r.2 ≤ T ∧ frK C C'
  | Sum.inr f => ∃ C', F = some (0, C') ∧ C' 146 3 = Int32.ofNat f ∧ f ≤ T ∧ frK C C'
theorem Enc.fr {F : Option (Int32 × HI)} {res : RS} (h : Enc vs T F C' res) (hf : frK C C') : Enc vs T F C res := by
  cases res with
  | inl r => obtain ⟨C1, h1, h2, h3, h4, h5⟩ := h; exact ⟨C1, h1, h2, h3, h4, hf.trans h5⟩
  | inr f => obtain ⟨C1, h1, h2, h3, h4⟩ := h; exact ⟨C1, h1, h2, h3, hf.trans h4⟩
theorem cl_opening (h1 : TC C 146 T vs) (h2 : TK C 146 T vs b) : F_X5_openingHere C = some (if wd vs T b w_not = true then 1013 else if sg vs T b 40 = true then 0 else -1) := by
  unfold F_X5_openingHere
  simp only [Option.bind_eq_bind]
  have e := cl_sign h1 (c := 40) h2 (by omega)
  have e' : F_X10_isSign C 146 40 = _ := e
  rw [cl_word h1 h2 W27, Option.bind_some, e', Option.bind_some]
  by_cases q : wd vs T b w_not = true
  · rw [bi_t q, if_neg (by decide), if_pos q]
  · rw [bi_f q, if_pos rfl, if_neg q]
    by_cases q2 : sg vs T b 40 = true
    · rw [bi_t q2, if_neg (by decide), if_pos q2]
    · rw [bi_f q2, if_pos rfl, if_neg q2]
theorem cl_joining (h1 : TC C 146 T vs) (h2 : TK C 146 T vs b) : F_X5_joiningHere C = some (if wd vs T b w_and = true then 1014 else if wd vs T b w_or = true then 1015 else -1) := by
  unfold F_X5_joiningHere
  simp only [Option.bind_eq_bind]
  rw [cl_word h1 h2 W28, Option.bind_some, cl_word h1 h2 W29, Option.bind_some]
  by_cases q : wd vs T b w_and = true
  · rw [bi_t q, if_neg (by decide), if_pos q]
  · rw [bi_f q, if_pos rfl, if_neg q]
    by_cases q2 : wd vs T b w_or = true
    · rw [bi_t q2, if_neg (by decide), if_pos q2]
    · rw [bi_f q2, if_pos rfl, if_neg q2]
theorem cl_12 {i : Int32} {I : HI} : (((F_X5_readState I).bind fun r5 => if r5.1 = 0 then (F_X5_readComparison r5.2).bind fun r20 => if r20.1 = 0 then some ((0 : Int32), r20.2) else (F_X5_closeBrackets r20.2).bind fun r23 => rsK i r23 else (F_X5_closeBrackets r5.2).bind fun r8 => rsK i r8)) = (smC I).bind fun r => if r.1 = 0 then some ((0 : Int32), r.2) else (F_X5_closeBrackets r.2).bind fun r8 => rsK i r8 := by
  unfold smC
  cases F_X5_readState I with
  | none => rfl
  | some r5 =>
    rw [Option.bind_some, Option.bind_some]
    by_cases q : r5.1 = 0
    · rw [if_pos q, if_pos q]
    · rw [if_neg q, if_neg q, Option.bind_some, if_neg (show ¬ (1 : Int32) = 0 by decide)]
/-- the end of it, if nothing joins -/
theorem rs_end {i : Int32} (h : CS C T vs b S D) (hok : okS S) (hdp : dpS S ≤ 6) (hD : D.length + nz S < b) (h1 : ¬ wd vs T b w_and = true) (h2 : ¬ wd vs T b w_or = true) (hT : T ≤ 400) : Enc vs T (rsK i C) C (if (setl 1015 S D).1 = [] then Sum.inl ((setl 1015 S D).2, b) else Sum.inr b) := by
  have hb := h.2.1.2.2.2
  have hlen := okS_len S hok
  obtain ⟨C1, a1, a2, a3⟩ := CS.settle (l := 1015) S D C h hok (by omega) (by omega) (by omega) (Or.inr rfl)
  have a1' : F_X5_settle C 1015 = some C1 := a1
  obtain ⟨-, s2, -, -, -⟩ := setl_spec (l := 1015) S D hok
  unfold rsK
  rw [cl_joining h.1 h.2.1, Option.bind_some, if_neg h1, if_neg h2, if_pos rfl, a1', Option.bind_some]
  have e7 := a2.2.2.1
  by_cases q : (setl 1015 S D).1 = []
  · rw [if_pos q]
    rw [q] at e7 a2
    rw [if_pos (show C1 146 7 = 0 from e7)]
    exact ⟨C1, rfl, a2, by show (setl 1015 S D).2.length < b; omega, hb, a3⟩
  · rw [if_neg q]
    have hp : 0 < (setl 1015 S D).1.length := List.length_pos_iff.mpr q
    have hl2 : (setl 1015 S D).1.length ≤ 21 := by
      obtain ⟨z1, -, -, z4, -⟩ := setl_spec (l := 1015) S D hok
      have := okS_len _ z1
      omega
    rw [if_neg (show ¬ C1 146 7 = 0 by rw [e7, show (0 : Int32) = Int32.ofNat 0 from rfl, ofn_eq (by omega) (by omega)]; omega)]
    exact ⟨C1, rfl, a2.2.1.1, hb, a3⟩
theorem cl_run (hT : T ≤ 400) (hsm : ∀ b, b ≤ T → ¬ wd vs T b w_not = true → ¬ sg vs T b 40 = true → ResOk T b (sm b) ∧ Csp vs T b (sm b)) : ∀ r b, T - b ≤ r → b ≤ T → (∀ (S D : List Nat) (C : HI) (i : Nat), CS C T vs b S D → okS S → dpS S ≤ 6 → D.length + nz S < b → i < b → ∃ res, aF vs T sm true b S D = some res ∧ Enc vs T (L_X5_readCondition_12 (Int32.ofNat i) C) C res) ∧ (∀ (S D : List Nat) (C : HI) (i j : Nat), CS C T vs b S D → okS S → dpS S ≤ 6 → D.length + nz S < b → i < b → zs S + j ≤ 6 → ∃ res, aF vs T sm false b S D = some res ∧ Enc vs T ((L_X5_closeBrackets_2 (Int32.ofNat j) C).bind fun r8 => rsK (Int32.ofNat i) r8) C res) := by
  intro r
  induction r with
  | zero =>
    intro b hr hb
    have hbT : b = T := by omega
    have nw : ∀ w, ¬ wd vs T b w = true := fun w y => by have := wd_lt y; omega
    have ns : ∀ c, ¬ sg vs T b c = true := fun c y => by have := sg_lt y; omega
    have K : ∀ (S D : List Nat) (C : HI) (i j : Nat), CS C T vs b S D → okS S → dpS S ≤ 6 → D.length + nz S < b → i < b → zs S + j ≤ 6 → ∃ res, aF vs T sm false b S D = some res ∧ Enc vs T ((L_X5_closeBrackets_2 (Int32.ofNat j) C).bind fun r8 => rsK (Int32.ofNat i) r8) C res := by
      intro S D C i j h hok hdp hD hi hj
      refine ⟨if (setl 1015 S D).1 = [] then Sum.inl ((setl 1015 S D).2, b) else Sum.inr b, ?_, ?_⟩
      · rw [aF_f, if_neg (fun w => ns _ w.1), if_neg (nw _), if_neg (nw _)]
        split <;> rfl
      · have e := cl_sign h.1 (c := 41) h.2.1 (by omega)
        have e' : F_X10_isSign C 146 41 = _ := e
        have e2 : L_X5_closeBrackets_2 (Int32.ofNat j) C = some C := by
          rw [L_X5_closeBrackets_2]
          simp only [Option.bind_eq_bind]
          split
          · rfl
          · rw [e', Option.bind_some, bi_f (ns _), if_pos rfl]
        rw [e2, Option.bind_some]
        exact rs_end h hok hdp hD (nw _) (nw _) hT
    refine ⟨fun S D C i h hok hdp hD hi => ?_, K⟩
    obtain ⟨o1, o2⟩ := hsm b hb (nw _) (ns _)
    have o3 := o2 C S D h (by omega)
    rw [aF_t, if_neg (nw _), if_neg (ns _), L_X5_readCondition_12]
    simp only [Option.bind_eq_bind]
    rw [if_neg (show ¬ (400 : Int32) ≤ Int32.ofNat i by rw [show (400 : Int32) = Int32.ofNat 400 from rfl, ofn_le (by omega) (by omega)]; omega), cl_opening h.1 h.2.1, Option.bind_some, if_neg (nw _), if_neg (ns _), if_pos rfl]
    cases hr : sm b with
    | inl r =>
      rw [hr] at o1
      have := o1.2.1
      have := o1.2.2
      omega
    | inr f =>
      rw [hr] at o3 o1
      obtain ⟨C', q1, q2, q3⟩ := o3
      refine ⟨Sum.inr f, rfl, C', ?_, q2, o1, q3⟩
      have := cl_12 (i := Int32.ofNat i) (I := C)
      unfold rsK at this
      rw [this, q1, Option.bind_some, if_pos rfl]
  | succ r ih =>
    intro b hr hb
    by_cases hbT : b = T
    · exact ih b (by omega) hb
    have hlt : b < T := by omega
    have hnx := nx_spec (vs := vs) hb
    have hn1 := hnx.2.2.1 hlt
    obtain ⟨iL, iK⟩ := ih (nx vs T b) (by omega) hnx.2.1
    refine ⟨fun S D C i h hok hdp hD hi => ?_, fun S D C i j h hok hdp hD hi hj => ?_⟩
    · -- at an atom
      have hlen := okS_len S hok
      have push : ∀ x, (x = 0 ∨ x = 1013) → dpS S < 6 → ∃ C1, F_X5_putOff (up2 C 146 8 ((C 146 8) + (1 : Int32))) (Int32.ofNat x) = some C1 ∧ CS C1 T vs (nx vs T b) (x :: S) D ∧ frK C C1 := by
        intro x hx hd6
        have hdx : dpS (x :: S) = dpS S + 1 := by show (if x = 0 ∨ x = 1013 then 1 else 0) + dpS S = _; rw [if_pos hx]; omega
        obtain ⟨h1, h2, h3, h4, h5, h6, h7⟩ := id h
        have hC0 : CSd (up2 C 146 8 (Int32.ofNat (dpS S + 1))) T vs b S D (dpS S + 1) := by
          refine ⟨h1.up (by decide) (Or.inr (by decide)), ?_, ?_, ?_, ?_, ?_, fun i hi => ?_⟩
          · exact ⟨by rw [up2_get, if_neg (by decide)]; exact h2.1, by rw [up2_get, if_neg (by decide)]; exact h2.2.1, by rw [up2_get, if_neg (by decide)]; exact h2.2.2.1, h2.2.2.2⟩
          · rw [up2_get, if_neg (by decide)]; exact h3
          · rw [up2_get, if_pos ⟨rfl, rfl⟩]
          · exact stk_congr S (fun j hj => by rw [up2_ne _ _ _ (by decide)]) h5
          · rw [up2_ne _ _ _ (by decide)]; exact h6
          · rw [up2_ne _ _ _ (by decide)]; exact h7 i hi
        obtain ⟨C1, a1, a2, a3⟩ := hC0.put (by omega) x
        rw [h4, ofn_succ]
        refine ⟨C1, a1, ?_, frK_146.trans a3⟩
        unfold CS
        rw [hdx]
        exact a2
      have e400 : ¬ (400 : Int32) ≤ Int32.ofNat i := by rw [show (400 : Int32) = Int32.ofNat 400 from rfl, ofn_le (by omega) (by omega)]; omega
      have e8 : C 146 8 = Int32.ofNat (dpS S) := h.2.2.2.1
      rw [aF_t, L_X5_readCondition_12]
      simp only [Option.bind_eq_bind]
      rw [if_neg e400, cl_opening h.1 h.2.1, Option.bind_some]
      by_cases qn : wd vs T b w_not = true
      · rw [if_pos qn, if_pos qn, if_neg (show ¬ (1013 : Int32) = -1 by decide)]
        by_cases q6 : dpS S < 6
        · obtain ⟨C1, a1, a2, a3⟩ := push 1013 (Or.inr rfl) q6
          have a1' : F_X5_putOff (up2 C 146 8 ((C 146 8) + (1 : Int32))) 1013 = some C1 := a1
          rw [if_pos q6, if_pos (show C 146 8 < 6 by rw [e8, show (6 : Int32) = Int32.ofNat 6 from rfl, ofn_lt (by omega) (by omega)]; exact q6), a1', Option.bind_some, ofn_succ]
          obtain ⟨res, z1, z2⟩ := iL (1013 :: S) D C1 (i + 1) a2 ⟨hok, Or.inr (Or.inl rfl)⟩ (by show 1 + dpS S ≤ 6; omega) (by show D.length + (1 + nz S) < _; omega) (by omega)
          exact ⟨res, z1, z2.fr a3⟩
        · rw [if_neg q6, if_neg (show ¬ C 146 8 < 6 by rw [e8, show (6 : Int32) = Int32.ofNat 6 from rfl, ofn_lt (by omega) (by omega)]; exact q6)]
          exact ⟨Sum.inr b, rfl, C, rfl, h.2.1.1, hb, frK.refl _⟩
      · rw [if_neg qn, if_neg qn]
        by_cases q4 : sg vs T b 40 = true
        · rw [if_pos q4, if_pos q4, if_neg (show ¬ (0 : Int32) = -1 by decide)]
          by_cases q6 : dpS S < 6
          · obtain ⟨C1, a1, a2, a3⟩ := push 0 (Or.inl rfl) q6
            have a1' : F_X5_putOff (up2 C 146 8 ((C 146 8) + (1 : Int32))) 0 = some C1 := a1
            rw [if_pos q6, if_pos (show C 146 8 < 6 by rw [e8, show (6 : Int32) = Int32.ofNat 6 from rfl, ofn_lt (by omega) (by omega)]; exact q6), a1', Option.bind_some, ofn_succ]
            obtain ⟨res, z1, z2⟩ := iL (0 :: S) D C1 (i + 1) a2 ⟨hok, Or.inl rfl⟩ (by show 1 + dpS S ≤ 6; omega) (by show D.length + (0 + nz S) < _; omega) (by omega)
            exact ⟨res, z1, z2.fr a3⟩
          · rw [if_neg q6, if_neg (show ¬ C 146 8 < 6 by rw [e8, show (6 : Int32) = Int32.ofNat 6 from rfl, ofn_lt (by omega) (by omega)]; exact q6)]
            exact ⟨Sum.inr b, rfl, C, rfl, h.2.1.1, hb, frK.refl _⟩
        · rw [if_neg q4, if_neg q4, if_pos rfl]
          obtain ⟨o1, o2⟩ := hsm b hb qn q4
          have o3 := o2 C S D h (by omega)
          have e12 := cl_12 (i := Int32.ofNat i) (I := C)
          unfold rsK at e12
          rw [e12]
          cases hr' : sm b with
          | inl r' =>
            rw [hr'] at o1 o3
            obtain ⟨C', q1, q2, q3⟩ := o3
            obtain ⟨o4, o5, o6⟩ := o1
            obtain ⟨-, iK'⟩ := ih r'.2 (by omega) o6
            obtain ⟨res, z1, z2⟩ := iK' S (D ++ r'.1) C' i 0 q2 hok hdp (by rw [List.length_append]; omega) (by omega) (by have := zs_dp S; omega)
            refine ⟨res, z1, ?_⟩
            rw [q1, Option.bind_some, if_neg (show ¬ (1 : Int32) = 0 by decide)]
            exact z2.fr q3
          | inr f =>
            rw [hr'] at o1 o3
            obtain ⟨C', q1, q2, q3⟩ := o3
            refine ⟨Sum.inr f, rfl, C', ?_, q2, o1, q3⟩
            rw [q1, Option.bind_some, if_pos rfl]
    · -- behind an atom
      have hlen := okS_len S hok
      have e := cl_sign h.1 (c := 41) h.2.1 (by omega)
      have e' : F_X10_isSign C 146 41 = _ := e
      obtain ⟨s1, s2, s3, s4, s5⟩ := setl_spec (l := 1015) S D hok
      by_cases q41 : sg vs T b 41 = true
      · have na := sg_wd (w := w_and) q41
        have no := sg_wd (w := w_or) q41
        by_cases hE : (setl 1015 S D).1 = []
        · refine ⟨Sum.inl ((setl 1015 S D).2, b), by rw [aF_f, if_neg (fun w => w.2 hE), if_neg na, if_neg no, if_pos hE], ?_⟩
          have fin : ∀ C1 : HI, ∀ S1 D1, CS C1 T vs b S1 D1 → okS S1 → dpS S1 ≤ 6 → D1.length + nz S1 < b → (setl 1015 S1 D1) = (setl 1015 S D) → frK C C1 → Enc vs T (rsK (Int32.ofNat i) C1) C (Sum.inl ((setl 1015 S D).2, b)) := by
            intro C1 S1 D1 k1 k2 k3 k4 k5 k6
            have := rs_end (i := Int32.ofNat i) k1 k2 k3 k4 na no hT
            rw [k5, if_pos hE] at this
            exact this.fr k6
          rw [L_X5_closeBrackets_2]
          simp only [Option.bind_eq_bind]
          by_cases q6 : 6 ≤ j
          · rw [if_pos (show (6 : Int32) ≤ Int32.ofNat j by rw [show (6 : Int32) = Int32.ofNat 6 from rfl, ofn_le (by omega) (by omega)]; exact q6), Option.bind_some]
            exact fin C S D h hok hdp hD rfl (frK.refl _)
          · obtain ⟨C1, a1, a2, a3⟩ := CS.settle (l := 1015) S D C h hok (by omega) (by omega) (by omega) (Or.inr rfl)
            have a1' : F_X5_settle C 1015 = some C1 := a1
            have e7 := a2.2.2.1
            rw [hE] at e7
            rw [if_neg (show ¬ (6 : Int32) ≤ Int32.ofNat j by rw [show (6 : Int32) = Int32.ofNat 6 from rfl, ofn_le (by omega) (by omega)]; exact q6), e', Option.bind_some, bi_t q41, if_neg (show ¬ (1 : Int32) = 0 by decide), a1', Option.bind_some, if_pos (show C1 146 7 = 0 from e7), Option.bind_some]
            refine fin C1 _ _ a2 s1 (by omega) (by omega) ?_ a3
            rw [hE]
            show ([], (setl 1015 S D).2) = setl 1015 S D
            rw [← hE]
        · -- a bracket is closed
          obtain ⟨S2, hS2⟩ : ∃ S2, (setl 1015 S D).1 = 0 :: S2 := by
            rcases s5 with w | w | ⟨y, -, w1, w2⟩
            · exact absurd w hE
            · cases hq : (setl 1015 S D).1 with
              | nil => exact absurd hq hE
              | cons y S2 => rw [hq] at w; simp at w; exact ⟨S2, by rw [w]⟩
            · omega
          have z2 : zs (0 :: S2) = zs S := by rw [← hS2]; exact s3
          have z2' : 1 + zs S2 = zs S := z2
          have hj6 : ¬ 6 ≤ j := by omega
          obtain ⟨C1, a1, a2, a3⟩ := CS.settle (l := 1015) S D C h hok (by omega) (by omega) (by omega) (Or.inr rfl)
          have a1' : F_X5_settle C 1015 = some C1 := a1
          rw [hS2] at a2 s1 s4 s2
          have s4' : 1 + dpS S2 ≤ dpS S := s4
          have s2' : (setl 1015 S D).2.length + (0 + nz S2) = D.length + nz S := s2
          obtain ⟨h1, h2, h3, h4, h5, h6, h7⟩ := id a2
          have hl2 := okS_len _ s1.1
          have e7 : C1 146 7 = Int32.ofNat (S2.length + 1) := h3
          have e8 : C1 146 8 = Int32.ofNat (dpS S2 + 1) := by rw [h4]; show Int32.ofNat (1 + dpS S2) = _; rw [Nat.add_comm]
          rw [aF_f, if_pos ⟨q41, hE⟩, hS2, L_X5_closeBrackets_2]
          simp only [Option.bind_eq_bind]
          rw [if_neg (show ¬ (6 : Int32) ≤ Int32.ofNat j by rw [show (6 : Int32) = Int32.ofNat 6 from rfl, ofn_le (by omega) (by omega)]; exact hj6), e', Option.bind_some, bi_t q41, if_neg (show ¬ (1 : Int32) = 0 by decide), a1', Option.bind_some, if_neg (show ¬ C1 146 7 = 0 by rw [e7, show (0 : Int32) = Int32.ofNat 0 from rfl, ofn_eq (by omega) (by omega)]; omega), e7, e8, sub1 (by omega), sub1 (by omega)]
          have hC2 : CS (up2 (up2 C1 146 7 (Int32.ofNat S2.length)) 146 8 (Int32.ofNat (dpS S2))) T vs b S2 (setl 1015 S D).2 := by
            refine ⟨(h1.up (by decide) (Or.inr (by decide))).up (by decide) (Or.inr (by decide)), ?_, ?_, ?_, ?_, ?_, fun i hi => ?_⟩
            · exact ⟨by rw [up2_get, if_neg (by decide), up2_get, if_neg (by decide)]; exact h2.1, by rw [up2_get, if_neg (by decide), up2_get, if_neg (by decide)]; exact h2.2.1, by rw [up2_get, if_neg (by decide), up2_get, if_neg (by decide)]; exact h2.2.2.1, h2.2.2.2⟩
            · rw [up2_get, if_neg (by decide), up2_get, if_pos ⟨rfl, rfl⟩]
            · rw [up2_get, if_pos ⟨rfl, rfl⟩]
            · exact stk_congr S2 (fun j hj => by rw [up2_ne _ _ _ (by decide), up2_ne _ _ _ (by decide)]) h5.2
            · rw [up2_ne _ _ _ (by decide), up2_ne _ _ _ (by decide)]; exact h6
            · rw [up2_ne _ _ _ (by decide), up2_ne _ _ _ (by decide)]; exact h7 i hi
          obtain ⟨b1, b2⟩ := CSd.adv hC2
          rw [b1, Option.bind_some, ofn_succ]
          obtain ⟨res, y1, y2⟩ := iK S2 (setl 1015 S D).2 _ i (j + 1) b2 s1.1 (by omega) (by omega) (by omega) (by omega)
          exact ⟨res, y1, y2.fr (((a3.trans frK_146).trans frK_146).trans frK_tk)⟩
      · have e2 : L_X5_closeBrackets_2 (Int32.ofNat j) C = some C := by
          rw [L_X5_closeBrackets_2]
          simp only [Option.bind_eq_bind]
          split
          · rfl
          · rw [e', Option.bind_some, bi_f q41, if_pos rfl]
        rw [e2, Option.bind_some, aF_f, if_neg (fun w => q41 w.1)]
        by_cases qa : wd vs T b w_and = true
        · obtain ⟨t1, t2, t3, t4, t5⟩ := setl_spec (l := 1014) S D hok
          obtain ⟨C1, a1, a2, a3⟩ := CS.settle (l := 1014) S D C h hok (by omega) (by omega) (by omega) (Or.inl rfl)
          have a1' : F_X5_settle C 1014 = some C1 := a1
          have hl2 := okS_len _ t1
          obtain ⟨C2, p1, p2, p3⟩ := CSd.put a2 (by omega) 1014
          have p1' : F_X5_putOff C1 1014 = some C2 := p1
          rw [if_pos qa]
          unfold rsK
          rw [cl_joining h.1 h.2.1, Option.bind_some, if_pos qa, if_neg (show ¬ (1014 : Int32) = -1 by decide), a1', Option.bind_some, p1', Option.bind_some, ofn_succ]
          have hd0 : dpS (1014 :: (setl 1014 S D).1) = dpS (setl 1014 S D).1 := by show 0 + _ = _; omega
          have ho : okS (1014 :: (setl 1014 S D).1) := ⟨t1, Or.inr (Or.inr (Or.inl ⟨rfl, by
            rcases t5 with w | w | ⟨y, w, w1, w2⟩
            · exact Or.inl w
            · exact Or.inr (Or.inl w)
            · exact Or.inr (Or.inr (by rw [w, show y = 1015 by omega]))⟩))⟩
          obtain ⟨res, y1, y2⟩ := iL (1014 :: (setl 1014 S D).1) (setl 1014 S D).2 C2 (i + 1) (by unfold CS; rw [hd0]; exact p2) ho (by omega) (by show _ + (1 + _) < _; omega) (by omega)
          exact ⟨res, y1, y2.fr (a3.trans p3)⟩
        · rw [if_neg qa]
          by_cases qo : wd vs T b w_or = true
          · obtain ⟨C1, a1, a2, a3⟩ := CS.settle (l := 1015) S D C h hok (by omega) (by omega) (by omega) (Or.inr rfl)
            have a1' : F_X5_settle C 1015 = some C1 := a1
            have hl2 := okS_len _ s1
            obtain ⟨C2, p1, p2, p3⟩ := CSd.put a2 (by omega) 1015
            have p1' : F_X5_putOff C1 1015 = some C2 := p1
            rw [if_pos qo]
            unfold rsK
            rw [cl_joining h.1 h.2.1, Option.bind_some, if_neg qa, if_pos qo, if_neg (show ¬ (1015 : Int32) = -1 by decide), a1', Option.bind_some, p1', Option.bind_some, ofn_succ]
            have hd0 : dpS (1015 :: (setl 1015 S D).1) = dpS (setl 1015 S D).1 := by show 0 + _ = _; omega
            have ho : okS (1015 :: (setl 1015 S D).1) := ⟨s1, Or.inr (Or.inr (Or.inr ⟨rfl, by
              rcases s5 with w | w | ⟨y, w, w1, w2⟩
              · exact Or.inl w
              · exact Or.inr w
              · omega⟩))⟩
            obtain ⟨res, y1, y2⟩ := iL (1015 :: (setl 1015 S D).1) (setl 1015 S D).2 C2 (i + 1) (by unfold CS; rw [hd0]; exact p2) ho (by omega) (by show _ + (1 + _) < _; omega) (by omega)
            exact ⟨res, y1, y2.fr (a3.trans p3)⟩
          · rw [if_neg qo]
            refine ⟨if (setl 1015 S D).1 = [] then Sum.inl ((setl 1015 S D).2, b) else Sum.inr b, by split <;> rfl, ?_⟩
            exact rs_end h hok hdp hD qa qo hT
end
