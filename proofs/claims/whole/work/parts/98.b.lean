section
variable {C C' : HI} {vs : Nat → Nat} {T b l x n : Nat} {S D : List Nat}
def stk (C : HI) : List Nat → Prop
  | [] => True
  | x :: S => C 154 S.length = Int32.ofNat x ∧ stk C S
def CSd (C : HI) (T : Nat) (vs : Nat → Nat) (b : Nat) (S D : List Nat) (n : Nat) : Prop := TC C 146 T vs ∧ TK C 146 T vs b ∧ C 146 7 = Int32.ofNat S.length ∧ C 146 8 = Int32.ofNat n ∧ stk C S ∧ C 148 5 = Int32.ofNat D.length ∧ ∀ i, i < D.length → C 152 i = Int32.ofNat (D.getD i 0)
def CS (C : HI) (T : Nat) (vs : Nat → Nat) (b : Nat) (S D : List Nat) : Prop := CSd C T vs b S D (dpS S)
/-- nothing else changes -/
def frK (C C' : HI) : Prop := (∀ y, y ≠ 146 → y ≠ 148 → y ≠ 152 → y ≠ 154 → C' y = C y) ∧ ∀ k, k ≠ 5 → C' 148 k = C 148 k
theorem frK.trans {A B E : HI} (h1 : frK A B) (h2 : frK B E) : frK A E := ⟨fun y q1 q2 q3 q4 => by rw [h2.1 y q1 q2 q3 q4, h1.1 y q1 q2 q3 q4], fun k hk => by rw [h2.2 k hk, h1.2 k hk]⟩
theorem frK.refl (A : HI) : frK A A := ⟨fun _ _ _ _ _ => rfl, fun _ _ => rfl⟩
theorem frK_tk : frK C (ctk C 146 T vs b) := ⟨fun y q1 _ _ _ => ctk_ne q1, fun k _ => by rw [ctk_ne (by decide)]⟩
theorem frK_146 {k : Nat} {v : Int32} : frK C (up2 C 146 k v) := ⟨fun y q1 _ _ _ => up2_ne _ _ _ q1, fun k _ => by rw [up2_ne _ _ _ (by decide)]⟩
theorem frK_154 {k : Nat} {v : Int32} : frK C (up2 C 154 k v) := ⟨fun y _ _ _ q4 => up2_ne _ _ _ q4, fun k _ => by rw [up2_ne _ _ _ (by decide)]⟩
theorem stk_congr : ∀ S, (∀ j, j < S.length → C' 154 j = C 154 j) → stk C S → stk C' S := by
  intro S
  induction S with
  | nil => intro _ _; trivial
  | cons x S ih => intro h hs; exact ⟨by rw [h _ (by rw [List.length_cons]; omega)]; exact hs.1, ih (fun j hj => h j (by rw [List.length_cons]; omega)) hs.2⟩
theorem CSd.tk (h : CSd C T vs b S D n) {b' : Nat} (hb : b' ≤ T) : CSd (ctk C 146 T vs b') T vs b' S D n := by
  obtain ⟨h1, h2, h3, h4, h5, h6, h7⟩ := h
  refine ⟨h1.tk (by decide) _, ctk_TK hb, ?_, ?_, ?_, ?_, fun i hi => ?_⟩
  · rw [ctk_get (by omega)]; exact h3
  · rw [ctk_get (by omega)]; exact h4
  · exact stk_congr S (fun j _ => by rw [ctk_ne (by decide)]) h5
  · rw [ctk_ne (by decide)]; exact h6
  · rw [ctk_ne (by decide)]; exact h7 i hi
theorem CSd.adv (h : CSd C T vs b S D n) : F_X10_advance C 146 = some (ctk C 146 T vs (nx vs T b)) ∧ CSd (ctk C 146 T vs (nx vs T b)) T vs (nx vs T b) S D n := ⟨cl_advTK h.1 (by decide) h.2.1, h.tk (nx_spec h.2.1.2.2.2).2.1⟩
theorem getD_app (D : List Nat) (x : Nat) : (D ++ [x]).getD D.length 0 = x := by
  rw [List.getD_eq_getElem?_getD, List.getElem?_append_right (Nat.le_refl _), Nat.sub_self]
  rfl
theorem getD_app2 (D E : List Nat) {i : Nat} (h : i < D.length) : (D ++ E).getD i 0 = D.getD i 0 := by
  rw [List.getD_eq_getElem?_getD, List.getD_eq_getElem?_getD, List.getElem?_append_left h]
theorem CSd.add (h : CSd C T vs b S D n) (hD : D.length < 400) (x : Nat) : ∃ C', F_X4_add C 148 (Int32.ofNat x) = some C' ∧ CSd C' T vs b S (D ++ [x]) n ∧ frK C C' ∧ (∀ k, C' 146 k = C 146 k) ∧ C' 154 = C 154 := by
  obtain ⟨h1, h2, h3, h4, h5, h6, h7⟩ := h
  unfold F_X4_add
  have e5 : up2 C 152 D.length (Int32.ofNat x) 148 5 = Int32.ofNat D.length := by rw [up2_ne _ _ _ (by decide)]; exact h6
  rw [h6, if_neg (by rw [show (400 : Int32) = Int32.ofNat 400 from rfl, ofn_le (by omega) (by omega)]; omega), if_pos (inB_ofn hD (by omega)), ofn_clamp (by omega), show 148 + 4 = 152 from rfl, e5, ofn_succ]
  have f : ∀ y, y ≠ 148 → y ≠ 152 → up2 (up2 C 152 D.length (Int32.ofNat x)) 148 5 (Int32.ofNat (D.length + 1)) y = C y := fun y q1 q2 => by rw [up2_ne _ _ _ q1, up2_ne _ _ _ q2]
  refine ⟨_, rfl, ⟨⟨?_, h1.2.1, fun i hi => ?_⟩, ?_, ?_, ?_, ?_, ?_, fun i hi => ?_⟩, ⟨fun y _ q2 q3 _ => f y q2 q3, fun k hk => ?_⟩, fun k => by rw [f 146 (by decide) (by decide)], f 154 (by decide) (by decide)⟩
  · rw [f 146 (by decide) (by decide)]; exact h1.1
  · rw [f 2 (by decide) (by decide)]; exact h1.2.2 i hi
  · unfold TK; rw [f 146 (by decide) (by decide)]; exact h2
  · rw [f 146 (by decide) (by decide)]; exact h3
  · rw [f 146 (by decide) (by decide)]; exact h4
  · exact stk_congr S (fun j _ => by rw [f 154 (by decide) (by decide)]) h5
  · rw [up2_get, if_pos ⟨rfl, rfl⟩, List.length_append]; rfl
  · rw [List.length_append, List.length_singleton] at hi
    rw [up2_ne _ _ _ (by decide), up2_get]
    by_cases q : i = D.length
    · rw [if_pos ⟨rfl, q⟩, q, getD_app]
    · rw [if_neg (fun w => q w.2), getD_app2 _ _ (by omega)]; exact h7 i (by omega)
  · rw [up2_get, if_neg (fun w => hk w.2), up2_ne _ _ _ (by decide)]
theorem CSd.put (h : CSd C T vs b S D n) (hS : S.length < 21) (x : Nat) : ∃ C', F_X5_putOff C (Int32.ofNat x) = some C' ∧ CSd C' T vs (nx vs T b) (x :: S) D n ∧ frK C C' := by
  obtain ⟨h1, h2, h3, h4, h5, h6, h7⟩ := id h
  unfold F_X5_putOff
  simp only [Option.bind_eq_bind]
  have e7 : up2 C 154 S.length (Int32.ofNat x) 146 7 = Int32.ofNat S.length := by rw [up2_ne _ _ _ (by decide)]; exact h3
  rw [h3, if_neg (by rw [show (21 : Int32) = Int32.ofNat 21 from rfl, ofn_le (by omega) (by omega)]; omega), if_pos (inB_ofn hS (by omega)), ofn_clamp (by omega), e7, ofn_succ]
  have hC : CSd (up2 (up2 C 154 S.length (Int32.ofNat x)) 146 7 (Int32.ofNat (S.length + 1))) T vs b (x :: S) D n := by
    refine ⟨(h1.up (by decide) (Or.inl (by decide))).up (by decide) (Or.inr (by decide)), ?_, ?_, ?_, ⟨?_, ?_⟩, ?_, fun i hi => ?_⟩
    · exact ⟨by rw [up2_get, if_neg (by decide), up2_ne _ _ _ (by decide)]; exact h2.1, by rw [up2_get, if_neg (by decide), up2_ne _ _ _ (by decide)]; exact h2.2.1, by rw [up2_get, if_neg (by decide), up2_ne _ _ _ (by decide)]; exact h2.2.2.1, h2.2.2.2⟩
    · rw [up2_get, if_pos ⟨rfl, rfl⟩]; rfl
    · rw [up2_get, if_neg (by decide), up2_ne _ _ _ (by decide)]; exact h4
    · rw [up2_ne _ _ _ (by decide), up2_get, if_pos ⟨rfl, rfl⟩]
    · exact stk_congr S (fun j hj => by rw [up2_ne _ _ _ (by decide), up2_get, if_neg (by omega)]) h5
    · rw [up2_ne _ _ _ (by decide), up2_ne _ _ _ (by decide)]; exact h6
    · rw [up2_ne _ _ _ (by decide), up2_ne _ _ _ (by decide)]; exact h7 i hi
  obtain ⟨a1, a2⟩ := hC.adv
  rw [a1, Option.bind_some]
  exact ⟨_, rfl, a2, (frK_154.trans frK_146).trans frK_tk⟩
theorem sub1 {n : Nat} (h : n < 99999) : Int32.ofNat (n + 1) - (1 : Int32) = Int32.ofNat n := by
  rw [show (1 : Int32) = Int32.ofNat 1 from rfl, sub_ofn (by omega) (by omega)]
  rfl
theorem CS.settle : ∀ S D (C : HI), CS C T vs b S D → okS S → S.length ≤ 21 → D.length + nz S ≤ 400 → dpS S ≤ 100 → (l = 1014 ∨ l = 1015) → ∃ C', F_X5_settle C (Int32.ofNat l) = some C' ∧ CS C' T vs b (setl l S D).1 (setl l S D).2 ∧ frK C C' := by
  intro S
  induction S with
  | nil =>
    intro D C h _ _ _ _ _
    refine ⟨C, ?_, h, frK.refl _⟩
    unfold F_X5_settle
    rw [h.2.2.1, L_X5_settle_7, if_pos (by decide)]
  | cons x S ih =>
    intro D C h hok hl hD hdp hlv
    obtain ⟨h1, h2, h3, h4, h5, h6, h7⟩ := id h
    rw [List.length_cons] at hl
    have hx : x ≤ 1015 := by have := hok.2; omega
    have e0 : F_X5_settle C (Int32.ofNat l) = L_X5_settle_7 (Int32.ofNat l) (Int32.ofNat S.length) C := by
      unfold F_X5_settle
      rw [h3, List.length_cons, sub1 (by omega)]
    have ev : ald 21 (C 154) (Int32.ofNat S.length) = some (Int32.ofNat x) := by rw [ald_ofn (by omega) (by omega), h5.1]
    rw [e0, L_X5_settle_7]
    simp only [Option.bind_eq_bind]
    rw [if_neg (show ¬ Int32.ofNat S.length < 0 by rw [show (0 : Int32) = Int32.ofNat 0 from rfl, ofn_lt (by omega) (by omega)]; omega), ev, Option.bind_some]
    by_cases q0 : x = 0
    · rw [if_pos (by rw [q0]; rfl), setl_stay (Or.inl q0)]
      exact ⟨C, rfl, h, frK.refl _⟩
    · rw [if_neg (show ¬ Int32.ofNat x = 0 by rw [show (0 : Int32) = Int32.ofNat 0 from rfl, ofn_eq (by omega) (by omega)]; exact q0), Option.bind_some]
      by_cases q1 : l < x
      · rw [if_pos (show Int32.ofNat l < Int32.ofNat x by rw [ofn_lt (by omega) (by omega)]; exact q1), setl_stay (Or.inr q1)]
        exact ⟨C, rfl, h, frK.refl _⟩
      · have hnz : nz (x :: S) = 1 + nz S := by show (if x = 0 then 0 else 1) + nz S = _; rw [if_neg q0]
        rw [if_neg (show ¬ Int32.ofNat l < Int32.ofNat x by rw [ofn_lt (by omega) (by omega)]; exact q1), Option.bind_some, setl_pop q0 (by omega)]
        -- what is left of the stack
        have rest : ∀ (C1 : HI) (m : Nat), CSd C1 T vs b (x :: S) (D ++ [x]) m → m = dpS S → frK C C1 → ∃ C', L_X5_settle_7 (Int32.ofNat l) (Int32.ofNat S.length + (-1 : Int32)) (up2 C1 146 7 (Int32.ofNat S.length)) = some C' ∧ CS C' T vs b (setl l S (D ++ [x])).1 (setl l S (D ++ [x])).2 ∧ frK C C' := by
          intro C1 m g hm hf
          obtain ⟨g1, g2, g3, g4, g5, g6, g7⟩ := g
          have hC : CS (up2 C1 146 7 (Int32.ofNat S.length)) T vs b S (D ++ [x]) := by
            refine ⟨g1.up (by decide) (Or.inr (by decide)), ?_, ?_, ?_, ?_, ?_, fun i hi => ?_⟩
            · exact ⟨by rw [up2_get, if_neg (by decide)]; exact g2.1, by rw [up2_get, if_neg (by decide)]; exact g2.2.1, by rw [up2_get, if_neg (by decide)]; exact g2.2.2.1, g2.2.2.2⟩
            · rw [up2_get, if_pos ⟨rfl, rfl⟩]
            · rw [up2_get, if_neg (by decide), ← hm]; exact g4
            · exact stk_congr S (fun j hj => by rw [up2_ne _ _ _ (by decide)]) g5.2
            · rw [up2_ne _ _ _ (by decide)]; exact g6
            · rw [up2_ne _ _ _ (by decide)]; exact g7 i hi
          have hdp2 : dpS S ≤ 100 := by have : dpS S ≤ dpS (x :: S) := by show dpS S ≤ _ + dpS S; omega
                                        omega
          obtain ⟨C', a1, a2, a3⟩ := ih (D ++ [x]) _ hC hok.1 (by omega) (by rw [List.length_append, List.length_singleton]; omega) hdp2 hlv
          refine ⟨C', ?_, a2, (hf.trans frK_146).trans a3⟩
          unfold F_X5_settle at a1
          rw [up2_get, if_pos ⟨rfl, rfl⟩, Int32.sub_eq_add_neg] at a1
          exact a1
        by_cases q3 : x = 1013
        · have hdp1 : dpS (x :: S) = dpS S + 1 := by show (if x = 0 ∨ x = 1013 then 1 else 0) + dpS S = _; rw [if_pos (Or.inr q3)]; omega
          rw [if_pos (by rw [q3]; rfl), h4, hdp1, sub1 (by omega), up2_ne _ _ _ (by decide), ev, Option.bind_some]
          have hC0 : CSd (up2 C 146 8 (Int32.ofNat (dpS S))) T vs b (x :: S) D (dpS S) := by
            refine ⟨h1.up (by decide) (Or.inr (by decide)), ?_, ?_, ?_, ?_, ?_, fun i hi => ?_⟩
            · exact ⟨by rw [up2_get, if_neg (by decide)]; exact h2.1, by rw [up2_get, if_neg (by decide)]; exact h2.2.1, by rw [up2_get, if_neg (by decide)]; exact h2.2.2.1, h2.2.2.2⟩
            · rw [up2_get, if_neg (by decide)]; exact h3
            · rw [up2_get, if_pos ⟨rfl, rfl⟩]
            · exact stk_congr (x :: S) (fun j hj => by rw [up2_ne _ _ _ (by decide)]) h5
            · rw [up2_ne _ _ _ (by decide)]; exact h6
            · rw [up2_ne _ _ _ (by decide)]; exact h7 i hi
          obtain ⟨C1, a1, a2, a3, -, -⟩ := hC0.add (by omega) x
          rw [a1, Option.bind_some]
          exact rest C1 _ a2 rfl (frK_146.trans a3)
        · have hdp1 : dpS (x :: S) = dpS S := by show (if x = 0 ∨ x = 1013 then 1 else 0) + dpS S = _; rw [if_neg (by omega)]; omega
          rw [if_neg (show ¬ Int32.ofNat x = 1013 by rw [show (1013 : Int32) = Int32.ofNat 1013 from rfl, ofn_eq (by omega) (by omega)]; exact q3), Option.bind_some]
          obtain ⟨C1, a1, a2, a3, -, -⟩ := CSd.add h (by omega) x
          rw [a1, Option.bind_some]
          exact rest C1 _ a2 hdp1 a3
end
