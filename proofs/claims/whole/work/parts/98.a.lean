/-! the law's conditions: what waits, and what it comes to -/
def setl (l : Nat) : List Nat → List Nat → List Nat × List Nat
  | [], D => ([], D)
  | x :: S, D => if x = 0 ∨ l < x then (x :: S, D) else setl l S (D ++ [x])
def dpS : List Nat → Nat
  | [] => 0
  | x :: S => (if x = 0 ∨ x = 1013 then 1 else 0) + dpS S
abbrev RS : Type := (List Nat × Nat) ⊕ Nat
def aF (vs : Nat → Nat) (T : Nat) (sm : Nat → RS) (mode : Bool) (b : Nat) (S D : List Nat) : Option RS :=
  if mode = true then
    if wd vs T b w_not = true then if dpS S < 6 then aF vs T sm true (nx vs T b) (1013 :: S) D else some (Sum.inr b)
    else if sg vs T b 40 = true then if dpS S < 6 then aF vs T sm true (nx vs T b) (0 :: S) D else some (Sum.inr b)
    else match sm b with
      | Sum.inl r => aF vs T sm false r.2 S (D ++ r.1)
      | Sum.inr f => some (Sum.inr f)
  else if sg vs T b 41 = true ∧ (setl 1015 S D).1 ≠ [] then aF vs T sm false (nx vs T b) (setl 1015 S D).1.tail (setl 1015 S D).2
  else if wd vs T b w_and = true then aF vs T sm true (nx vs T b) (1014 :: (setl 1014 S D).1) (setl 1014 S D).2
  else if wd vs T b w_or = true then aF vs T sm true (nx vs T b) (1015 :: (setl 1015 S D).1) (setl 1015 S D).2
  else if (setl 1015 S D).1 = [] then some (Sum.inl ((setl 1015 S D).2, b)) else some (Sum.inr b)
partial_fixpoint
section
variable {vs : Nat → Nat} {T b l x : Nat} {sm : Nat → RS} {S D : List Nat}
theorem aF_t : aF vs T sm true b S D = if wd vs T b w_not = true then if dpS S < 6 then aF vs T sm true (nx vs T b) (1013 :: S) D else some (Sum.inr b) else if sg vs T b 40 = true then if dpS S < 6 then aF vs T sm true (nx vs T b) (0 :: S) D else some (Sum.inr b) else match sm b with
      | Sum.inl r => aF vs T sm false r.2 S (D ++ r.1)
      | Sum.inr f => some (Sum.inr f) := by
  rw [aF, if_pos rfl]
theorem aF_f : aF vs T sm false b S D = if sg vs T b 41 = true ∧ (setl 1015 S D).1 ≠ [] then aF vs T sm false (nx vs T b) (setl 1015 S D).1.tail (setl 1015 S D).2
  else if wd vs T b w_and = true then aF vs T sm true (nx vs T b) (1014 :: (setl 1014 S D).1) (setl 1014 S D).2
  else if wd vs T b w_or = true then aF vs T sm true (nx vs T b) (1015 :: (setl 1015 S D).1) (setl 1015 S D).2
  else if (setl 1015 S D).1 = [] then some (Sum.inl ((setl 1015 S D).2, b)) else some (Sum.inr b) := by
  rw [aF, if_neg (by decide)]
theorem setl_pop (h0 : x ≠ 0) (hx : x ≤ l) : setl l (x :: S) D = setl l S (D ++ [x]) := by
  rw [setl, if_neg (by omega)]
theorem setl_stay (h : x = 0 ∨ l < x) : setl l (x :: S) D = (x :: S, D) := by
  rw [setl, if_pos h]
/-- what waits may as well be said -/
theorem vk1 (hx : x = 1013 ∨ x = 1014) : aF vs T sm false b (x :: S) D = aF vs T sm false b S (D ++ [x]) := by
  have e4 : setl 1014 (x :: S) D = setl 1014 S (D ++ [x]) := setl_pop (by omega) (by omega)
  have e5 : setl 1015 (x :: S) D = setl 1015 S (D ++ [x]) := setl_pop (by omega) (by omega)
  rw [aF_f (S := x :: S), aF_f (S := S), e4, e5]
theorem vk2 (hb : ¬ wd vs T b w_and = true) : aF vs T sm false b (1015 :: S) D = aF vs T sm false b S (D ++ [1015]) := by
  have e5 : setl 1015 (1015 :: S) D = setl 1015 S (D ++ [1015]) := setl_pop (by omega) (by omega)
  rw [aF_f (S := 1015 :: S), aF_f (S := S), e5, if_neg hb, if_neg hb]
theorem sg_3 {c : Nat} (h : sg vs T b c = true) : kd vs T b = 3 ∧ vs b = c := by
  unfold sg at h
  simpa using h
theorem sg_wd {c : Nat} {w : List Nat} (h : sg vs T b c = true) : ¬ wd vs T b w = true := fun h' => by
  have := (sg_3 h).1
  have := wd_1 h'
  omega
theorem wd_sg {c : Nat} {w : List Nat} (h : wd vs T b w = true) : ¬ sg vs T b c = true := fun h' => sg_wd h' h
theorem wd_lt {w : List Nat} (h : wd vs T b w = true) : b < T := (kd_1.mp (wd_1 h)).1
theorem sg_lt {c : Nat} (h : sg vs T b c = true) : b < T := Nat.lt_of_not_le (fun w => by
  have := kd_0 (vs := vs).mpr w
  have := (sg_3 h).1
  omega)
theorem wd_wd {w w' : List Nat} (h : wd vs T b w = true) (hne : w ≠ w') : ¬ wd vs T b w' = true := fun h' => hne (wd_inj h h')
/-- behind an and, an or, a bracket, the end -/
theorem aF_and (h : wd vs T b w_and = true) (hs : ∀ D, setl 1014 S D = (S, D)) : aF vs T sm false b S D = aF vs T sm true (nx vs T b) (1014 :: S) D := by
  rw [aF_f, if_neg (fun w => wd_sg h w.1), if_pos h, hs]
theorem aF_or (h : wd vs T b w_or = true) (hs : ∀ D, setl 1015 S D = (S, D)) : aF vs T sm false b S D = aF vs T sm true (nx vs T b) (1015 :: S) D := by
  rw [aF_f, if_neg (fun w => wd_sg h w.1), if_neg (wd_wd h (by decide)), if_pos h, hs]
theorem aF_close (h : sg vs T b 41 = true) : aF vs T sm false b (0 :: S) D = aF vs T sm false (nx vs T b) S D := by
  have e : setl 1015 (0 :: S) D = (0 :: S, D) := setl_stay (Or.inl rfl)
  rw [aF_f (S := 0 :: S), e, if_pos ⟨h, by simp⟩]
  rfl
theorem aF_open (h : ¬ sg vs T b 41 = true) (h1 : ¬ wd vs T b w_and = true) (h2 : ¬ wd vs T b w_or = true) : aF vs T sm false b (0 :: S) D = some (Sum.inr b) := by
  have e : setl 1015 (0 :: S) D = (0 :: S, D) := setl_stay (Or.inl rfl)
  rw [aF_f, e, if_neg (fun w => h w.1), if_neg h1, if_neg h2, if_neg (by simp)]
theorem aF_end (h1 : ¬ wd vs T b w_and = true) (h2 : ¬ wd vs T b w_or = true) : aF vs T sm false b [] D = some (Sum.inl (D, b)) := by
  have e : setl 1015 [] D = ([], D) := rfl
  rw [aF_f, e, if_neg (fun w => w.2 rfl), if_neg h1, if_neg h2, if_pos rfl]
/-! the shape of what waits -/
def nz : List Nat → Nat
  | [] => 0
  | x :: S => (if x = 0 then 0 else 1) + nz S
def zs : List Nat → Nat
  | [] => 0
  | x :: S => (if x = 0 then 1 else 0) + zs S
def okS : List Nat → Prop
  | [] => True
  | x :: S => okS S ∧ (x = 0 ∨ x = 1013 ∨ (x = 1014 ∧ (S = [] ∨ S.head? = some 0 ∨ S.head? = some 1015)) ∨ (x = 1015 ∧ (S = [] ∨ S.head? = some 0)))
def sl : List Nat → Nat
  | [] => 2
  | x :: _ => if x = 0 then 2 else if x = 1015 then 1 else 0
theorem okS_len : ∀ S, okS S → S.length + sl S ≤ 3 * dpS S + 2 := by
  intro S
  induction S with
  | nil => intro _; exact Nat.le_refl _
  | cons x S ih =>
    intro h
    obtain ⟨h1, h2⟩ := h
    have i := ih h1
    have s2 : S = [] ∨ S.head? = some 0 → sl S = 2 := by
      rintro (rfl | w)
      · rfl
      · cases S with
        | nil => rfl
        | cons y S => simp at w; rw [w]; rfl
    have s1 : S.head? = some 1015 → sl S = 1 := by
      intro w
      cases S with
      | nil => cases w
      | cons y S => simp at w; rw [w]; rfl
    rcases h2 with rfl | rfl | ⟨rfl, w⟩ | ⟨rfl, w⟩
    · show S.length + 1 + 2 ≤ 3 * (1 + dpS S) + 2; omega
    · show S.length + 1 + 0 ≤ 3 * (1 + dpS S) + 2; omega
    · have : 1 ≤ sl S := by
        rcases w with w | w | w
        · have := s2 (Or.inl w); omega
        · have := s2 (Or.inr w); omega
        · have := s1 w; omega
      show S.length + 1 + 0 ≤ 3 * (0 + dpS S) + 2; omega
    · have := s2 w
      show S.length + 1 + 1 ≤ 3 * (0 + dpS S) + 2; omega
theorem setl_spec : ∀ S D, okS S → okS (setl l S D).1 ∧ (setl l S D).2.length + nz (setl l S D).1 = D.length + nz S ∧ zs (setl l S D).1 = zs S ∧ dpS (setl l S D).1 ≤ dpS S ∧ ((setl l S D).1 = [] ∨ (setl l S D).1.head? = some 0 ∨ ∃ y, (setl l S D).1.head? = some y ∧ l < y ∧ y ≤ 1015) := by
  intro S
  induction S with
  | nil => intro D _; exact ⟨trivial, rfl, rfl, Nat.le_refl _, Or.inl rfl⟩
  | cons x S ih =>
    intro D h
    by_cases q : x = 0 ∨ l < x
    · rw [setl_stay q]
      refine ⟨h, rfl, rfl, Nat.le_refl _, Or.inr ?_⟩
      rcases q with rfl | q
      · exact Or.inl rfl
      · have := h.2
        exact Or.inr ⟨x, rfl, q, by omega⟩
    · rw [setl_pop (by omega) (by omega)]
      obtain ⟨a1, a2, a3, a4, a5⟩ := ih (D ++ [x]) h.1
      refine ⟨a1, ?_, ?_, ?_, a5⟩
      · rw [a2, List.length_append, List.length_singleton]
        show D.length + 1 + nz S = D.length + ((if x = 0 then 0 else 1) + nz S)
        rw [if_neg (by omega)]; omega
      · rw [a3]
        show zs S = (if x = 0 then 1 else 0) + zs S
        rw [if_neg (by omega)]; omega
      · show dpS (setl l S (D ++ [x])).1 ≤ _ + dpS S
        omega
theorem zs_dp : ∀ S, zs S ≤ dpS S := by
  intro S
  induction S with
  | nil => exact Nat.le_refl _
  | cons x S ih =>
    show (if x = 0 then 1 else 0) + zs S ≤ (if x = 0 ∨ x = 1013 then 1 else 0) + dpS S
    by_cases q : x = 0
    · rw [if_pos q, if_pos (Or.inl q)]; omega
    · rw [if_neg q]; omega
end
