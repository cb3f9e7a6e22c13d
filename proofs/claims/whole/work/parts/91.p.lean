/-! jars told apart: the best way, and the first of the best -/
def mnF (P : Nat → Bool) (v : Nat → Nat) : Nat → Nat
  | 0 => 1000000
  | i + 1 => if P i = true ∧ v i < mnF P v i then v i else mnF P v i
def fsd (P : Nat → Bool) (v : Nat → Nat) (m : Nat) : Nat → Nat → Nat
  | 0, d => d
  | r + 1, d => if P d = true ∧ v d = m then d else fsd P v m r (d + 1)
def frb (s d : Nat) : Bool := !s.testBit d
def optJ (c : Nat → Nat → Nat) (n : Nat) : Nat → Nat → Nat → Nat
  | 0, _, _ => 0
  | k + 1, jar, s => mnF (frb s) (fun d => c jar d + optJ c n k (jar + 1) (s ||| 2 ^ d)) n
def valJ (c : Nat → Nat → Nat) (n k jar s d : Nat) : Nat := c jar d + optJ c n k (jar + 1) (s ||| 2 ^ d)
def fbd (c : Nat → Nat → Nat) (n k jar s : Nat) : Nat := fsd (frb s) (valJ c n k jar s) (optJ c n (k + 1) jar s) n 0
def fbJ (c : Nat → Nat → Nat) (n : Nat) : Nat → Nat → Nat → List Nat
  | 0, _, _ => []
  | k + 1, jar, s => fbd c n k jar s :: fbJ c n k (jar + 1) (s ||| 2 ^ fbd c n k jar s)
def cstJ (c : Nat → Nat → Nat) : Nat → List Nat → Nat
  | _, [] => 0
  | jar, d :: t => c jar d + cstJ c (jar + 1) t
section
variable {c : Nat → Nat → Nat} {n J : Nat} {P : Nat → Bool} {v : Nat → Nat}
theorem mnF_le {d : Nat} (hp : P d = true) : ∀ i, d < i → mnF P v i ≤ v d := by
  intro i
  induction i with
  | zero => intro h; omega
  | succ i ih =>
    intro h
    rw [mnF]
    by_cases q : d = i
    · subst q
      split
      · exact Nat.le_refl _
      · rename_i w; have : ¬ v d < mnF P v d := fun y => w ⟨hp, y⟩; omega
    · have := ih (by omega)
      split <;> omega
theorem mnF_top : ∀ i, mnF P v i ≤ 1000000 := by
  intro i
  induction i with
  | zero => exact Nat.le_refl _
  | succ i ih => rw [mnF]; split <;> omega
theorem mnF_get : ∀ i, mnF P v i = 1000000 ∨ ∃ d, d < i ∧ P d = true ∧ v d = mnF P v i := by
  intro i
  induction i with
  | zero => exact Or.inl rfl
  | succ i ih =>
    rw [mnF]
    split
    · rename_i w
      exact Or.inr ⟨i, by omega, w.1, rfl⟩
    · rcases ih with h | ⟨d, h1, h2, h3⟩
      · exact Or.inl h
      · exact Or.inr ⟨d, by omega, h2, h3⟩
theorem fsd_spec {m : Nat} : ∀ r d, (∃ e, d ≤ e ∧ e < d + r ∧ P e = true ∧ v e = m) → d ≤ fsd P v m r d ∧ fsd P v m r d < d + r ∧ P (fsd P v m r d) = true ∧ v (fsd P v m r d) = m ∧ ∀ e, d ≤ e → e < fsd P v m r d → ¬ (P e = true ∧ v e = m) := by
  intro r
  induction r with
  | zero => rintro d ⟨e, h1, h2, -⟩; omega
  | succ r ih =>
    rintro d ⟨e, h1, h2, h3, h4⟩
    rw [fsd]
    by_cases q : P d = true ∧ v d = m
    · rw [if_pos q]
      exact ⟨Nat.le_refl _, by omega, q.1, q.2, fun e a b => by omega⟩
    · rw [if_neg q]
      have : d ≠ e := fun w => q (by rw [w]; exact ⟨h3, h4⟩)
      obtain ⟨a1, a2, a3, a4, a5⟩ := ih (d + 1) ⟨e, by omega, by omega, h3, h4⟩
      refine ⟨by omega, by omega, a3, a4, fun e b1 b2 => ?_⟩
      by_cases w : e = d
      · rw [w]; exact q
      · exact a5 e (by omega) b2
/-! counting -/
theorem cnt_add {Q : Nat → Bool} {d : Nat} : ∀ n, (∀ e, e < n → Q e = (P e || decide (e = d))) → P d = false → cntN n Q = cntN n P + (if d < n then 1 else 0) := by
  intro n
  induction n with
  | zero => intro _ _; rfl
  | succ n ih =>
    intro h hd
    rw [cntN_succ, cntN_succ, ih (fun e he => h e (by omega)) hd]
    by_cases q : n = d
    · subst q
      rw [h n (by omega), hd, if_neg (by omega), if_pos (by simp), if_neg (by decide), if_pos (by omega)]
    · have hQ : Q n = P n := by rw [h n (by omega)]; simp [q]
      have e : (if d < n + 1 then 1 else 0) = (if d < n then 1 else 0) := by
        by_cases y : d < n
        · rw [if_pos y, if_pos (by omega)]
        · rw [if_neg y, if_neg (by omega)]
      rw [hQ, e]
      exact Nat.add_right_comm _ _ _
theorem cnt_or {Q R : Nat → Bool} : ∀ n, (∀ e, e < n → R e = true → P e = true ∨ Q e = true) → cntN n R ≤ cntN n P + cntN n Q := by
  intro n
  induction n with
  | zero => intro _; exact Nat.le_refl _
  | succ n ih =>
    intro h
    have := ih (fun e he => h e (by omega))
    rw [cntN_succ, cntN_succ, cntN_succ]
    by_cases q : R n = true
    · rcases h n (by omega) q with w | w
      · rw [if_pos q, if_pos w]; omega
      · rw [if_pos q, if_pos w]; omega
    · rw [if_neg q]; omega
theorem cnt_mem (n : Nat) : ∀ l : List Nat, cntN n (fun e => decide (e ∈ l)) ≤ l.length := by
  intro l
  induction l with
  | nil =>
    have : ∀ n, cntN n (fun e => decide (e ∈ ([] : List Nat))) = 0 := by
      intro n
      induction n with
      | zero => rfl
      | succ n ih => rw [cntN_succ, ih]; simp
    rw [this]; exact Nat.le_refl _
  | cons d t ih =>
    have one : ∀ n, cntN n (fun e => decide (e = d)) ≤ 1 := by
      intro n
      have z : ∀ m, m ≤ d → cntN m (fun e => decide (e = d)) = 0 := by
        intro m
        induction m with
        | zero => intro _; rfl
        | succ m im => intro h; rw [cntN_succ, im (by omega), if_neg (by simp; omega)]
      induction n with
      | zero => exact Nat.zero_le _
      | succ n im =>
        rw [cntN_succ]
        by_cases q : n = d
        · rw [z n (by omega)]; split <;> omega
        · rw [if_neg (by simp [q])]; omega
    have := cnt_or (P := fun e => decide (e = d)) (Q := fun e => decide (e ∈ t)) (R := fun e => decide (e ∈ d :: t)) n (fun e _ h => by simpa using h)
    have o := one n
    rw [List.length_cons]
    omega
theorem cnt_lt {P : Nat → Bool} : ∀ n, cntN n P < n → ∃ d, d < n ∧ P d = false := by
  intro n h
  apply Classical.byContradiction
  intro w
  have : ∀ m, m ≤ n → cntN m P = m := by
    intro m
    induction m with
    | zero => intro _; rfl
    | succ m im =>
      intro hm
      have : P m = true := by
        cases q : P m with
        | true => rfl
        | false => exact absurd ⟨m, by omega, q⟩ w
      rw [cntN_succ, im (by omega), if_pos this]
  have := this n (Nat.le_refl _)
  omega
theorem tbo {s d e : Nat} : (s ||| 2 ^ d).testBit e = (s.testBit e || decide (e = d)) := by
  rw [Nat.testBit_or, Nat.testBit_two_pow]
  congr 1
  by_cases q : d = e
  · simp [q]
  · simp [q]; exact fun w => q w.symm
theorem pc_add {s d : Nat} (hd : d < n) (h : s.testBit d = false) : cntN n (s ||| 2 ^ d).testBit = cntN n s.testBit + 1 := by
  rw [cnt_add (P := s.testBit) (d := d) n (fun e _ => tbo) h, if_pos hd]
/-- there is a way, and what it costs is not much -/
theorem opt_rg (hc : ∀ jar d, c jar d ≤ 45) : ∀ k jar s, cntN n s.testBit + k ≤ n → optJ c n k jar s ≤ 45 * k := by
  intro k
  induction k with
  | zero => intro jar s _; exact Nat.le_refl _
  | succ k ih =>
    intro jar s h
    obtain ⟨d, hd, hf⟩ := cnt_lt (P := s.testBit) n (by omega)
    have := mnF_le (P := frb s) (v := fun d => c jar d + optJ c n k (jar + 1) (s ||| 2 ^ d)) (d := d) (by unfold frb; rw [hf]; rfl) n hd
    have i := ih (jar + 1) (s ||| 2 ^ d) (by rw [pc_add hd hf]; omega)
    have c1 := hc jar d
    show mnF _ _ _ ≤ _
    omega
theorem fbd_spec (hc : ∀ jar d, c jar d ≤ 45) {k jar s : Nat} (h : cntN n s.testBit + (k + 1) ≤ n) (hk : k ≤ 5) : fbd c n k jar s < n ∧ s.testBit (fbd c n k jar s) = false ∧ valJ c n k jar s (fbd c n k jar s) = optJ c n (k + 1) jar s ∧ (∀ e, e < n → s.testBit e = false → optJ c n (k + 1) jar s ≤ valJ c n k jar s e) ∧ (∀ e, e < fbd c n k jar s → s.testBit e = false → optJ c n (k + 1) jar s < valJ c n k jar s e) := by
  have hr := opt_rg hc (k + 1) jar s h
  have fr : ∀ e, s.testBit e = false → frb s e = true := fun e he => by unfold frb; rw [he]; rfl
  have hle : ∀ e, e < n → s.testBit e = false → optJ c n (k + 1) jar s ≤ valJ c n k jar s e := fun e he hf => mnF_le (P := frb s) (v := valJ c n k jar s) (fr e hf) n he
  have hex : ∃ e, 0 ≤ e ∧ e < 0 + n ∧ frb s e = true ∧ valJ c n k jar s e = optJ c n (k + 1) jar s := by
    rcases mnF_get (P := frb s) (v := valJ c n k jar s) n with w | ⟨d, h1, h2, h3⟩
    · have : optJ c n (k + 1) jar s = 1000000 := w
      omega
    · exact ⟨d, by omega, by omega, h2, h3⟩
  obtain ⟨a1, a2, a3, a4, a5⟩ := fsd_spec n 0 hex
  refine ⟨by unfold fbd; omega, ?_, a4, hle, fun e he hf => ?_⟩
  · have : frb s (fbd c n k jar s) = true := a3
    unfold frb at this
    simpa using this
  · have h1 := a5 e (by omega) he
    have hlt : e < n := by have : fbd c n k jar s < 0 + n := a2; omega
    have h2 := hle e hlt hf
    have h3 : ¬ valJ c n k jar s e = optJ c n (k + 1) jar s := fun y => h1 ⟨fr e hf, y⟩
    omega
/-- the first best way -/
theorem fb_spec (hc : ∀ jar d, c jar d ≤ 45) : ∀ k jar s, cntN n s.testBit + k ≤ n → k ≤ 6 → (fbJ c n k jar s).length = k ∧ cstJ c jar (fbJ c n k jar s) = optJ c n k jar s ∧ ∀ e, e ∈ fbJ c n k jar s → e < n ∧ s.testBit e = false := by
  intro k
  induction k with
  | zero => intro jar s _ _; exact ⟨rfl, rfl, fun e he => absurd he List.not_mem_nil⟩
  | succ k ih =>
    intro jar s h hk
    obtain ⟨a1, a2, a3, -, -⟩ := fbd_spec hc (jar := jar) h (by omega)
    obtain ⟨b1, b2, b3⟩ := ih (jar + 1) (s ||| 2 ^ fbd c n k jar s) (by rw [pc_add a1 a2]; omega) (by omega)
    refine ⟨?_, ?_, fun e he => ?_⟩
    · show (_ :: _).length = _
      rw [List.length_cons, b1]
    · show c jar _ + cstJ c (jar + 1) _ = _
      rw [b2]; exact a3
    · have he' : e ∈ fbd c n k jar s :: fbJ c n k (jar + 1) (s ||| 2 ^ fbd c n k jar s) := he
      rw [List.mem_cons] at he'
      rcases he' with w | w
      · rw [w]; exact ⟨a1, a2⟩
      · have := b3 e w
        rw [tbo] at this
        exact ⟨this.1, by have := this.2; simp at this; exact this.1⟩
/-- no way is better -/
def avl (n : Nat) : Nat → List Nat → Prop
  | _, [] => True
  | s, d :: t => d < n ∧ s.testBit d = false ∧ avl n (s ||| 2 ^ d) t
theorem opt_le : ∀ l jar s, avl n s l → optJ c n l.length jar s ≤ cstJ c jar l := by
  intro l
  induction l with
  | nil => intro jar s _; exact Nat.le_refl _
  | cons d t ih =>
    intro jar s ⟨h1, h2, h3⟩
    have := ih (jar + 1) _ h3
    have q := mnF_le (P := frb s) (v := fun d => c jar d + optJ c n t.length (jar + 1) (s ||| 2 ^ d)) (d := d) (by unfold frb; rw [h2]; rfl) n h1
    show mnF _ _ _ ≤ c jar d + cstJ c (jar + 1) t
    omega
theorem fb_avl (hc : ∀ jar d, c jar d ≤ 45) : ∀ k jar s, cntN n s.testBit + k ≤ n → k ≤ 6 → avl n s (fbJ c n k jar s) := by
  intro k
  induction k with
  | zero => intro jar s _ _; exact trivial
  | succ k ih =>
    intro jar s h hk
    obtain ⟨a1, a2, -, -, -⟩ := fbd_spec hc (jar := jar) h (by omega)
    exact ⟨a1, a2, ih (jar + 1) _ (by rw [pc_add a1 a2]; omega) (by omega)⟩
theorem avl_swap : ∀ l s d e, avl n (s ||| 2 ^ d) l → s.testBit e = false → ¬ e ∈ l → avl n (s ||| 2 ^ e) l := by
  intro l
  induction l with
  | nil => intro s d e _ _ _; exact trivial
  | cons f t ih =>
    intro s d e ⟨h1, h2, h3⟩ he hm
    rw [List.mem_cons] at hm
    rw [tbo] at h2
    have h2' : s.testBit f = false := by simp at h2; exact h2.1
    refine ⟨h1, ?_, ?_⟩
    · rw [tbo, h2']; simp; exact fun y => hm (Or.inl y.symm)
    · have e1 : s ||| 2 ^ d ||| 2 ^ f = (s ||| 2 ^ f) ||| 2 ^ d := by rw [Nat.or_assoc, Nat.or_comm (2 ^ d), ← Nat.or_assoc]
      have e2 : s ||| 2 ^ e ||| 2 ^ f = (s ||| 2 ^ f) ||| 2 ^ e := by rw [Nat.or_assoc, Nat.or_comm (2 ^ e), ← Nat.or_assoc]
      rw [e2]
      rw [e1] at h3
      refine ih _ d e h3 ?_ (fun y => hm (Or.inr y))
      rw [tbo, he]; simp; exact fun y => hm (Or.inl y)
/-- what is better for the jar than d -/
def btr (c : Nat → Nat → Nat) (jar d e : Nat) : Bool := decide (c jar e < c jar d ∨ (c jar e = c jar d ∧ e < d))
theorem fbd_worth (hc : ∀ jar d, c jar d ≤ 45) {k jar s : Nat} (hs : cntN n s.testBit = jar) (hJ : jar + (k + 1) = J) (hJn : J ≤ n) (hJ5 : J ≤ 5) : cntN n (btr c jar (fbd c n k jar s)) < J := by
  obtain ⟨a1, a2, a3, a4, a5⟩ := fbd_spec hc (n := n) (jar := jar) (s := s) (k := k) (by omega) (by omega)
  apply Classical.byContradiction
  intro w
  have hp := pc_add a1 a2
  have hb : cntN n (s ||| 2 ^ fbd c n k jar s).testBit + k ≤ n := by rw [hp]; omega
  obtain ⟨f1, f2, f3⟩ := fb_spec hc k (jar + 1) (s ||| 2 ^ fbd c n k jar s) hb (by omega)
  have f4 := fb_avl hc k (jar + 1) (s ||| 2 ^ fbd c n k jar s) hb (by omega)
  generalize hF : fbJ c n k (jar + 1) (s ||| 2 ^ fbd c n k jar s) = F at f1 f2 f3 f4
  generalize hd : fbd c n k jar s = d at *
  have hex : ∃ e, e < n ∧ btr c jar d e = true ∧ s.testBit e = false ∧ ¬ e ∈ F := by
    apply Classical.byContradiction
    intro y
    have := cnt_or (P := s.testBit) (Q := fun e => decide (e ∈ F)) (R := btr c jar d) n (fun e he hr => by
      cases q : s.testBit e with
      | true => exact Or.inl rfl
      | false =>
        right
        apply Classical.byContradiction
        intro z
        exact y ⟨e, he, hr, q, by simpa using z⟩)
    have := cnt_mem n F
    omega
  obtain ⟨e, e1, e2, e3, e4⟩ := hex
  have := opt_le (c := c) F (jar + 1) _ (avl_swap F s d e f4 e3 e4)
  rw [f1, f2] at this
  unfold btr at e2
  simp only [decide_eq_true_eq] at e2
  have v1 : valJ c n k jar s e = c jar e + optJ c n k (jar + 1) (s ||| 2 ^ e) := rfl
  have v2 : valJ c n k jar s d = c jar d + optJ c n k (jar + 1) (s ||| 2 ^ d) := rfl
  rcases e2 with q | q
  · have := a4 e e1 e3; omega
  · have := a5 e q.2 e3; omega
/-! taking the lesser one -/
def jup (st : Option Nat × List Nat) (m : Nat) (w : List Nat) : Option Nat × List Nat := match st.1 with
  | none => (some m, w)
  | some l => if m < l then (some m, w) else st
theorem jup_jup {st : Option Nat × List Nat} {a b : Nat} {w w' : List Nat} (h : b < a) : jup (jup st a w) b w' = jup st b w' := by
  obtain ⟨l, x⟩ := st
  cases l with
  | none => show (if b < a then _ else _) = _; rw [if_pos h]; rfl
  | some l =>
    show jup (if a < l then (some a, w) else (some l, x)) b w' = if b < l then (some b, w') else (some l, x)
    by_cases q : a < l
    · rw [if_pos q, if_pos (by omega)]
      show (if b < a then _ else _) = _
      rw [if_pos h]
    · rw [if_neg q]
      rfl
theorem jup_stay {st : Option Nat × List Nat} {a b : Nat} {w w' : List Nat} (h : a ≤ b) : jup (jup st a w) b w' = jup st a w := by
  obtain ⟨l, x⟩ := st
  cases l with
  | none => show (if b < a then _ else _) = _; rw [if_neg (by omega)]
  | some l =>
    show jup (if a < l then (some a, w) else (some l, x)) b w' = (if a < l then (some a, w) else (some l, x))
    by_cases q : a < l
    · rw [if_pos q]
      show (if b < a then _ else _) = _
      rw [if_neg (by omega)]
    · rw [if_neg q]
      show (if b < l then _ else _) = _
      rw [if_neg (by omega)]
/-- among dishes in their order the first best one is what is left -/
theorem lp_jup {T : Nat → Bool} {g : Nat → Nat} {w : Nat → List Nat} {d m : Nat} (hd : d < n) (hT : T d = true) (hm : g d = m) (h1 : ∀ e, e < d → T e = true → m < g e) (h2 : ∀ e, e < n → T e = true → m ≤ g e) (st : Option Nat × List Nat) : lp (fun e s => if T e = true then jup s (g e) (w e) else s) 0 n st = jup st m (w d) := by
  have a1 : ∀ k i s, i + k ≤ d → jup (lp (fun e s => if T e = true then jup s (g e) (w e) else s) i k s) m (w d) = jup s m (w d) := by
    intro k
    induction k with
    | zero => intro i s _; rfl
    | succ k ih =>
      intro i s hi
      show jup (lp _ (i + 1) k (if T i = true then jup s (g i) (w i) else s)) m (w d) = _
      rw [ih (i + 1) _ (by omega)]
      by_cases q : T i = true
      · rw [if_pos q, jup_jup (h1 i (by omega) q)]
      · rw [if_neg q]
  have a2 : ∀ k i, i + k ≤ n → lp (fun e s => if T e = true then jup s (g e) (w e) else s) i k (jup st m (w d)) = jup st m (w d) := by
    intro k
    induction k with
    | zero => intro i _; rfl
    | succ k ih =>
      intro i hi
      show lp _ (i + 1) k (if T i = true then jup (jup st m (w d)) (g i) (w i) else jup st m (w d)) = _
      by_cases q : T i = true
      · rw [if_pos q, jup_stay (h2 i (by omega) q)]; exact ih (i + 1) (by omega)
      · rw [if_neg q]; exact ih (i + 1) (by omega)
  rw [show n = d + (1 + (n - d - 1)) by omega, lp_add, lp_add, Nat.zero_add]
  have e1 : lp (fun e s => if T e = true then jup s (g e) (w e) else s) d 1 (lp (fun e s => if T e = true then jup s (g e) (w e) else s) 0 d st) = jup st m (w d) := by
    show (if T d = true then jup _ (g d) (w d) else _) = _
    rw [if_pos hT, hm]
    exact a1 d 0 st (by omega)
  rw [e1]
  exact a2 _ _ (by omega)
end
