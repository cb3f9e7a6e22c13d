/-! orders: rows of dishes in their order -/
/-- the world behind a spoon of d -/
def tkW (W : Nat → Int32) (d : Nat) : Nat → Int32 := match F_X12_takes (fun b => if b = 206 then W else fun _ => 0) (Int32.ofNat d) with
  | some r => r.2 206
  | none => W
section
variable {C C' M M' : HI} {n N a d : Nat} {x x1 x2 : Int32} {W : Nat → Int32}
theorem tk_sim (hL : LR C a W) (hW : WOk n W) (ha : apA a) (hR : LawR C 9 W) (hd : d < n) : (∀ M : HI, M 206 = W → ∃ p M', F_X12_takes M (Int32.ofNat d) = some (p, M') ∧ M' 206 = tkW W d ∧ ∀ b, b ≠ 206 → b ≠ 213 → M' b = M b) ∧ WOk n (tkW W d) ∧ tkW W d 2 = W 2 ∧ (∀ k, 353 ≤ k → tkW W d k = W k) ∧ (W 5 = 99 → tkW W d = W) ∧ (¬ W 5 = 99 → ∃ C', F_X3_bite C a (Int32.ofNat d) 9 = some C' ∧ LR C' a (tkW W d) ∧ frC false a C C') := by
  by_cases h99 : W 5 = 99
  · have e : tkW W d = W := by
      unfold tkW
      rw [m_takes99 (M := fun b => if b = 206 then W else fun _ => 0) (by exact h99)]
      rfl
    refine ⟨fun M hM => ⟨-1, M, m_takes99 (by rw [hM]; exact h99), by rw [e]; exact hM, fun _ _ _ => rfl⟩, by rw [e]; exact hW, by rw [e], fun k _ => by rw [e], fun _ => e, fun q => absurd h99 q⟩
  · obtain ⟨c, t, p, s1, s2, s3, s4, ⟨C1, C2, q1, q2, q3, q4, q5, q6, q7⟩, s5, s6⟩ := serve_sim hL hW ha.S apL9 hR hd
    obtain ⟨C', b1, b2, b3⟩ := cl_bite (c := c) hL hW.1 ha.l ha.S hd q1 q2 q3 q4 q6 q7
    have key : ∀ M : HI, M 206 = W → ∃ M', F_X12_takes M (Int32.ofNat d) = some (p, M') ∧ M' 206 = tellW (bitW W d t p c) (Int32.ofNat d) (enc c) ∧ ∀ b, b ≠ 206 → b ≠ 213 → M' b = M b := fun M hM => m_takes hM hW h99 hd s1 s2 s5 s6
    have e : tkW W d = tellW (bitW W d t p c) (Int32.ofNat d) (enc c) := by
      obtain ⟨M', k1, k2, -⟩ := key (fun b => if b = 206 then W else fun _ => 0) rfl
      unfold tkW
      rw [k1]
      exact k2
    have whi : ∀ k, 113 ≤ k → bitW W d t p c k = W k := fun k hk => by
      have := hW.1.2.1
      exact bitW_ne (by omega) (by omega) (by omega) (by omega) (by omega) (by omega) (by omega)
    refine ⟨fun M hM => ?_, by rw [e]; exact tellW_ok (bitW_ok hW s2 s3 s4 hd), ?_, fun k hk => by rw [e, tellW_hi hk, whi k (by omega)], fun q => absurd q h99, fun _ => ⟨C', b1, ?_, ?_⟩⟩
    · obtain ⟨M', k1, k2, k3⟩ := key M hM
      exact ⟨p, M', k1, by rw [e]; exact k2, k3⟩
    · rw [e, tellW_lo (by omega) (by omega)]
      exact bitW_ne (by omega) (by omega) (by omega) (by omega) (by omega) (by omega) (by omega)
    · rw [e]; exact b2.congrW (fun k h1 h2 => tellW_lo h1 h2)
    · intro b h1 h2 h3 h4 _
      rw [b3 b h1]; exact q7 b h3 h4 h2
/-! the dishes of a set, in their order -/
def dl (x : Int32) : Nat → Nat → List Nat
  | _, 0 => []
  | d, r + 1 => if tb x d = true then d :: dl x (d + 1) r else dl x (d + 1) r
def rmv (x : Int32) (d : Nat) : Int32 := x &&& (bitN d ^^^ (-1 : Int32))
theorem tb_rmv {d j : Nat} (hd : d < 31) (hj : j < 32) : tb (rmv x d) j = (tb x j && decide (j ≠ d)) := by
  unfold rmv
  rw [tb_and, tb_xor, tb_bitN hd, tb_m1 hj]
  by_cases q : j = d <;> simp [q]
theorem dl_mem {e : Nat} : ∀ r d, e ∈ dl x d r ↔ d ≤ e ∧ e < d + r ∧ tb x e = true := by
  intro r
  induction r with
  | zero => intro d; simp only [dl, List.not_mem_nil, false_iff]; omega
  | succ r ih =>
    intro d
    rw [dl]
    by_cases q : tb x d = true
    · rw [if_pos q, List.mem_cons, ih]
      constructor
      · rintro (rfl | h)
        · exact ⟨Nat.le_refl _, by omega, q⟩
        · exact ⟨by omega, by omega, h.2.2⟩
      · rintro ⟨h1, h2, h3⟩
        rcases Nat.lt_or_ge d e with w | w
        · exact Or.inr ⟨by omega, by omega, h3⟩
        · exact Or.inl (by omega)
    · rw [if_neg q, ih]
      constructor
      · rintro ⟨h1, h2, h3⟩; exact ⟨by omega, by omega, h3⟩
      · rintro ⟨h1, h2, h3⟩
        refine ⟨?_, by omega, h3⟩
        rcases Nat.lt_or_ge d e with w | w
        · omega
        · exact absurd (show tb x d = true by rw [show d = e by omega]; exact h3) q
theorem dl_len : ∀ r d, (dl x d r).length = (cntN r fun i => tb x (d + i)) := by
  intro r
  induction r with
  | zero => intro d; rfl
  | succ r ih =>
    intro d
    have sh : ∀ (P : Nat → Bool) m, cntN (m + 1) P = (if P 0 = true then 1 else 0) + cntN m (fun i => P (i + 1)) := by
      intro P m
      induction m with
      | zero => rw [cntN_succ, show cntN 0 P = 0 from rfl, show cntN 0 (fun i => P (i + 1)) = 0 from rfl]; omega
      | succ m im => rw [cntN_succ, im, cntN_succ]; omega
    rw [sh, dl]
    have e : (fun i => tb x (d + (i + 1))) = fun i => tb x (d + 1 + i) := by funext i; rw [show d + (i + 1) = d + 1 + i by omega]
    rw [e, ← ih (d + 1)]
    simp only [Nat.add_zero]
    by_cases q : tb x d = true
    · rw [if_pos q, if_pos q, List.length_cons]; omega
    · rw [if_neg q, if_neg q]; omega
theorem dl_rmv {e : Nat} (he : e < 31) : ∀ r d, d + r < 32 → (d ≤ e ∧ e < d + r ∧ tb x e = true → (dl (rmv x e) d r).length + 1 = (dl x d r).length) ∧ (¬ (d ≤ e ∧ e < d + r) → (dl (rmv x e) d r).length = (dl x d r).length) := by
  intro r
  induction r with
  | zero => intro d _; exact ⟨fun h => by omega, fun _ => rfl⟩
  | succ r ih =>
    intro d hd
    obtain ⟨i1, i2⟩ := ih (d + 1) (by omega)
    have t := tb_rmv (x := x) he (show d < 32 by omega)
    refine ⟨fun ⟨h1, h2, h3⟩ => ?_, fun h => ?_⟩
    · rw [dl, dl, t]
      by_cases q : d = e
      · rw [if_neg (by simp [q]), if_pos (by rw [q]; exact h3), i2 (by omega), List.length_cons]
      · have := i1 ⟨by omega, by omega, h3⟩
        by_cases w : tb x d = true
        · rw [if_pos (by simp [w, q]), if_pos w, List.length_cons, List.length_cons]; omega
        · rw [if_neg (by simp [w]), if_neg w]; exact this
    · have q : d ≠ e := by omega
      have := i2 (by omega)
      rw [dl, dl, t]
      by_cases w : tb x d = true
      · rw [if_pos (by simp [w, q]), if_pos w, List.length_cons, List.length_cons]; omega
      · rw [if_neg (by simp [w]), if_neg w]; exact this
def DS (x : Int32) : List Nat := dl x 0 12
theorem DS_mem {e : Nat} : e ∈ DS x ↔ e < 12 ∧ tb x e = true := by
  unfold DS; rw [dl_mem]; constructor
  · rintro ⟨-, h1, h2⟩; exact ⟨by omega, h2⟩
  · rintro ⟨h1, h2⟩; exact ⟨by omega, by omega, h2⟩
theorem DS_rmv {e : Nat} (h : e ∈ DS x) : (DS (rmv x e)).length + 1 = (DS x).length := by
  have q := DS_mem.mp h
  exact (dl_rmv (x := x) (show e < 31 by omega) 12 0 (by omega)).1 ⟨by omega, by omega, q.2⟩
theorem DS_sub {e f : Nat} (he : e < 12) (h : f ∈ DS (rmv x e)) : f ∈ DS x := by
  have q := DS_mem.mp h
  rw [tb_rmv (by omega) (by omega)] at q
  simp at q
  exact DS_mem.mpr ⟨q.1, q.2.1⟩
/-! rows -/
def imx (a b : Int32) : Int32 := if a < b then b else a
def wkL (W : Nat → Int32) (r : List Nat) : Nat → Int32 := r.foldl tkW W
def sdA : (Nat → Int32) → Int32 → List Nat → Int32
  | _, g, [] => g
  | W, g, d :: t => sdA (tkW W d) (imx g (tkW W d 5)) t
def sdR (W : Nat → Int32) (r : List Nat) : Int32 := sdA W (W 5) r
theorem sdA_app : ∀ (r s : List Nat) (W : Nat → Int32) (g : Int32), sdA W g (r ++ s) = sdA (wkL W r) (sdA W g r) s := by
  intro r
  induction r with
  | nil => intro s W g; rfl
  | cons d t ih => intro s W g; exact ih s _ _
theorem sdA_le : ∀ (s : List Nat) (W : Nat → Int32) (g : Int32), g ≤ sdA W g s := by
  intro s
  induction s with
  | nil => intro W g; exact Int32.le_refl _
  | cons d t ih =>
    intro W g
    refine Int32.le_trans ?_ (ih _ _)
    unfold imx
    by_cases q : g < tkW W d 5
    · rw [if_pos q]; rw [ti_lt] at q; rw [ti_le]; omega
    · rw [if_neg q]; exact Int32.le_refl _
theorem sdR_snoc (W : Nat → Int32) (r : List Nat) (d : Nat) : sdR W (r ++ [d]) = imx (sdR W r) (wkL W (r ++ [d]) 5) := by
  unfold sdR
  rw [sdA_app]
  show imx _ _ = _
  unfold wkL
  rw [List.foldl_append]
  rfl
theorem sdR_mono (W : Nat → Int32) (r s : List Nat) : sdR W r ≤ sdR W (r ++ s) := by
  unfold sdR
  rw [sdA_app]
  exact sdA_le _ _ _
def oup (W : Nat → Int32) (s : Int32 × List Nat) (r : List Nat) : Int32 × List Nat := if sdR W r < s.1 then (sdR W r, r) else s
def ofold (W : Nat → Int32) : Nat → Int32 → List Nat → Int32 × List Nat → Int32 × List Nat
  | 0, _, pre, s => oup W s pre
  | k + 1, x, pre, s => (DS x).foldl (fun s d => ofold W k (rmv x d) (pre ++ [d]) s) s
/-- where it isn't less, nothing behind it is -/
theorem ofold_cut (W : Nat → Int32) : ∀ k x pre s, s.1 ≤ sdR W pre → ofold W k x pre s = s := by
  intro k
  induction k with
  | zero =>
    intro x pre s h
    show oup W s pre = s
    unfold oup
    rw [if_neg (by rw [ti_le] at h; rw [ti_lt]; omega)]
  | succ k ih =>
    intro x pre s h
    show (DS x).foldl _ s = s
    have : ∀ l : List Nat, l.foldl (fun s d => ofold W k (rmv x d) (pre ++ [d]) s) s = s := by
      intro l
      induction l with
      | nil => rfl
      | cons d t it =>
        rw [List.foldl_cons, ih _ _ _ (Int32.le_trans h (sdR_mono _ _ _))]
        exact it
    exact this _
/-- the first row is always taken -/
theorem ofold_any (W : Nat → Int32) : ∀ k x pre s s', (DS x).length = k → (∀ r, (∀ e, e ∈ r → e ∈ pre ∨ e ∈ DS x) → sdR W r < s.1 ∧ sdR W r < s'.1) → ofold W k x pre s = ofold W k x pre s' := by
  intro k
  induction k with
  | zero =>
    intro x pre s s' _ h
    obtain ⟨h1, h2⟩ := h pre (fun e he => Or.inl he)
    show oup W s pre = oup W s' pre
    unfold oup
    rw [if_pos h1, if_pos h2]
  | succ k ih =>
    intro x pre s s' hl h
    show (DS x).foldl _ s = (DS x).foldl _ s'
    have hm : ∀ e, e ∈ DS x → e < 12 := fun e he => (DS_mem.mp he).1
    have hr : ∀ e, e ∈ DS x → (DS (rmv x e)).length + 1 = (DS x).length := fun e he => DS_rmv he
    cases hD : DS x with
    | nil => rw [hD] at hl; cases hl
    | cons d t =>
      have hd : d ∈ DS x := by rw [hD]; exact List.mem_cons_self
      rw [List.foldl_cons, List.foldl_cons]
      congr 1
      refine ih _ _ _ _ (by have := hr d hd; omega) (fun r he => h r (fun e q => ?_))
      rcases he e q with w | w
      · rw [List.mem_append, List.mem_singleton] at w
        rcases w with w | w
        · exact Or.inl w
        · exact Or.inr (by rw [w]; exact hd)
      · exact Or.inr (DS_sub (hm d hd) w)
/-- the best row is as long as all, once one is taken -/
theorem ofold_len (W : Nat → Int32) : ∀ k x pre s, (DS x).length = k → (s.2.length = pre.length + k ∨ ∀ r, (∀ e, e ∈ r → e ∈ pre ∨ e ∈ DS x) → sdR W r < s.1) → (ofold W k x pre s).2.length = pre.length + k := by
  intro k
  induction k with
  | zero =>
    intro x pre s _ h
    show (oup W s pre).2.length = _
    unfold oup
    rcases h with h | h
    · split
      · rfl
      · exact h
    · rw [if_pos (h pre (fun e he => Or.inl he))]
      rfl
  | succ k ih =>
    intro x pre s hl h
    show ((DS x).foldl _ s).2.length = _
    have hm : ∀ e, e ∈ DS x → e < 12 := fun e he => (DS_mem.mp he).1
    have hr : ∀ e, e ∈ DS x → (DS (rmv x e)).length + 1 = (DS x).length := fun e he => DS_rmv he
    have key : ∀ l : List Nat, (∀ e, e ∈ l → e ∈ DS x) → ∀ s : Int32 × List Nat, s.2.length = pre.length + (k + 1) → (l.foldl (fun s d => ofold W k (rmv x d) (pre ++ [d]) s) s).2.length = pre.length + (k + 1) := by
      intro l
      induction l with
      | nil => intro _ s hs; exact hs
      | cons d t it =>
        intro ht s hs
        rw [List.foldl_cons]
        refine it (fun e he => ht e (List.mem_cons_of_mem _ he)) _ ?_
        have := ih (rmv x d) (pre ++ [d]) s (by have := hr d (ht d List.mem_cons_self); omega) (Or.inl (by rw [List.length_append, List.length_singleton]; omega))
        rw [this, List.length_append, List.length_singleton]; omega
    rcases h with h | h
    · exact key _ (fun e he => he) s h
    · cases hD : DS x with
      | nil => rw [hD] at hl; cases hl
      | cons d t =>
        have hd : d ∈ DS x := by rw [hD]; exact List.mem_cons_self
        rw [List.foldl_cons]
        refine key t (fun e he => by rw [hD]; exact List.mem_cons_of_mem _ he) _ ?_
        have := ih (rmv x d) (pre ++ [d]) s (by have := hr d hd; omega) (Or.inr (fun r he => h r (fun e q => by
          rcases he e q with w | w
          · rw [List.mem_append, List.mem_singleton] at w
            rcases w with w | w
            · exact Or.inl w
            · exact Or.inr (by rw [w]; exact hd)
          · exact Or.inr (DS_sub (hm d hd) w))))
        rw [this, List.length_append, List.length_singleton]; omega
/-! the same by numbers -/
def fkt : Nat → Nat
  | 0 => 1
  | k + 1 => (k + 1) * fkt k
def nthR : Nat → Int32 → Nat → List Nat
  | 0, _, _ => []
  | k + 1, x, num => (DS x).getD (num / fkt k) 0 :: nthR k (rmv x ((DS x).getD (num / fkt k) 0)) (num % fkt k)
theorem fkt_pos : ∀ k, 0 < fkt k := by
  intro k
  induction k with
  | zero => decide
  | succ k ih => exact Nat.mul_pos (by omega) ih
theorem lp_add {σ : Type} (f : Nat → σ → σ) : ∀ (a b i : Nat) (s : σ), lp f i (a + b) s = lp f (i + a) b (lp f i a s) := by
  intro a
  induction a with
  | zero => intro b i s; rw [Nat.zero_add]; rfl
  | succ a ih =>
    intro b i s
    rw [show a + 1 + b = (a + b) + 1 by omega]
    show lp f (i + 1) (a + b) (f i s) = lp f (i + (a + 1)) b (lp f (i + 1) a (f i s))
    rw [ih, show i + 1 + a = i + (a + 1) by omega]
theorem lp_shift {σ : Type} (f : Nat → σ → σ) : ∀ (k i c : Nat) (s : σ), lp f (i + c) k s = lp (fun j s => f (j + c) s) i k s := by
  intro k
  induction k with
  | zero => intro i c s; rfl
  | succ k ih =>
    intro i c s
    show lp f (i + c + 1) k (f (i + c) s) = lp (fun j s => f (j + c) s) (i + 1) k (f (i + c) s)
    rw [show i + c + 1 = i + 1 + c by omega, ih]
theorem lp_mul {σ : Type} (f : Nat → σ → σ) (m : Nat) : ∀ (k : Nat) (s : σ), lp f 0 (k * m) s = lp (fun i s => lp (fun j s => f (j + i * m) s) 0 m s) 0 k s := by
  intro k
  induction k with
  | zero => intro s; rw [Nat.zero_mul]; rfl
  | succ k ih =>
    intro s
    rw [Nat.succ_mul, lp_add, ih, lp_last, Nat.zero_add, Nat.zero_add]
    have := lp_shift f m 0 (k * m) (lp (fun i s => lp (fun j s => f (j + i * m) s) 0 m s) 0 k s)
    rw [Nat.zero_add] at this
    exact this
theorem lp_list {σ : Type} (g : Nat → σ → σ) : ∀ (l : List Nat) (f : Nat → σ → σ) (s : σ), (∀ i s, i < l.length → f i s = g (l.getD i 0) s) → lp f 0 l.length s = l.foldl (fun s d => g d s) s := by
  intro l
  induction l with
  | nil => intro f s _; rfl
  | cons d t ih =>
    intro f s h
    rw [List.length_cons, List.foldl_cons]
    show lp f 1 t.length (f 0 s) = _
    rw [h 0 s (by rw [List.length_cons]; omega)]
    have := lp_shift f t.length 0 1 (g ((d :: t).getD 0 0) s)
    rw [Nat.zero_add] at this
    rw [this]
    refine ih _ _ (fun i s hi => ?_)
    rw [h (i + 1) s (by rw [List.length_cons]; omega)]
    rfl
theorem getD_mem {l : List Nat} {i : Nat} (h : i < l.length) : l.getD i 0 ∈ l := by
  rw [List.getD_eq_getElem?_getD, List.getElem?_eq_getElem h]
  exact List.getElem_mem h
/-- all numbers, one after the other: all rows in their order -/
theorem ofold_num (W : Nat → Int32) : ∀ k x pre s, (DS x).length = k → lp (fun num s => oup W s (pre ++ nthR k x num)) 0 (fkt k) s = ofold W k x pre s := by
  intro k
  induction k with
  | zero =>
    intro x pre s _
    show oup W s (pre ++ []) = oup W s pre
    rw [List.append_nil]
  | succ k ih =>
    intro x pre s hl
    show lp _ 0 ((k + 1) * fkt k) s = (DS x).foldl _ s
    rw [lp_mul]
    have := lp_list (fun d s => ofold W k (rmv x d) (pre ++ [d]) s) (DS x) (fun i s => lp (fun j s => oup W s (pre ++ nthR (k + 1) x (j + i * fkt k))) 0 (fkt k) s) s (fun i s hi => ?_)
    · rw [hl] at this; exact this
    · have hm := getD_mem hi
      have := DS_rmv hm
      rw [← ih (rmv x ((DS x).getD i 0)) (pre ++ [(DS x).getD i 0]) s (by omega)]
      refine lp_congr _ _ _ (fun j s h1 h2 => ?_)
      have hf := fkt_pos k
      have e1 : (j + i * fkt k) / fkt k = i := by rw [Nat.add_mul_div_right _ _ hf, Nat.div_eq_of_lt (by omega), Nat.zero_add]
      have e2 : (j + i * fkt k) % fkt k = j := by rw [Nat.add_mul_mod_self_right, Nat.mod_eq_of_lt (by omega)]
      show oup W s (pre ++ ((DS x).getD ((j + i * fkt k) / fkt k) 0 :: nthR k (rmv x ((DS x).getD ((j + i * fkt k) / fkt k) 0)) ((j + i * fkt k) % fkt k))) = _
      rw [e1, e2, List.append_assoc]
      rfl
end
