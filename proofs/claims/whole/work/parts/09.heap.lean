section
variable {g : gX} {μ : mX} {d pc : Nat} {tt : tX} {R : rX} {ls ls' : List (Option Value)} {st : List Value} {S : hS} {t : Nat} {I : Nat → Nat → Int32} {J : Nat → Nat → Int64} {P : Nat → Nat → Option Nat}
/-- an object of class c at a; an array of kind k and length n at a -/
def OB (t a c : Nat) : Prop := 1 ≤ a ∧ a < t ∧ LT a = (c, cN c) ∧ c < 12
def AR (t a k n : Nat) : Prop := 1 ≤ a ∧ a < t ∧ LT a = (k, n)
/-- a field's link: class of the code, its number there, class, place; ints, and references -/
def FLI (own : String) (idx c k : Nat) : Prop := CF c ∧ k < cN c ∧ Cond.fieldLink own idx (cT c k).1 (cT c k).2.1 (cT c k).2.2.1 ∈ gW ∧ isR c k = false
def FLR (own : String) (idx c k : Nat) : Prop := CF c ∧ k < cN c ∧ Cond.fieldLink own idx (cT c k).1 (cT c k).2.1 (cT c k).2.2.1 ∈ gW ∧ isR c k = true ∧ ∀ q, narrow (fT c k) (.ref q) = .ref q ∧ fits (fT c k) (.ref q) = true
theorem ce_ob {g : gX} {S : hS} {a c : Nat} (h : OB S.1 a c) : ce g S a = .inr (c, (List.range (cN c)).map (fv g S a)) := by
  unfold ce
  rw [h.2.2.1, if_pos h.2.2.2]
theorem fv_I {g : gX} {S : hS} {t a c k : Nat} (h : OB t a c) (hr : isR c k = false) : fv g S a k = .int (S.2.1 a k) := by
  unfold fv
  rw [h.2.2.1, hr]
  rfl
theorem fv_R {g : gX} {S : hS} {t a c k : Nat} (h : OB t a c) (hr : isR c k = true) : fv g S a k = va_rf ((S.2.2.2 a k).map (ad g)) := by
  unfold fv
  rw [h.2.2.1, hr]
  rfl
theorem fs_get {f : Nat → Value} {N k : Nat} (h : k < N) : ((List.range N).map f)[k]? = some (f k) := by
  rw [List.getElem?_map, List.getElem?_range h]
  rfl
theorem fs_set {f f' : Nat → Value} {N k : Nat} {v : Value} (hk : f' k = v) (hn : ∀ j, j ≠ k → f' j = f j) : ((List.range N).map f).set k v = (List.range N).map f' := by
  apply List.ext_getElem?
  intro j
  by_cases hj : j = k
  · subst hj
    by_cases hl : j < N
    · rw [List.getElem?_set_self (by simpa using hl), fs_get hl, hk]
    · rw [List.getElem?_eq_none (by simp; omega), List.getElem?_eq_none (by simp; omega)]
  · rw [List.getElem?_set_ne (Ne.symm hj)]
    by_cases hl : j < N
    · rw [fs_get hl, fs_get hl, hn j hj]
    · rw [List.getElem?_eq_none (by simp; omega), List.getElem?_eq_none (by simp; omega)]
theorem M_getI {idx c k a : Nat} (hd : decode μ.2.1 pc = .ok (.getfield idx, 3)) (hf : FLI μ.1.cls idx c k) (ho : OB t a c) (kk : M g μ d tt R (pc + 3) ls (.int (I a k) :: st) (t, I, J, P)) : M g μ d tt R pc ls (.ref a :: st) (t, I, J, P) := by
  intro p e s m args below meth c0 A F H locs la h1 h2 h3 h4 h5
  obtain ⟨q0, hq⟩ := wl_get (g := g) (S := (t, I, J, P)) ho.1 ho.2.1
  rw [ce_ob ho] at hq
  have ha : ad g a = gB g + a := ad_cell ho.1 (Nat.lt_of_lt_of_le ho.2.1 h1.2.2.2)
  have k9 := kk p e s m args below meth c0 A F H locs la h1 h2 h3 h4 h5
  rw [show (Value.int (I a k)) = fv g (t, I, J, P) a k from (fv_I (S := (t, I, J, P)) ho hf.2.2.2).symm] at k9
  show W _ _ _ _ _ _ _ _ _ _ _ _ _ _ _ (F0 m pc la (.ref (ad g a) :: st.map (sv g)))
  rw [ha]
  refine va_get F.1 F.2.1 F.2.2.2.2.2.1 hf.1.2.1 F.2.2.2.2.1 F.2.2.2.2.2.2.2.2.2.1.1 h1.1 q0 hq hf.1.1 k hf.2.1 (F.2.2.2.2.2.1 _ hf.2.2.1) (fun _ h => h) (fs_get hf.2.1) hd ?_
  have e9 : sv g (fv g (t, I, J, P) a k) = fv g (t, I, J, P) a k := by rw [fv_I ho hf.2.2.2]; rfl
  rw [List.map_cons, e9] at k9
  exact k9
theorem M_getR {idx c k a b : Nat} (hd : decode μ.2.1 pc = .ok (.getfield idx, 3)) (hf : FLR μ.1.cls idx c k) (ho : OB t a c) (hp : P a k = some b) (kk : M g μ d tt R (pc + 3) ls (.ref b :: st) (t, I, J, P)) : M g μ d tt R pc ls (.ref a :: st) (t, I, J, P) := by
  intro p e s m args below meth c0 A F H locs la h1 h2 h3 h4 h5
  obtain ⟨q0, hq⟩ := wl_get (g := g) (S := (t, I, J, P)) ho.1 ho.2.1
  rw [ce_ob ho] at hq
  have ha : ad g a = gB g + a := ad_cell ho.1 (Nat.lt_of_lt_of_le ho.2.1 h1.2.2.2)
  have k9 := kk p e s m args below meth c0 A F H locs la h1 h2 h3 h4 h5
  have e9 : fv g (t, I, J, P) a k = .ref (ad g b) := by
    rw [fv_R ho hf.2.2.2.1]
    show va_rf ((P a k).map (ad g)) = _
    rw [hp]
    rfl
  show W _ _ _ _ _ _ _ _ _ _ _ _ _ _ _ (F0 m pc la (.ref (ad g a) :: st.map (sv g)))
  rw [ha]
  refine va_get (v := .ref (ad g b)) F.1 F.2.1 F.2.2.2.2.2.1 hf.1.2.1 F.2.2.2.2.1 F.2.2.2.2.2.2.2.2.2.1.1 h1.1 q0 hq hf.1.1 k hf.2.1 (F.2.2.2.2.2.1 _ hf.2.2.1) (fun _ h => h) (by rw [← e9]; exact fs_get hf.2.1) hd ?_
  exact k9
theorem ce_upI {g : gX} {t a c k : Nat} {I : Nat → Nat → Int32} {J : Nat → Nat → Int64} {P : Nat → Nat → Option Nat} {x : Int32} (ho : OB t a c) (hr : isR c k = false) :
    ce g (t, up2 I a k x, J, P) a = .inr (c, ((List.range (cN c)).map (fv g (t, I, J, P) a)).set k (.int x)) := by
  rw [ce_ob (S := (t, up2 I a k x, J, P)) ho, fs_set (f' := fv g (t, up2 I a k x, J, P) a)]
  · rw [fv_I ho hr]
    show Value.int (up2 I a k x a k) = _
    rw [up2_get, if_pos ⟨rfl, rfl⟩]
  · intro j hj
    show fv g (t, up2 I a k x, J, P) a j = fv g (t, I, J, P) a j
    unfold fv
    have e3 : up2 I a k x a j = I a j := by rw [up2_get, if_neg (fun q => hj q.2)]
    show (if isR (LT a).1 j then va_rf ((P a j).map (ad g)) else Value.int (up2 I a k x a j)) = _
    rw [e3]
theorem ce_neI {g : gX} {t a b k : Nat} {I : Nat → Nat → Int32} {J : Nat → Nat → Int64} {P : Nat → Nat → Option Nat} {x : Int32} (h : b ≠ a) : ce g (t, up2 I a k x, J, P) b = ce g (t, I, J, P) b := by
  have e1 : up2 I a k x b = I b := up2_ne I k x h
  have e2 : fv g (t, up2 I a k x, J, P) b = fv g (t, I, J, P) b := by
    funext j
    unfold fv
    show (if isR (LT b).1 j then va_rf ((P b j).map (ad g)) else Value.int (up2 I a k x b j)) = _
    rw [e1]
  unfold ce
  rw [e2, show ((t, up2 I a k x, J, P) : hS).2.1 b = ((t, I, J, P) : hS).2.1 b from e1]
theorem M_putI {idx c k a : Nat} {x : Int32} (hd : decode μ.2.1 pc = .ok (.putfield idx, 3)) (hf : FLI μ.1.cls idx c k) (ho : OB t a c) (hfin : (cT c k).2.2.2 = false) (hx : narrow (fT c k) (.int x) = .int x ∧ fits (fT c k) (.int x) = true) (kk : M g μ d tt R (pc + 3) ls st (t, up2 I a k x, J, P)) : M g μ d tt R pc ls (.int x :: .ref a :: st) (t, I, J, P) := by
  intro p e s m args below meth c0 A F H locs la h1 h2 h3 h4 h5
  obtain ⟨q0, hq⟩ := wl_get (g := g) (S := (t, I, J, P)) ho.1 ho.2.1
  have hq' := hq
  rw [ce_ob ho] at hq
  have ha : ad g a = gB g + a := ad_cell ho.1 (Nat.lt_of_lt_of_le ho.2.1 h1.2.2.2)
  show W _ _ _ _ _ _ _ _ _ _ _ _ _ _ _ (F0 m pc la (.int x :: .ref (ad g a) :: st.map (sv g)))
  rw [ha]
  refine va_put F.1 F.2.1 F.2.2.2.2.2.1 hf.1.2.1 (fT c) hf.1.2.2.1 hf.1.2.2.2.1 F.2.2.2.2.1 F.2.2.2.2.2.2.2.2.2.1.1 h1.1 (wl_D h1.2.1) h2 q0 hq hf.1.1 k hf.2.1 (F.2.2.2.2.2.1 _ hf.2.2.1) (fun _ h => h) hfin (hf.1.2.2.1 k hf.2.1) hx.1 hx.2 (by simpa using hf.2.1) hd (fun H1 locs1 hP1 _ hS1 => ?_)
  rw [wl_set (S' := (t, up2 I a k x, J, P)) h1.2.1 rfl ho.1 ho.2.1 hq' (ce_upI ho hf.2.2.2) (fun b hb => ce_neI hb)] at hP1
  exact kk p e s m args below meth c0 A F H1 locs1 la ⟨hP1, h1.2.1, h1.2.2⟩ hS1 h3 h4 h5
end
