section
variable {g : gX} {μ : mX} {d pc : Nat} {tt : tX} {R : rX} {ls ls' : List (Option Value)} {st : List Value} {S : hS} {t : Nat} {I : Nat → Nat → Int32} {J : Nat → Nat → Int64} {P : Nat → Nat → Option Nat}
theorem ce_upR {g : gX} {t a c k b : Nat} {I : Nat → Nat → Int32} {J : Nat → Nat → Int64} {P : Nat → Nat → Option Nat} (ho : OB t a c) (hr : isR c k = true) :
    ce g (t, I, J, up2 P a k (some b)) a = .inr (c, ((List.range (cN c)).map (fv g (t, I, J, P) a)).set k (.ref (ad g b))) := by
  rw [ce_ob (S := (t, I, J, up2 P a k (some b))) ho, fs_set (f' := fv g (t, I, J, up2 P a k (some b)) a)]
  · rw [fv_R ho hr]
    show va_rf ((up2 P a k (some b) a k).map (ad g)) = _
    rw [up2_get, if_pos ⟨rfl, rfl⟩]
    rfl
  · intro j hj
    show fv g (t, I, J, up2 P a k (some b)) a j = fv g (t, I, J, P) a j
    unfold fv
    have e3 : up2 P a k (some b) a j = P a j := by rw [up2_get, if_neg (fun q => hj q.2)]
    show (if isR (LT a).1 j then va_rf ((up2 P a k (some b) a j).map (ad g)) else Value.int (I a j)) = _
    rw [e3]
theorem ce_neR {g : gX} {t a b k : Nat} {I : Nat → Nat → Int32} {J : Nat → Nat → Int64} {P : Nat → Nat → Option Nat} {x : Option Nat} (h : b ≠ a) : ce g (t, I, J, up2 P a k x) b = ce g (t, I, J, P) b := by
  have e1 : up2 P a k x b = P b := up2_ne P k x h
  have e2 : fv g (t, I, J, up2 P a k x) b = fv g (t, I, J, P) b := by
    funext j
    unfold fv
    show (if isR (LT b).1 j then va_rf ((up2 P a k x b j).map (ad g)) else Value.int (I b j)) = _
    rw [e1]
  unfold ce
  rw [e2, show (fun i => ((((t, I, J, up2 P a k x) : hS).2.2.2 b i)).map (ad g)) = (fun i => ((((t, I, J, P) : hS).2.2.2 b i)).map (ad g)) from by funext i; show ((up2 P a k x b i)).map (ad g) = _; rw [e1]]
theorem ce_neJ {g : gX} {t a b k : Nat} {I : Nat → Nat → Int32} {J : Nat → Nat → Int64} {P : Nat → Nat → Option Nat} {x : Int64} (h : b ≠ a) : ce g (t, I, up2 J a k x, P) b = ce g (t, I, J, P) b := by
  have e1 : up2 J a k x b = J b := up2_ne J k x h
  have e2 : fv g (t, I, up2 J a k x, P) b = fv g (t, I, J, P) b := rfl
  unfold ce
  rw [e2, show ((t, I, up2 J a k x, P) : hS).2.2.1 b = ((t, I, J, P) : hS).2.2.1 b from e1]
theorem ce_A {g : gX} {S : hS} {a k n : Nat} (h : AR S.1 a k n) (h1 : 12 ≤ k) (h2 : k < 14) : ce g S a = .inl (gy g k, n, .inl (S.2.1 a)) := by
  unfold ce
  rw [h.2.2, if_neg (by show ¬ k < 12; omega), if_pos h2]
theorem ce_AJ {g : gX} {S : hS} {a n : Nat} (h : AR S.1 a 14 n) : ce g S a = .inl (gy g 14, n, .inr (.inl (S.2.2.1 a))) := by
  unfold ce
  rw [h.2.2, if_neg (by show ¬ 14 < 12; decide), if_neg (by show ¬ 14 < 14; decide), if_pos (by show 14 < 15; decide)]
theorem ce_AP {g : gX} {S : hS} {a k n : Nat} (h : AR S.1 a k n) (h1 : 15 ≤ k) : ce g S a = .inl (gy g k, n, .inr (.inr (.inr (.inr (fun i => (S.2.2.2 a i).map (ad g)))))) := by
  unfold ce
  rw [h.2.2, if_neg (by show ¬ k < 12; omega), if_neg (by show ¬ k < 14; omega), if_neg (by show ¬ k < 15; omega)]
theorem M_putIF {idx c k a : Nat} {x : Int32} (hd : decode μ.2.1 pc = .ok (.putfield idx, 3)) (hf : FLI μ.1.cls idx c k) (ho : OB t a c) (hfin : (cT c k).2.2.2 = true) (hin : μ.1.name = "<init>") (hdc : (cT c k).1 = μ.1.cls) (hx : narrow (fT c k) (.int x) = .int x ∧ fits (fT c k) (.int x) = true) (kk : M g μ d tt R (pc + 3) ls st (t, up2 I a k x, J, P)) : M g μ d tt R pc ls (.int x :: .ref a :: st) (t, I, J, P) := by
  intro p e s m args below meth c0 A F H locs la h1 h2 h3 h4 h5
  obtain ⟨q0, hq⟩ := wl_get (g := g) (S := (t, I, J, P)) ho.1 ho.2.1
  have hq' := hq
  rw [ce_ob ho] at hq
  have ha : ad g a = gB g + a := ad_cell ho.1 (Nat.lt_of_lt_of_le ho.2.1 h1.2.2.2)
  show W _ _ _ _ _ _ _ _ _ _ _ _ _ _ _ (F0 m pc la (.int x :: .ref (ad g a) :: st.map (sv g)))
  rw [ha]
  refine va_putF F.1 F.2.1 F.2.2.2.2.2.1 hf.1.2.1 (fT c) hf.1.2.2.1 hf.1.2.2.2.1 F.2.2.2.2.1 F.2.2.2.2.2.2.2.2.2.1.1 h1.1 (wl_D h1.2.1) h2 q0 hq hf.1.1 k hf.2.1 (F.2.2.2.2.2.1 _ hf.2.2.1) (fun _ h => h) hfin (F.2.2.2.2.2.2.2.1.trans hin) hdc (hf.1.2.2.1 k hf.2.1) hx.1 hx.2 (by simpa using hf.2.1) hd (fun H1 locs1 hP1 _ hS1 => ?_)
  rw [wl_set (S' := (t, up2 I a k x, J, P)) h1.2.1 rfl ho.1 ho.2.1 hq' (ce_upI ho hf.2.2.2) (fun b hb => ce_neI hb)] at hP1
  exact kk p e s m args below meth c0 A F H1 locs1 la ⟨hP1, h1.2.1, h1.2.2⟩ hS1 h3 h4 h5
theorem M_putR {idx c k a : Nat} {b : Nat} (hd : decode μ.2.1 pc = .ok (.putfield idx, 3)) (hf : FLR μ.1.cls idx c k) (ho : OB t a c) (hfin : (cT c k).2.2.2 = false) (kk : M g μ d tt R (pc + 3) ls st (t, I, J, up2 P a k (some b))) : M g μ d tt R pc ls (.ref b :: .ref a :: st) (t, I, J, P) := by
  intro p e s m args below meth c0 A F H locs la h1 h2 h3 h4 h5
  obtain ⟨q0, hq⟩ := wl_get (g := g) (S := (t, I, J, P)) ho.1 ho.2.1
  have hq' := hq
  rw [ce_ob ho] at hq
  have ha : ad g a = gB g + a := ad_cell ho.1 (Nat.lt_of_lt_of_le ho.2.1 h1.2.2.2)
  show W _ _ _ _ _ _ _ _ _ _ _ _ _ _ _ (F0 m pc la (.ref (ad g b) :: .ref (ad g a) :: st.map (sv g)))
  rw [ha]
  refine va_put F.1 F.2.1 F.2.2.2.2.2.1 hf.1.2.1 (fT c) hf.1.2.2.1 hf.1.2.2.2.1 F.2.2.2.2.1 F.2.2.2.2.2.2.2.2.2.1.1 h1.1 (wl_D h1.2.1) h2 q0 hq hf.1.1 k hf.2.1 (F.2.2.2.2.2.1 _ hf.2.2.1) (fun _ h => h) hfin (hf.1.2.2.1 k hf.2.1) (hf.2.2.2.2 _).1 (hf.2.2.2.2 _).2 (by simpa using hf.2.1) hd (fun H1 locs1 hP1 _ hS1 => ?_)
  rw [wl_set (S' := (t, I, J, up2 P a k (some b))) h1.2.1 rfl ho.1 ho.2.1 hq' (ce_upR ho hf.2.2.2.1) (fun b hb => ce_neR hb)] at hP1
  exact kk p e s m args below meth c0 A F H1 locs1 la ⟨hP1, h1.2.1, h1.2.2⟩ hS1 h3 h4 h5
theorem M_putRF {idx c k a : Nat} {b : Nat} (hd : decode μ.2.1 pc = .ok (.putfield idx, 3)) (hf : FLR μ.1.cls idx c k) (ho : OB t a c) (hfin : (cT c k).2.2.2 = true) (hin : μ.1.name = "<init>") (hdc : (cT c k).1 = μ.1.cls) (kk : M g μ d tt R (pc + 3) ls st (t, I, J, up2 P a k (some b))) : M g μ d tt R pc ls (.ref b :: .ref a :: st) (t, I, J, P) := by
  intro p e s m args below meth c0 A F H locs la h1 h2 h3 h4 h5
  obtain ⟨q0, hq⟩ := wl_get (g := g) (S := (t, I, J, P)) ho.1 ho.2.1
  have hq' := hq
  rw [ce_ob ho] at hq
  have ha : ad g a = gB g + a := ad_cell ho.1 (Nat.lt_of_lt_of_le ho.2.1 h1.2.2.2)
  show W _ _ _ _ _ _ _ _ _ _ _ _ _ _ _ (F0 m pc la (.ref (ad g b) :: .ref (ad g a) :: st.map (sv g)))
  rw [ha]
  refine va_putF F.1 F.2.1 F.2.2.2.2.2.1 hf.1.2.1 (fT c) hf.1.2.2.1 hf.1.2.2.2.1 F.2.2.2.2.1 F.2.2.2.2.2.2.2.2.2.1.1 h1.1 (wl_D h1.2.1) h2 q0 hq hf.1.1 k hf.2.1 (F.2.2.2.2.2.1 _ hf.2.2.1) (fun _ h => h) hfin (F.2.2.2.2.2.2.2.1.trans hin) hdc (hf.1.2.2.1 k hf.2.1) (hf.2.2.2.2 _).1 (hf.2.2.2.2 _).2 (by simpa using hf.2.1) hd (fun H1 locs1 hP1 _ hS1 => ?_)
  rw [wl_set (S' := (t, I, J, up2 P a k (some b))) h1.2.1 rfl ho.1 ho.2.1 hq' (ce_upR ho hf.2.2.2.1) (fun b hb => ce_neR hb)] at hP1
  exact kk p e s m args below meth c0 A F H1 locs1 la ⟨hP1, h1.2.1, h1.2.2⟩ hS1 h3 h4 h5
theorem M_iald {a n : Nat} {i : Int32} (hd : decode μ.2.1 pc = .ok (.iaload, 1)) (ho : AR t a 13 n) (hi : vp_in i n) (kk : M g μ d tt R (pc + 1) ls (.int (I a i.toNatClampNeg) :: st) (t, I, J, P)) : M g μ d tt R pc ls (.int i :: .ref a :: st) (t, I, J, P) := by
  intro p e s m args below meth c0 A F H locs la h1 h2 h3 h4 h5
  obtain ⟨q0, hq⟩ := wl_get (g := g) (S := (t, I, J, P)) ho.1 ho.2.1
  have hq' := hq
  rw [ce_A ho (by decide) (by decide)] at hq
  have ha : ad g a = gB g + a := ad_cell ho.1 (Nat.lt_of_lt_of_le ho.2.1 h1.2.2.2)
  show W _ _ _ _ _ _ _ _ _ _ _ _ _ _ _ (F0 m pc la (.int i :: .ref (ad g a) :: st.map (sv g)))
  rw [ha]
  exact va_iald F.1 F.2.1 F.2.2.2.2.2.2.2.2.2.1.1 h1.1 q0 1 hq rfl hi hd (kk p e s m args below meth c0 A F H locs la h1 h2 h3 h4 h5)
theorem M_bald {a n : Nat} {i : Int32} (hd : decode μ.2.1 pc = .ok (.baload, 1)) (ho : AR t a 12 n) (hi : vp_in i n) (kk : M g μ d tt R (pc + 1) ls (.int (I a i.toNatClampNeg) :: st) (t, I, J, P)) : M g μ d tt R pc ls (.int i :: .ref a :: st) (t, I, J, P) := by
  intro p e s m args below meth c0 A F H locs la h1 h2 h3 h4 h5
  obtain ⟨q0, hq⟩ := wl_get (g := g) (S := (t, I, J, P)) ho.1 ho.2.1
  have hq' := hq
  rw [ce_A ho (by decide) (by decide)] at hq
  have ha : ad g a = gB g + a := ad_cell ho.1 (Nat.lt_of_lt_of_le ho.2.1 h1.2.2.2)
  show W _ _ _ _ _ _ _ _ _ _ _ _ _ _ _ (F0 m pc la (.int i :: .ref (ad g a) :: st.map (sv g)))
  rw [ha]
  exact va_bald F.1 F.2.1 F.2.2.2.2.2.2.2.2.2.1.1 h1.1 q0 0 hq rfl hi hd (kk p e s m args below meth c0 A F H locs la h1 h2 h3 h4 h5)
theorem M_lald {a n : Nat} {i : Int32} (hd : decode μ.2.1 pc = .ok (.laload, 1)) (ho : AR t a 14 n) (hi : vp_in i n) (kk : M g μ d tt R (pc + 1) ls (.long (J a i.toNatClampNeg) :: st) (t, I, J, P)) : M g μ d tt R pc ls (.int i :: .ref a :: st) (t, I, J, P) := by
  intro p e s m args below meth c0 A F H locs la h1 h2 h3 h4 h5
  obtain ⟨q0, hq⟩ := wl_get (g := g) (S := (t, I, J, P)) ho.1 ho.2.1
  have hq' := hq
  rw [ce_AJ ho] at hq
  have ha : ad g a = gB g + a := ad_cell ho.1 (Nat.lt_of_lt_of_le ho.2.1 h1.2.2.2)
  show W _ _ _ _ _ _ _ _ _ _ _ _ _ _ _ (F0 m pc la (.int i :: .ref (ad g a) :: st.map (sv g)))
  rw [ha]
  exact va_lald F.1 F.2.1 F.2.2.2.2.2.2.2.2.2.1.1 h1.1 q0 2 hq rfl hi hd (kk p e s m args below meth c0 A F H locs la h1 h2 h3 h4 h5)
theorem M_aaldL {a b n : Nat} {i : Int32} (hd : decode μ.2.1 pc = .ok (.aaload, 1)) (ho : AR t a 15 n) (hi : vp_in i n) (hp : P a i.toNatClampNeg = some b) (kk : M g μ d tt R (pc + 1) ls (.ref b :: st) (t, I, J, P)) : M g μ d tt R pc ls (.int i :: .ref a :: st) (t, I, J, P) := by
  intro p e s m args below meth c0 A F H locs la h1 h2 h3 h4 h5
  obtain ⟨q0, hq⟩ := wl_get (g := g) (S := (t, I, J, P)) ho.1 ho.2.1
  have hq' := hq
  rw [ce_AP ho (by decide)] at hq
  have ha : ad g a = gB g + a := ad_cell ho.1 (Nat.lt_of_lt_of_le ho.2.1 h1.2.2.2)
  show W _ _ _ _ _ _ _ _ _ _ _ _ _ _ _ (F0 m pc la (.int i :: .ref (ad g a) :: st.map (sv g)))
  rw [ha]
  refine va_aldq F.1 F.2.1 F.2.2.2.2.2.2.2.2.2.1.1 h1.1 q0 3 hq rfl hi hd ?_
  show W _ _ _ _ _ _ _ _ _ _ _ _ _ _ _ (F0 m (pc + 1) la (va_rf ((P a i.toNatClampNeg).map (ad g)) :: st.map (sv g)))
  rw [hp]
  exact kk p e s m args below meth c0 A F H locs la h1 h2 h3 h4 h5
theorem M_aaldG {a b n : Nat} {i : Int32} (hd : decode μ.2.1 pc = .ok (.aaload, 1)) (ho : AR t a 16 n) (hi : vp_in i n) (hp : P a i.toNatClampNeg = some b) (kk : M g μ d tt R (pc + 1) ls (.ref b :: st) (t, I, J, P)) : M g μ d tt R pc ls (.int i :: .ref a :: st) (t, I, J, P) := by
  intro p e s m args below meth c0 A F H locs la h1 h2 h3 h4 h5
  obtain ⟨q0, hq⟩ := wl_get (g := g) (S := (t, I, J, P)) ho.1 ho.2.1
  have hq' := hq
  rw [ce_AP ho (by decide)] at hq
  have ha : ad g a = gB g + a := ad_cell ho.1 (Nat.lt_of_lt_of_le ho.2.1 h1.2.2.2)
  show W _ _ _ _ _ _ _ _ _ _ _ _ _ _ _ (F0 m pc la (.int i :: .ref (ad g a) :: st.map (sv g)))
  rw [ha]
  refine va_aldq F.1 F.2.1 F.2.2.2.2.2.2.2.2.2.1.1 h1.1 q0 4 hq rfl hi hd ?_
  show W _ _ _ _ _ _ _ _ _ _ _ _ _ _ _ (F0 m (pc + 1) la (va_rf ((P a i.toNatClampNeg).map (ad g)) :: st.map (sv g)))
  rw [hp]
  exact kk p e s m args below meth c0 A F H locs la h1 h2 h3 h4 h5
theorem up2_upd (I : Nat → Nat → Int32) (a k : Nat) (x : Int32) : up2 I a k x a = upd (I a) k x := up2_self I a k x
theorem up2_updL (J : Nat → Nat → Int64) (a k : Nat) (x : Int64) : up2 J a k x a = vp_updL (J a) k x := up2_self J a k x
theorem M_iast {a n : Nat} {i x : Int32} (hd : decode μ.2.1 pc = .ok (.iastore, 1)) (ho : AR t a 13 n) (hi : vp_in i n) (kk : M g μ d tt R (pc + 1) ls st (t, up2 I a i.toNatClampNeg x, J, P)) : M g μ d tt R pc ls (.int x :: .int i :: .ref a :: st) (t, I, J, P) := by
  intro p e s m args below meth c0 A F H locs la h1 h2 h3 h4 h5
  obtain ⟨q0, hq⟩ := wl_get (g := g) (S := (t, I, J, P)) ho.1 ho.2.1
  have hq' := hq
  rw [ce_A ho (by decide) (by decide)] at hq
  have ha : ad g a = gB g + a := ad_cell ho.1 (Nat.lt_of_lt_of_le ho.2.1 h1.2.2.2)
  show W _ _ _ _ _ _ _ _ _ _ _ _ _ _ _ (F0 m pc la (.int x :: .int i :: .ref (ad g a) :: st.map (sv g)))
  rw [ha]
  refine va_iast F.1 F.2.1 F.2.2.2.2.2.2.2.2.2.1.1 h1.1 (wl_D h1.2.1) h2 q0 1 hq rfl hi hd (fun H1 locs1 hP1 _ hS1 => ?_)
  rw [wl_set (S' := (t, up2 I a i.toNatClampNeg x, J, P)) h1.2.1 rfl ho.1 ho.2.1 hq' (by rw [ce_A (S := (t, up2 I a i.toNatClampNeg x, J, P)) ho (by decide) (by decide)]; show Sum.inl (_, _, Sum.inl (up2 I a i.toNatClampNeg x a)) = _; rw [up2_upd]) (fun b hb => ce_neI hb)] at hP1
  exact kk p e s m args below meth c0 A F H1 locs1 la ⟨hP1, h1.2.1, h1.2.2⟩ hS1 h3 h4 h5
theorem M_bast {a n : Nat} {i x : Int32} (hd : decode μ.2.1 pc = .ok (.bastore, 1)) (ho : AR t a 12 n) (hi : vp_in i n) (kk : M g μ d tt R (pc + 1) ls st (t, up2 I a i.toNatClampNeg (vp_nar .byte x), J, P)) : M g μ d tt R pc ls (.int x :: .int i :: .ref a :: st) (t, I, J, P) := by
  intro p e s m args below meth c0 A F H locs la h1 h2 h3 h4 h5
  obtain ⟨q0, hq⟩ := wl_get (g := g) (S := (t, I, J, P)) ho.1 ho.2.1
  have hq' := hq
  rw [ce_A ho (by decide) (by decide)] at hq
  have ha : ad g a = gB g + a := ad_cell ho.1 (Nat.lt_of_lt_of_le ho.2.1 h1.2.2.2)
  show W _ _ _ _ _ _ _ _ _ _ _ _ _ _ _ (F0 m pc la (.int x :: .int i :: .ref (ad g a) :: st.map (sv g)))
  rw [ha]
  refine va_bast F.1 F.2.1 F.2.2.2.2.2.2.2.2.2.1.1 h1.1 (wl_D h1.2.1) h2 q0 0 hq rfl hi hd (fun H1 locs1 hP1 _ hS1 => ?_)
  rw [wl_set (S' := (t, up2 I a i.toNatClampNeg (vp_nar .byte x), J, P)) h1.2.1 rfl ho.1 ho.2.1 hq' (by rw [ce_A (S := (t, up2 I a i.toNatClampNeg (vp_nar .byte x), J, P)) ho (by decide) (by decide)]; show Sum.inl (_, _, Sum.inl (up2 I a i.toNatClampNeg (vp_nar .byte x) a)) = _; rw [up2_upd]) (fun b hb => ce_neI hb)] at hP1
  exact kk p e s m args below meth c0 A F H1 locs1 la ⟨hP1, h1.2.1, h1.2.2⟩ hS1 h3 h4 h5
theorem M_last {a n : Nat} {i : Int32} {x : Int64} (hd : decode μ.2.1 pc = .ok (.lastore, 1)) (ho : AR t a 14 n) (hi : vp_in i n) (kk : M g μ d tt R (pc + 1) ls st (t, I, up2 J a i.toNatClampNeg x, P)) : M g μ d tt R pc ls (.long x :: .int i :: .ref a :: st) (t, I, J, P) := by
  intro p e s m args below meth c0 A F H locs la h1 h2 h3 h4 h5
  obtain ⟨q0, hq⟩ := wl_get (g := g) (S := (t, I, J, P)) ho.1 ho.2.1
  have hq' := hq
  rw [ce_AJ ho] at hq
  have ha : ad g a = gB g + a := ad_cell ho.1 (Nat.lt_of_lt_of_le ho.2.1 h1.2.2.2)
  show W _ _ _ _ _ _ _ _ _ _ _ _ _ _ _ (F0 m pc la (.long x :: .int i :: .ref (ad g a) :: st.map (sv g)))
  rw [ha]
  refine va_last F.1 F.2.1 F.2.2.2.2.2.2.2.2.2.1.1 h1.1 (wl_D h1.2.1) h2 q0 2 hq rfl hi hd (fun H1 locs1 hP1 _ hS1 => ?_)
  rw [wl_set (S' := (t, I, up2 J a i.toNatClampNeg x, P)) h1.2.1 rfl ho.1 ho.2.1 hq' (by rw [ce_AJ (S := (t, I, up2 J a i.toNatClampNeg x, P)) ho]; show Sum.inl (_, _, Sum.inr (Sum.inl (up2 J a i.toNatClampNeg x a))) = _; rw [up2_updL]) (fun b hb => ce_neJ hb)] at hP1
  exact kk p e s m args below meth c0 A F H1 locs1 la ⟨hP1, h1.2.1, h1.2.2⟩ hS1 h3 h4 h5
theorem M_aastL {a b n : Nat} {i : Int32} (hd : decode μ.2.1 pc = .ok (.aastore, 1)) (ho : AR t a 15 n) (hb : OB t b 3) (hi : vp_in i n) (kk : M g μ d tt R (pc + 1) ls st (t, I, J, up2 P a i.toNatClampNeg (some b))) : M g μ d tt R pc ls (.ref b :: .int i :: .ref a :: st) (t, I, J, P) := by
  intro p e s m args below meth c0 A F H locs la h1 h2 h3 h4 h5
  obtain ⟨q0, hq⟩ := wl_get (g := g) (S := (t, I, J, P)) ho.1 ho.2.1
  have hq' := hq
  rw [ce_AP ho (by decide)] at hq
  have ha : ad g a = gB g + a := ad_cell ho.1 (Nat.lt_of_lt_of_le ho.2.1 h1.2.2.2)
  obtain ⟨q1, hq1⟩ := wl_get (g := g) (S := (t, I, J, P)) hb.1 hb.2.1
  rw [ce_ob hb] at hq1
  have hab : ad g b = gB g + b := ad_cell hb.1 (Nat.lt_of_lt_of_le hb.2.1 h1.2.2.2)
  show W _ _ _ _ _ _ _ _ _ _ _ _ _ _ _ (F0 m pc la (.ref (ad g b) :: .int i :: .ref (ad g a) :: st.map (sv g)))
  rw [ha, hab]
  refine va_astq F.1 F.2.1 F.2.2.2.2.2.2.2.2.2.1.1 h1.1 (wl_D h1.2.1) h2 q0 3 q1 3 hq rfl hq1 rfl hi hd (fun H1 locs1 hP1 _ hS1 => ?_)
  rw [wl_set (S' := (t, I, J, up2 P a i.toNatClampNeg (some b))) h1.2.1 rfl ho.1 ho.2.1 hq' (by rw [ce_AP (S := (t, I, J, up2 P a i.toNatClampNeg (some b))) ho (by decide), ← hab]; show Sum.inl (_, _, Sum.inr (Sum.inr (Sum.inr (Sum.inr (fun i2 => (up2 P a i.toNatClampNeg (some b) a i2).map (ad g)))))) = _; congr 7; funext j; rw [up2_get]; unfold va_up; by_cases hj : j = i.toNatClampNeg <;> simp [hj]) (fun b hb => ce_neR hb)] at hP1
  exact kk p e s m args below meth c0 A F H1 locs1 la ⟨hP1, h1.2.1, h1.2.2⟩ hS1 h3 h4 h5
theorem M_aastG {a b n : Nat} {i : Int32} (hd : decode μ.2.1 pc = .ok (.aastore, 1)) (ho : AR t a 16 n) (hb : OB t b 7) (hi : vp_in i n) (kk : M g μ d tt R (pc + 1) ls st (t, I, J, up2 P a i.toNatClampNeg (some b))) : M g μ d tt R pc ls (.ref b :: .int i :: .ref a :: st) (t, I, J, P) := by
  intro p e s m args below meth c0 A F H locs la h1 h2 h3 h4 h5
  obtain ⟨q0, hq⟩ := wl_get (g := g) (S := (t, I, J, P)) ho.1 ho.2.1
  have hq' := hq
  rw [ce_AP ho (by decide)] at hq
  have ha : ad g a = gB g + a := ad_cell ho.1 (Nat.lt_of_lt_of_le ho.2.1 h1.2.2.2)
  obtain ⟨q1, hq1⟩ := wl_get (g := g) (S := (t, I, J, P)) hb.1 hb.2.1
  rw [ce_ob hb] at hq1
  have hab : ad g b = gB g + b := ad_cell hb.1 (Nat.lt_of_lt_of_le hb.2.1 h1.2.2.2)
  show W _ _ _ _ _ _ _ _ _ _ _ _ _ _ _ (F0 m pc la (.ref (ad g b) :: .int i :: .ref (ad g a) :: st.map (sv g)))
  rw [ha, hab]
  refine va_astq F.1 F.2.1 F.2.2.2.2.2.2.2.2.2.1.1 h1.1 (wl_D h1.2.1) h2 q0 4 q1 7 hq rfl hq1 rfl hi hd (fun H1 locs1 hP1 _ hS1 => ?_)
  rw [wl_set (S' := (t, I, J, up2 P a i.toNatClampNeg (some b))) h1.2.1 rfl ho.1 ho.2.1 hq' (by rw [ce_AP (S := (t, I, J, up2 P a i.toNatClampNeg (some b))) ho (by decide), ← hab]; show Sum.inl (_, _, Sum.inr (Sum.inr (Sum.inr (Sum.inr (fun i2 => (up2 P a i.toNatClampNeg (some b) a i2).map (ad g)))))) = _; congr 7; funext j; rw [up2_get]; unfold va_up; by_cases hj : j = i.toNatClampNeg <;> simp [hj]) (fun b hb => ce_neR hb)] at hP1
  exact kk p e s m args below meth c0 A F H1 locs1 la ⟨hP1, h1.2.1, h1.2.2⟩ hS1 h3 h4 h5
theorem M_alen {a k n : Nat} {v : Int32} (hd : decode μ.2.1 pc = .ok (.arraylength, 1)) (ho : AR t a 13 n) (hv : Int32.ofNat n = v) (kk : M g μ d tt R (pc + 1) ls (.int v :: st) (t, I, J, P)) : M g μ d tt R pc ls (.ref a :: st) (t, I, J, P) := by
  intro p e s m args below meth c0 A F H locs la h1 h2 h3 h4 h5
  obtain ⟨q0, hq⟩ := wl_get (g := g) (S := (t, I, J, P)) ho.1 ho.2.1
  have hq' := hq
  rw [ce_A ho (by decide) (by decide)] at hq
  have ha : ad g a = gB g + a := ad_cell ho.1 (Nat.lt_of_lt_of_le ho.2.1 h1.2.2.2)
  show W _ _ _ _ _ _ _ _ _ _ _ _ _ _ _ (F0 m pc la (.ref (ad g a) :: st.map (sv g)))
  rw [ha]
  exact va_alen F.1 F.2.1 F.2.2.2.2.2.2.2.2.2.1.1 h1.1 q0 1 hq rfl hv hd (kk p e s m args below meth c0 A F H locs la h1 h2 h3 h4 h5)
theorem M_slen {v : Int32} (hd : decode μ.2.1 pc = .ok (.arraylength, 1)) (hv : Int32.ofNat (gL g) = v) (kk : M g μ d tt R (pc + 1) ls (.int v :: st) S) : M g μ d tt R pc ls (.ref 0 :: st) S := by
  intro p e s m args below meth c0 A F H locs la h1 h2 h3 h4 h5
  subst hv
  have hO := F.2.2.2.2.2.2.2.2.2.1.2.1
  show W _ _ _ _ _ _ _ _ _ _ _ _ _ _ _ (F0 m pc la (.ref (gb g) :: st.map (sv g)))
  exact va_slen F.1 F.2.1 hO.1 hO.2.1 hO.2.2 h2 hd (kk p e s m args below meth c0 A F H locs la h1 h2 h3 h4 h5)
theorem M_sld {i : Int32} (hd : decode μ.2.1 pc = .ok (.iaload, 1)) (hi : vp_in i (gL g)) (kk : M g μ d tt R (pc + 1) ls (.int (gxs g i.toNatClampNeg) :: st) S) : M g μ d tt R pc ls (.int i :: .ref 0 :: st) S := by
  intro p e s m args below meth c0 A F H locs la h1 h2 h3 h4 h5
  have hO := F.2.2.2.2.2.2.2.2.2.1.2.1
  show W _ _ _ _ _ _ _ _ _ _ _ _ _ _ _ (F0 m pc la (.int i :: .ref (gb g) :: st.map (sv g)))
  exact va_sld F.1 F.2.1 hO.1 hO.2.1 hO.2.2 h2 hi hd (kk p e s m args below meth c0 A F H locs la h1 h2 h3 h4 h5)
theorem ce_up1 {g : gX} {t a n : Nat} {I : Nat → Nat → Int32} {J : Nat → Nat → Int64} {P : Nat → Nat → Option Nat} {r : Nat → Int32} (ho : AR t a 13 n) : ce g (t, up1 I a r, J, P) a = .inl (gy g 13, n, .inl r) := by
  rw [ce_A (S := (t, up1 I a r, J, P)) ho (by decide) (by decide)]
  show Sum.inl (_, _, Sum.inl (up1 I a r a)) = _
  rw [up1_self]
theorem ce_ne1 {g : gX} {t a b : Nat} {I : Nat → Nat → Int32} {J : Nat → Nat → Int64} {P : Nat → Nat → Option Nat} {r : Nat → Int32} (h : b ≠ a) : ce g (t, up1 I a r, J, P) b = ce g (t, I, J, P) b := by
  have e1 : up1 I a r b = I b := up1_ne I r h
  have e2 : fv g (t, up1 I a r, J, P) b = fv g (t, I, J, P) b := by
    funext j
    unfold fv
    show (if isR (LT b).1 j then va_rf ((P b j).map (ad g)) else Value.int (up1 I a r b j)) = _
    rw [e1]
  unfold ce
  rw [e2, show ((t, up1 I a r, J, P) : hS).2.1 b = ((t, I, J, P) : hS).2.1 b from e1]
theorem M_copy {idx a b n0 n1 : Nat} {sp dp n : Int32} (hd : decode μ.2.1 pc = .ok (.invokestatic idx, 3)) (hl : Cond.methodLink μ.1.cls idx arraycopyName ∈ gW) (hnat : Cond.native arraycopyName ∈ gW) (hst : Cond.static arraycopyName ∈ gW) (hini : Cond.initialized "java/lang/System" ∈ gW) (hd1 : 1 ≤ d) (hr : (st.map fun v => v.category).sum ≤ 8)
    (ho : AR t a 13 n1) (hb : AR t b 13 n0) (g1 : ¬ sp < 0) (g2 : ¬ dp < 0) (g3 : ¬ n < 0) (g4 : sp.toNatClampNeg + n.toNatClampNeg ≤ n0) (g5 : dp.toNatClampNeg + n.toNatClampNeg ≤ n1)
    (kk : M g μ d tt R (pc + 3) ls st (t, up1 I a (va_cpy (I b) (I a) sp.toNatClampNeg dp.toNatClampNeg n.toNatClampNeg), J, P)) : M g μ d tt R pc ls (.int n :: .int dp :: .ref a :: .int sp :: .ref b :: st) (t, I, J, P) := by
  intro p e s m args below meth c0 A F H locs la h1 h2 h3 h4 h5
  obtain ⟨q0, hq⟩ := wl_get (g := g) (S := (t, I, J, P)) ho.1 ho.2.1
  have hq' := hq
  rw [ce_A ho (by decide) (by decide)] at hq
  have ha : ad g a = gB g + a := ad_cell ho.1 (Nat.lt_of_lt_of_le ho.2.1 h1.2.2.2)
  obtain ⟨q1, hq1⟩ := wl_get (g := g) (S := (t, I, J, P)) hb.1 hb.2.1
  rw [ce_A hb (by decide) (by decide)] at hq1
  have hab : ad g b = gB g + b := ad_cell hb.1 (Nat.lt_of_lt_of_le hb.2.1 h1.2.2.2)
  show W _ _ _ _ _ _ _ _ _ _ _ _ _ _ _ (F0 m pc la (.int n :: .int dp :: .ref (ad g a) :: .int sp :: .ref (ad g b) :: st.map (sv g)))
  rw [ha, hab]
  have hw := F.2.2.2.2.2.1
  refine va_copyi F.1 F.2.1 (F.2.2.2.1.trans h3.1.symm) F.2.2.2.2.1 (hw _ hl) (hw _ hnat) (hw _ hst) (hw _ hini) F.2.2.2.2.2.2.2.2.2.1.1 h1.1 (wl_D h1.2.1) h2 q1 q0 1 1 hq1 hq rfl rfl rfl g1 g2 g3 g4 g5 (fun i _ => rfl) hd1 ?_ hd (fun H1 locs1 hP1 _ hS1 => ?_)
  · have e7 : ((st.map (sv g)).map fun v => v.category).sum = (st.map fun v => v.category).sum := by rw [List.map_map]; congr 2; funext v; exact sv_cat g v
    rw [e7]
    show _ + (nativeFrameWords "java/lang/System" "arraycopy" 5 + 11) ≤ 64 * d
    have : nativeFrameWords "java/lang/System" "arraycopy" 5 + 11 ≤ 40 := by decide +kernel
    omega
  rw [wl_set (S' := (t, up1 I a (va_cpy (I b) (I a) sp.toNatClampNeg dp.toNatClampNeg n.toNatClampNeg), J, P)) h1.2.1 rfl ho.1 ho.2.1 hq' (ce_up1 ho) (fun b hb => ce_ne1 hb)] at hP1
  exact kk p e s m args below meth c0 A F H1 locs1 la ⟨hP1, h1.2.1, h1.2.2⟩ hS1 h3 h4 h5
end
