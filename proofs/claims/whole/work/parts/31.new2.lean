/-! rows, the constructors' calls -/
section
variable {g : gX} {μ : mX} {d pc : Nat} {tt : tX} {R : rX} {ls ls' : List (Option Value)} {st : List Value} {S S' : hS} {t : Nat} {I : Nat → Nat → Int32} {J : Nat → Nat → Int64} {P : Nat → Nat → Option Nat}
theorem M_newaB {n : Nat} {x : Int32} (hd : decode μ.2.1 pc = .ok (.newarray .byte, 2)) (harr : Cond.arrayClass .byte ∈ gW) (hx : ¬ x < 0 ∧ x.toNatClampNeg = n) (hb : n ≤ 10000) (hL : LT t = (12, n)) (ht : t < tt.2.1) (htN : t < NT) (h0 : zr t I J P)
    (k : M g μ d tt R (pc + 2) ls (.ref t :: st) (t + 1, I, J, P)) : M g μ d tt R pc ls (.int x :: st) (t, I, J, P) := by
  intro p e s m args below meth c0 A F H locs la h1 h2 h3 h4 h5 T hT X
  have hsz := size_eq h1 h2 h4 F.2.2.2.2.2.2.2.2.2.2.2.2 (by rw [← hT]; exact X.heapSize) htN
  have hsz : H.size = gB g + t := hsz
  have hts := F.2.2.2.2.2.1
  have hO := F.2.2.2.2.2.2.2.2.2.1
  have hKn := hO.1.2 0 _ rfl
  have hs1 := sT_mono h4
  have hs2 : sT (t + 1) ≤ sT tt.2.1 := sT_mono ht
  have hs3 : sT (t + 1) = sT t + n := by rw [sT_succ, hL]
  have h4' : tt.1 ≤ t := h4
  have hs1' : sT tt.1 ≤ sT t := hs1
  refine va_newaK (g := F0 m pc la (.int x :: st.map (sv g))) (N := n) (atype := .byte) F.1 F.2.1 (hts _ harr) rfl hd rfl hx.1 hx.2 (by show n * 1 ≤ 536870912; omega) (by show t - tt.1 + 1 ≤ tt.2.1 - tt.1 + tt.2.2; omega) (by show sT t - sT tt.1 + n ≤ sT tt.2.1 - sT tt.1 + 6 * tt.2.2; omega) hsz (fun H1 cA e1 z1 o1 hAr hNm => ?_) T hT X
  have ha : ad g t = gB g + t := ad_cell h1.2.2.1 htN
  have hcA : cA = gy g 12 := Option.some.inj (hNm.symm.trans hKn.2)
  subst hcA
  have hP1 : va_P (gD g) vwCl (wl g (t + 1, I, J, P)) H1 := by
    rw [wl_succ h1.2.2.1]
    refine (h1.1.kept (fun k x hx => o1 x.1 (by rw [← hsz]; exact (h1.1 k x hx).lt))).app (fun k x hx => ?_)
    have hzk : k < 1 := (List.getElem?_eq_some_iff.mp hx).1
    rw [show k = 0 by omega] at hx
    cases hx
    show va_at _ _ (gB g + t, ce g (t, I, J, P) t) H1
    have e7 : ce g (t, I, J, P) t = .inl (gy g 12, n, .inl (fun _ => 0)) := by
      unfold ce
      rw [hL]
      show (Sum.inl (gy g 12, n, Sum.inl (I t)) : va_E) = _
      rw [(h0 t (Nat.le_refl _)).1]
    rw [e7]
    show H1[gB g + t]? = some (vp_cell _ _)
    rw [vp_cell_i]
    exact e1
  have k9 := k p e s m args below meth c0 A F H1 locs la ⟨hP1, fun b hb1 hb2 => ?_, by show 1 ≤ t + 1; omega, htN⟩ ⟨by rw [z1, ← hsz]; exact Nat.le_succ_of_le h2.1, fun q g1 g2 => (o1 q (by rw [← hsz]; exact Nat.lt_of_lt_of_le g1 h2.1)).trans (h2.2.1 q g1 g2), h2.2.2⟩ h3 (by show tt.1 ≤ t + 1; omega) ht
  · have e8 : (Value.ref t :: st).map (sv g) = .ref (gB g + t) :: st.map (sv g) := by show Value.ref (ad g t) :: _ = _; rw [ha]
    rw [e8] at k9
    have k9' : W p (gl g) e (rm d tt) s m args below meth c0 H1 locs (t + 1 - tt.1) (sT (t + 1) - sT tt.1) (vx_MQ below (Qc g R A) (XC g R A) args s (tt.2.1 - tt.1 + tt.2.2) (sT tt.2.1 - sT tt.1 + 6 * tt.2.2) A) (F0 m (pc + 2) la (.ref (gB g + t) :: st.map (sv g))) := k9
    rw [show t + 1 - tt.1 = t - tt.1 + 1 by omega, show sT (t + 1) - sT tt.1 = sT t - sT tt.1 + n by omega] at k9'
    exact k9'
  · rcases Nat.lt_or_ge b t with q | q
    · exact h1.2.1 b hb1 q
    · have hb2 : b < t + 1 := hb2
      rw [show b = t by omega]
      exact F.2.2.2.2.2.2.2.2.2.2.1 _ (by rw [← hsz]; exact h2.1)
theorem M_newaI {n : Nat} {x : Int32} (hd : decode μ.2.1 pc = .ok (.newarray .int, 2)) (harr : Cond.arrayClass .int ∈ gW) (hx : ¬ x < 0 ∧ x.toNatClampNeg = n) (hb : n ≤ 10000) (hL : LT t = (13, n)) (ht : t < tt.2.1) (htN : t < NT) (h0 : zr t I J P)
    (k : M g μ d tt R (pc + 2) ls (.ref t :: st) (t + 1, I, J, P)) : M g μ d tt R pc ls (.int x :: st) (t, I, J, P) := by
  intro p e s m args below meth c0 A F H locs la h1 h2 h3 h4 h5 T hT X
  have hsz := size_eq h1 h2 h4 F.2.2.2.2.2.2.2.2.2.2.2.2 (by rw [← hT]; exact X.heapSize) htN
  have hsz : H.size = gB g + t := hsz
  have hts := F.2.2.2.2.2.1
  have hO := F.2.2.2.2.2.2.2.2.2.1
  have hKn := hO.1.2 1 _ rfl
  have hs1 := sT_mono h4
  have hs2 : sT (t + 1) ≤ sT tt.2.1 := sT_mono ht
  have hs3 : sT (t + 1) = sT t + n := by rw [sT_succ, hL]
  have h4' : tt.1 ≤ t := h4
  have hs1' : sT tt.1 ≤ sT t := hs1
  refine va_newaK (g := F0 m pc la (.int x :: st.map (sv g))) (N := n) (atype := .int) F.1 F.2.1 (hts _ harr) rfl hd rfl hx.1 hx.2 (by show n * 4 ≤ 536870912; omega) (by show t - tt.1 + 1 ≤ tt.2.1 - tt.1 + tt.2.2; omega) (by show sT t - sT tt.1 + n ≤ sT tt.2.1 - sT tt.1 + 6 * tt.2.2; omega) hsz (fun H1 cA e1 z1 o1 hAr hNm => ?_) T hT X
  have ha : ad g t = gB g + t := ad_cell h1.2.2.1 htN
  have hcA : cA = gy g 13 := Option.some.inj (hNm.symm.trans hKn.2)
  subst hcA
  have hP1 : va_P (gD g) vwCl (wl g (t + 1, I, J, P)) H1 := by
    rw [wl_succ h1.2.2.1]
    refine (h1.1.kept (fun k x hx => o1 x.1 (by rw [← hsz]; exact (h1.1 k x hx).lt))).app (fun k x hx => ?_)
    have hzk : k < 1 := (List.getElem?_eq_some_iff.mp hx).1
    rw [show k = 0 by omega] at hx
    cases hx
    show va_at _ _ (gB g + t, ce g (t, I, J, P) t) H1
    have e7 : ce g (t, I, J, P) t = .inl (gy g 13, n, .inl (fun _ => 0)) := by
      unfold ce
      rw [hL]
      show (Sum.inl (gy g 13, n, Sum.inl (I t)) : va_E) = _
      rw [(h0 t (Nat.le_refl _)).1]
    rw [e7]
    show H1[gB g + t]? = some (vp_cell _ _)
    rw [vp_cell_i]
    exact e1
  have k9 := k p e s m args below meth c0 A F H1 locs la ⟨hP1, fun b hb1 hb2 => ?_, by show 1 ≤ t + 1; omega, htN⟩ ⟨by rw [z1, ← hsz]; exact Nat.le_succ_of_le h2.1, fun q g1 g2 => (o1 q (by rw [← hsz]; exact Nat.lt_of_lt_of_le g1 h2.1)).trans (h2.2.1 q g1 g2), h2.2.2⟩ h3 (by show tt.1 ≤ t + 1; omega) ht
  · have e8 : (Value.ref t :: st).map (sv g) = .ref (gB g + t) :: st.map (sv g) := by show Value.ref (ad g t) :: _ = _; rw [ha]
    rw [e8] at k9
    have k9' : W p (gl g) e (rm d tt) s m args below meth c0 H1 locs (t + 1 - tt.1) (sT (t + 1) - sT tt.1) (vx_MQ below (Qc g R A) (XC g R A) args s (tt.2.1 - tt.1 + tt.2.2) (sT tt.2.1 - sT tt.1 + 6 * tt.2.2) A) (F0 m (pc + 2) la (.ref (gB g + t) :: st.map (sv g))) := k9
    rw [show t + 1 - tt.1 = t - tt.1 + 1 by omega, show sT (t + 1) - sT tt.1 = sT t - sT tt.1 + n by omega] at k9'
    exact k9'
  · rcases Nat.lt_or_ge b t with q | q
    · exact h1.2.1 b hb1 q
    · have hb2 : b < t + 1 := hb2
      rw [show b = t by omega]
      exact F.2.2.2.2.2.2.2.2.2.2.1 _ (by rw [← hsz]; exact h2.1)
theorem M_newaJ {n : Nat} {x : Int32} (hd : decode μ.2.1 pc = .ok (.newarray .long, 2)) (harr : Cond.arrayClass .long ∈ gW) (hx : ¬ x < 0 ∧ x.toNatClampNeg = n) (hb : n ≤ 10000) (hL : LT t = (14, n)) (ht : t < tt.2.1) (htN : t < NT) (h0 : zr t I J P)
    (k : M g μ d tt R (pc + 2) ls (.ref t :: st) (t + 1, I, J, P)) : M g μ d tt R pc ls (.int x :: st) (t, I, J, P) := by
  intro p e s m args below meth c0 A F H locs la h1 h2 h3 h4 h5 T hT X
  have hsz := size_eq h1 h2 h4 F.2.2.2.2.2.2.2.2.2.2.2.2 (by rw [← hT]; exact X.heapSize) htN
  have hsz : H.size = gB g + t := hsz
  have hts := F.2.2.2.2.2.1
  have hO := F.2.2.2.2.2.2.2.2.2.1
  have hKn := hO.1.2 2 _ rfl
  have hs1 := sT_mono h4
  have hs2 : sT (t + 1) ≤ sT tt.2.1 := sT_mono ht
  have hs3 : sT (t + 1) = sT t + n := by rw [sT_succ, hL]
  have h4' : tt.1 ≤ t := h4
  have hs1' : sT tt.1 ≤ sT t := hs1
  refine va_newaK (g := F0 m pc la (.int x :: st.map (sv g))) (N := n) (atype := .long) F.1 F.2.1 (hts _ harr) rfl hd rfl hx.1 hx.2 (by show n * 8 ≤ 536870912; omega) (by show t - tt.1 + 1 ≤ tt.2.1 - tt.1 + tt.2.2; omega) (by show sT t - sT tt.1 + n ≤ sT tt.2.1 - sT tt.1 + 6 * tt.2.2; omega) hsz (fun H1 cA e1 z1 o1 hAr hNm => ?_) T hT X
  have ha : ad g t = gB g + t := ad_cell h1.2.2.1 htN
  have hcA : cA = gy g 14 := Option.some.inj (hNm.symm.trans hKn.2)
  subst hcA
  have hP1 : va_P (gD g) vwCl (wl g (t + 1, I, J, P)) H1 := by
    rw [wl_succ h1.2.2.1]
    refine (h1.1.kept (fun k x hx => o1 x.1 (by rw [← hsz]; exact (h1.1 k x hx).lt))).app (fun k x hx => ?_)
    have hzk : k < 1 := (List.getElem?_eq_some_iff.mp hx).1
    rw [show k = 0 by omega] at hx
    cases hx
    show va_at _ _ (gB g + t, ce g (t, I, J, P) t) H1
    have e7 : ce g (t, I, J, P) t = .inl (gy g 14, n, .inr (.inl (fun _ => 0))) := by
      unfold ce
      rw [hL]
      show (Sum.inl (gy g 14, n, Sum.inr (Sum.inl (J t))) : va_E) = _
      rw [(h0 t (Nat.le_refl _)).2.1]
    rw [e7]
    show H1[gB g + t]? = some (vp_cell _ _)
    rw [vp_cell_l]
    exact e1
  have k9 := k p e s m args below meth c0 A F H1 locs la ⟨hP1, fun b hb1 hb2 => ?_, by show 1 ≤ t + 1; omega, htN⟩ ⟨by rw [z1, ← hsz]; exact Nat.le_succ_of_le h2.1, fun q g1 g2 => (o1 q (by rw [← hsz]; exact Nat.lt_of_lt_of_le g1 h2.1)).trans (h2.2.1 q g1 g2), h2.2.2⟩ h3 (by show tt.1 ≤ t + 1; omega) ht
  · have e8 : (Value.ref t :: st).map (sv g) = .ref (gB g + t) :: st.map (sv g) := by show Value.ref (ad g t) :: _ = _; rw [ha]
    rw [e8] at k9
    have k9' : W p (gl g) e (rm d tt) s m args below meth c0 H1 locs (t + 1 - tt.1) (sT (t + 1) - sT tt.1) (vx_MQ below (Qc g R A) (XC g R A) args s (tt.2.1 - tt.1 + tt.2.2) (sT tt.2.1 - sT tt.1 + 6 * tt.2.2) A) (F0 m (pc + 2) la (.ref (gB g + t) :: st.map (sv g))) := k9
    rw [show t + 1 - tt.1 = t - tt.1 + 1 by omega, show sT (t + 1) - sT tt.1 = sT t - sT tt.1 + n by omega] at k9'
    exact k9'
  · rcases Nat.lt_or_ge b t with q | q
    · exact h1.2.1 b hb1 q
    · have hb2 : b < t + 1 := hb2
      rw [show b = t by omega]
      exact F.2.2.2.2.2.2.2.2.2.2.1 _ (by rw [← hsz]; exact h2.1)
theorem M_newqL {idx n : Nat} {x : Int32} (hd : decode μ.2.1 pc = .ok (.anewarray idx, 3)) (hcl : Cond.classLink μ.1.cls idx "BiteYears$Lady" ∈ gW) (hx : ¬ x < 0 ∧ x.toNatClampNeg = n) (hb : n ≤ 10000) (hL : LT t = (15, n)) (ht : t < tt.2.1) (htN : t < NT) (h0 : zr t I J P)
    (k : M g μ d tt R (pc + 3) ls (.ref t :: st) (t + 1, I, J, P)) : M g μ d tt R pc ls (.int x :: st) (t, I, J, P) := by
  intro p e s m args below meth c0 A F H locs la h1 h2 h3 h4 h5 T hT X
  have hsz := size_eq h1 h2 h4 F.2.2.2.2.2.2.2.2.2.2.2.2 (by rw [← hT]; exact X.heapSize) htN
  have hsz : H.size = gB g + t := hsz
  have hts := F.2.2.2.2.2.1
  have hO := F.2.2.2.2.2.2.2.2.2.1
  have hKn := hO.1.2 3 _ rfl
  have hs1 := sT_mono h4
  have hs2 : sT (t + 1) ≤ sT tt.2.1 := sT_mono ht
  have hs3 : sT (t + 1) = sT t + n := by rw [sT_succ, hL]
  have h4' : tt.1 ≤ t := h4
  have hs1' : sT tt.1 ≤ sT t := hs1
  obtain ⟨hx1, rfl⟩ := hx
  refine W.anew (g := F0 m pc la (.int x :: st.map (sv g))) F.1 F.2.1 F.2.2.2.2.1 (hts _ hcl) (va_AO.use hO.2.2.2.2.1.2.1) rfl hd rfl hx1 (by omega) (by show t - tt.1 + 1 ≤ tt.2.1 - tt.1 + tt.2.2; omega) (by show sT t - sT tt.1 + x.toNatClampNeg ≤ sT tt.2.1 - sT tt.1 + 6 * tt.2.2; omega) (fun cA kA comp f1 f2 f3 f4 => ?_) T hT X
  generalize hH1 : H.push ({ cls := cA, slots := Array.replicate x.toNatClampNeg .null, vm := .none } : Cell) = H1
  have z1 : H1.size = H.size + 1 := by rw [← hH1, Array.size_push]
  have e1 : H1[H.size]? = some (arrV cA x.toNatClampNeg (fun _ => .null)) := by rw [← hH1, Array.getElem?_push_size, ← arrV_new]
  have o1 : ∀ q : Nat, q < H.size → H1[q]? = H[q]? := fun q hq => by rw [← hH1, Array.getElem?_push, if_neg (Nat.ne_of_lt hq)]
  have ha : ad g t = gB g + t := ad_cell h1.2.2.1 htN
  obtain ⟨kA9, comp9, -, -, -, hN9⟩ := hKn.2
  have hcA : cA = gy g 15 := Option.some.inj (f1.symm.trans hN9)
  subst hcA
  have hP1 : va_P (gD g) vwCl (wl g (t + 1, I, J, P)) H1 := by
    rw [wl_succ h1.2.2.1]
    refine (h1.1.kept (fun k x hx => o1 x.1 (h1.1 k x hx).lt)).app (fun k x hx => ?_)
    have hzk : k < 1 := (List.getElem?_eq_some_iff.mp hx).1
    rw [show k = 0 by omega] at hx
    cases hx
    show va_at _ _ (gB g + t, ce g (t, I, J, P) t) H1
    have e7 : ce g (t, I, J, P) t = .inl (gy g 15, x.toNatClampNeg, .inr (.inr (.inr (.inr (fun _ => none))))) := by
      unfold ce
      rw [hL]
      show (Sum.inl (gy g 15, x.toNatClampNeg, Sum.inr (Sum.inr (Sum.inr (Sum.inr (fun i => (P t i).map (ad g)))))) : va_E) = _
      rw [(h0 t (Nat.le_refl _)).2.2]
      rfl
    rw [e7]
    show H1[gB g + t]? = some (vp_cell _ _)
    rw [vp_cell_q, ← hsz]
    exact e1
  have k9 := k p e s m args below meth c0 A F H1 locs la ⟨hP1, fun b hb1 hb2 => ?_, by show 1 ≤ t + 1; omega, htN⟩ ⟨by rw [z1]; exact Nat.le_succ_of_le h2.1, fun q g1 g2 => (o1 q (Nat.lt_of_lt_of_le g1 h2.1)).trans (h2.2.1 q g1 g2), h2.2.2⟩ h3 (by show tt.1 ≤ t + 1; omega) ht
  · have e8 : (Value.ref t :: st).map (sv g) = .ref H.size :: st.map (sv g) := by show Value.ref (ad g t) :: _ = _; rw [ha, hsz]
    rw [e8] at k9
    have k9' : W p (gl g) e (rm d tt) s m args below meth c0 H1 locs (t + 1 - tt.1) (sT (t + 1) - sT tt.1) (vx_MQ below (Qc g R A) (XC g R A) args s (tt.2.1 - tt.1 + tt.2.2) (sT tt.2.1 - sT tt.1 + 6 * tt.2.2) A) (F0 m (pc + 3) la (.ref H.size :: st.map (sv g))) := k9
    rw [show t + 1 - tt.1 = t - tt.1 + 1 by omega, show sT (t + 1) - sT tt.1 = sT t - sT tt.1 + x.toNatClampNeg by omega] at k9'
    exact k9'
  · rcases Nat.lt_or_ge b t with q | q
    · exact h1.2.1 b hb1 q
    · have hb2 : b < t + 1 := hb2
      rw [show b = t by omega]
      exact F.2.2.2.2.2.2.2.2.2.2.1 _ (by rw [← hsz]; exact h2.1)
theorem M_newqG {idx n : Nat} {x : Int32} (hd : decode μ.2.1 pc = .ok (.anewarray idx, 3)) (hcl : Cond.classLink μ.1.cls idx "BiteYears$Log" ∈ gW) (hx : ¬ x < 0 ∧ x.toNatClampNeg = n) (hb : n ≤ 10000) (hL : LT t = (16, n)) (ht : t < tt.2.1) (htN : t < NT) (h0 : zr t I J P)
    (k : M g μ d tt R (pc + 3) ls (.ref t :: st) (t + 1, I, J, P)) : M g μ d tt R pc ls (.int x :: st) (t, I, J, P) := by
  intro p e s m args below meth c0 A F H locs la h1 h2 h3 h4 h5 T hT X
  have hsz := size_eq h1 h2 h4 F.2.2.2.2.2.2.2.2.2.2.2.2 (by rw [← hT]; exact X.heapSize) htN
  have hsz : H.size = gB g + t := hsz
  have hts := F.2.2.2.2.2.1
  have hO := F.2.2.2.2.2.2.2.2.2.1
  have hKn := hO.1.2 4 _ rfl
  have hs1 := sT_mono h4
  have hs2 : sT (t + 1) ≤ sT tt.2.1 := sT_mono ht
  have hs3 : sT (t + 1) = sT t + n := by rw [sT_succ, hL]
  have h4' : tt.1 ≤ t := h4
  have hs1' : sT tt.1 ≤ sT t := hs1
  obtain ⟨hx1, rfl⟩ := hx
  refine W.anew (g := F0 m pc la (.int x :: st.map (sv g))) F.1 F.2.1 F.2.2.2.2.1 (hts _ hcl) (va_AO.use hO.2.2.2.2.1.2.2) rfl hd rfl hx1 (by omega) (by show t - tt.1 + 1 ≤ tt.2.1 - tt.1 + tt.2.2; omega) (by show sT t - sT tt.1 + x.toNatClampNeg ≤ sT tt.2.1 - sT tt.1 + 6 * tt.2.2; omega) (fun cA kA comp f1 f2 f3 f4 => ?_) T hT X
  generalize hH1 : H.push ({ cls := cA, slots := Array.replicate x.toNatClampNeg .null, vm := .none } : Cell) = H1
  have z1 : H1.size = H.size + 1 := by rw [← hH1, Array.size_push]
  have e1 : H1[H.size]? = some (arrV cA x.toNatClampNeg (fun _ => .null)) := by rw [← hH1, Array.getElem?_push_size, ← arrV_new]
  have o1 : ∀ q : Nat, q < H.size → H1[q]? = H[q]? := fun q hq => by rw [← hH1, Array.getElem?_push, if_neg (Nat.ne_of_lt hq)]
  have ha : ad g t = gB g + t := ad_cell h1.2.2.1 htN
  obtain ⟨kA9, comp9, -, -, -, hN9⟩ := hKn.2
  have hcA : cA = gy g 16 := Option.some.inj (f1.symm.trans hN9)
  subst hcA
  have hP1 : va_P (gD g) vwCl (wl g (t + 1, I, J, P)) H1 := by
    rw [wl_succ h1.2.2.1]
    refine (h1.1.kept (fun k x hx => o1 x.1 (h1.1 k x hx).lt)).app (fun k x hx => ?_)
    have hzk : k < 1 := (List.getElem?_eq_some_iff.mp hx).1
    rw [show k = 0 by omega] at hx
    cases hx
    show va_at _ _ (gB g + t, ce g (t, I, J, P) t) H1
    have e7 : ce g (t, I, J, P) t = .inl (gy g 16, x.toNatClampNeg, .inr (.inr (.inr (.inr (fun _ => none))))) := by
      unfold ce
      rw [hL]
      show (Sum.inl (gy g 16, x.toNatClampNeg, Sum.inr (Sum.inr (Sum.inr (Sum.inr (fun i => (P t i).map (ad g)))))) : va_E) = _
      rw [(h0 t (Nat.le_refl _)).2.2]
      rfl
    rw [e7]
    show H1[gB g + t]? = some (vp_cell _ _)
    rw [vp_cell_q, ← hsz]
    exact e1
  have k9 := k p e s m args below meth c0 A F H1 locs la ⟨hP1, fun b hb1 hb2 => ?_, by show 1 ≤ t + 1; omega, htN⟩ ⟨by rw [z1]; exact Nat.le_succ_of_le h2.1, fun q g1 g2 => (o1 q (Nat.lt_of_lt_of_le g1 h2.1)).trans (h2.2.1 q g1 g2), h2.2.2⟩ h3 (by show tt.1 ≤ t + 1; omega) ht
  · have e8 : (Value.ref t :: st).map (sv g) = .ref H.size :: st.map (sv g) := by show Value.ref (ad g t) :: _ = _; rw [ha, hsz]
    rw [e8] at k9
    have k9' : W p (gl g) e (rm d tt) s m args below meth c0 H1 locs (t + 1 - tt.1) (sT (t + 1) - sT tt.1) (vx_MQ below (Qc g R A) (XC g R A) args s (tt.2.1 - tt.1 + tt.2.2) (sT tt.2.1 - sT tt.1 + 6 * tt.2.2) A) (F0 m (pc + 3) la (.ref H.size :: st.map (sv g))) := k9
    rw [show t + 1 - tt.1 = t - tt.1 + 1 by omega, show sT (t + 1) - sT tt.1 = sT t - sT tt.1 + x.toNatClampNeg by omega] at k9'
    exact k9'
  · rcases Nat.lt_or_ge b t with q | q
    · exact h1.2.1 b hb1 q
    · have hb2 : b < t + 1 := hb2
      rw [show b = t by omega]
      exact F.2.2.2.2.2.2.2.2.2.2.1 _ (by rw [← hsz]; exact h2.1)
theorem M_objInit {idx b : Nat} (hd : decode μ.2.1 pc = .ok (.invokespecial idx, 3)) (hl : Cond.methodLink μ.1.cls idx Lib.objectInit ∈ gW) (hst : st = []) (k : M g μ (d + 1) tt R (pc + 3) ls st S) : M g μ (d + 1) tt R pc ls (.ref b :: st) S := by
  intro p e s m args below meth c0 A F H locs la h1 h2 h3 h4 h5
  subst hst
  have hts := F.2.2.2.2.2.1
  refine W.objInit (g := F0 m pc la [.ref (ad g b)]) F.1 F.2.1 F.2.2.2.2.1 (hts _ hl) (hts _ w_35) (hts _ w_36) rfl (by rw [F.2.2.2.1]; exact h3.1) rfl hd (by show 1 ≤ d + 1; omega) (by show 0 + 12 ≤ 64 * (d + 1); omega) ?_
  exact k p e s m args below meth c0 A F H locs la h1 h2 h3 h4 h5
/-- a constructor's place: its own link, or a nest mate's -/
def IF (own : String) (idx : Nat) (μ' : mX) : Prop := (Cond.methodLink own idx μ'.1 ∈ gW ∨ Cond.methodLinkNest own idx μ'.1 "BiteYears" ∈ nW) ∧ (Cond.instanceMethod μ'.1 ∈ gW ∧ Cond.initialized μ'.1.cls ∈ gW ∧ cdOf μ' ∈ gW) ∧ (μ'.1.cls ≠ "java/lang/invoke/MethodHandle" ∧ μ'.1.cls ≠ "java/lang/invoke/VarHandle" ∧ (parseMethodDescriptor μ'.1.desc).map (fun d => d.parameters.length) = some 0) ∧ μ'.2.2.1 ≤ 40 ∧ μ'.1.name = "<init>" ∧ μ'.2.2.2 = none
theorem M_callI {μ' : mX} {idx b : Nat} (hd : decode μ.2.1 pc = .ok (.invokespecial idx, 3)) (hf : IF μ.1.cls idx μ') (hr : (st.map fun v => v.category).sum ≤ 8) (hC : Cm g μ' d [.ref b] S none S') (ht : S'.1 ≤ tt.2.1)
    (k : M g μ (d + 1) tt R (pc + 3) ls st S') : M g μ (d + 1) tt R pc ls (.ref b :: st) S := by
  intro p e s m args below meth c0 A F H locs la h1 h2 h3 h4 h5 T hT X
  have hz := size_eq h1 h2 h4 F.2.2.2.2.2.2.2.2.2.2.2.2 (by rw [← hT]; exact X.heapSize)
  obtain ⟨hw, ⟨hw1, hw2, hw3⟩, hy, hmx, hin, hret⟩ := hf
  have hs1 := sT_mono hC.1
  have hs2 := sT_mono h4
  have hs3 := sT_mono ht
  have ht2 := hC.1
  have hts := F.2.2.2.2.2.1
  have hcd : cdOf μ' = Cond.code μ'.1 μ'.2.1 μ'.2.2.1 none := by unfold cdOf; rw [hret]
  have run : va_Run p (gl g) e (rm (d + 1) tt) s m args below meth c0 H locs (S.1 - tt.1) (sT S.1 - sT tt.1) (S'.1 - S.1 + 0) (sT S'.1 - sT S.1 + 6 * 0) (F0 m pc la (.ref (ad g b) :: st.map (sv g))) (st.map (sv g)) (Qc g (.inl none, S') (Aof g S.1 H.size) ([Value.ref (ad g b)]).toArray) (Aof g S.1 H.size) := by
    rcases hw with hw | hw
    · exact va_runI (As := []) (n := 0) (maxL := μ'.2.2.1) (bytes := μ'.2.1) (b := ad g b) (R := rm (d + 1) tt) (H := H) ⟨F.1, F.2.1, F.2.2.2.1, F.2.2.2.2.1, F.2.2.2.2.2.1⟩ (hC.2 H.size)
        (cwI 0 hts (gW_cons hw3) (by rw [hcd]) rfl rfl (hts _ hw2) (hts _ hw) (hts _ hw1) hin hy ⟨Nat.le_refl _, by show 8 + (μ'.2.2.1 + 11) + 64 * d ≤ 64 * (d + 1); omega⟩)
        ⟨blind g _ S _, pre_of (As := [.ref b]) F h1 h2 hz⟩ rfl rfl h3.1 rfl (lv_room (by rw [rest_cat]; exact hr)) hd ⟨by show S.1 - tt.1 + (S'.1 - S.1 + 0) ≤ tt.2.1 - tt.1 + tt.2.2; omega, by show sT S.1 - sT tt.1 + (sT S'.1 - sT S.1 + 6 * 0) ≤ sT tt.2.1 - sT tt.1 + 6 * tt.2.2; omega⟩
    · exact va_runIN (As := []) (n := 0) (maxL := μ'.2.2.1) (bytes := μ'.2.1) (b := ad g b) (host := "BiteYears") (R := rm (d + 1) tt) (H := H) ⟨F.1, F.2.1, F.2.2.2.1, F.2.2.2.2.1, F.2.2.2.2.2.1⟩ (hC.2 H.size)
        ⟨va_cnB 0 hts (gW_cons hw3) (by rw [hcd]) rfl rfl (F.2.2.2.2.2.2.2.2.2.1.2.2.2.2.1.1 _ hw rfl) (hts _ hw2) hy ⟨Nat.le_refl _, by show 8 + (μ'.2.2.1 + 11) + 64 * d ≤ 64 * (d + 1); omega⟩, hin, hts _ hw1⟩
        ⟨blind g _ S _, pre_of (As := [.ref b]) F h1 h2 hz⟩ rfl rfl h3.1 rfl (lv_room (by rw [rest_cat]; exact hr)) hd ⟨by show S.1 - tt.1 + (S'.1 - S.1 + 0) ≤ tt.2.1 - tt.1 + tt.2.2; omega, by show sT S.1 - sT tt.1 + (sT S'.1 - sT S.1 + 6 * 0) ≤ sT tt.2.1 - sT tt.1 + 6 * tt.2.2; omega⟩
  refine go_run run h1 h2 F.2.2.2.2.2.2.2.2.2.2.1 (fun H1 locs1 g1 g2 => ?_) T hT X
  have k9 := k p e s m args below meth c0 A F H1 locs1 la g1 g2 h3 (Nat.le_trans h4 hC.1) ht
  rw [show S.1 - tt.1 + (S'.1 - S.1 + 0) = S'.1 - tt.1 by omega, show sT S.1 - sT tt.1 + (sT S'.1 - sT S.1 + 6 * 0) = sT S'.1 - sT tt.1 by omega]
  exact k9
end
/-! nothing is laid above t: kept by what is written below -/
theorem zr.upI {t a k : Nat} {x : Int32} {I : Nat → Nat → Int32} {J : Nat → Nat → Int64} {P : Nat → Nat → Option Nat} (h : zr t I J P) (ha : a < t) : zr t (up2 I a k x) J P := fun b hb => by
  refine ⟨?_, (h b hb).2⟩
  rw [up2_ne _ _ _ (by omega)]
  exact (h b hb).1
theorem zr.upP {t a k : Nat} {x : Option Nat} {I : Nat → Nat → Int32} {J : Nat → Nat → Int64} {P : Nat → Nat → Option Nat} (h : zr t I J P) (ha : a < t) : zr t I J (up2 P a k x) := fun b hb => by
  refine ⟨(h b hb).1, (h b hb).2.1, ?_⟩
  rw [up2_ne _ _ _ (by omega)]
  exact (h b hb).2.2
theorem zr.mono {t u : Nat} {I : Nat → Nat → Int32} {J : Nat → Nat → Int64} {P : Nat → Nat → Option Nat} (h : zr t I J P) (ha : t ≤ u) : zr u I J P := fun b hb => h b (Nat.le_trans ha hb)
