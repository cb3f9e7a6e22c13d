/-! making cells in the law -/
section
variable {g : gX} {μ : mX} {nc ns pc : Nat} {Z : zX} {ls ls' : List (Option Value)} {st : List Value} {S S' : hS} {t : Nat} {I : Nat → Nat → Int32} {J : Nat → Nat → Int64} {P : Nat → Nat → Option Nat}
theorem Y_new {idx c : Nat} (hd : decode μ.2.1 pc = .ok (.new idx, 3)) (hf : CF c) (hz : ZF c) (hc : c < 12) (hl : Cond.classLink μ.1.cls idx (cC c) ∈ gW) (hL : LT t = (c, cN c)) (htN : t < NT) (h4 : Z.2.1 ≤ t) (hn9 : nc ≤ t - Z.2.1) (hR : nc + 1 ≤ Z.1.cells ∧ ns + cN c ≤ Z.1.slots) (h0 : zr t I J P)
    (k : Y g μ Z (nc + 1) (ns + cN c) (pc + 3) ls (.ref t :: st) (t + 1, I, J, P)) : Y g μ Z nc ns pc ls st (t, I, J, P) := by
  intro p e s m args below meth c0 A F H locs la h1 h2 h3 T hT X
  have hsz := size_eq (S := (t, I, J, P)) h1 h2 h4 F.2.2.2.2.2.2.2.2.2.2.2.2 (Nat.le_trans (by rw [← hT]; exact X.heapSize) (Nat.add_le_add_left hn9 _)) htN
  have hsz : H.size = gB g + t := hsz
  have hts := F.2.2.2.2.2.1
  have hO := F.2.2.2.2.2.2.2.2.2.1
  have hKn := hO.1.1 c _ hf.1
  refine W.newcK (g := F0 m pc la (st.map (sv g))) (n := cN c) F.1 F.2.1 F.2.2.2.2.1 (hts _ hl) (hts _ hf.2.2.2.2.1) (hts _ hf.2.2.2.2.2) rfl hd hR.1 hR.2 hKn.2.1 hsz (fun H1 kC hkC e1 z1 o1 => ?_) T hT X
  have ha : ad g t = gB g + t := ad_cell h1.2.2.1 htN
  have hP1 : va_P (gD g) vwCl (wl g (t + 1, I, J, P)) H1 := by
    rw [wl_succ h1.2.2.1]
    refine (h1.1.kept (fun k x hx => o1 x.1 (by rw [← hsz]; exact (h1.1 k x hx).lt))).app (fun k x hx => ?_)
    have hzk : k < 1 := (List.getElem?_eq_some_iff.mp hx).1
    rw [show k = 0 by omega] at hx
    cases hx
    show va_at _ _ (gB g + t, ce g (t, I, J, P) t) H1
    have e7 : ce g (t, I, J, P) t = .inr (c, (List.range (cN c)).map (fv g (t, I, J, P) t)) := by
      unfold ce
      rw [hL, if_pos hc]
    rw [e7]
    refine ⟨_, hf.1, (u_born (fT c) hts hf.2.1 hKn hkC e1 hf.2.2.1).to (fun j hj => ?_)⟩
    show defaultValue (fT c j) = ((List.range (cN c)).map (fv g (t, I, J, P) t)).getD j .null
    rw [List.getD_eq_getElem?_getD, fs_get hj, hz j hj]
    show _ = fv g (t, I, J, P) t j
    unfold fv
    rw [hL]
    show _ = if isR c j then va_rf ((P t j).map (ad g)) else Value.int (I t j)
    rw [(h0 t (Nat.le_refl _)).1, (h0 t (Nat.le_refl _)).2.2]
    rfl
  have k9 := k p e s m args below meth c0 A F H1 locs la ⟨hP1, fun b hb1 hb2 => ?_, by show 1 ≤ t + 1; omega, htN⟩ ⟨by rw [z1, ← hsz]; exact Nat.le_succ_of_le h2.1, fun q g1 g2 => (o1 q (by rw [← hsz]; exact Nat.lt_of_lt_of_le g1 h2.1)).trans (h2.2.1 q g1 g2), h2.2.2⟩ h3
  · have e8 : (Value.ref t :: st).map (sv g) = .ref (gB g + t) :: st.map (sv g) := by show Value.ref (ad g t) :: _ = _; rw [ha]
    rw [e8] at k9
    exact k9
  · rcases Nat.lt_or_ge b t with q | q
    · exact h1.2.1 b hb1 q
    · have hb2 : b < t + 1 := hb2
      rw [show b = t by omega]
      exact F.2.2.2.2.2.2.2.2.2.2.1 _ (by rw [← hsz]; exact h2.1)
theorem Y_newaJ {n : Nat} {x : Int32} (hd : decode μ.2.1 pc = .ok (.newarray .long, 2)) (harr : Cond.arrayClass .long ∈ gW) (hx : ¬ x < 0 ∧ x.toNatClampNeg = n) (hb : n ≤ 10000) (hL : LT t = (14, n)) (htN : t < NT) (h4 : Z.2.1 ≤ t) (hn9 : nc ≤ t - Z.2.1) (hR : nc + 1 ≤ Z.1.cells ∧ ns + n ≤ Z.1.slots) (h0 : zr t I J P)
    (k : Y g μ Z (nc + 1) (ns + n) (pc + 2) ls (.ref t :: st) (t + 1, I, J, P)) : Y g μ Z nc ns pc ls (.int x :: st) (t, I, J, P) := by
  intro p e s m args below meth c0 A F H locs la h1 h2 h3 T hT X
  have hsz := size_eq (S := (t, I, J, P)) h1 h2 h4 F.2.2.2.2.2.2.2.2.2.2.2.2 (Nat.le_trans (by rw [← hT]; exact X.heapSize) (Nat.add_le_add_left hn9 _)) htN
  have hsz : H.size = gB g + t := hsz
  have hts := F.2.2.2.2.2.1
  have hO := F.2.2.2.2.2.2.2.2.2.1
  have hKn := hO.1.2 2 _ rfl
  refine va_newaK (g := F0 m pc la (.int x :: st.map (sv g))) (N := n) (atype := .long) F.1 F.2.1 (hts _ harr) rfl hd rfl hx.1 hx.2 (by show n * 8 ≤ 536870912; omega) hR.1 hR.2 hsz (fun H1 cA e1 z1 o1 hAr hNm => ?_) T hT X
  have ha : ad g t = gB g + t := ad_cell h1.2.2.1 htN
  have hcA : cA = gy g 14 := Option.some.inj (hNm.symm.trans hKn.2)
  subst hcA
  have hP1 : va_P (gD g) vwCl (wl g (t + 1, I, J, P)) H1 := by
    rw [wl_succ h1.2.2.1]
    refine (h1.1.kept (fun k x hx => o1 x.1 (by rw [← hsz]; exact (h1.1 k x hx).lt))).app (fun k x hx => ?_)
    have hzk : k < 1 := (List.getElem?_eq_some_iff.mp hx).1
    rw [show k = 0 by omega] at hx
    cases hx
    show va_at _ _ (gB g + t, ce g (t, I, J, P) t) H1
    have e7 : ce g (t, I, J, P) t = .inl (gy g 14, n, .inr (.inl (fun _ => 0))) := by
      unfold ce
      rw [hL]
      show (Sum.inl (gy g 14, n, Sum.inr (Sum.inl (J t))) : va_E) = _
      rw [(h0 t (Nat.le_refl _)).2.1]
    rw [e7]
    show H1[gB g + t]? = some (vp_cell _ _)
    rw [vp_cell_l]
    exact e1
  have k9 := k p e s m args below meth c0 A F H1 locs la ⟨hP1, fun b hb1 hb2 => ?_, by show 1 ≤ t + 1; omega, htN⟩ ⟨by rw [z1, ← hsz]; exact Nat.le_succ_of_le h2.1, fun q g1 g2 => (o1 q (by rw [← hsz]; exact Nat.lt_of_lt_of_le g1 h2.1)).trans (h2.2.1 q g1 g2), h2.2.2⟩ h3
  · have e8 : (Value.ref t :: st).map (sv g) = .ref (gB g + t) :: st.map (sv g) := by show Value.ref (ad g t) :: _ = _; rw [ha]
    rw [e8] at k9
    exact k9
  · rcases Nat.lt_or_ge b t with q | q
    · exact h1.2.1 b hb1 q
    · have hb2 : b < t + 1 := hb2
      rw [show b = t by omega]
      exact F.2.2.2.2.2.2.2.2.2.2.1 _ (by rw [← hsz]; exact h2.1)
theorem Y_callI {μ' : mX} {d idx b : Nat} (hd : decode μ.2.1 pc = .ok (.invokespecial idx, 3)) (hf : IF μ.1.cls idx μ') (hr : (st.map fun v => v.category).sum ≤ 8) (hC : Cm g μ' d [.ref b] S none S') (h4 : Z.2.1 ≤ S.1) (hn9 : nc ≤ S.1 - Z.2.1) (hR : d + 1 ≤ Z.1.frames ∧ 8 + (40 + 11) + 64 * d ≤ Z.1.locals ∧ nc + (S'.1 - S.1 + 0) ≤ Z.1.cells ∧ ns + (sT S'.1 - sT S.1 + 6 * 0) ≤ Z.1.slots)
    (k : Y g μ Z (nc + (S'.1 - S.1 + 0)) (ns + (sT S'.1 - sT S.1 + 6 * 0)) (pc + 3) ls st S') : Y g μ Z nc ns pc ls (.ref b :: st) S := by
  intro p e s m args below meth c0 A F H locs la h1 h2 h3 T hT X
  have hz := size_eq h1 h2 h4 F.2.2.2.2.2.2.2.2.2.2.2.2 (Nat.le_trans (by rw [← hT]; exact X.heapSize) (Nat.add_le_add_left hn9 _))
  obtain ⟨hw, ⟨hw1, hw2, hw3⟩, hy, hmx, hin, hret⟩ := hf
  have hts := F.2.2.2.2.2.1
  have hcd : cdOf μ' = Cond.code μ'.1 μ'.2.1 μ'.2.2.1 none := by unfold cdOf; rw [hret]
  have run : va_Run p (gl g) e Z.1 s m args below meth c0 H locs nc ns (S'.1 - S.1 + 0) (sT S'.1 - sT S.1 + 6 * 0) (F0 m pc la (.ref (ad g b) :: st.map (sv g))) (st.map (sv g)) (Qc g (.inl none, S') (Aof g S.1 H.size) ([Value.ref (ad g b)]).toArray) (Aof g S.1 H.size) := by
    rcases hw with hw | hw
    · exact va_runI (As := []) (n := 0) (maxL := μ'.2.2.1) (bytes := μ'.2.1) (b := ad g b) (R := Z.1) (H := H) ⟨F.1, F.2.1, F.2.2.2.1, F.2.2.2.2.1, F.2.2.2.2.2.1⟩ (hC.2 H.size)
        (cwI 0 hts (gW_cons hw3) (by rw [hcd]) rfl rfl (hts _ hw2) (hts _ hw) (hts _ hw1) hin hy ⟨hR.1, by show 8 + (μ'.2.2.1 + 11) + 64 * d ≤ Z.1.locals; omega⟩)
        ⟨blind g _ S _, pre_ofY (As := [.ref b]) F h1 h2 hz⟩ rfl rfl h3.1 rfl (lv_room (by rw [rest_cat]; exact hr)) hd ⟨hR.2.2.1, hR.2.2.2⟩
    · exact va_runIN (As := []) (n := 0) (maxL := μ'.2.2.1) (bytes := μ'.2.1) (b := ad g b) (host := "BiteYears") (R := Z.1) (H := H) ⟨F.1, F.2.1, F.2.2.2.1, F.2.2.2.2.1, F.2.2.2.2.2.1⟩ (hC.2 H.size)
        ⟨va_cnB 0 hts (gW_cons hw3) (by rw [hcd]) rfl rfl (F.2.2.2.2.2.2.2.2.2.1.2.2.2.2.1.1 _ hw rfl) (hts _ hw2) hy ⟨hR.1, by show 8 + (μ'.2.2.1 + 11) + 64 * d ≤ Z.1.locals; omega⟩, hin, hts _ hw1⟩
        ⟨blind g _ S _, pre_ofY (As := [.ref b]) F h1 h2 hz⟩ rfl rfl h3.1 rfl (lv_room (by rw [rest_cat]; exact hr)) hd ⟨hR.2.2.1, hR.2.2.2⟩
  refine go_runY run h1 h2 F.2.2.2.2.2.2.2.2.2.2.1 (fun H1 locs1 g1 g2 => ?_) T hT X
  exact k p e s m args below meth c0 A F H1 locs1 la g1 g2 h3
end
