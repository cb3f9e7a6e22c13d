/-! making cells: the next relative address is the top -/
section
variable {g : gX} {μ : mX} {d pc : Nat} {tt : tX} {R : rX} {ls ls' : List (Option Value)} {st : List Value} {S S' : hS} {t : Nat} {I : Nat → Nat → Int32} {J : Nat → Nat → Int64} {P : Nat → Nat → Option Nat}
theorem dm_succ {g : gX} {t : Nat} (h : 1 ≤ t) : dm g (t + 1) = dm g t ++ [gB g + t] := by
  unfold dm
  rw [show t + 1 - 1 = (t - 1) + 1 by omega, List.range_succ, List.map_append]
  show _ ++ [gB g + (t - 1 + 1)] = _
  rw [show t - 1 + 1 = t by omega]
theorem wl_succ {g : gX} {t : Nat} {I : Nat → Nat → Int32} {J : Nat → Nat → Int64} {P : Nat → Nat → Option Nat} (h : 1 ≤ t) : wl g (t + 1, I, J, P) = wl g (t, I, J, P) ++ [(gB g + t, ce g (t, I, J, P) t)] := by
  unfold wl va_pl
  show (dm g (t + 1)).map _ = (dm g t).map _ ++ _
  rw [dm_succ h, List.map_append]
  show _ ++ [(gB g + t, ce g (t + 1, I, J, P) (gB g + t - gB g))] = _
  rw [Nat.add_sub_cancel_left]
  rfl
/-- nothing is laid yet at t -/
def zr (t : Nat) (I : Nat → Nat → Int32) (J : Nat → Nat → Int64) (P : Nat → Nat → Option Nat) : Prop := ∀ a, t ≤ a → I a = (fun _ => 0) ∧ J a = (fun _ => 0) ∧ P a = (fun _ => none)
/-- class c's fields begin as the type says -/
def ZF (c : Nat) : Prop := ∀ k, k < cN c → defaultValue (fT c k) = if isR c k then .null else .int 0
theorem M_new {idx c : Nat} (hd : decode μ.2.1 pc = .ok (.new idx, 3)) (hf : CF c) (hz : ZF c) (hc : c < 12) (hl : Cond.classLink μ.1.cls idx (cC c) ∈ gW) (hL : LT t = (c, cN c)) (ht : t < tt.2.1) (htN : t < NT) (h0 : zr t I J P)
    (k : M g μ d tt R (pc + 3) ls (.ref t :: st) (t + 1, I, J, P)) : M g μ d tt R pc ls st (t, I, J, P) := by
  intro p e s m args below meth c0 A F H locs la h1 h2 h3 h4 h5 T hT X
  have hsz := size_eq h1 h2 h4 F.2.2.2.2.2.2.2.2.2.2.2.2 (by rw [← hT]; exact X.heapSize) htN
  have hsz : H.size = gB g + t := hsz
  have hts := F.2.2.2.2.2.1
  have hO := F.2.2.2.2.2.2.2.2.2.1
  have hKn := hO.1.1 c _ hf.1
  have hs1 := sT_mono h4
  have hs2 : sT (t + 1) ≤ sT tt.2.1 := sT_mono ht
  have hs3 : sT (t + 1) = sT t + cN c := by rw [sT_succ, hL]
  have h4' : tt.1 ≤ t := h4
  have hs1' : sT tt.1 ≤ sT t := hs1
  refine W.newcK (g := F0 m pc la (st.map (sv g))) (n := cN c) F.1 F.2.1 F.2.2.2.2.1 (hts _ hl) (hts _ hf.2.2.2.2.1) (hts _ hf.2.2.2.2.2) rfl hd (by show t - tt.1 + 1 ≤ tt.2.1 - tt.1 + tt.2.2; omega) (by show sT t - sT tt.1 + cN c ≤ sT tt.2.1 - sT tt.1 + 6 * tt.2.2; omega) hKn.2.1 hsz (fun H1 kC hkC e1 z1 o1 => ?_) T hT X
  have ha : ad g t = gB g + t := ad_cell h1.2.2.1 htN
  have hP1 : va_P (gD g) vwCl (wl g (t + 1, I, J, P)) H1 := by
    rw [wl_succ h1.2.2.1]
    refine (h1.1.kept (fun k x hx => o1 x.1 (by rw [← hsz]; exact (h1.1 k x hx).lt))).app (fun k x hx => ?_)
    have hzk : k < 1 := (List.getElem?_eq_some_iff.mp hx).1
    rw [show k = 0 by omega] at hx
    cases hx
    show va_at _ _ (gB g + t, ce g (t, I, J, P) t) H1
    have e7 : ce g (t, I, J, P) t = .inr (c, (List.range (cN c)).map (fv g (t, I, J, P) t)) := by
      unfold ce
      rw [hL, if_pos hc]
    rw [e7]
    refine ⟨_, hf.1, (u_born (fT c) hts hf.2.1 hKn hkC e1 hf.2.2.1).to (fun j hj => ?_)⟩
    show defaultValue (fT c j) = ((List.range (cN c)).map (fv g (t, I, J, P) t)).getD j .null
    rw [List.getD_eq_getElem?_getD, fs_get hj, hz j hj]
    show _ = fv g (t, I, J, P) t j
    unfold fv
    rw [hL]
    show _ = if isR c j then va_rf ((P t j).map (ad g)) else Value.int (I t j)
    rw [(h0 t (Nat.le_refl _)).1, (h0 t (Nat.le_refl _)).2.2]
    rfl
  have k9 := k p e s m args below meth c0 A F H1 locs la ⟨hP1, fun b hb1 hb2 => ?_, by show 1 ≤ t + 1; omega, htN⟩ ⟨by rw [z1, ← hsz]; exact Nat.le_succ_of_le h2.1, fun q g1 g2 => (o1 q (by rw [← hsz]; exact Nat.lt_of_lt_of_le g1 h2.1)).trans (h2.2.1 q g1 g2), h2.2.2⟩ h3 (by show tt.1 ≤ t + 1; omega) ht
  · have e8 : (Value.ref t :: st).map (sv g) = .ref (gB g + t) :: st.map (sv g) := by show Value.ref (ad g t) :: _ = _; rw [ha]
    rw [e8] at k9
    have k9' : W p (gl g) e (rm d tt) s m args below meth c0 H1 locs (t + 1 - tt.1) (sT (t + 1) - sT tt.1) (vx_MQ below (Qc g R A) (XC g R A) args s (tt.2.1 - tt.1 + tt.2.2) (sT tt.2.1 - sT tt.1 + 6 * tt.2.2) A) (F0 m (pc + 3) la (.ref (gB g + t) :: st.map (sv g))) := k9
    rw [show t + 1 - tt.1 = t - tt.1 + 1 by omega, show sT (t + 1) - sT tt.1 = sT t - sT tt.1 + cN c by omega] at k9'
    exact k9'
  · rcases Nat.lt_or_ge b t with q | q
    · exact h1.2.1 b hb1 q
    · have hb2 : b < t + 1 := hb2
      rw [show b = t by omega]
      exact F.2.2.2.2.2.2.2.2.2.2.1 _ (by rw [← hsz]; exact h2.1)
end
