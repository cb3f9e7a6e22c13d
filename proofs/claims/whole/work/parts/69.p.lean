/-! the whole relation of class and reference -/
def rowA (M : HI) (r : Nat) : Nat → Int32 := fun k => M 210 (353 * r + k)
def slot (fr j : Nat) : Nat := (fr + 11 - j) % 12
def ActR (C M : HI) : Prop := ∃ m fr, m ≤ 12 ∧ fr < 12 ∧ C 17 0 = Int32.ofNat m ∧ C 17 1 = Int32.ofNat fr ∧ M 205 7 = Int32.ofNat m ∧ ∀ j, j < m → LR C (20 + 8 * slot fr j) (rowA M (m - 1 - j)) ∧ LogR C (26 + 8 * slot fr j) (rowA M (m - 1 - j)) ∧ (∃ n, WOk n (rowA M (m - 1 - j))) ∧ rowA M (m - 1 - j) 2 = M 206 2
def ImgR (C M : HI) : Prop := (C 1 10 = 0 ∧ M 205 6 = 0) ∨ (C 1 10 = 1 ∧ M 205 6 = 1 ∧ LR C 116 (M 207) ∧ LogR C 128 (M 207) ∧ LawR C 122 (M 207) ∧ ∃ n, WOk n (M 207))
def byI (v : Nat) : Int32 := if v < 128 then Int32.ofNat v else Int32.ofNat v - 256
def TapR (C M : HI) : Prop := ∃ T, T ≤ 400 ∧ C 1 1 = Int32.ofNat T ∧ M 205 9 = Int32.ofNat T ∧ ∀ i, i < T → ∃ v, v < 256 ∧ C 2 i = Int32.ofNat v ∧ M 211 i = byI v
def GR (C M : HI) (n : Nat) : Prop := (LR C 3 (M 206) ∧ WOk n (M 206) ∧ LogR C 15 (M 206) ∧ LawR C 9 (M 206)) ∧ ActR C M ∧ ImgR C M ∧ TapR C M ∧ C 1 2 = M 205 14
section
variable {C C' M M' : HI} {n : Nat}
theorem slot_lt (fr j : Nat) : slot fr j < 12 := Nat.mod_lt _ (by omega)
theorem ActR.congr (h : ActR C M) (hc : ∀ b, b = 17 ∨ (20 ≤ b ∧ b < 116) → C' b = C b) (h7 : M' 205 7 = M 205 7) (hm : M' 210 = M 210) (h2 : M' 206 2 = M 206 2) : ActR C' M' := by
  obtain ⟨m, fr, a1, a2, a3, a4, a5, a6⟩ := h
  refine ⟨m, fr, a1, a2, by rw [hc 17 (Or.inl rfl)]; exact a3, by rw [hc 17 (Or.inl rfl)]; exact a4, by rw [h7]; exact a5, fun j hj => ?_⟩
  obtain ⟨g1, g2, g3, g4⟩ := a6 j hj
  have hs := slot_lt fr j
  have e : rowA M' (m - 1 - j) = rowA M (m - 1 - j) := by unfold rowA; rw [hm]
  rw [e, h2]
  exact ⟨g1.congr (fun i hi => hc _ (Or.inr (by omega))), g2.congr (hc _ (Or.inr (by omega))) (hc _ (Or.inr (by omega))), g3, g4⟩
theorem ActR.none (C M : HI) (h0 : C 17 0 = 0) (h1 : ∃ fr, fr < 12 ∧ C 17 1 = Int32.ofNat fr) (h7 : M 205 7 = 0) : ActR C M := by
  obtain ⟨fr, h2, h3⟩ := h1
  exact ⟨0, fr, by omega, h2, h0, h3, h7, fun j hj => by omega⟩
theorem ImgR.congr (h : ImgR C M) (hc : ∀ b, 116 ≤ b → b < 130 → C' b = C b) (h10 : C' 1 10 = C 1 10) (h6 : M' 205 6 = M 205 6) (hm : M' 207 = M 207) : ImgR C' M' := by
  rcases h with ⟨a1, a2⟩ | ⟨a1, a2, a3, a4, a5, a6⟩
  · exact Or.inl ⟨by rw [h10]; exact a1, by rw [h6]; exact a2⟩
  · refine Or.inr ⟨by rw [h10]; exact a1, by rw [h6]; exact a2, ?_, ?_, ?_, ?_⟩
    · rw [hm]; exact a3.congr (fun j hj => hc _ (by omega) (by omega))
    · rw [hm]; exact a4.congr (hc _ (by omega) (by omega)) (hc _ (by omega) (by omega))
    · rw [hm]; exact a5.congr (fun j hj => hc _ (by omega) (by omega)) rfl (fun _ _ _ => rfl)
    · rw [hm]; exact a6
theorem TapR.congr (h : TapR C M) (h1 : C' 1 1 = C 1 1) (h2 : C' 2 = C 2) (h9 : M' 205 9 = M 205 9) (hm : M' 211 = M 211) : TapR C' M' := by
  obtain ⟨T, a1, a2, a3, a4⟩ := h
  exact ⟨T, a1, by rw [h1]; exact a2, by rw [h9]; exact a3, fun i hi => by rw [h2, hm]; exact a4 i hi⟩
/-- all that is read of the class's rows, and of the reference's -/
theorem GR.congr (h : GR C M n) (hc : ∀ b, b < 130 → b ≠ 14 → C' b = C b) (hm : ∀ b, 206 ≤ b → b ≤ 211 → b ≠ 208 → b ≠ 209 → M' b = M b) (h5 : ∀ k, k = 6 ∨ k = 7 ∨ k = 9 ∨ k = 14 → M' 205 k = M 205 k) : GR C' M' n := by
  obtain ⟨⟨g1, g2, g3, g4⟩, g5, g6, g7, g8⟩ := h
  have m6 := hm 206 (by omega) (by omega) (by omega) (by omega)
  refine ⟨⟨?_, ?_, ?_, ?_⟩, ?_, ?_, ?_, ?_⟩
  · rw [m6]; exact g1.congr (fun j hj => hc _ (by omega) (by omega))
  · rw [m6]; exact g2
  · rw [m6]; exact g3.congr (hc _ (by omega) (by omega)) (hc _ (by omega) (by omega))
  · rw [m6]; exact g4.congr (fun j hj => hc _ (by omega) (by omega)) rfl (fun _ _ _ => rfl)
  · exact g5.congr (fun b hb => hc b (by omega) (by omega)) (h5 7 (by omega)) (hm 210 (by omega) (by omega) (by omega) (by omega)) (by rw [m6])
  · exact g6.congr (fun b h1 h2 => hc b (by omega) (by omega)) (by rw [hc 1 (by omega) (by omega)]) (h5 6 (by omega)) (hm 207 (by omega) (by omega) (by omega) (by omega))
  · exact g7.congr (by rw [hc 1 (by omega) (by omega)]) (hc 2 (by omega) (by omega)) (h5 9 (by omega)) (hm 211 (by omega) (by omega) (by omega) (by omega))
  · rw [hc 1 (by omega) (by omega), h5 14 (by omega)]; exact g8
theorem GR.thr (h : GR C M n) (k : Int32) : GR C (up2 M 205 0 k) n := h.congr (fun _ _ _ => rfl) (fun b h1 _ _ _ => up2_ne _ _ _ (by omega)) (fun j hj => by rw [up2_get, if_neg (by omega)])
/-- both sides of the memory, as the law's run wants it -/
def Gd (I : HI) : Prop := ∃ n, GR I I n
def fcl (C C' : HI) : Prop := ∀ b, 205 ≤ b → C' b = C b
def fmo (M M' : HI) : Prop := ∀ b, b < 205 → M' b = M b
theorem fcl.refl (C : HI) : fcl C C := fun _ _ => rfl
theorem fmo.refl (M : HI) : fmo M M := fun _ _ => rfl
theorem fmo_thr (M : HI) (k : Int32) : fmo M (up2 M 205 0 k) := fun b hb => up2_ne _ _ _ (by omega)
theorem GR.onM (h : GR C M n) (hf : fcl M M') : GR C M' n := h.congr (fun _ _ _ => rfl) (fun b h1 _ _ _ => hf b (by omega)) (fun k _ => by rw [hf 205 (by omega)])
theorem GR.onC (h : GR C M n) (hf : fmo C C') : GR C' M n := h.congr (fun b hb _ => hf b (by omega)) (fun _ _ _ _ _ => rfl) (fun _ _ => rfl)
/-- from a two-state step to a step of Gd: the class first, then the reference over its memory -/
theorem conv {α β : Type} {F1 : HI → Option (α × HI)} {F2 : HI → Option (β × HI)} {Q : α → β → HI → Prop} {I : HI} (h : Gd I) (sim : ∀ C M n, GR C M n → ∃ r C' b M', F1 C = some (r, C') ∧ F2 M = some (b, M') ∧ Q r b M' ∧ (∃ n', GR C' M' n') ∧ fcl C C' ∧ fmo M M') : ∃ r I1 b I2, F1 I = some (r, I1) ∧ F2 I1 = some (b, I2) ∧ Q r b I2 ∧ Gd I2 := by
  obtain ⟨n, hG⟩ := h
  obtain ⟨r, C', b, M', e1, e2, e3, e4, e5, e6⟩ := sim I I n hG
  obtain ⟨r2, C2, b2, M2, q1, q2, q3, ⟨n', q4⟩, q5, q6⟩ := sim I C' n (hG.onM e5)
  rw [e1] at q1
  cases q1
  exact ⟨r, C', b2, M2, e1, q2, q3, n', q4.onC q6⟩
/-- remembering an act -/
theorem rem_sim (h : GR C M n) : ∃ C' M', F_X0_remember C 3 15 = some C' ∧ F_X12_remembers M = some M' ∧ GR C' M' n ∧ (∀ b, b ≠ 17 → (b < 20 ∨ 116 ≤ b) → C' b = C b) ∧ (∀ b, b ≠ 205 → b ≠ 210 → M' b = M b) ∧ (∀ k, k ≠ 7 → M' 205 k = M 205 k) := by
  obtain ⟨⟨g1, g2, g3, g4⟩, ⟨m, fr, a1, a2, a3, a4, a5, a6⟩, g6, g7, g8⟩ := h
  obtain ⟨M', m', r1, r2, r3, r4, r5, r6, r7, r8⟩ := m_remembers M a1 a5
  obtain ⟨C1, c1, c2, c3⟩ := cl_copyL (C := C) (a := 20 + 8 * fr) (b := 3) (fun i j hi hj => by omega)
  obtain ⟨C2, d1, d2, d3⟩ := cl_copyG (C := C1) (a := 26 + 8 * fr) (b := 15) (by omega) (by omega) (by omega)
  have f1 : ∀ b, b < 20 ∨ 116 ≤ b → C1 b = C b := fun b hb => c3 b (fun j hj => by omega)
  have f2 : ∀ b, b < 20 ∨ 116 ≤ b → C2 b = C b := fun b hb => by rw [d3 b (by omega) (by omega)]; exact f1 b hb
  have hkept : (if Int32.ofNat m + 1 < 12 then Int32.ofNat m + 1 else (12 : Int32)) = Int32.ofNat (m' + 1) := by
    rw [ofn_succ]
    by_cases q : m + 1 < 12
    · rw [if_pos (by rw [show (12 : Int32) = Int32.ofNat 12 from rfl, ofn_lt (by omega) (by omega)]; exact q), show m' = m by omega]
    · rw [if_neg (by rw [show (12 : Int32) = Int32.ofNat 12 from rfl, ofn_lt (by omega) (by omega)]; exact q), show m' + 1 = 12 by omega]
      rfl
  have hrem : F_X0_remember C 3 15 = some (up2 (up2 C2 17 1 (Int32.ofNat ((fr + 1) % 12))) 17 0 (Int32.ofNat (m' + 1))) := by
    unfold F_X0_remember
    rw [a4, if_neg (ofn_nneg (by omega)), if_neg (by rw [show (12 : Int32) = Int32.ofNat 12 from rfl, ofn_le (by omega) (by omega)]; omega), if_pos (inB_ofn a2 (by omega)), ofn_clamp (by omega), c1]
    simp only [Option.bind_eq_bind, Option.bind_some]
    rw [f1 17 (by omega), a4, if_pos (inB_ofn a2 (by omega)), ofn_clamp (by omega), d1]
    simp only [Option.bind_some]
    rw [f2 17 (by omega), a4, a3, hkept, ofn_succ, show (12 : Int32) = Int32.ofNat 12 from rfl, ofn_mod (by omega) (by omega) (by omega)]
  generalize hC3 : up2 (up2 C2 17 1 (Int32.ofNat ((fr + 1) % 12))) 17 0 (Int32.ofNat (m' + 1)) = C3 at hrem
  have f3 : ∀ b, b ≠ 17 → C3 b = C2 b := fun b hb => by rw [← hC3, up2_ne _ _ _ hb, up2_ne _ _ _ hb]
  have f4 : ∀ b, b ≠ 17 → (b < 20 ∨ 116 ≤ b) → C3 b = C b := fun b h1 h2 => by rw [f3 b h1, f2 b h2]
  have m6 : M' 206 = M 206 := r7 206 (by omega) (by omega)
  refine ⟨C3, M', hrem, r1, ⟨⟨?_, ?_, ?_, ?_⟩, ?_, ?_, ?_, ?_⟩, f4, r7, r8⟩
  · rw [m6]; exact g1.congr (fun j hj => f4 _ (by omega) (by omega))
  · rw [m6]; exact g2
  · rw [m6]; exact g3.congr (f4 _ (by omega) (by omega)) (f4 _ (by omega) (by omega))
  · rw [m6]; exact g4.congr (fun j hj => f4 _ (by omega) (by omega)) rfl (fun _ _ _ => rfl)
  · have hfr : (fr + 1) % 12 < 12 := Nat.mod_lt _ (by omega)
    refine ⟨m' + 1, (fr + 1) % 12, by omega, hfr, by rw [← hC3, up2_get, if_pos ⟨rfl, rfl⟩], by rw [← hC3, up2_get, if_neg (by omega), up2_get, if_pos ⟨rfl, rfl⟩], r3, fun j hj => ?_⟩
    rcases j with _ | j
    · have es : slot ((fr + 1) % 12) 0 = fr := by unfold slot; omega
      have er : ∀ k, k < 353 → rowA M' (m' + 1 - 1 - 0) k = M 206 k := fun k hk => by unfold rowA; rw [show m' + 1 - 1 - 0 = m' by omega]; exact r5 k hk
      rw [es]
      refine ⟨?_, ?_, ⟨n, g2.congr (fun k h1 _ => er k (by omega)) ?_⟩, by rw [er 2 (by omega), m6]⟩
      · have := (c2 (M 206) g1).congrW (W' := rowA M' (m' + 1 - 1 - 0)) (fun k h1 _ => er k (by omega))
        exact this.congr (fun i hi => by rw [f3 _ (by omega), d3 _ (by omega) (by omega)])
      · have g3' : LogR C1 15 (M 206) := g3.congr (f1 _ (by omega)) (f1 _ (by omega))
        have := (d2 (M 206) g3').congrW (W' := rowA M' (m' + 1 - 1 - 0)) (er 15 (by omega)) (fun k h1 h2 => er k (by omega))
        exact this.congr (f3 _ (by omega)) (f3 _ (by omega))
      · obtain ⟨q, q1, q2⟩ := g2.2.2.2.2.2.2.2.2.2.2.2.2.2
        exact ⟨q, q1, by rw [er 15 (by omega)]; exact q2⟩
    · have hjm : j < m := by omega
      obtain ⟨p1, p2, ⟨np, p3⟩, p4⟩ := a6 j hjm
      have es : slot ((fr + 1) % 12) (j + 1) = slot fr j := by unfold slot; omega
      have hs := slot_lt fr j
      have hne : slot fr j ≠ fr := by unfold slot; omega
      have er : ∀ k, k < 353 → rowA M' (m' + 1 - 1 - (j + 1)) k = rowA M (m - 1 - j) k := fun k hk => by
        unfold rowA
        have := r6 j k (by omega) hk
        rw [show m' + 1 - 1 - (j + 1) = m' - 1 - j by omega]
        exact this
      have fc : ∀ i, i < 8 → C3 (20 + 8 * slot fr j + i) = C (20 + 8 * slot fr j + i) := fun i hi => by
        rw [f3 _ (by omega), d3 _ (by omega) (by omega), c3 _ (fun i2 hi2 => by omega)]
      rw [es]
      refine ⟨?_, ?_, ⟨np, p3.congr (fun k h1 _ => er k (by omega)) ?_⟩, by rw [er 2 (by omega), m6]; exact p4⟩
      · exact (p1.congrW (W' := rowA M' (m' + 1 - 1 - (j + 1))) (fun k h1 _ => er k (by omega))).congr (fun i hi => fc i (by omega))
      · exact (p2.congrW (W' := rowA M' (m' + 1 - 1 - (j + 1))) (er 15 (by omega)) (fun k h1 h2 => er k (by omega))).congr (by have := fc 6 (by omega); rw [show 20 + 8 * slot fr j + 6 = 26 + 8 * slot fr j by omega] at this; exact this) (by have := fc 7 (by omega); rw [show 20 + 8 * slot fr j + 7 = 26 + 8 * slot fr j + 1 by omega] at this; exact this)
      · obtain ⟨q, q1, q2⟩ := p3.2.2.2.2.2.2.2.2.2.2.2.2.2
        exact ⟨q, q1, by rw [er 15 (by omega)]; exact q2⟩
  · exact g6.congr (fun b h1 h2 => f4 b (by omega) (by omega)) (by rw [f4 1 (by omega) (by omega)]) (r8 6 (by omega)) (r7 207 (by omega) (by omega))
  · exact g7.congr (by rw [f4 1 (by omega) (by omega)]) (f4 2 (by omega) (by omega)) (r8 9 (by omega)) (r7 211 (by omega) (by omega))
  · rw [f4 1 (by omega) (by omega), r8 14 (by omega)]; exact g8
end
