section
variable {C C' M M' : HI} {n n' a d : Nat} {x1 x2 x3 x4 : Int32} {W : Nat → Int32}
theorem updR_ne {k p : Nat} {v : Int32} (h : k ≠ p) : updR W p v k = W k := by unfold updR; rw [if_neg h]
theorem updR_self {p : Nat} {v : Int32} : updR W p v p = v := by unfold updR; rw [if_pos rfl]
/-- one of the lady's numbers is set on both sides -/
theorem LR.set (hL : LR C a W) {x : Int32} {ci wi : Nat} (hp : (ci = 7 ∧ wi = 8) ∨ (ci = 11 ∧ wi = 12) ∨ (ci = 14 ∧ wi = 16)) : LR (up2 C a ci x) a (updR W wi x) := by
  obtain ⟨⟨l1, l2, l3, l4, l5, l6, l7, l8, l9, l10, l11, l12, l13, l14⟩, hD⟩ := hL
  have hD2 : DR (up2 C a ci x) (a + 1) (updR W wi x) := by
    have := hD.congr (C' := up2 C a ci x) (fun j hj => up2_ne _ _ _ (by omega))
    refine ⟨by rw [updR_ne (by omega)]; exact this.1, fun d hd => ⟨fun k hk => ?_, ?_, ?_, ?_⟩⟩
    · rw [updR_ne (by omega)]; exact (this.2 d hd).1 k hk
    · rw [updR_ne (by omega)]; exact (this.2 d hd).2.1
    · rw [updR_ne (by omega)]; exact (this.2 d hd).2.2.1
    · rw [updR_ne (by omega)]; exact (this.2 d hd).2.2.2
  rcases hp with ⟨rfl, rfl⟩ | ⟨rfl, rfl⟩ | ⟨rfl, rfl⟩
  · exact ⟨⟨by simp [up2_get, updR, l1], by simp [up2_get, updR, l2], by simp [up2_get, updR, l3], by simp [up2_get, updR, l4], by simp [up2_get, updR, l5], by simp [up2_get, updR, l6], by simp [up2_get, updR], by simp [up2_get, updR, l8], by simp [up2_get, updR, l9], by simp [up2_get, updR, l10], by simp [up2_get, updR, l11], by simp [up2_get, updR, l12], by simp [up2_get, updR, l13], by simp [up2_get, updR, l14]⟩, hD2⟩
  · exact ⟨⟨by simp [up2_get, updR, l1], by simp [up2_get, updR, l2], by simp [up2_get, updR, l3], by simp [up2_get, updR, l4], by simp [up2_get, updR, l5], by simp [up2_get, updR, l6], by simp [up2_get, updR, l7], by simp [up2_get, updR, l8], by simp [up2_get, updR, l9], by simp [up2_get, updR, l10], by simp [up2_get, updR], by simp [up2_get, updR, l12], by simp [up2_get, updR, l13], by simp [up2_get, updR, l14]⟩, hD2⟩
  · exact ⟨⟨by simp [up2_get, updR, l1], by simp [up2_get, updR, l2], by simp [up2_get, updR, l3], by simp [up2_get, updR, l4], by simp [up2_get, updR, l5], by simp [up2_get, updR, l6], by simp [up2_get, updR, l7], by simp [up2_get, updR, l8], by simp [up2_get, updR, l9], by simp [up2_get, updR, l10], by simp [up2_get, updR, l11], by simp [up2_get, updR, l12], by simp [up2_get, updR, l13], by simp [up2_get, updR]⟩, hD2⟩
theorem WOk.set (h : WOk n W) {x : Int32} {wi : Nat} (hp : (wi = 8 ∧ rg x 0 45) ∨ (wi = 12 ∧ rg x 0 7) ∨ wi = 16) : WOk n (updR W wi x) := by
  obtain ⟨⟨d1, d2, d3⟩, w1, w3, w4, w5, w7, w8, w9, w10, w11, w12, w13, w14, w15⟩ := h
  refine ⟨⟨?_, d2, fun e he => ⟨fun k hk => ?_, ?_, ?_, ?_⟩⟩, ?_, ?_, ?_, ?_, ?_, ?_, ?_, ?_, ?_, ?_, ?_, ?_, ?_⟩
  · rw [updR_ne (by omega)]; exact d1
  · rw [updR_ne (by omega)]; exact (d3 e he).1 k hk
  · rw [updR_ne (by omega)]; exact (d3 e he).2.1
  · rw [updR_ne (by omega)]; exact (d3 e he).2.2.1
  · rw [updR_ne (by omega)]; exact (d3 e he).2.2.2
  · rw [updR_ne (by omega)]; exact w1
  · rw [updR_ne (by omega)]; exact w3
  · rw [updR_ne (by omega)]; exact w4
  · rw [updR_ne (by omega)]; exact w5
  · rw [updR_ne (by omega)]; exact w7
  · by_cases q : wi = 8
    · subst q; rw [updR_self]
      rcases hp with ⟨-, q2⟩ | ⟨q2, -⟩ | q2
      · exact q2
      · omega
      · omega
    · rw [updR_ne (fun z => q z.symm)]; exact w8
  · rw [updR_ne (by omega)]; exact w9
  · rw [updR_ne (by omega)]; exact w10
  · rw [updR_ne (by omega)]; exact w11
  · by_cases q : wi = 12
    · subst q; rw [updR_self]
      rcases hp with ⟨q2, -⟩ | ⟨-, q2⟩ | q2
      · omega
      · exact q2
      · omega
    · rw [updR_ne (fun z => q z.symm)]; exact w12
  · rw [updR_ne (by omega)]; exact w13
  · rw [updR_ne (by omega)]; exact w14
  · rw [updR_ne (by omega)]; exact w15
theorem GR.set (h : GR C M n) {x : Int32} {ci wi : Nat} (hp : (ci = 7 ∧ wi = 8 ∧ rg x 0 45) ∨ (ci = 11 ∧ wi = 12 ∧ rg x 0 7) ∨ (ci = 14 ∧ wi = 16)) : GR (up2 C 3 ci x) (up2 M 206 wi x) n := by
  have e : (up2 M 206 wi x) 206 = updR (M 206) wi x := upd_row _ _ _ _
  obtain ⟨s1, s2, s3⟩ := h.R.step ap3 (C' := up2 C 3 ci x) (M' := up2 M 206 wi x) (by rw [e]; exact h.1.1.set (by omega)) (by rw [e]; exact h.1.2.1.set (by rcases hp with q | q | q; exact Or.inl q.2; exact Or.inr (Or.inl q.2); exact Or.inr (Or.inr q.2))) (fun b hb => up2_ne _ _ _ hb) (fun b hb => up2_ne _ _ _ hb) (fun k hk => by rw [e, updR_ne (by omega)])
  exact h.run s1 s2 s3
theorem s_reach (h : GR C M n) : ∃ r C' b M', F_X11_reach C x1 = some (r, C') ∧ F_X12_reach M x1 = some (b, M') ∧ Qs ["java/lang/IllegalArgumentException"] r b M' ∧ (∃ n', GR C' M' n') ∧ fcl C C' ∧ fmo M M' := by
  unfold F_X11_reach F_X12_reach F_X12_in
  by_cases q1 : x1 < 0
  · rw [if_pos q1, if_pos q1]
    simp only [Option.bind_eq_bind, Option.bind_some, m_thr1, i10, if_true, if_false]
    rw [M0_up]
    exact ⟨_, _, _, _, rfl, rfl, ⟨1, rfl, 0, rfl, rfl⟩, ⟨n, h.thr 1⟩, fcl.refl _, fmo_thr _ _⟩
  · by_cases q2 : (45 : Int32) < x1
    · rw [if_neg q1, if_neg (by rw [ti_lt] at q2; rw [ti_le]; omega), if_neg q1, if_pos q2]
      simp only [Option.bind_eq_bind, Option.bind_some, m_thr1, i10, if_true, if_false]
      rw [M0_up]
      exact ⟨_, _, _, _, rfl, rfl, ⟨1, rfl, 0, rfl, rfl⟩, ⟨n, h.thr 1⟩, fcl.refl _, fmo_thr _ _⟩
    · rw [if_neg q1, if_pos (by rw [ti_lt] at q2; rw [ti_le]; omega), if_neg q1, if_neg q2]
      simp only [Option.bind_eq_bind, Option.bind_some, m_thr0, i10, if_true, if_false]
      obtain ⟨C1, M1, e1, e2, e3, e4, e5, e6⟩ := rem0 h
      rw [e1, e2]
      simp only [Option.bind_some]
      refine ⟨_, _, _, _, rfl, rfl, ⟨0, ?_, rfl, e3.1.1.1.2.2.2.2.2.2.1⟩, ⟨n, e3.set (Or.inl ⟨rfl, rfl, ?_⟩)⟩, e4.trans (fun b hb => up2_ne _ _ _ (by omega)), e5.trans (fun b hb => up2_ne _ _ _ (by omega))⟩
      · rw [thrn, up2_ne _ _ _ (by omega), e6]
      · rw [ti_lt, ti_0] at q1; rw [ti_lt, ti_45] at q2; exact ⟨by omega, by omega⟩
theorem s_house (h : GR C M n) : ∃ r C' b M', F_X11_house C x1 = some (r, C') ∧ F_X12_house M x1 = some (b, M') ∧ Qs ["java/lang/IndexOutOfBoundsException"] r b M' ∧ (∃ n', GR C' M' n') ∧ fcl C C' ∧ fmo M M' := by
  unfold F_X11_house F_X12_house
  rcases pl_cases x1 with q | q
  · rw [cl_pl q, m_pl q]
    simp only [Option.bind_eq_bind, Option.bind_some, m_thr0, i10, if_true, if_false]
    obtain ⟨C1, M1, e1, e2, e3, e4, e5, e6⟩ := rem0 h
    rw [e1, e2]
    simp only [Option.bind_some]
    refine ⟨_, _, _, _, rfl, rfl, ⟨0, ?_, rfl, e3.1.1.1.2.2.2.2.2.2.2.2.2.2.1⟩, ⟨n, e3.set (Or.inr (Or.inl ⟨rfl, rfl, ?_⟩))⟩, e4.trans (fun b hb => up2_ne _ _ _ (by omega)), e5.trans (fun b hb => up2_ne _ _ _ (by omega))⟩
    · rw [thrn, up2_ne _ _ _ (by omega), e6]
    · obtain ⟨q1, q2⟩ := q
      rw [ti_lt, ti_0] at q1; rw [ti_lt, ti_7] at q2; exact ⟨by omega, by omega⟩
  · rw [cl_plN q, m_plN q]
    simp only [Option.bind_eq_bind, Option.bind_some, m_thr1, i10, if_true, if_false]
    rw [M0_up]
    exact ⟨_, _, _, _, rfl, rfl, ⟨1, rfl, 0, rfl, rfl⟩, ⟨n, h.thr 1⟩, fcl.refl _, fmo_thr _ _⟩
theorem s_seed (h : GR C M n) : ∃ r C' b M', F_X11_seed C x1 = some (r, C') ∧ F_X12_seed M x1 = some (b, M') ∧ r = b ∧ (∃ n', GR C' M' n') ∧ fcl C C' ∧ fmo M M' := by
  unfold F_X11_seed F_X12_seed
  refine ⟨_, _, _, _, rfl, rfl, h.1.1.1.2.2.2.2.2.2.2.2.2.2.2.2.2, ⟨n, (h.thr 0).set (Or.inr (Or.inr ⟨rfl, rfl⟩))⟩, fun b hb => up2_ne _ _ _ (by omega), fun b hb => ?_⟩
  rw [up2_ne _ _ _ (by omega), up2_ne _ _ _ (by omega)]
/-- a dish is told, on both sides -/
def tdW (W : Nat → Int32) (d : Nat) (y p c : Int32) : Nat → Int32 := fun k => if k = 22 + 8 * d then y else if k = 23 + 8 * d then p else if k = 24 + 8 * d then c else W k
theorem tdW_ne {y p c : Int32} {k : Nat} (h1 : k ≠ 22 + 8 * d) (h2 : k ≠ 23 + 8 * d) (h3 : k ≠ 24 + 8 * d) : tdW W d y p c k = W k := by unfold tdW; rw [if_neg h1, if_neg h2, if_neg h3]
theorem cl_tell (hL : LR C a W) (hD : DOk n W) (hd : d < n) (y p c : Int32) : ∃ C', F_X1_tell C (a + 1) (Int32.ofNat d) y p c = some C' ∧ LR C' a (tdW W d y p c) ∧ ∀ b, (∀ j, j < 6 → b ≠ a + j) → C' b = C b := by
  have hn := hD.2.1
  unfold F_X1_tell
  rw [cl_has hL.2 hD hd]
  simp only [Option.bind_eq_bind, Option.bind_some, i10, if_false, inB_ofn (show d < 12 by omega) (show d < 2147483648 by omega), if_true, ofn_clamp (show d < 2147483648 by omega)]
  refine ⟨_, rfl, ?_, fun b hb => ?_⟩
  · obtain ⟨hs, h0, hd4⟩ := hL
    have z1 : ¬ a = a + 1 + 2 := by omega
    have z2 : ¬ a = a + 1 + 3 := by omega
    have z3 : ¬ a = a + 1 + 4 := by omega
    have lo : ∀ k, k < 17 → tdW W d y p c k = W k := fun k hk => tdW_ne (by omega) (by omega) (by omega)
    have ra : (up2 (up2 (up2 C (a + 1 + 2) d y) (a + 1 + 3) d p) (a + 1 + 4) d c) a = C a := by rw [up2_ne _ _ _ z3, up2_ne _ _ _ z2, up2_ne _ _ _ z1]
    refine ⟨?_, ?_, fun e he => ⟨fun k hk => ?_, ?_, ?_, ?_⟩⟩
    · rw [ra]
      simp only [lo 1 (by omega), lo 3 (by omega), lo 4 (by omega), lo 5 (by omega), lo 6 (by omega), lo 7 (by omega), lo 8 (by omega), lo 9 (by omega), lo 10 (by omega), lo 11 (by omega), lo 12 (by omega), lo 13 (by omega), lo 14 (by omega), lo 16 (by omega)]
      exact hs
    · rw [up2_ne _ _ _ (by omega), up2_ne _ _ _ (by omega), up2_ne _ _ _ (by omega), lo 0 (by omega)]; exact h0
    · rw [up2_ne _ _ _ (by omega), up2_ne _ _ _ (by omega), up2_ne _ _ _ (by omega), tdW_ne (by omega) (by omega) (by omega)]; exact (hd4 e he).1 k hk
    · rw [up2_ne _ _ _ (by omega), up2_ne _ _ _ (by omega), up2_get]
      by_cases q : e = d
      · subst q; rw [if_pos ⟨rfl, rfl⟩]; unfold tdW; rw [if_pos rfl]
      · rw [if_neg (fun w => q w.2), tdW_ne (by omega) (by omega) (by omega)]; exact (hd4 e he).2.1
    · rw [up2_ne _ _ _ (by omega), up2_get]
      by_cases q : e = d
      · subst q; rw [if_pos ⟨rfl, rfl⟩]; unfold tdW; rw [if_neg (by omega), if_pos rfl]
      · rw [if_neg (fun w => q w.2), up2_ne _ _ _ (by omega), tdW_ne (by omega) (by omega) (by omega)]; exact (hd4 e he).2.2.1
    · rw [up2_get]
      by_cases q : e = d
      · subst q; rw [if_pos ⟨rfl, rfl⟩]; unfold tdW; rw [if_neg (by omega), if_neg (by omega), if_pos rfl]
      · rw [if_neg (fun w => q w.2), up2_ne _ _ _ (by omega), up2_ne _ _ _ (by omega), tdW_ne (by omega) (by omega) (by omega)]; exact (hd4 e he).2.2.2
  · have b3 : b ≠ a + 1 + 2 := hb 3 (by omega)
    have b4 : b ≠ a + 1 + 3 := hb 4 (by omega)
    have b5 : b ≠ a + 1 + 4 := hb 5 (by omega)
    rw [up2_ne _ _ _ b5, up2_ne _ _ _ b4, up2_ne _ _ _ b3]
theorem tdW_ok {y p c : Int32} (h : WOk n W) (hy : rg y (-1) 9999) (hp : rg p (-1) 7) (hc : rg c (-1) 7) : WOk n (tdW W d y p c) := by
  obtain ⟨⟨d1, d2, d3⟩, w1, w3, w4, w5, w7, w8, w9, w10, w11, w12, w13, w14, w15⟩ := h
  have lo : ∀ k, k < 17 → tdW W d y p c k = W k := fun k hk => tdW_ne (by omega) (by omega) (by omega)
  refine ⟨⟨?_, d2, fun e he => ⟨fun k hk => ?_, ?_, ?_, ?_⟩⟩, ?_, ?_, ?_, ?_, ?_, ?_, ?_, ?_, ?_, ?_, ?_, ?_, ?_⟩
  · rw [lo _ (by omega)]; exact d1
  · rw [tdW_ne (by omega) (by omega) (by omega)]; exact (d3 e he).1 k hk
  · unfold tdW; split
    · exact hy
    · rw [if_neg (by omega), if_neg (by omega)]; exact (d3 e he).2.1
  · unfold tdW; rw [if_neg (by omega)]; split
    · exact hp
    · rw [if_neg (by omega)]; exact (d3 e he).2.2.1
  · unfold tdW; rw [if_neg (by omega), if_neg (by omega)]; split
    · exact hc
    · exact (d3 e he).2.2.2
  all_goals rw [lo _ (by omega)]
  · exact w1
  · exact w3
  · exact w4
  · exact w5
  · exact w7
  · exact w8
  · exact w9
  · exact w10
  · exact w11
  · exact w12
  · exact w13
  · exact w14
  · exact w15
theorem GR.tell (h : GR C M n) (hd : d < n) {y p c : Int32} (hy : rg y (-1) 9999) (hp : rg p (-1) 7) (hc : rg c (-1) 7) (hM : M' 206 = tdW (M 206) d y p c) (hm : ∀ b, b ≠ 206 → M' b = M b) : ∃ C', F_X1_tell C 4 (Int32.ofNat d) y p c = some C' ∧ GR C' M' n ∧ fcl C C' := by
  have hn := h.1.2.1.1.2.1
  obtain ⟨C', e1, e2, e3⟩ := cl_tell h.1.1 h.1.2.1.1 hd y p c
  obtain ⟨s1, s2, s3⟩ := h.R.step6 ap3 (C' := C') (M' := M') (by rw [hM]; exact e2) (by rw [hM]; exact tdW_ok h.1.2.1 hy hp hc) e3 hm (fun k hk => by rw [hM]; exact tdW_ne (by omega) (by omega) (by omega))
  exact ⟨C', e1, h.run s1 s2 s3, s2.fcl⟩
theorem m_tdW (hd : d < 12) (y p c : Int32) : (up2 (up2 (up2 M 206 (17 + 8 * d + 5) y) 206 (17 + 8 * d + 6) p) 206 (17 + 8 * d + 7) c) 206 = tdW (M 206) d y p c := by
  funext k
  simp only [up2_get, true_and]
  unfold tdW
  by_cases q7 : k = 17 + 8 * d + 7
  · rw [if_pos q7, if_neg (by omega), if_neg (by omega), if_pos (by omega)]
  · by_cases q6 : k = 17 + 8 * d + 6
    · rw [if_neg q7, if_pos q6, if_neg (by omega), if_pos (by omega)]
    · by_cases q5 : k = 17 + 8 * d + 5
      · rw [if_neg q7, if_neg q6, if_pos q5, if_pos (by omega)]
      · rw [if_neg q7, if_neg q6, if_neg q5, if_neg (by omega), if_neg (by omega), if_neg (by omega)]
end
