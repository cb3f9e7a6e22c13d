section
variable {C C' M M' : HI} {n n' a d : Nat} {x x1 x2 x3 x4 lo hi : Int32} {W W' : Nat → Int32}
theorem s_image (h : GR C M n) : ∃ C' M', F_X11_image C = some C' ∧ F_X12_image M = some M' ∧ (∃ n', GR C' M' n') ∧ fcl C C' ∧ fmo M M' := by
  obtain ⟨⟨g1, g2, g3, g4⟩, g5, g6, g7, g8⟩ := h
  obtain ⟨C1, c1, c2, c3⟩ := cl_copyL (C := C) (a := 116) (b := 3) (fun i j hi hj => by omega)
  obtain ⟨C2, d1, d0, d2, d3⟩ := cl_copyW (C := C1) (a := 122) (b := 9) (fun i j hi hj => by omega)
  obtain ⟨C3, e1, e2, e3⟩ := cl_copyG (C := C2) (a := 128) (b := 15) (by omega) (by omega) (by omega)
  have hcl : F_X11_image C = some (up2 C3 1 10 1) := by
    unfold F_X11_image
    rw [c1, Option.bind_eq_bind, Option.bind_some, d1, Option.bind_some, e1]
    rfl
  have f1 : ∀ b, b < 116 ∨ 122 ≤ b → C1 b = C b := fun b hb => c3 b (fun j hj => by omega)
  have f2 : ∀ b, b < 122 ∨ 127 ≤ b → C2 b = C1 b := fun b hb => d3 b (fun j hj => by omega)
  have f3 : ∀ b, b ≠ 1 → b < 116 ∨ 130 ≤ b → (up2 C3 1 10 1) b = C b := fun b h1 h2 => by rw [up2_ne _ _ _ h1, e3 b (by omega) (by omega), f2 b (by omega), f1 b (by omega)]
  have fr1 : ∀ k, k ≠ 10 → (up2 C3 1 10 1) 1 k = C 1 k := fun k hk => by rw [up2_get, if_neg (fun q => hk q.2), e3 1 (by omega) (by omega), f2 1 (by omega), f1 1 (by omega)]
  have w7 : ∀ k, k < 1202 → (up2 (cpR (M0 M) 207 0 206 0 1202) 205 6 1) 207 k = M 206 k := fun k hk => by
    rw [up2_ne _ _ _ (by decide), cpR_in _ (by omega)]
    show M 206 (0 + (k - 0)) = _
    rw [Nat.zero_add, Nat.sub_zero]
  have wb : ∀ b, b ≠ 205 → b ≠ 207 → (up2 (cpR (M0 M) 207 0 206 0 1202) 205 6 1) b = M b := fun b h1 h2 => by
    rw [up2_ne _ _ _ h1, cpR_ne _ h2]; exact up2_ne _ _ _ h1
  have w5 : ∀ k, k ≠ 0 → k ≠ 6 → (up2 (cpR (M0 M) 207 0 206 0 1202) 205 6 1) 205 k = M 205 k := fun k h1 h2 => by
    rw [up2_get, if_neg (fun q => h2 q.2), cpR_ne _ (by decide)]
    show up2 M 205 0 0 205 k = _
    rw [up2_get, if_neg (fun q => h1 q.2)]
  refine ⟨_, _, hcl, m_image M, ⟨n, ?_⟩, fun b hb => f3 b (by omega) (by omega), fun b hb => wb b (by omega) (by omega)⟩
  generalize hM' : up2 (cpR (M0 M) 207 0 206 0 1202) 205 6 1 = M' at w7 wb w5 ⊢
  have m6 : M' 206 = M 206 := wb 206 (by omega) (by omega)
  generalize hC' : up2 C3 1 10 1 = C' at f3 fr1 ⊢
  have k3 : ∀ b, b ≠ 1 → C' b = C3 b := fun b hb => by rw [← hC', up2_ne _ _ _ hb]
  refine ⟨⟨?_, ?_, ?_, ?_⟩, ?_, Or.inr ⟨?_, ?_, ?_, ?_, ?_, ?_⟩, ?_, ?_⟩
  · rw [m6]; exact g1.congr (fun j hj => f3 _ (by omega) (by omega))
  · rw [m6]; exact g2
  · rw [m6]; exact g3.congr (f3 _ (by omega) (by omega)) (f3 _ (by omega) (by omega))
  · rw [m6]; exact g4.congr (fun j hj => f3 _ (by omega) (by omega)) rfl (fun _ _ _ => rfl)
  · exact g5.congr (fun b hb => f3 b (by omega) (by omega)) (w5 7 (by omega) (by omega)) (wb 210 (by omega) (by omega)) (by rw [m6])
  · rw [← hC', up2_get, if_pos ⟨rfl, rfl⟩]
  · rw [← hM', up2_get, if_pos ⟨rfl, rfl⟩]
  · exact ((c2 _ g1).congrW (fun k h1 _ => w7 k (by omega))).congr (fun j hj => by rw [k3 _ (by omega), e3 _ (by omega) (by omega), f2 _ (by omega)])
  · have q : LogR C2 15 (M 206) := g3.congr (by rw [f2 _ (by omega), f1 _ (by omega)]) (by rw [f2 _ (by omega), f1 _ (by omega)])
    exact ((e2 _ q).congrW (w7 15 (by omega)) (fun k h1 h2 => w7 k (by omega))).congr (k3 _ (by omega)) (k3 _ (by omega))
  · have q : LawR C2 122 (M 206) := by
      rcases g4 with ⟨z1, L, z2, z3, z4⟩ | ⟨z1, z2⟩
      · exact Or.inl ⟨z1, L, z2, d2 L z2 (z3.congr (fun j hj => f1 _ (by omega))), z4⟩
      · exact Or.inr ⟨z1, by rw [d0, f1 9 (by omega)]; exact z2⟩
    exact q.congr (fun j hj => by rw [k3 _ (by omega), e3 _ (by omega) (by omega)]) (w7 2 (by omega)) (fun k h1 h2 => w7 k h2)
  · refine ⟨n, g2.congr (fun k h1 _ => w7 k (by omega)) ?_⟩
    obtain ⟨q, q1, q2⟩ := g2.2.2.2.2.2.2.2.2.2.2.2.2.2
    exact ⟨q, q1, by rw [w7 15 (by omega)]; exact q2⟩
  · exact g7.congr (fr1 1 (by omega)) (f3 2 (by omega) (by omega)) (w5 9 (by omega) (by omega)) (wb 211 (by omega) (by omega))
  · rw [fr1 2 (by omega), w5 14 (by omega) (by omega)]; exact g8
theorem s_back (h : GR C M n) : ∃ r C' b M', F_X11_back C = some (r, C') ∧ F_X12_back M = some (b, M') ∧ r = b ∧ (∃ n', GR C' M' n') ∧ fcl C C' ∧ fmo M M' := by
  have h' := h
  obtain ⟨⟨g1, g2, g3, g4⟩, g5, g6, g7, g8⟩ := h
  rcases g6 with ⟨i1, i2⟩ | ⟨i1, i2, i3, i4, i5, ni, i6⟩
  · unfold F_X11_back F_X12_back
    rw [i1, i2, if_pos rfl, if_pos rfl]
    exact ⟨_, _, _, _, rfl, rfl, rfl, ⟨n, h'.thr 0⟩, fcl.refl _, fmo_thr _ _⟩
  · obtain ⟨C1, c1, c2, c3⟩ := cl_copyL (C := C) (a := 3) (b := 116) (fun i j hi hj => by omega)
    obtain ⟨C2, d1, d0, d2, d3⟩ := cl_copyW (C := C1) (a := 9) (b := 122) (fun i j hi hj => by omega)
    obtain ⟨C3, e1, e2, e3⟩ := cl_copyG (C := C2) (a := 15) (b := 128) (by omega) (by omega) (by omega)
    have hcl : F_X11_back C = some (1, up2 C3 17 0 0) := by
      unfold F_X11_back F_X0_clear
      rw [i1, if_neg (by decide), c1, Option.bind_eq_bind, Option.bind_some, d1, Option.bind_some, e1]
      rfl
    have f1 : ∀ b, b < 3 ∨ 9 ≤ b → C1 b = C b := fun b hb => c3 b (fun j hj => by omega)
    have f2 : ∀ b, b < 9 ∨ 14 ≤ b → C2 b = C1 b := fun b hb => d3 b (fun j hj => by omega)
    have f3 : ∀ b, b < 3 ∨ 17 < b → (up2 C3 17 0 0) b = C b := fun b h1 => by rw [up2_ne _ _ _ (by omega), e3 b (by omega) (by omega), f2 b (by omega), f1 b (by omega)]
    have f17 : (up2 C3 17 0 0) 17 1 = C 17 1 := by rw [up2_get, if_neg (by omega), e3 17 (by omega) (by omega), f2 17 (by omega), f1 17 (by omega)]
    have w6 : ∀ k, k < 1202 → (up2 (cpR (M0 M) 206 0 207 0 1202) 205 7 0) 206 k = M 207 k := fun k hk => by
      rw [up2_ne _ _ _ (by decide), cpR_in _ (by omega)]
      show M 207 (0 + (k - 0)) = _
      rw [Nat.zero_add, Nat.sub_zero]
    have wb : ∀ b, b ≠ 205 → b ≠ 206 → (up2 (cpR (M0 M) 206 0 207 0 1202) 205 7 0) b = M b := fun b h1 h2 => by
      rw [up2_ne _ _ _ h1, cpR_ne _ h2]; exact up2_ne _ _ _ h1
    have w5 : ∀ k, k ≠ 0 → k ≠ 7 → (up2 (cpR (M0 M) 206 0 207 0 1202) 205 7 0) 205 k = M 205 k := fun k h1 h2 => by
      rw [up2_get, if_neg (fun q => h2 q.2), cpR_ne _ (by decide)]
      show up2 M 205 0 0 205 k = _
      rw [up2_get, if_neg (fun q => h1 q.2)]
    have w57 : (up2 (cpR (M0 M) 206 0 207 0 1202) 205 7 0) 205 7 = 0 := by rw [up2_get, if_pos ⟨rfl, rfl⟩]
    have f170 : (up2 C3 17 0 0) 17 0 = 0 := by rw [up2_get, if_pos ⟨rfl, rfl⟩]
    refine ⟨_, _, _, _, hcl, m_back M (by rw [i2]; decide), rfl, ⟨ni, ?_⟩, fun b hb => f3 b (by omega), fun b hb => wb b (by omega) (by omega)⟩
    generalize hM' : up2 (cpR (M0 M) 206 0 207 0 1202) 205 7 0 = M' at w6 wb w5 w57 ⊢
    generalize hC' : up2 C3 17 0 0 = C' at f3 f17 f170 ⊢
    have k3 : ∀ b, b ≠ 17 → C' b = C3 b := fun b hb => by rw [← hC', up2_ne _ _ _ hb]
    refine ⟨⟨?_, ?_, ?_, ?_⟩, ?_, Or.inr ⟨?_, ?_, ?_, ?_, ?_, ?_⟩, ?_, ?_⟩
    · exact ((c2 _ i3).congrW (fun k h1 _ => w6 k (by omega))).congr (fun j hj => by rw [k3 _ (by omega), e3 _ (by omega) (by omega), f2 _ (by omega)])
    · refine i6.congr (fun k h1 _ => w6 k (by omega)) ?_
      obtain ⟨q, q1, q2⟩ := i6.2.2.2.2.2.2.2.2.2.2.2.2.2
      exact ⟨q, q1, by rw [w6 15 (by omega)]; exact q2⟩
    · have q : LogR C2 128 (M 207) := i4.congr (by rw [f2 _ (by omega), f1 _ (by omega)]) (by rw [f2 _ (by omega), f1 _ (by omega)])
      exact ((e2 _ q).congrW (w6 15 (by omega)) (fun k h1 h2 => w6 k (by omega))).congr (k3 _ (by omega)) (k3 _ (by omega))
    · have q : LawR C2 9 (M 207) := by
        rcases i5 with ⟨z1, L, z2, z3, z4⟩ | ⟨z1, z2⟩
        · exact Or.inl ⟨z1, L, z2, d2 L z2 (z3.congr (fun j hj => f1 _ (by omega))), z4⟩
        · exact Or.inr ⟨z1, by rw [d0, f1 122 (by omega)]; exact z2⟩
      exact q.congr (fun j hj => by rw [k3 _ (by omega), e3 _ (by omega) (by omega)]) (w6 2 (by omega)) (fun k h1 h2 => w6 k h2)
    · obtain ⟨m, fr, a1, a2, a3, a4, a5, a6⟩ := g5
      exact ActR.none _ _ f170 ⟨fr, a2, by rw [f17]; exact a4⟩ w57
    · rw [f3 1 (by omega)]; exact i1
    · rw [w5 6 (by omega) (by omega)]; exact i2
    · rw [wb 207 (by omega) (by omega)]; exact i3.congr (fun j hj => f3 _ (by omega))
    · rw [wb 207 (by omega) (by omega)]; exact i4.congr (f3 _ (by omega)) (f3 _ (by omega))
    · rw [wb 207 (by omega) (by omega)]; exact i5.congr (fun j hj => f3 _ (by omega)) rfl (fun _ _ _ => rfl)
    · rw [wb 207 (by omega) (by omega)]; exact ⟨ni, i6⟩
    · exact g7.congr (by rw [f3 1 (by omega)]) (f3 2 (by omega)) (w5 9 (by omega) (by omega)) (wb 211 (by omega) (by omega))
    · rw [f3 1 (by omega), w5 14 (by omega) (by omega)]; exact g8
/-- what is told of the tape alone -/
theorem GR.tape (h : GR C M n) (hc : ∀ b, b ≠ 1 → b ≠ 2 → C' b = C b) (hc1 : ∀ k, k ≠ 1 → C' 1 k = C 1 k) (hm : ∀ b, b ≠ 205 → b ≠ 211 → b ≠ 212 → M' b = M b) (hm5 : ∀ k, k = 6 ∨ k = 7 ∨ k = 14 → M' 205 k = M 205 k) (hT : TapR C' M') : GR C' M' n := by
  obtain ⟨⟨g1, g2, g3, g4⟩, g5, g6, g7, g8⟩ := h
  have m6 := hm 206 (by omega) (by omega) (by omega)
  refine ⟨⟨?_, ?_, ?_, ?_⟩, ?_, ?_, hT, ?_⟩
  · rw [m6]; exact g1.congr (fun j hj => hc _ (by omega) (by omega))
  · rw [m6]; exact g2
  · rw [m6]; exact g3.congr (hc _ (by omega) (by omega)) (hc _ (by omega) (by omega))
  · rw [m6]; exact g4.congr (fun j hj => hc _ (by omega) (by omega)) rfl (fun _ _ _ => rfl)
  · exact g5.congr (fun b hb => hc b (by omega) (by omega)) (hm5 7 (by omega)) (hm 210 (by omega) (by omega) (by omega)) (by rw [m6])
  · exact g6.congr (fun b h1 h2 => hc b (by omega) (by omega)) (hc1 10 (by omega)) (hm5 6 (by omega)) (hm 207 (by omega) (by omega) (by omega))
  · rw [hc1 2 (by omega), hm5 14 (by omega)]; exact g8
theorem s_end (h : GR C M n) : ∃ r C' b M', F_X11_end C x1 = some (r, C') ∧ F_X12_end M x1 = some (b, M') ∧ r = b ∧ (∃ n', GR C' M' n') ∧ fcl C C' ∧ fmo M M' := by
  unfold F_X11_end F_X12_end
  obtain ⟨T, t1, t2, t3, t4⟩ := h.2.2.2.1
  rw [t2, t3]
  by_cases q1 : x1 < 0
  · rw [if_pos q1, if_pos q1]
    exact ⟨_, _, _, _, rfl, rfl, rfl, ⟨n, h.thr 0⟩, fcl.refl _, fmo_thr _ _⟩
  · by_cases q2 : x1 ≤ Int32.ofNat T
    · rw [if_neg q1, if_neg q1, if_pos q2, if_pos q2]
      refine ⟨_, _, _, _, rfl, rfl, rfl, ⟨n, h.tape (fun b h1 _ => up2_ne _ _ _ h1) (fun k hk => by rw [up2_get, if_neg (fun q => hk q.2)]) (fun b h1 _ _ => by rw [up2_ne _ _ _ h1, up2_ne _ _ _ h1]) (fun k hk => by rw [up2_get, if_neg (by omega), up2_get, if_neg (by omega)]) ?_⟩, fun b hb => up2_ne _ _ _ (by omega), fun b hb => by rw [up2_ne _ _ _ (by omega), up2_ne _ _ _ (by omega)]⟩
      rcases nat_or x1 (T + 1) (by omega) with ⟨z, hz, rfl⟩ | hx
      · refine ⟨z, by omega, by rw [up2_get, if_pos ⟨rfl, rfl⟩], by rw [up2_get, if_pos ⟨rfl, rfl⟩], fun i hi => ?_⟩
        rw [up2_ne _ _ _ (by decide), up2_ne _ _ _ (by decide), up2_ne _ _ _ (by decide)]
        exact t4 i (by omega)
      · rw [ti_lt, ti_0] at q1
        rw [ti_le, ti_ofn (by omega)] at q2
        rw [ti_lt, ti_0, ti_le, ti_ofn (by omega)] at hx
        omega
    · rw [if_neg q1, if_neg q1, if_neg q2, if_neg q2]
      exact ⟨_, _, _, _, rfl, rfl, rfl, ⟨n, h.thr 0⟩, fcl.refl _, fmo_thr _ _⟩
theorem q_count (h : GR C M n) : ∃ r, F_X11_count C x1 = some r ∧ F_X12_count M x1 = some (r, M0 M) := by
  obtain ⟨⟨g1, g2, g3, g4⟩, ⟨m, fr, a1, a2, a3, a4, a5, a6⟩, g6, g7, g8⟩ := h
  obtain ⟨ml, ll, b1, b2, b3, b4, b5, b6⟩ := g3
  have hlaw : C 9 0 = if M 206 2 = 1 then M 206 353 else -1 := by
    rcases g4 with ⟨w2, L, -, hLC, hLW⟩ | ⟨w2, hn0⟩
    · rw [if_pos w2, hLC.1, hLW.1]
    · rw [w2, if_neg (by decide), hn0]
  obtain ⟨⟨l1, l2, l3, l4, l5, l6, l7, l8, l9, l10, l11, l12, l13, l14⟩, l0, -⟩ := g1
  unfold F_X11_count F_X12_count
  rcases nat_or x1 17 (by omega) with ⟨z, hz, rfl⟩ | hx
  · have hz' : z = 0 ∨ z = 1 ∨ z = 2 ∨ z = 3 ∨ z = 4 ∨ z = 5 ∨ z = 6 ∨ z = 7 ∨ z = 8 ∨ z = 9 ∨ z = 10 ∨ z = 11 ∨ z = 12 ∨ z = 13 ∨ z = 14 ∨ z = 15 ∨ z = 16 := by omega
    rcases hz' with rfl | rfl | rfl | rfl | rfl | rfl | rfl | rfl | rfl | rfl | rfl | rfl | rfl | rfl | rfl | rfl | rfl
    · exact ⟨_, rfl, by rw [show C 4 0 = M 206 0 from l0]; rfl⟩
    · exact ⟨_, rfl, by rw [l1]; rfl⟩
    · refine ⟨_, rfl, ?_⟩
      rw [hlaw]
      show (if (2 : Int32) = 2 then (if M 206 2 = 1 then _ else _) else _) = _
      rw [if_pos rfl]
      by_cases q : M 206 2 = 1
      · rw [if_pos q, if_pos q]
      · rw [if_neg q, if_neg q]
    · exact ⟨_, rfl, by rw [l2]; rfl⟩
    · exact ⟨_, rfl, by rw [l3]; rfl⟩
    · exact ⟨_, rfl, by rw [l4]; rfl⟩
    · exact ⟨_, rfl, by rw [l5]; rfl⟩
    · exact ⟨_, rfl, by rw [l6]; rfl⟩
    · exact ⟨_, rfl, by rw [l7]; rfl⟩
    · exact ⟨_, rfl, by rw [l8]; rfl⟩
    · exact ⟨_, rfl, by rw [l9]; rfl⟩
    · exact ⟨_, rfl, by rw [l10]; rfl⟩
    · exact ⟨_, rfl, by rw [l11]; rfl⟩
    · exact ⟨_, rfl, by rw [l12]; rfl⟩
    · exact ⟨_, rfl, by rw [l13]; rfl⟩
    · exact ⟨_, rfl, by rw [b4, ← b3]; rfl⟩
    · exact ⟨_, rfl, by rw [a3, ← a5]; rfl⟩
  · have ne : ∀ z : Nat, z < 17 → ¬ x1 = Int32.ofNat z := by
      rintro z hz rfl
      rw [ti_lt, ti_0, ti_le, ti_ofn (by omega), ti_ofn (by omega)] at hx
      omega
    have e0 : ¬ x1 = (0 : Int32) := ne 0 (by omega); have e1 : ¬ x1 = (1 : Int32) := ne 1 (by omega); have e2 : ¬ x1 = (2 : Int32) := ne 2 (by omega); have e3 : ¬ x1 = (3 : Int32) := ne 3 (by omega); have e4 : ¬ x1 = (4 : Int32) := ne 4 (by omega); have e5 : ¬ x1 = (5 : Int32) := ne 5 (by omega); have e6 : ¬ x1 = (6 : Int32) := ne 6 (by omega); have e7 : ¬ x1 = (7 : Int32) := ne 7 (by omega); have e8 : ¬ x1 = (8 : Int32) := ne 8 (by omega); have e9 : ¬ x1 = (9 : Int32) := ne 9 (by omega); have e10 : ¬ x1 = (10 : Int32) := ne 10 (by omega); have e11 : ¬ x1 = (11 : Int32) := ne 11 (by omega); have e12 : ¬ x1 = (12 : Int32) := ne 12 (by omega); have e13 : ¬ x1 = (13 : Int32) := ne 13 (by omega); have e14 : ¬ x1 = (14 : Int32) := ne 14 (by omega); have e15 : ¬ x1 = (15 : Int32) := ne 15 (by omega); have e16 : ¬ x1 = (16 : Int32) := ne 16 (by omega)
    refine ⟨-1, ?_, ?_⟩
    · rw [if_neg e0, if_neg e1, if_neg e2, if_neg e3, if_neg e4, if_neg e5, if_neg e6, if_neg e7, if_neg e8, if_neg e9, if_neg e10, if_neg e11, if_neg e12, if_neg e13, if_neg e14, if_neg e15, if_neg e16]
    · rw [if_neg e2, if_neg e15, if_neg e16, m_in0]
      · rfl
      · rcases hx with q | q
        · exact Or.inl q
        · right
          rw [ti_le, ti_ofn (by omega)] at q
          rw [ti_lt, ti_14]; omega
end
