/-! copies -/
section
variable {C : HI} {a b : Nat} {W : Nat → Int32}
theorem up1_get (f : HI) (a : Nat) (r : Nat → Int32) (x : Nat) : up1 f a r x = if x = a then r else f x := rfl
theorem up2_rowg (f : HI) (a k : Nat) (v : Int32) (x : Nat) : up2 f a k v x = if x = a then (fun j => if j = k then v else f a j) else f x := rfl
theorem cl_copyD (hab : ∀ i j, i < 5 → j < 5 → a + i ≠ b + j) : ∃ C', F_X1_copy C a b = some C' ∧ C' a 0 = C b 0 ∧ (∀ k, k < 60 → C' (a + 1) k = C (b + 1) k) ∧ (∀ k, k < 12 → C' (a + 2) k = C (b + 2) k) ∧ (∀ k, k < 12 → C' (a + 3) k = C (b + 3) k) ∧ (∀ k, k < 12 → C' (a + 4) k = C (b + 4) k) ∧ ∀ x, (∀ j, j < 5 → x ≠ a + j) → C' x = C x := by
  have n1 : ¬ b + 1 = a := fun q => hab 0 1 (by omega) (by omega) (by omega)
  have n2 : ¬ b + 2 = a := fun q => hab 0 2 (by omega) (by omega) (by omega)
  have n3 : ¬ b + 3 = a := fun q => hab 0 3 (by omega) (by omega) (by omega)
  have n4 : ¬ b + 4 = a := fun q => hab 0 4 (by omega) (by omega) (by omega)
  have n5 : ¬ b + 2 = a + 1 := fun q => hab 1 2 (by omega) (by omega) (by omega)
  have n6 : ¬ b + 3 = a + 1 := fun q => hab 1 3 (by omega) (by omega) (by omega)
  have n7 : ¬ b + 4 = a + 1 := fun q => hab 1 4 (by omega) (by omega) (by omega)
  have n8 : ¬ b + 3 = a + 2 := fun q => hab 2 3 (by omega) (by omega) (by omega)
  have n9 : ¬ b + 4 = a + 2 := fun q => hab 2 4 (by omega) (by omega) (by omega)
  have n10 : ¬ b + 4 = a + 3 := fun q => hab 3 4 (by omega) (by omega) (by omega)
  have m1 : ¬ a + 1 = a := by omega
  have m2 : ¬ a + 2 = a := by omega
  have m3 : ¬ a + 3 = a := by omega
  have m4 : ¬ a + 4 = a := by omega
  have m5 : ¬ a + 2 = a + 1 := by omega
  have m6 : ¬ a + 3 = a + 1 := by omega
  have m7 : ¬ a + 4 = a + 1 := by omega
  have m8 : ¬ a + 3 = a + 2 := by omega
  have m9 : ¬ a + 4 = a + 2 := by omega
  have m10 : ¬ a + 4 = a + 3 := by omega
  have k1 : ¬ a = a + 1 := by omega
  have k2 : ¬ a = a + 2 := by omega
  have k3 : ¬ a = a + 3 := by omega
  have k4 : ¬ a = a + 4 := by omega
  have k5 : ¬ a + 1 = a + 2 := by omega
  have k6 : ¬ a + 1 = a + 3 := by omega
  have k7 : ¬ a + 1 = a + 4 := by omega
  have k8 : ¬ a + 2 = a + 3 := by omega
  have k9 : ¬ a + 2 = a + 4 := by omega
  have k10 : ¬ a + 3 = a + 4 := by omega
  unfold F_X1_copy
  simp only [up1_get, up2_rowg, n1, n2, n3, n4, n5, n6, n7, n8, n9, n10, m1, m2, m3, m4, m5, m6, m7, m8, m9, m10, if_false]
  refine ⟨_, rfl, ?_, fun k hk => ?_, fun k hk => ?_, fun k hk => ?_, fun k hk => ?_, fun x hx => ?_⟩
  · simp [up1_get, up2_rowg, k1, k2, k3, k4]
  · simp [up1_get, up2_rowg, k5, k6, k7, va_cpy]; intro; omega
  · simp [up1_get, up2_rowg, k8, k9, m5, va_cpy]; intro; omega
  · simp [up1_get, up2_rowg, k10, m6, m8, va_cpy]; intro; omega
  · simp [up1_get, up2_rowg, m7, m9, m10, va_cpy]; intro; omega
  · have x0 : ¬ x = a := hx 0 (by omega)
    have x1 : ¬ x = a + 1 := hx 1 (by omega)
    have x2 : ¬ x = a + 2 := hx 2 (by omega)
    have x3 : ¬ x = a + 3 := hx 3 (by omega)
    have x4 : ¬ x = a + 4 := hx 4 (by omega)
    simp [up1_get, up2_rowg, x0, x1, x2, x3, x4]
theorem cl_copyL (hab : ∀ i j, i < 6 → j < 6 → a + i ≠ b + j) : ∃ C', F_X3_copy C a b = some C' ∧ (∀ W, LR C b W → LR C' a W) ∧ ∀ x, (∀ j, j < 6 → x ≠ a + j) → C' x = C x := by
  obtain ⟨C1, e0, e1, e2, e3, e4, e5, e6⟩ := cl_copyD (C := C) (a := a + 1) (b := b + 1) (fun i j hi hj => by have := hab (1 + i) (1 + j) (by omega) (by omega); omega)
  have hb : C1 b = C b := e6 b (fun j hj => by have := hab (1 + j) 0 (by omega) (by omega); omega)
  have hne : ¬ b = a := fun q => hab 0 0 (by omega) (by omega) (by omega)
  unfold F_X3_copy
  rw [e0]
  simp only [Option.bind_eq_bind, Option.bind_some]
  refine ⟨_, rfl, fun W hL => ?_, fun x hx => ?_⟩
  · obtain ⟨⟨l1, l2, l3, l4, l5, l6, l7, l8, l9, l10, l11, l12, l13, l14⟩, hD⟩ := hL
    refine ⟨⟨?_, ?_, ?_, ?_, ?_, ?_, ?_, ?_, ?_, ?_, ?_, ?_, ?_, ?_⟩, ?_⟩
    · simp [up2_get, hb]; exact l1
    · simp [up2_get, hb]; exact l2
    · simp [up2_get, hb]; exact l3
    · simp [up2_get, hb]; exact l4
    · simp [up2_get, hb]; exact l5
    · simp [up2_get, hb]; exact l6
    · simp [up2_get, hb]; exact l7
    · simp [up2_get, hb]; exact l8
    · simp [up2_get, hb]; exact l9
    · simp [up2_get, hb]; exact l10
    · simp [up2_get, hb]; exact l11
    · simp [up2_get, hb]; exact l12
    · simp [up2_get, hb]; exact l13
    · simp [up2_get, hb]; exact l14
    · have hD1 : DR C1 (a + 1) W := by
        refine ⟨e1.trans hD.1, fun d hd => ?_⟩
        obtain ⟨g1, g2, g3, g4⟩ := hD.2 d hd
        exact ⟨fun k hk => (e2 _ (by omega)).trans (g1 k hk), (e3 _ (by omega)).trans g2, (e4 _ (by omega)).trans g3, (e5 _ (by omega)).trans g4⟩
      refine hD1.congr (fun j hj => ?_)
      have q : a + 1 + j ≠ a := by omega
      rw [up2_ne _ _ _ q, up2_ne _ _ _ q, up2_ne _ _ _ q, up2_ne _ _ _ q, up2_ne _ _ _ q, up2_ne _ _ _ q, up2_ne _ _ _ q, up2_ne _ _ _ q, up2_ne _ _ _ q, up2_ne _ _ _ q, up2_ne _ _ _ q, up2_ne _ _ _ q, up2_ne _ _ _ q, up2_ne _ _ _ q]
  · have q : x ≠ a := hx 0 (by omega)
    rw [up2_ne _ _ _ q, up2_ne _ _ _ q, up2_ne _ _ _ q, up2_ne _ _ _ q, up2_ne _ _ _ q, up2_ne _ _ _ q, up2_ne _ _ _ q, up2_ne _ _ _ q, up2_ne _ _ _ q, up2_ne _ _ _ q, up2_ne _ _ _ q, up2_ne _ _ _ q, up2_ne _ _ _ q, up2_ne _ _ _ q]
    exact e6 x (fun j hj => by have := hx (1 + j) (by omega); omega)
theorem cl_copyG (h1 : a + 1 ≠ b) (h2 : b + 1 ≠ a) (h3 : a ≠ b) : ∃ C', F_X7_copy C a b = some C' ∧ (∀ W, LogR C b W → LogR C' a W) ∧ ∀ x, x ≠ a → x ≠ a + 1 → C' x = C x := by
  unfold F_X7_copy
  refine ⟨_, rfl, fun W hL => ?_, fun x q1 q2 => ?_⟩
  · obtain ⟨m, l, g1, g2, g3, g4, g5, g6⟩ := hL
    have k1 : ¬ a = a + 1 := by omega
    have k2 : ¬ a + 1 = a := by omega
    refine ⟨m, l, g1, g2, g3, ?_, ?_, fun g w hg hw => ?_⟩
    · simp [up1_get, up2_rowg, k1]; exact g4
    · simp [up1_get, up2_rowg, k1]; exact g5
    · have : (l + 60 - g) % 60 < 60 := Nat.mod_lt _ (by omega)
      have e : ∀ z, z < 240 → va_cpy (C (b + 1)) (C (a + 1)) 0 0 240 z = C (b + 1) z := fun z hz => by unfold va_cpy; rw [if_pos (by omega)]; simp
      simp only [up1_get, up2_rowg, if_true, h2, if_false, k2]
      rw [e _ (by omega)]
      exact g6 g w hg hw
  · rw [up1_get, if_neg q2, up2_ne _ _ _ q1, up2_ne _ _ _ q1]
theorem cl_copyW (hab : ∀ i j, i < 5 → j < 5 → a + i ≠ b + j) : ∃ C', F_X4_copy C a b = some C' ∧ C' a 0 = C b 0 ∧ (∀ L : LD, LawOk L → LawC C b L → LawC C' a L) ∧ ∀ x, (∀ j, j < 5 → x ≠ a + j) → C' x = C x := by
  have n1 : ¬ b + 1 = a := fun q => hab 0 1 (by omega) (by omega) (by omega)
  have n2 : ¬ b + 2 = a := fun q => hab 0 2 (by omega) (by omega) (by omega)
  have n3 : ¬ b + 3 = a := fun q => hab 0 3 (by omega) (by omega) (by omega)
  have n4 : ¬ b + 4 = a := fun q => hab 0 4 (by omega) (by omega) (by omega)
  have n5 : ¬ b + 2 = a + 1 := fun q => hab 1 2 (by omega) (by omega) (by omega)
  have n6 : ¬ b + 3 = a + 1 := fun q => hab 1 3 (by omega) (by omega) (by omega)
  have n7 : ¬ b + 4 = a + 1 := fun q => hab 1 4 (by omega) (by omega) (by omega)
  have n8 : ¬ b + 3 = a + 2 := fun q => hab 2 3 (by omega) (by omega) (by omega)
  have n9 : ¬ b + 4 = a + 2 := fun q => hab 2 4 (by omega) (by omega) (by omega)
  have n10 : ¬ b + 4 = a + 3 := fun q => hab 3 4 (by omega) (by omega) (by omega)
  have m1 : ¬ a + 1 = a := by omega
  have m2 : ¬ a + 2 = a := by omega
  have m3 : ¬ a + 3 = a := by omega
  have m4 : ¬ a + 4 = a := by omega
  have m5 : ¬ a + 2 = a + 1 := by omega
  have m6 : ¬ a + 3 = a + 1 := by omega
  have m7 : ¬ a + 4 = a + 1 := by omega
  have m8 : ¬ a + 3 = a + 2 := by omega
  have m9 : ¬ a + 4 = a + 2 := by omega
  have m10 : ¬ a + 4 = a + 3 := by omega
  have k1 : ¬ a = a + 1 := by omega
  have k2 : ¬ a = a + 2 := by omega
  have k3 : ¬ a = a + 3 := by omega
  have k4 : ¬ a = a + 4 := by omega
  have k5 : ¬ a + 1 = a + 2 := by omega
  have k6 : ¬ a + 1 = a + 3 := by omega
  have k7 : ¬ a + 1 = a + 4 := by omega
  have k8 : ¬ a + 2 = a + 3 := by omega
  have k9 : ¬ a + 2 = a + 4 := by omega
  have k10 : ¬ a + 3 = a + 4 := by omega
  unfold F_X4_copy
  simp only [up1_get, up2_rowg, n1, n2, n3, n4, n5, n6, n7, n8, n9, n10, m1, m2, m3, m4, m5, m6, m7, m8, m9, m10, if_false]
  refine ⟨_, rfl, ?_, fun L hO hC => ?_, fun x hx => ?_⟩
  · simp [up1_get, up2_rowg, k1, k2, k3, k4]
  · have h12 := hO.1
    refine ⟨?_, fun j hj => ?_⟩
    · simp [up1_get, up2_rowg, k1, k2, k3, k4]; exact hC.1
    · obtain ⟨c1, c2, c3, c4⟩ := hC.2 j hj
      have h400 := (hO.2 j hj).2.2.2.1
      have cp : ∀ (f g : Nat → Int32) (z N : Nat), z < N → va_cpy f g 0 0 N z = f z := fun f g z N hz => by unfold va_cpy; rw [if_pos (by omega)]; simp
      refine ⟨?_, ?_, ?_, fun t ht => ?_⟩
      · simp [up1_get, up2_rowg, k5, k6, k7]; rw [cp _ _ _ _ (by omega)]; exact c1
      · simp [up1_get, up2_rowg, k8, k9, m5]; rw [cp _ _ _ _ (by omega)]; exact c2
      · simp [up1_get, up2_rowg, k10, m6, m8]; rw [cp _ _ _ _ (by omega)]; exact c3
      · simp [up1_get, up2_rowg, m7, m9, m10]; rw [cp _ _ _ _ (by omega)]; exact c4 t ht
  · have x0 : ¬ x = a := hx 0 (by omega)
    have x1 : ¬ x = a + 1 := hx 1 (by omega)
    have x2 : ¬ x = a + 2 := hx 2 (by omega)
    have x3 : ¬ x = a + 3 := hx 3 (by omega)
    have x4 : ¬ x = a + 4 := hx 4 (by omega)
    simp [up1_get, up2_rowg, x0, x1, x2, x3, x4]
end
