/-! bytes -/
theorem toInt8_toInt (y : Int32) : y.toInt8.toInt32.toInt = y.toInt.bmod 256 := by
  rw [Int8.toInt_toInt32]
  exact Int32.toInt_toInt8 y
theorem by_lem (y : Int32) : ∃ v, v < 256 ∧ y &&& 255 = Int32.ofNat v ∧ y.toInt8.toInt32 = byI v := by
  refine ⟨(y.toBitVec &&& 255#32).toNat, ?_, ?_, ?_⟩
  · rw [BitVec.toNat_and]
    exact Nat.lt_succ_of_le Nat.and_le_right
  · apply Int32.toBitVec.inj
    rw [Int32.toBitVec_and, Int32.toBitVec_ofNat', BitVec.ofNat_toNat]
    simp
  · have e : (y.toBitVec &&& 255#32).toNat = y.toBitVec.toNat % 256 := by
      rw [BitVec.toNat_and]
      exact Nat.and_two_pow_sub_one_eq_mod (n := 8) _
    rw [e, ti_eq, toInt8_toInt]
    have hy : y.toInt = (y.toBitVec.toNat : Int).bmod (2 ^ 32) := by
      show y.toBitVec.toInt = _
      exact BitVec.toInt_eq_toNat_bmod _
    have hlt := y.toBitVec.isLt
    generalize y.toBitVec.toNat = N at *
    have h1 : y.toInt.bmod 256 = (N : Int).bmod 256 := by
      rw [hy]
      exact Int.bmod_bmod_of_dvd ⟨2 ^ 24, by decide⟩
    rw [h1]
    unfold byI
    split
    · rw [ti_ofn (by omega), Int.bmod_def]
      omega
    · rw [ti_sub (by rw [ti_ofn (by omega), show (256 : Int32).toInt = 256 by decide]; omega) (by rw [ti_ofn (by omega), show (256 : Int32).toInt = 256 by decide]; omega), ti_ofn (by omega), show (256 : Int32).toInt = 256 by decide, Int.bmod_def]
      omega
theorem shL (y : Int32) (s : Nat) (hs : s = 0 ∨ s = 8 ∨ s = 16 ∨ s = 24) : ((y).toUInt32 >>> ((Int32.ofNat s).toUInt32 &&& Int32.toUInt32 31)).toInt32 &&& (255 : Int32) = (y >>> (Int32.ofNat s &&& 31)) &&& (255 : Int32) := by
  apply tb_ext
  intro j hj
  rw [tb_and, tb_and]
  have hm : tb (255 : Int32) j = decide (j < 8) := by
    have : ∀ j, j < 32 → tb (255 : Int32) j = decide (j < 8) := by decide +kernel
    exact this j hj
  rw [hm]
  by_cases h : j < 8
  · simp only [h, decide_true, Bool.and_true]
    unfold tb
    rw [Int32.toBitVec_shiftRight, BitVec.sshiftRight_eq', BitVec.getLsbD_sshiftRight]
    have e1 : ((Int32.ofNat s &&& 31).toBitVec.smod 32).toNat = s := sh_dec s (by omega)
    rw [e1]
    show ((y.toUInt32 >>> ((Int32.ofNat s).toUInt32 &&& Int32.toUInt32 31)).toBitVec).getLsbD j = _
    rw [UInt32.toBitVec_shiftRight, BitVec.ushiftRight_eq', BitVec.getLsbD_ushiftRight]
    have e2 : ((((Int32.ofNat s).toUInt32 &&& Int32.toUInt32 31).toBitVec % 32)).toNat = s := by
      rcases hs with rfl | rfl | rfl | rfl <;> decide
    rw [e2]
    have h2 : s + j < 32 := by omega
    simp [h2]
    intro h3
    omega
  · simp [h]
section
variable {C C' M M' : HI} {n T : Nat} {x : Int32}
theorem nar_by (y : Int32) : vp_nar .byte y.toInt8.toInt32 = y.toInt8.toInt32 := by
  show y.toInt8.toInt32.toInt8.toInt32 = _
  rw [ti_eq, toInt8_toInt, toInt8_toInt]
  exact Int.bmod_bmod
/-- four bytes of a number, on the class's tape -/
theorem cl_put4 (hT : T + 4 ≤ 400) (h1 : C 1 1 = Int32.ofNat T) : ∃ C', F_X11_putBytes C x = some C' ∧ C' 1 1 = Int32.ofNat (T + 4) ∧ (∀ k, k ≠ 1 → C' 1 k = C 1 k) ∧ (∀ i, i < T → C' 2 i = C 2 i) ∧ (∀ j, j < 4 → C' 2 (T + j) = (x >>> (Int32.ofNat (24 - 8 * j) &&& 31)) &&& (255 : Int32)) ∧ ∀ b, b ≠ 1 → b ≠ 2 → C' b = C b := by
  unfold F_X11_putBytes
  have step : ∀ (s t : Nat) (D : HI), (s = 0 ∨ s = 8 ∨ s = 16 ∨ s = 24) → t < 400 → D 1 1 = Int32.ofNat t → L_X11_putBytes_3 x (Int32.ofNat s) D = L_X11_putBytes_3 x (Int32.ofNat s + (-8)) (up2 (up2 D 2 t ((x >>> (Int32.ofNat s &&& 31)) &&& (255 : Int32))) 1 1 (Int32.ofNat (t + 1))) := by
    intro s t D hs ht hD
    rw [L_X11_putBytes_3, if_neg (ofn_nneg (by omega)), hD, if_neg (by rw [show (400 : Int32) = Int32.ofNat 400 from rfl, ofn_le (by omega) (by omega)]; omega), if_pos (inB_ofn ht (by omega)), ofn_clamp (by omega), shL x s hs, up2_ne _ _ _ (by decide), hD, ofn_succ]
  rw [show (24 : Int32) = Int32.ofNat 24 from rfl, step 24 T C (by omega) (by omega) h1, show Int32.ofNat 24 + (-8) = Int32.ofNat 16 by decide]
  rw [step 16 (T + 1) _ (by omega) (by omega) (by rw [up2_get, if_pos ⟨rfl, rfl⟩]), show Int32.ofNat 16 + (-8) = Int32.ofNat 8 by decide]
  rw [step 8 (T + 1 + 1) _ (by omega) (by omega) (by rw [up2_get, if_pos ⟨rfl, rfl⟩]), show Int32.ofNat 8 + (-8) = Int32.ofNat 0 by decide]
  rw [step 0 (T + 1 + 1 + 1) _ (by omega) (by omega) (by rw [up2_get, if_pos ⟨rfl, rfl⟩]), L_X11_putBytes_3, if_pos (by decide)]
  refine ⟨_, rfl, by rw [up2_get, if_pos ⟨rfl, rfl⟩], fun k hk => ?_, fun i hi => ?_, fun j hj => ?_, fun b b1 b2 => ?_⟩
  · simp [up2_get, hk]
  · simp only [up2_get]
    rw [if_neg (by omega), if_neg (by omega), if_neg (by omega), if_neg (by omega), if_neg (by omega), if_neg (by omega), if_neg (by omega), if_neg (by omega)]
  · rcases (show j = 0 ∨ j = 1 ∨ j = 2 ∨ j = 3 by omega) with rfl | rfl | rfl | rfl
    · simp only [up2_get]
      rw [if_neg (by omega), if_neg (by omega), if_neg (by omega), if_neg (by omega), if_neg (by omega), if_neg (by omega), if_neg (by omega), if_pos (by simp)]
    · simp only [up2_get]
      rw [if_neg (by omega), if_neg (by omega), if_neg (by omega), if_neg (by omega), if_neg (by omega), if_pos (by simp)]
    · simp only [up2_get]
      rw [if_neg (by omega), if_neg (by omega), if_neg (by omega), if_pos (by simp)]
    · simp only [up2_get]
      rw [if_neg (by omega), if_pos (by simp)]
  · rw [up2_ne _ _ _ b1, up2_ne _ _ _ b2, up2_ne _ _ _ b1, up2_ne _ _ _ b2, up2_ne _ _ _ b1, up2_ne _ _ _ b2, up2_ne _ _ _ b1, up2_ne _ _ _ b2]
theorem s_feed {x1 x2 x3 x4 x5 : Int32} (h : GR C M n) : ∃ r C' b M', F_X11_feed C x1 x2 x3 x4 x5 = some (r, C') ∧ F_X12_feed M x1 x2 x3 x4 x5 = some (b, M') ∧ r = b ∧ (∃ n', GR C' M' n') ∧ fcl C C' ∧ fmo M M' := by
  obtain ⟨T, t1, t2, t3, t4⟩ := h.2.2.2.1
  unfold F_X11_feed F_X12_feed
  have e20 : M 205 9 + 20 = Int32.ofNat (T + 20) := by rw [t3]; exact (Int32.ofNat_add T 20).symm
  by_cases hT : T ≤ 380
  · rw [t2, if_pos (by rw [show (380 : Int32) = Int32.ofNat 380 from rfl, ofn_le (by omega) (by omega)]; exact hT), e20, if_pos (by rw [show (400 : Int32) = Int32.ofNat 400 from rfl, ofn_le (by omega) (by omega)]; omega)]
    obtain ⟨C1, a1, a2, a3, a4, a5, a6⟩ := cl_put4 (x := x1) (C := C) (T := T) (by omega) t2
    obtain ⟨C2, b1, b2, b3, b4, b5, b6⟩ := cl_put4 (x := x2) (C := C1) (T := T + 4) (by omega) a2
    obtain ⟨C3, c1, c2, c3, c4, c5, c6⟩ := cl_put4 (x := x3) (C := C2) (T := T + 4 + 4) (by omega) b2
    obtain ⟨C4, d1, d2, d3, d4, d5, d6⟩ := cl_put4 (x := x4) (C := C3) (T := T + 4 + 4 + 4) (by omega) c2
    obtain ⟨C5, e1, e2, e3, e4, e5, e6⟩ := cl_put4 (x := x5) (C := C4) (T := T + 4 + 4 + 4 + 4) (by omega) d2
    let X : Nat → Int32 := fun q => if q = 0 then x1 else if q = 1 then x2 else if q = 2 then x3 else if q = 3 then x4 else x5
    have hX : ∀ z, z < 20 → C5 2 (T + z) = (X (z / 4) >>> (Int32.ofNat (24 - 8 * (z % 4)) &&& 31)) &&& (255 : Int32) := by
      intro z hz
      have hj : z % 4 < 4 := Nat.mod_lt _ (by omega)
      rcases (show z / 4 = 0 ∨ z / 4 = 1 ∨ z / 4 = 2 ∨ z / 4 = 3 ∨ z / 4 = 4 by omega) with q | q | q | q | q
      · rw [e4 _ (by omega), d4 _ (by omega), c4 _ (by omega), b4 _ (by omega), show T + z = T + z % 4 by omega, a5 _ hj, q]; rfl
      · rw [e4 _ (by omega), d4 _ (by omega), c4 _ (by omega), show T + z = T + 4 + z % 4 by omega, b5 _ hj, q]; rfl
      · rw [e4 _ (by omega), d4 _ (by omega), show T + z = T + 4 + 4 + z % 4 by omega, c5 _ hj, q]; rfl
      · rw [e4 _ (by omega), show T + z = T + 4 + 4 + 4 + z % 4 by omega, d5 _ hj, q]; rfl
      · rw [show T + z = T + 4 + 4 + 4 + 4 + z % 4 by omega, e5 _ hj, q]; rfl
    have hold : ∀ i, i < T → C5 2 i = C 2 i := fun i hi => by rw [e4 _ (by omega), d4 _ (by omega), c4 _ (by omega), b4 _ (by omega), a4 _ hi]
    have hfr : ∀ b, b ≠ 1 → b ≠ 2 → C5 b = C b := fun b h1 h2 => by rw [e6 b h1 h2, d6 b h1 h2, c6 b h1 h2, b6 b h1 h2, a6 b h1 h2]
    have hf1 : ∀ k, k ≠ 1 → C5 1 k = C 1 k := fun k hk => by rw [e3 k hk, d3 k hk, c3 k hk, b3 k hk, a3 k hk]
    -- the reference
    have key : ∀ (k i : Nat) (D : HI), i + k = 20 → D 205 9 = Int32.ofNat T → (∀ q, q < 5 → D 212 q = X q) → (∀ z, z < i → D 211 (T + z) = (X (z / 4) >>> (Int32.ofNat (24 - 8 * (z % 4)) &&& 31)).toInt8.toInt32) → (∀ z, z < T → D 211 z = M 211 z) → (∀ b, b ≠ 205 → b ≠ 211 → b ≠ 212 → D b = M b) → (∀ k, k ≠ 0 → k ≠ 9 → D 205 k = M 205 k) → ∃ M', L_X12_feed_60 (Int32.ofNat i) D = some (Int32.ofNat (T + 20), M') ∧ M' 205 9 = Int32.ofNat (T + 20) ∧ (∀ z, z < 20 → M' 211 (T + z) = (X (z / 4) >>> (Int32.ofNat (24 - 8 * (z % 4)) &&& 31)).toInt8.toInt32) ∧ (∀ z, z < T → M' 211 z = M 211 z) ∧ (∀ b, b ≠ 205 → b ≠ 211 → b ≠ 212 → M' b = M b) ∧ (∀ k, k ≠ 0 → k ≠ 9 → M' 205 k = M 205 k) := by
      intro k
      induction k with
      | zero =>
        intro i D hi h1 h2 h3 h4 h5 h6
        have e : D 205 9 + 20 = Int32.ofNat (T + 20) := by rw [h1]; exact (Int32.ofNat_add T 20).symm
        rw [L_X12_feed_60, show i = 20 by omega, if_pos (by decide), e]
        refine ⟨_, rfl, by rw [up2_get, if_pos ⟨rfl, rfl⟩], fun z hz => by rw [up2_ne _ _ _ (by decide)]; exact h3 z (by omega), fun z hz => by rw [up2_ne _ _ _ (by decide)]; exact h4 z hz, fun b q1 q2 q3 => by rw [up2_ne _ _ _ q1]; exact h5 b q1 q2 q3, fun k q1 q2 => by rw [up2_get, if_neg (fun q => q2 q.2)]; exact h6 k q1 q2⟩
      | succ k ih =>
        intro i D hi h1 h2 h3 h4 h5 h6
        have e1 : Int32.ofNat i / (4 : Int32) = Int32.ofNat (i / 4) := ofn_div (N := i) (q := 4) (by omega) (by omega) (by omega)
        have e2 : Int32.ofNat i - Int32.ofNat (i / 4) * (4 : Int32) = Int32.ofNat (i % 4) := by
          have := ofn_mod (N := i) (q := 4) (by omega) (by omega) (by omega)
          rw [ofn_div (N := i) (q := 4) (by omega) (by omega) (by omega)] at this
          exact this
        have e3 : (24 : Int32) - (8 : Int32) * Int32.ofNat (i % 4) = Int32.ofNat (24 - 8 * (i % 4)) := by
          have : i % 4 < 4 := Nat.mod_lt _ (by omega)
          rcases (show i % 4 = 0 ∨ i % 4 = 1 ∨ i % 4 = 2 ∨ i % 4 = 3 by omega) with q | q | q | q <;> rw [q] <;> decide
        have e4 : Int32.ofNat T + Int32.ofNat i = Int32.ofNat (T + i) := (Int32.ofNat_add _ _).symm
        rw [L_X12_feed_60, if_neg (by rw [show (20 : Int32) = Int32.ofNat 20 from rfl, ofn_le (by omega) (by omega)]; omega), e1, e2, e3, ald_ofn (by omega) (by omega), h2 _ (by omega), h1, e4, Option.bind_eq_bind, Option.bind_some, if_pos (inB_ofn (by omega) (by omega)), ofn_clamp (by omega), nar_by, ofn_succ]
        refine ih (i + 1) _ (by omega) (by rw [up2_ne _ _ _ (by decide)]; exact h1) (fun q hq => by rw [up2_ne _ _ _ (by decide)]; exact h2 q hq) (fun z hz => ?_) (fun z hz => by rw [up2_get, if_neg (by omega)]; exact h4 z hz) (fun b q1 q2 q3 => by rw [up2_ne _ _ _ q2]; exact h5 b q1 q2 q3) (fun k q1 q2 => by rw [up2_ne _ _ _ (by decide)]; exact h6 k q1 q2)
        rw [up2_get]
        by_cases q : z = i
        · rw [if_pos ⟨rfl, by omega⟩, q]
        · rw [if_neg (by omega)]; exact h3 z (by omega)
    obtain ⟨M', m1, m2, m3, m4, m5, m6⟩ := key 20 0 (up2 (up2 (up2 (up2 (up2 (up2 M 205 0 (0 : Int32)) 212 0 x1) 212 1 x2) 212 2 x3) 212 3 x4) 212 4 x5) (by omega) (by simp [up2_get, t3]) (fun q hq => by
      rcases (show q = 0 ∨ q = 1 ∨ q = 2 ∨ q = 3 ∨ q = 4 by omega) with rfl | rfl | rfl | rfl | rfl <;> simp [up2_get, X]) (fun z hz => by omega) (fun z hz => by simp [up2_get]) (fun b q1 q2 q3 => by rw [up2_ne _ _ _ q3, up2_ne _ _ _ q3, up2_ne _ _ _ q3, up2_ne _ _ _ q3, up2_ne _ _ _ q3, up2_ne _ _ _ q1]) (fun k q1 q2 => by simp [up2_get, q1])
    refine ⟨Int32.ofNat (T + 20), C5, _, M', ?_, m1, rfl, ⟨n, h.tape hfr hf1 m5 (fun k hk => m6 k (by omega) (by omega)) ⟨T + 20, by omega, by rw [e2], m2, fun i hi => ?_⟩⟩, fun b hb => hfr b (by omega) (by omega), fun b hb => m5 b (by omega) (by omega) (by omega)⟩
    · rw [a1, Option.bind_eq_bind, Option.bind_some, b1, Option.bind_some, c1, Option.bind_some, d1, Option.bind_some, e1, Option.bind_some, e2]
    · rcases Nat.lt_or_ge i T with q | q
      · rw [hold i q, m4 i q]; exact t4 i q
      · obtain ⟨z, rfl⟩ : ∃ z, i = T + z := ⟨i - T, by omega⟩
        rw [hX z (by omega), m3 z (by omega)]
        exact by_lem _
  · rw [t2, if_neg (by rw [show (380 : Int32) = Int32.ofNat 380 from rfl, ofn_le (by omega) (by omega)]; exact hT), e20, if_neg (by rw [show (400 : Int32) = Int32.ofNat 400 from rfl, ofn_le (by omega) (by omega)]; omega)]
    exact ⟨_, _, _, _, rfl, rfl, rfl, ⟨n, h.thr 0⟩, fcl.refl _, fmo_thr _ _⟩
end
