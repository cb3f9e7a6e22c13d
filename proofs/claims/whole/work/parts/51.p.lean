/-! dishes and ladies against a row of the world -/
def rg (x : Int32) (lo hi : Int) : Prop := lo ≤ x.toInt ∧ x.toInt ≤ hi
def DR (C : HI) (b : Nat) (W : Nat → Int32) : Prop := C b 0 = W 0 ∧ ∀ d, d < 12 → (∀ k, k < 5 → C (b + 1) (5 * d + k) = W (17 + 8 * d + k)) ∧ C (b + 2) d = W (22 + 8 * d) ∧ C (b + 3) d = W (23 + 8 * d) ∧ C (b + 4) d = W (24 + 8 * d)
def LR (C : HI) (a : Nat) (W : Nat → Int32) : Prop := (C a 1 = W 1 ∧ C a 2 = W 3 ∧ C a 3 = W 4 ∧ C a 4 = W 5 ∧ C a 5 = W 6 ∧ C a 6 = W 7 ∧ C a 7 = W 8 ∧ C a 8 = W 9 ∧ C a 9 = W 10 ∧ C a 10 = W 11 ∧ C a 11 = W 12 ∧ C a 12 = W 13 ∧ C a 13 = W 14 ∧ C a 14 = W 16) ∧ DR C (a + 1) W
def DOk (n : Nat) (W : Nat → Int32) : Prop := W 0 = Int32.ofNat n ∧ n ≤ 12 ∧ ∀ d, d < 12 → (∀ k, k < 5 → rg (W (17 + 8 * d + k)) 0 9) ∧ rg (W (22 + 8 * d)) (-1) 9999 ∧ rg (W (23 + 8 * d)) (-1) 7 ∧ rg (W (24 + 8 * d)) (-1) 7
def WOk (n : Nat) (W : Nat → Int32) : Prop := DOk n W ∧ rg (W 1) 0 12 ∧ rg (W 3) 0 9999 ∧ rg (W 4) 0 9999 ∧ rg (W 5) 0 99 ∧ rg (W 7) 0 9999 ∧ rg (W 8) 0 45 ∧ rg (W 9) 0 999 ∧ rg (W 10) 0 999 ∧ rg (W 11) 0 100 ∧ rg (W 12) 0 7 ∧ rg (W 13) 0 50 ∧ rg (W 14) 0 9999 ∧ ∃ m, m ≤ 60 ∧ W 15 = Int32.ofNat m
/-! the class's dishes -/
section
variable {C M : HI} {b n : Nat} {W : Nat → Int32}
theorem cl_n (hD : DR C b W) (hW : DOk n W) : C b 0 = Int32.ofNat n := hD.1.trans hW.1
theorem cl_fst (hD : DR C b W) {d : Nat} (h : d < 12) : ald 12 (C (b + 2)) (Int32.ofNat d) = some (W (22 + 8 * d)) := by
  rw [ald_ofn h (by omega), (hD.2 d h).2.1]
theorem cl_plc (hD : DR C b W) {d : Nat} (h : d < 12) : ald 12 (C (b + 3)) (Int32.ofNat d) = some (W (23 + 8 * d)) := by
  rw [ald_ofn h (by omega), (hD.2 d h).2.2.1]
theorem cl_com (hD : DR C b W) {d : Nat} (h : d < 12) : ald 12 (C (b + 4)) (Int32.ofNat d) = some (W (24 + 8 * d)) := by
  rw [ald_ofn h (by omega), (hD.2 d h).2.2.2]
theorem ix_tst (d k : Nat) : Int32.ofNat d * (5 : Int32) + Int32.ofNat k = Int32.ofNat (5 * d + k) := by
  rw [Int32.ofNat_add, Nat.mul_comm, Int32.ofNat_mul]; rfl
theorem cl_tst (hD : DR C b W) {d k : Nat} (h : d < 12) (hk : k < 5) : ald 60 (C (b + 1)) (Int32.ofNat d * (5 : Int32) + Int32.ofNat k) = some (W (17 + 8 * d + k)) := by
  rw [ix_tst, ald_ofn (by omega) (by omega), (hD.2 d h).1 k hk]
theorem cl_has (hD : DR C b W) (hW : DOk n W) {d : Nat} (h : d < n) : F_X1_has C b (Int32.ofNat d) = some 1 := by
  unfold F_X1_has
  have := hW.2.1
  rw [if_neg (ofn_nneg (by omega)), cl_n hD hW, if_neg (by rw [ofn_le (by omega) (by omega)]; omega)]
theorem cl_hasN (hD : DR C b W) (hW : DOk n W) {x : Int32} (h : x < 0 ∨ Int32.ofNat n ≤ x) : F_X1_has C b x = some 0 := by
  unfold F_X1_has
  by_cases h0 : x < 0
  · rw [if_pos h0]
  · rw [if_neg h0, cl_n hD hW, if_pos (h.resolve_left h0)]
theorem cl_isHad (hD : DR C b W) (hW : DOk n W) {d : Nat} (h : d < n) : F_X1_isHad C b (Int32.ofNat d) = some (if W (22 + 8 * d) = -1 then 0 else 1) := by
  unfold F_X1_isHad
  have := hW.2.1
  rw [cl_has hD hW h, cl_fst hD (by omega)]
  simp only [Option.bind_eq_bind, Option.bind_some]
  rw [if_neg (by decide)]
  split <;> rfl
def iabs (x : Int32) : Int32 := if 0 ≤ x then x else 0 - x
def dst (W : Nat → Int32) (d e : Nat) : Int32 := lp (fun k s => s + iabs (W (17 + 8 * d + k) - W (17 + 8 * e + k))) 0 5 0
theorem cl_dist (hD : DR C b W) {d e : Nat} (hd : d < 12) (he : e < 12) : F_X1_distance C b (Int32.ofNat d) (Int32.ofNat e) = some (dst W d e) := by
  unfold F_X1_distance dst
  refine lp_rule (fun s i => L_X1_distance_5 C b (Int32.ofNat d) (Int32.ofNat e) s i) 5 (by decide) _ (fun s => s) (fun s => ?_) (fun i s hi => ?_) 5 0 0 rfl
  · rw [L_X1_distance_5]; rfl
  · try simp only
    rw [L_X1_distance_5, if_neg (by rw [show (5 : Int32) = Int32.ofNat 5 from rfl, ofn_le (by omega) (by omega)]; omega), cl_tst hD hd hi, cl_tst hD he hi]
    show (if 0 ≤ W (17 + 8 * d + i) - W (17 + 8 * e + i) then _ else _) = _
    unfold iabs
    split
    · rfl
    · rw [Int32.zero_sub]
theorem cl_firstIn (hD : DR C b W) (hW : DOk n W) {lo hi : Int32} : F_X1_firstIn C b lo hi = some (bits n (fun d => decide (¬ W (22 + 8 * d) = -1 ∧ ¬ W (22 + 8 * d) < lo ∧ ¬ hi < W (22 + 8 * d)))) := by
  have hn := hW.2.1
  unfold F_X1_firstIn bits
  refine lp_rule (fun s i => L_X1_firstIn_5 C b lo hi s i) n (by omega) _ (fun s => s) (fun s => ?_) (fun i s hi' => ?_) n 0 0 (by omega)
  · rw [L_X1_firstIn_5, cl_n hD hW, if_pos (Int32.le_refl _)]
  · try simp only
    rw [L_X1_firstIn_5, cl_n hD hW, if_neg (by rw [ofn_le (by omega) (by omega)]; omega), cl_fst hD (by omega)]
    simp only [Option.bind_eq_bind, Option.bind_some]
    by_cases h1 : W (22 + 8 * i) = -1
    · simp [h1]
    · by_cases h2 : W (22 + 8 * i) < lo
      · simp [h1, h2]
      · by_cases h3 : hi < W (22 + 8 * i)
        · simp [h1, h2, h3]
        · simp [h1, h2, h3, bitN]
theorem cl_hadAt (hD : DR C b W) (hW : DOk n W) {x : Int32} : F_X1_hadAt C b x = some (bits n (fun d => decide (¬ W (22 + 8 * d) = -1 ∧ W (23 + 8 * d) = x))) := by
  have hn := hW.2.1
  unfold F_X1_hadAt bits
  refine lp_rule (fun s i => L_X1_hadAt_4 C b x s i) n (by omega) _ (fun s => s) (fun s => ?_) (fun i s hi' => ?_) n 0 0 (by omega)
  · rw [L_X1_hadAt_4, cl_n hD hW, if_pos (Int32.le_refl _)]
  · try simp only
    rw [L_X1_hadAt_4, cl_n hD hW, if_neg (by rw [ofn_le (by omega) (by omega)]; omega), cl_fst hD (by omega), cl_plc hD (by omega)]
    simp only [Option.bind_eq_bind, Option.bind_some]
    by_cases h1 : W (22 + 8 * i) = -1
    · simp [h1]
    · by_cases h2 : W (23 + 8 * i) = x
      · simp [h1, h2, bitN]
      · simp [h1, h2]
theorem cl_hadWith (hD : DR C b W) (hW : DOk n W) {x : Int32} : F_X1_hadWith C b x = some (bits n (fun d => decide (¬ W (22 + 8 * d) = -1 ∧ W (24 + 8 * d) = x))) := by
  have hn := hW.2.1
  unfold F_X1_hadWith bits
  refine lp_rule (fun s i => L_X1_hadWith_4 C b x s i) n (by omega) _ (fun s => s) (fun s => ?_) (fun i s hi' => ?_) n 0 0 (by omega)
  · rw [L_X1_hadWith_4, cl_n hD hW, if_pos (Int32.le_refl _)]
  · try simp only
    rw [L_X1_hadWith_4, cl_n hD hW, if_neg (by rw [ofn_le (by omega) (by omega)]; omega), cl_fst hD (by omega), cl_com hD (by omega)]
    simp only [Option.bind_eq_bind, Option.bind_some]
    by_cases h1 : W (22 + 8 * i) = -1
    · simp [h1]
    · by_cases h2 : W (24 + 8 * i) = x
      · simp [h1, h2, bitN]
      · simp [h1, h2]
/-- what a spoon of d calls up -/
def cup (W : Nat → Int32) (n d : Nat) (r : Int32) : Int32 := if W (22 + 8 * d) = -1 then (lp (fun e (s : Int32 × Int32) => if W (22 + 8 * e) = -1 then s else if s.2 ≤ dst W d e then s else (Int32.ofNat e, dst W d e)) 0 n ((-1 : Int32), r + 1)).1 else Int32.ofNat d
theorem cl_calledUp (hD : DR C b W) (hW : DOk n W) {d : Nat} (hd : d < n) {r : Int32} : F_X1_calledUp C b (Int32.ofNat d) r = some (cup W n d r) := by
  have hn := hW.2.1
  unfold F_X1_calledUp cup
  rw [cl_isHad hD hW hd]
  simp only [Option.bind_eq_bind, Option.bind_some]
  by_cases h0 : W (22 + 8 * d) = -1
  · rw [if_pos h0, if_pos rfl, if_pos h0]
    refine lp_rule (fun (s : Int32 × Int32) i => L_X1_calledUp_20 C b (Int32.ofNat d) s.1 s.2 i) n (by omega) _ (fun s => s.1) (fun s => ?_) (fun i s hi' => ?_) n 0 (-1, r + 1) (by omega)
    · rw [L_X1_calledUp_20, cl_n hD hW, if_pos (Int32.le_refl _)]
    · try simp only
      rw [L_X1_calledUp_20, cl_n hD hW, if_neg (by rw [ofn_le (by omega) (by omega)]; omega), cl_fst hD (by omega), cl_dist hD (by omega) (by omega)]
      simp only [Option.bind_eq_bind, Option.bind_some]
      by_cases h1 : W (22 + 8 * i) = -1
      · simp [h1]
      · by_cases h2 : s.2 ≤ dst W d i
        · simp [h1, h2]
        · simp [h1, h2]
  · rw [if_neg h0, if_neg (by decide), if_neg h0]
/-! the reference's dishes -/
theorem ix_at (d k : Nat) : ((17 : Int32) + (8 : Int32) * Int32.ofNat d) + Int32.ofNat k = Int32.ofNat (17 + 8 * d + k) := by
  rw [Int32.ofNat_add, Int32.ofNat_add, Int32.ofNat_mul]; rfl
theorem m_of {d k : Nat} (hd : d < 12) (hk : k < 8) : F_X12_of M (Int32.ofNat d) (Int32.ofNat k) = some (M 206 (17 + 8 * d + k)) := by
  unfold F_X12_of F_X12_at
  simp only [Option.bind_eq_bind, Option.bind_some]
  rw [ix_at, ald_ofn (by omega) (by omega)]
  rfl
theorem m_fst {d : Nat} (hd : d < 12) : F_X12_of M (Int32.ofNat d) (5 : Int32) = some (M 206 (22 + 8 * d)) := by
  rw [show (5 : Int32) = Int32.ofNat 5 from rfl, m_of hd (by decide), show 17 + 8 * d + 5 = 22 + 8 * d by omega]
theorem m_plc {d : Nat} (hd : d < 12) : F_X12_of M (Int32.ofNat d) (6 : Int32) = some (M 206 (23 + 8 * d)) := by
  rw [show (6 : Int32) = Int32.ofNat 6 from rfl, m_of hd (by decide), show 17 + 8 * d + 6 = 23 + 8 * d by omega]
theorem m_com {d : Nat} (hd : d < 12) : F_X12_of M (Int32.ofNat d) (7 : Int32) = some (M 206 (24 + 8 * d)) := by
  rw [show (7 : Int32) = Int32.ofNat 7 from rfl, m_of hd (by decide), show 17 + 8 * d + 7 = 24 + 8 * d by omega]
theorem m_isNew {d : Nat} (hd : d < 12) : F_X12_isNew M (Int32.ofNat d) = some (if M 206 (22 + 8 * d) = -1 then 1 else 0) := by
  unfold F_X12_isNew
  rw [m_fst hd]
  show (if M 206 (22 + 8 * d) = -1 then some 1 else some 0) = _
  split <;> rfl
theorem m_noDish (hW : DOk n (M 206)) {d : Nat} (h : d < n) : F_X12_noDish M (Int32.ofNat d) = some 0 := by
  unfold F_X12_noDish F_X12_dishes F_X12_in
  have hn := hW.2.1
  simp only [Option.bind_eq_bind, Option.bind_some]
  rw [if_neg (ofn_nneg (by omega)), hW.1]
  rw [if_neg]
  · rfl
  · rw [ti_lt, ti_sub (by rw [ti_ofn (by omega), ti_1]; omega) (by rw [ti_ofn (by omega), ti_1]; omega), ti_ofn (by omega), ti_ofn (by omega), ti_1]
    omega
theorem m_noDishN (hW : DOk n (M 206)) {x : Int32} (h : x < 0 ∨ Int32.ofNat n ≤ x) : F_X12_noDish M x = some 1 := by
  unfold F_X12_noDish F_X12_dishes F_X12_in
  have hn := hW.2.1
  simp only [Option.bind_eq_bind, Option.bind_some]
  by_cases h0 : x < 0
  · rw [if_pos h0]; rfl
  · have h1 := h.resolve_left h0
    rw [if_neg h0, hW.1, if_pos]
    · rfl
    · rw [ti_le, ti_ofn (by omega)] at h1
      rw [ti_lt, ti_sub (by rw [ti_ofn (by omega), ti_1]; omega) (by rw [ti_ofn (by omega), ti_1]; omega), ti_ofn (by omega), ti_1]
      omega
theorem m_thr0 {c : Int32} : F_X12_throwsIf M 0 c = some (0, M) := rfl
theorem m_thr1 {c : Int32} : F_X12_throwsIf M 1 c = some (1, up2 M 205 0 c) := rfl
theorem m_farOf {d e : Nat} (hd : d < 12) (he : e < 12) : F_X12_farOf M (Int32.ofNat d) (Int32.ofNat e) = some (dst (M 206) d e) := by
  unfold F_X12_farOf dst
  refine lp_rule (fun s i => L_X12_farOf_5 M (Int32.ofNat d) (Int32.ofNat e) s i) 5 (by decide) _ (fun s => s) (fun s => ?_) (fun i s hi => ?_) 5 0 0 rfl
  · rw [L_X12_farOf_5]; rfl
  · try simp only
    rw [L_X12_farOf_5, if_neg (by rw [show (5 : Int32) = Int32.ofNat 5 from rfl, ofn_le (by omega) (by omega)]; omega), m_of hd (by omega), m_of he (by omega)]
    rfl
theorem m_hadAt (hW : DOk n (M 206)) {k : Nat} (hk : k < 8) {x : Int32} : F_X12_hadAt M (Int32.ofNat k) x = some (bits n (fun d => decide (¬ M 206 (22 + 8 * d) = -1 ∧ M 206 (17 + 8 * d + k) = x))) := by
  have hn := hW.2.1
  unfold F_X12_hadAt bits
  refine lp_rule (fun s i => L_X12_hadAt_5 M (Int32.ofNat k) x s i) n (by omega) _ (fun s => s) (fun s => ?_) (fun i s hi' => ?_) n 0 0 (by omega)
  · rw [L_X12_hadAt_5]
    unfold F_X12_dishes
    simp only [Option.bind_eq_bind, Option.bind_some]
    rw [hW.1, if_pos (Int32.le_refl _)]
  · try simp only
    rw [L_X12_hadAt_5]
    unfold F_X12_dishes
    rw [m_isNew (by omega), m_of (by omega) hk]
    simp only [Option.bind_eq_bind, Option.bind_some]
    rw [hW.1, if_neg (by rw [ofn_le (by omega) (by omega)]; omega)]
    by_cases h1 : M 206 (22 + 8 * i) = -1
    · simp [h1]
    · by_cases h2 : M 206 (17 + 8 * i + k) = x
      · simp [h1, h2, bitN]
      · simp [h1, h2]
theorem m_newOnes (hW : DOk n (M 206)) : F_X12_newOnes M = some (bits n (fun d => decide (M 206 (22 + 8 * d) = -1))) := by
  have hn := hW.2.1
  unfold F_X12_newOnes bits
  refine lp_rule (fun s i => L_X12_newOnes_4 M s i) n (by omega) _ (fun s => s) (fun s => ?_) (fun i s hi' => ?_) n 0 0 (by omega)
  · rw [L_X12_newOnes_4]
    unfold F_X12_dishes
    simp only [Option.bind_eq_bind, Option.bind_some]
    rw [hW.1, if_pos (Int32.le_refl _)]
  · try simp only
    rw [L_X12_newOnes_4]
    unfold F_X12_dishes
    rw [m_isNew (by omega)]
    simp only [Option.bind_eq_bind, Option.bind_some]
    rw [hW.1, if_neg (by rw [ofn_le (by omega) (by omega)]; omega)]
    by_cases h1 : M 206 (22 + 8 * i) = -1
    · simp [h1, bitN]
    · simp [h1]
end
