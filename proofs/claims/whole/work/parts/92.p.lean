section
variable {C C' M M' : HI} {n J : Nat} {x1 x2 : Int32} {W : Nat → Int32} {vs : Nat → Nat} {c : Nat → Nat → Nat}
/-- how far the jar is from the dish -/
def jfI (W : Nat → Int32) (vs : Nat → Nat) (jar d : Nat) : Int32 := lp (fun k s => s + iabs (Int32.ofNat (vs (5 * jar + k)) - W (17 + 8 * d + k))) 0 5 0
def jcN (W : Nat → Int32) (vs : Nat → Nat) (jar d : Nat) : Nat := min 45 (jfI W vs jar d).toInt.toNat
theorem jcN_le (jar d : Nat) : jcN W vs jar d ≤ 45 := Nat.min_le_left _ _
theorem jfI_eq (hW : DOk n W) {jar d : Nat} (hv : ∀ k, k < 5 → vs (5 * jar + k) ≤ 9) (hd : d < 12) : jfI W vs jar d = Int32.ofNat (jcN W vs jar d) := by
  have h := lp_inv (f := fun k s => s + iabs (Int32.ofNat (vs (5 * jar + k)) - W (17 + 8 * d + k))) (fun i s => 0 ≤ s.toInt ∧ s.toInt ≤ 9 * i) 5 0 0 ⟨by rw [ti_0]; omega, by rw [ti_0]; omega⟩ (fun k s h1 h2 h3 => by
    have q := (hW.2.2 d hd).1 k (by omega)
    have v := hv k (by omega)
    unfold rg at q
    have e : (Int32.ofNat (vs (5 * jar + k)) - W (17 + 8 * d + k)).toInt = (vs (5 * jar + k) : Int) - (W (17 + 8 * d + k)).toInt := by
      rw [ti_sub (by rw [ti_ofn (by omega)]; omega) (by rw [ti_ofn (by omega)]; omega), ti_ofn (by omega)]
    have i : 0 ≤ (iabs (Int32.ofNat (vs (5 * jar + k)) - W (17 + 8 * d + k))).toInt ∧ (iabs (Int32.ofNat (vs (5 * jar + k)) - W (17 + 8 * d + k))).toInt ≤ 9 := by
      unfold iabs
      split
      · rename_i w; rw [ti_le, ti_0] at w; omega
      · rename_i w; rw [ti_le, ti_0] at w; rw [ti_sub (by rw [ti_0]; omega) (by rw [ti_0]; omega), ti_0]; omega
    show 0 ≤ (s + iabs _).toInt ∧ (s + iabs _).toInt ≤ _
    rw [ti_add (by omega) (by omega)]
    omega)
  simp only [Nat.zero_add] at h
  have h' : 0 ≤ (jfI W vs jar d).toInt ∧ (jfI W vs jar d).toInt ≤ 45 := by
    have := h
    unfold jfI
    omega
  unfold jcN
  rw [ti_eq, ti_ofn (by omega)]
  omega
theorem cl_farFrom (hD : DR C 4 W) {jar d : Nat} (hj : jar < 5) (hd : d < 12) (hv : ∀ k, k < 5 → C 2 (5 * jar + k) = Int32.ofNat (vs (5 * jar + k))) : F_X2_farFrom C (Int32.ofNat jar) 4 (Int32.ofNat d) = some (jfI W vs jar d) := by
  unfold F_X2_farFrom jfI
  refine lp_rule (fun s i => L_X2_farFrom_6 C 4 (Int32.ofNat jar) (Int32.ofNat d) s i) 5 (by decide) _ (fun s => s) (fun s => ?_) (fun i s hi => ?_) 5 0 0 rfl
  · rw [L_X2_farFrom_6]; rfl
  · try simp only
    rw [L_X2_farFrom_6, if_neg (by rw [show (5 : Int32) = Int32.ofNat 5 from rfl, ofn_le (by omega) (by omega)]; omega), cl_tst hD hd hi, ix_tst, if_neg (by rw [show (400 : Int32) = Int32.ofNat 400 from rfl, ofn_le (by omega) (by omega)]; omega), ald_ofn (by omega) (by omega), hv i hi]
    show (if 0 ≤ Int32.ofNat (vs (5 * jar + i)) - W (17 + 8 * d + i) then _ else _) = _
    unfold iabs
    split
    · rfl
    · rw [Int32.zero_sub]
theorem ix5 (d k : Nat) : (5 : Int32) * Int32.ofNat d + Int32.ofNat k = Int32.ofNat (5 * d + k) := by
  rw [Int32.ofNat_add, Int32.ofNat_mul]; rfl
theorem ix12 (d k : Nat) : Int32.ofNat d * (12 : Int32) + Int32.ofNat k = Int32.ofNat (12 * d + k) := by
  rw [Int32.ofNat_add, Int32.ofNat_mul, Int32.mul_comm]; rfl
theorem m_jarFrom {jar d : Nat} (hj : jar < 5) (hd : d < 12) (hv : ∀ k, k < 5 → M 211 (5 * jar + k) = Int32.ofNat (vs (5 * jar + k))) : F_X12_jarFrom M (Int32.ofNat jar) (Int32.ofNat d) = some (jfI (M 206) vs jar d) := by
  unfold F_X12_jarFrom jfI
  refine lp_rule (fun s i => L_X12_jarFrom_5 M (Int32.ofNat jar) (Int32.ofNat d) s i) 5 (by decide) _ (fun s => s) (fun s => ?_) (fun i s hi => ?_) 5 0 0 rfl
  · rw [L_X12_jarFrom_5]; rfl
  · try simp only
    rw [L_X12_jarFrom_5, if_neg (by rw [show (5 : Int32) = Int32.ofNat 5 from rfl, ofn_le (by omega) (by omega)]; omega), ix5, ald_ofn (by omega) (by omega), hv i hi, m_of hd (by omega)]
    rfl
theorem or_ofn {s d : Nat} (hs : s < 4096) (hd : d < 12) : Int32.ofNat s ||| ((1 : Int32) <<< (Int32.ofNat d &&& 31)) = Int32.ofNat (s ||| 2 ^ d) := by
  show Int32.ofNat s ||| bitN d = _
  refine tb_ext (fun j hj => ?_)
  rw [tb_or, tb_bitN (by omega), tb_nat hj, tb_nat hj, tbo]
theorem or_lt {s d : Nat} (hs : s < 2 ^ n) (hd : d < n) : s ||| 2 ^ d < 2 ^ n := Nat.or_lt_two_pow hs (Nat.pow_lt_pow_right (by omega) hd)
theorem p2n (hn : n ≤ 12) : 2 ^ n ≤ 4096 := Nat.pow_le_pow_right (show 2 > 0 by omega) hn
/-! the reference's table -/
def optS (c : Nat → Nat → Nat) (n J s : Nat) : Nat := optJ c n (J - cntN n s.testBit) (cntN n s.testBit) s
/-- what the reference's table rests on -/
def JM (M : HI) (c : Nat → Nat → Nat) (n J : Nat) : Prop := M 206 0 = Int32.ofNat n ∧ n ≤ 12 ∧ J ≤ 5 ∧ J ≤ n ∧ (∀ jar d, c jar d ≤ 45) ∧ ∀ jar d, jar < J → d < n → F_X12_jarFrom M (Int32.ofNat jar) (Int32.ofNat d) = some (Int32.ofNat (c jar d))
theorem jarFrom_up {M : HI} {k : Nat} {v x y : Int32} : F_X12_jarFrom (up2 M 216 k v) x y = F_X12_jarFrom M x y := by
  unfold F_X12_jarFrom
  have key : ∀ (r i : Nat) (s : Int32), i + r = 5 → L_X12_jarFrom_5 (up2 M 216 k v) x y s (Int32.ofNat i) = L_X12_jarFrom_5 M x y s (Int32.ofNat i) := by
    intro r
    induction r with
    | zero => intro i s hi; rw [L_X12_jarFrom_5, L_X12_jarFrom_5, show i = 5 by omega, if_pos (by decide), if_pos (by decide)]
    | succ r ih =>
      intro i s hi
      rw [L_X12_jarFrom_5, L_X12_jarFrom_5, ofn_succ]
      have e : ∀ s : Int32, L_X12_jarFrom_5 (up2 M 216 k v) x y s (Int32.ofNat (i + 1)) = L_X12_jarFrom_5 M x y s (Int32.ofNat (i + 1)) := fun s => ih (i + 1) s (by omega)
      simp only [e]
      rfl
  exact key 5 0 0 rfl
theorem JM.up (h : JM M c n J) {k : Nat} {v : Int32} : JM (up2 M 216 k v) c n J := ⟨h.1, h.2.1, h.2.2.1, h.2.2.2.1, h.2.2.2.2.1, fun jar d h1 h2 => by rw [jarFrom_up]; exact h.2.2.2.2.2 jar d h1 h2⟩
theorem optS_J {s : Nat} (h : cntN n s.testBit < J) : optS c n J s = optJ c n (J - 1 - cntN n s.testBit + 1) (cntN n s.testBit) s := by
  unfold optS
  rw [show J - cntN n s.testBit = J - 1 - cntN n s.testBit + 1 by omega]
theorem optS_add {s d : Nat} (hd : d < n) (h : s.testBit d = false) (hj : cntN n s.testBit < J) : optS c n J (s ||| 2 ^ d) = optJ c n (J - 1 - cntN n s.testBit) (cntN n s.testBit + 1) (s ||| 2 ^ d) := by
  unfold optS
  rw [pc_add hd h, show J - (cntN n s.testBit + 1) = J - 1 - cntN n s.testBit by omega]
theorem optS_rg (hJ : J ≤ 5) (hJn : J ≤ n) (hc : ∀ jar d, c jar d ≤ 45) (s : Nat) : optS c n J s ≤ 225 := by
  unfold optS
  by_cases h : cntN n s.testBit ≤ J
  · have := opt_rg (n := n) hc (J - cntN n s.testBit) (cntN n s.testBit) s (by omega)
    omega
  · rw [show J - cntN n s.testBit = 0 by omega]; exact Nat.zero_le _
/-- what the table says of dish d, the set s taken -/
theorem m_farBy (h : JM M c n J) {s d : Nat} (hs : s < 2 ^ n) (hd : d < n) (hj : cntN n s.testBit < J) (ht : s.testBit d = false → M 216 (s ||| 2 ^ d) = Int32.ofNat (optS c n J (s ||| 2 ^ d))) : F_X12_farBy M (Int32.ofNat (cntN n s.testBit)) (Int32.ofNat s) (Int32.ofNat d) = some (Int32.ofNat (if s.testBit d = true then 1000000 else valJ c n (J - 1 - cntN n s.testBit) (cntN n s.testBit) s d)) := by
  obtain ⟨h1, h2, h3, h4, h5, h6⟩ := h
  have hp := p2n h2
  unfold F_X12_farBy
  rw [m_has d (by omega), tb_nat (by omega), Option.bind_eq_bind, Option.bind_some]
  cases q : s.testBit d with
  | true => rw [if_pos rfl, if_neg (by decide), if_pos rfl]; rfl
  | false =>
    have hlt := or_lt hs hd
    try simp only [Option.bind_eq_bind]
    rw [if_pos (show (if false = true then (1 : Int32) else 0) = 0 from rfl), h6 _ d hj hd, Option.bind_some, or_ofn (by omega) (by omega), ald_ofn (by omega) (by omega), Option.bind_some, ht q, optS_add hd q hj, if_neg (show ¬ false = true by decide), ← Int32.ofNat_add]
    rfl
theorem m_ll34 (h : JM M c n J) {s : Nat} (hs : s < 2 ^ n) (hj : cntN n s.testBit < J) : ∀ r i (M : HI), i + r = n → JM M c n J → (∀ s', s < s' → s' < 2 ^ n → M 216 s' = Int32.ofNat (optS c n J s')) → M 216 s = Int32.ofNat (mnF (frb s) (valJ c n (J - 1 - cntN n s.testBit) (cntN n s.testBit) s) i) → ∃ v, L_X12_laysLeast_34 (Int32.ofNat J) (Int32.ofNat s) (Int32.ofNat (cntN n s.testBit)) (Int32.ofNat i) M = some (v, up2 M 216 s (Int32.ofNat (optS c n J s))) := by
  obtain ⟨-, h2, h3, h4, h5, -⟩ := h
  have hp := p2n h2
  intro r
  induction r with
  | zero =>
    intro i M hi hM _ hm
    rw [L_X12_laysLeast_34]
    unfold F_X12_dishes
    rw [hM.1, Option.bind_eq_bind, Option.bind_some, if_pos (by rw [show i = n by omega]; exact Int32.le_refl _), optS_J hj]
    refine ⟨_, congrArg some (Prod.ext rfl ?_)⟩
    show M = _
    rw [show i = n by omega] at hm
    have : M 216 s = Int32.ofNat (optJ c n (J - 1 - cntN n s.testBit + 1) (cntN n s.testBit) s) := hm
    rw [← this, up2_same]
  | succ r ih =>
    intro i M hi hM hT hm
    have hgt : s.testBit i = false → s < s ||| 2 ^ i := fun q => by
      have h1 := Nat.left_le_or (n := s) (m := 2 ^ i)
      rcases Nat.lt_or_ge s (s ||| 2 ^ i) with w | w
      · exact w
      · have e : s = s ||| 2 ^ i := by omega
        have : (s ||| 2 ^ i).testBit i = true := by rw [tbo]; simp
        rw [← e, q] at this
        cases this
    have hfb := m_farBy hM hs (d := i) (by omega) hj (fun q => hT _ (hgt q) (or_lt hs (by omega)))
    have htop := mnF_top (P := frb s) (v := valJ c n (J - 1 - cntN n s.testBit) (cntN n s.testBit) s) i
    rw [L_X12_laysLeast_34]
    unfold F_X12_dishes
    simp only [Option.bind_eq_bind]
    rw [hM.1, Option.bind_some, if_neg (by rw [ofn_le (by omega) (by omega)]; omega), if_neg (by rw [ofn_le (by omega) (by omega)]; omega), ald_ofn (by omega) (by omega), Option.bind_some, hfb, Option.bind_some, if_pos (inB_ofn (by omega) (by omega)), ofn_clamp (by omega), ofn_succ, hm]
    generalize hA : mnF (frb s) (valJ c n (J - 1 - cntN n s.testBit) (cntN n s.testBit) s) i = A at htop
    have hvl : s.testBit i = false → valJ c n (J - 1 - cntN n s.testBit) (cntN n s.testBit) s i ≤ 1000 := fun q => by
      have c1 := h5 (cntN n s.testBit) i
      have c2 := opt_rg (n := n) h5 (J - 1 - cntN n s.testBit) (cntN n s.testBit + 1) (s ||| 2 ^ i) (by rw [pc_add (by omega) q]; omega)
      unfold valJ
      omega
    have hst : (if Int32.ofNat (if s.testBit i = true then 1000000 else valJ c n (J - 1 - cntN n s.testBit) (cntN n s.testBit) s i) < Int32.ofNat A then Int32.ofNat (if s.testBit i = true then 1000000 else valJ c n (J - 1 - cntN n s.testBit) (cntN n s.testBit) s i) else Int32.ofNat A) = Int32.ofNat (mnF (frb s) (valJ c n (J - 1 - cntN n s.testBit) (cntN n s.testBit) s) (i + 1)) := by
      rw [mnF, hA]
      unfold frb
      cases q : s.testBit i with
      | true =>
        rw [if_pos rfl, if_neg (by rw [ofn_lt (by omega) (by omega)]; omega), if_neg (by simp)]
      | false =>
        have := hvl q
        rw [if_neg (show ¬ false = true by decide)]
        by_cases w : valJ c n (J - 1 - cntN n s.testBit) (cntN n s.testBit) s i < A
        · rw [if_pos (by rw [ofn_lt (by omega) (by omega)]; exact w), if_pos ⟨rfl, w⟩]
        · rw [if_neg (by rw [ofn_lt (by omega) (by omega)]; exact w), if_neg (fun y => w y.2)]
    rw [hst]
    obtain ⟨v, e⟩ := ih (i + 1) (up2 M 216 s (Int32.ofNat (mnF (frb s) (valJ c n (J - 1 - cntN n s.testBit) (cntN n s.testBit) s) (i + 1)))) (by omega) hM.up (fun s' q1 q2 => by rw [up2_get, if_neg (by omega)]; exact hT s' q1 q2) (by rw [up2_get, if_pos ⟨rfl, rfl⟩])
    rw [up2_up2] at e
    exact ⟨v, e⟩
theorem m_ll5 (h : JM M c n J) : ∀ r (M : HI), r ≤ 2 ^ n → JM M c n J → (∀ s', r ≤ s' → s' < 2 ^ n → M 216 s' = Int32.ofNat (optS c n J s')) → ∃ M', L_X12_laysLeast_5 (Int32.ofNat J) (Int32.ofNat r - 1) M = some M' ∧ (∀ s', s' < 2 ^ n → M' 216 s' = Int32.ofNat (optS c n J s')) ∧ (∀ b, b ≠ 216 → M' b = M b) ∧ JM M' c n J := by
  have h2 := h.2.1
  have h3 := h.2.2.1
  have hp := p2n h2
  intro r
  induction r with
  | zero =>
    intro M _ hM hT
    rw [L_X12_laysLeast_5, if_pos (by decide)]
    exact ⟨M, rfl, fun s' q => hT s' (by omega) q, fun _ _ => rfl, hM⟩
  | succ r ih =>
    intro M hr hM hT
    have e1 : Int32.ofNat (r + 1) - 1 = Int32.ofNat r := by
      rw [ti_eq, ti_sub (by rw [ti_ofn (by omega), ti_1]; omega) (by rw [ti_ofn (by omega), ti_1]; omega), ti_ofn (by omega), ti_ofn (by omega), ti_1]; omega
    have e2 : Int32.ofNat r + (-1 : Int32) = Int32.ofNat r - 1 := by rw [Int32.sub_eq_add_neg]
    have hz : ∀ j, n ≤ j → r.testBit j = false := fun j hj => Nat.testBit_lt_two_pow (Nat.lt_of_lt_of_le (show r < 2 ^ n by omega) (Nat.pow_le_pow_right (by omega) hj))
    have hbc : F_J6_bitCount_0f7a4 M (Int32.ofNat r) = some (Int32.ofNat (cntN n r.testBit)) := by
      rw [bc_pc0, pc_all (by omega)]
      exact congrArg some (congrArg Int32.ofNat (cntN_ext (P := fun d => r.testBit d) h2 (fun d h1 h2 => hz d h1)))
    have hcn := cntN_le n r.testBit
    rw [e1, L_X12_laysLeast_5, if_neg (by rw [show (0 : Int32) = Int32.ofNat 0 from rfl, ofn_lt (by omega) (by omega)]; omega), hbc, Option.bind_eq_bind, Option.bind_some, e2]
    have fin : ∀ v : Int32, v = Int32.ofNat (optS c n J r) → ∃ M', L_X12_laysLeast_5 (Int32.ofNat J) (Int32.ofNat r - 1) (up2 M 216 r v) = some M' ∧ (∀ s', s' < 2 ^ n → M' 216 s' = Int32.ofNat (optS c n J s')) ∧ (∀ b, b ≠ 216 → M' b = M b) ∧ JM M' c n J := by
      intro v hv
      obtain ⟨M', a1, a2, a3, a4⟩ := ih (up2 M 216 r v) (by omega) hM.up (fun s' q1 q2 => by
        rw [up2_get]
        by_cases q : s' = r
        · rw [if_pos ⟨rfl, q⟩, hv, q]
        · rw [if_neg (fun y => q y.2)]; exact hT s' (by omega) q2)
      exact ⟨M', a1, a2, fun b hb => by rw [a3 b hb, up2_ne _ _ _ hb], a4⟩
    by_cases q : cntN n r.testBit < J
    · rw [if_pos (by rw [ofn_lt (by omega) (by omega)]; exact q), if_pos (inB_ofn (by omega) (by omega)), ofn_clamp (by omega)]
      obtain ⟨v, e⟩ := m_ll34 h (s := r) (by omega) q n 0 (up2 M 216 r 1000000) (by omega) hM.up (fun s' q1 q2 => by rw [up2_get, if_neg (by omega)]; exact hT s' (by omega) q2) (by rw [up2_get, if_pos ⟨rfl, rfl⟩]; rfl)
      have e' : L_X12_laysLeast_34 (Int32.ofNat J) (Int32.ofNat r) (Int32.ofNat (cntN n r.testBit)) 0 (up2 M 216 r 1000000) = _ := e
      rw [e', Option.bind_eq_bind, Option.bind_some, up2_up2]
      exact fin _ rfl
    · rw [if_neg (by rw [ofn_lt (by omega) (by omega)]; exact q), if_pos (inB_ofn (by omega) (by omega)), ofn_clamp (by omega)]
      have e' : L_X12_laysLeast_34 (Int32.ofNat J) (Int32.ofNat r) (Int32.ofNat (cntN n r.testBit)) 0 (up2 M 216 r 0) = some (0, up2 M 216 r 0) := by
        rw [L_X12_laysLeast_34]
        unfold F_X12_dishes
        rw [Option.bind_eq_bind, Option.bind_some]
        split
        · rfl
        · rw [if_pos (by rw [ofn_le (by omega) (by omega)]; omega)]
      rw [e', Option.bind_eq_bind, Option.bind_some]
      refine fin _ ?_
      unfold optS
      rw [show J - cntN n r.testBit = 0 by omega]
      rfl
theorem m_j90 (h : JM M c n J) (hT : ∀ s', s' < 2 ^ n → M 216 s' = Int32.ofNat (optS c n J s')) {s : Nat} (hs : s < 2 ^ n) (hj : cntN n s.testBit < J) : L_X12_jars_90 M x1 (Int32.ofNat s) (Int32.ofNat (cntN n s.testBit)) 0 = some (Int32.ofNat (fbd c n (J - 1 - cntN n s.testBit) (cntN n s.testBit) s)) := by
  have h2 := h.2.1
  have h3 := h.2.2.1
  have h4 := h.2.2.2.1
  have h5 := h.2.2.2.2.1
  have hp := p2n h2
  obtain ⟨a1, a2, a3, a4, a5⟩ := fbd_spec h5 (n := n) (k := J - 1 - cntN n s.testBit) (jar := cntN n s.testBit) (s := s) (by omega) (by omega)
  have hor := opt_rg (n := n) h5 (J - 1 - cntN n s.testBit + 1) (cntN n s.testBit) s (by omega)
  have key : ∀ r d, d + r = fbd c n (J - 1 - cntN n s.testBit) (cntN n s.testBit) s → L_X12_jars_90 M x1 (Int32.ofNat s) (Int32.ofNat (cntN n s.testBit)) (Int32.ofNat d) = some (Int32.ofNat (fbd c n (J - 1 - cntN n s.testBit) (cntN n s.testBit) s)) := by
    intro r
    induction r with
    | zero =>
      intro d hd
      rw [Nat.add_zero] at hd
      rw [L_X12_jars_90]
      simp only [Option.bind_eq_bind]
      rw [m_farBy h hs (d := d) (by omega) hj (fun q => hT _ (or_lt hs (by omega))), Option.bind_some, ald_ofn (by omega) (by omega), Option.bind_some, hT s hs, optS_J hj]
      subst hd
      rw [if_neg (show ¬ s.testBit _ = true by rw [a2]; decide), if_pos (by rw [a3])]
    | succ r ih =>
      intro d hd
      rw [L_X12_jars_90]
      simp only [Option.bind_eq_bind]
      rw [m_farBy h hs (d := d) (by omega) hj (fun q => hT _ (or_lt hs (by omega))), Option.bind_some, ald_ofn (by omega) (by omega), Option.bind_some, hT s hs, optS_J hj, ofn_succ]
      rw [if_neg, ih (d + 1) (by omega)]
      cases q : s.testBit d with
      | true =>
        rw [if_pos rfl, ofn_eq (by omega) (by omega)]
        omega
      | false =>
        have w := a5 d (by omega) q
        have c1 := h5 (cntN n s.testBit) d
        have c2 := opt_rg (n := n) h5 (J - 1 - cntN n s.testBit) (cntN n s.testBit + 1) (s ||| 2 ^ d) (by rw [pc_add (by omega) q]; omega)
        have hv : valJ c n (J - 1 - cntN n s.testBit) (cntN n s.testBit) s d ≤ 1000 := by unfold valJ; omega
        rw [if_neg (show ¬ false = true by decide), ofn_eq (by omega) (by omega)]
        omega
  exact key (fbd c n (J - 1 - cntN n s.testBit) (cntN n s.testBit) s) 0 (Nat.zero_add _)
theorem m_j81 (h : JM M c n J) (hT : ∀ s', s' < 2 ^ n → M 216 s' = Int32.ofNat (optS c n J s')) {K : Nat} (hK : K < J) : ∀ r jar s x4, jar + r = K → s < 2 ^ n → cntN n s.testBit = jar → L_X12_jars_81 M (Int32.ofNat K) (Int32.ofNat s) x4 (Int32.ofNat jar) = some (Int32.ofNat ((fbJ c n (J - jar) jar s).getD (K - jar) 0), M) := by
  have h2 := h.2.1
  have h3 := h.2.2.1
  have h4 := h.2.2.2.1
  have h5 := h.2.2.2.2.1
  have hp := p2n h2
  intro r
  induction r with
  | zero =>
    intro jar s x4 hr hs hc
    have e := m_j90 (x1 := Int32.ofNat K) h hT hs (by omega)
    rw [hc] at e
    obtain ⟨a1, a2, -, -, -⟩ := fbd_spec h5 (n := n) (k := J - 1 - jar) (jar := jar) (s := s) (by omega) (by omega)
    rw [L_X12_jars_81, if_neg (by rw [ofn_lt (by omega) (by omega)]; omega), e, Option.bind_eq_bind, Option.bind_some, ofn_succ, L_X12_jars_81, if_pos (by rw [ofn_lt (by omega) (by omega)]; omega), show J - jar = J - 1 - jar + 1 by omega, show K - jar = 0 by omega]
    rfl
  | succ r ih =>
    intro jar s x4 hr hs hc
    have e := m_j90 (x1 := Int32.ofNat K) h hT hs (by omega)
    rw [hc] at e
    obtain ⟨a1, a2, -, -, -⟩ := fbd_spec h5 (n := n) (k := J - 1 - jar) (jar := jar) (s := s) (by omega) (by omega)
    rw [L_X12_jars_81, if_neg (by rw [ofn_lt (by omega) (by omega)]; omega), e, Option.bind_eq_bind, Option.bind_some, ofn_succ, or_ofn (by omega) (by omega), ih (jar + 1) _ _ (by omega) (or_lt hs a1) (by rw [pc_add a1 a2, hc]), show J - jar = J - 1 - jar + 1 by omega, show K - jar = K - (jar + 1) + 1 by omega, show J - (jar + 1) = J - 1 - jar by omega]
    rfl
end
