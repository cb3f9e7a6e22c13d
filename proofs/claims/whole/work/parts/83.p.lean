section
variable {C C' M M' : HI} {n N T d b : Nat} {x1 x2 : Int32} {W : Nat → Int32}
/-- d was had first in the age a at the place p with one -/
def hadBy (W : Nat → Int32) (a p one d : Nat) : Bool := decide (¬ W (22 + 8 * d) = -1 ∧ (W (22 + 8 * d)).toInt / 100 = a ∧ W (23 + 8 * d) = Int32.ofNat p ∧ W (24 + 8 * d) = Int32.ofNat one)
def anyB (n : Nat) (P : Nat → Bool) : Bool := lp (fun d s => s || P d) 0 n false
theorem anyB_succ (n : Nat) (P : Nat → Bool) : anyB (n + 1) P = (anyB n P || P n) := by
  unfold anyB; rw [lp_last, Nat.zero_add]
theorem cl_companyIn (hD : DR C b W) (hW : DOk n W) {a p : Nat} (ha : a ≤ 99) (hp : p ≤ 7) : ∃ x, F_X1_companyIn C b (Int32.ofNat a) (Int32.ofNat p) = some x ∧ ∀ j, j < 31 → tb x j = anyB n (hadBy W a p j) := by
  have hn := hW.2.1
  unfold F_X1_companyIn F_X1_inAge
  rw [cl_firstIn hD hW, cl_hadAt hD hW]
  simp only [Option.bind_eq_bind, Option.bind_some]
  have m1 : (Int32.ofNat a * 100).toInt = 100 * a := by
    have : Int32.ofNat a * 100 = Int32.ofNat (a * 100) := by rw [Int32.ofNat_mul]; rfl
    rw [this, ti_ofn (by omega)]; omega
  have m2 : (Int32.ofNat a * 100 + 99).toInt = 100 * a + 99 := by rw [ti_add (by rw [m1, ti_99]; omega) (by rw [m1, ti_99]; omega), m1, ti_99]
  generalize hS : (bits n (fun d => decide (¬ W (22 + 8 * d) = -1 ∧ ¬ W (22 + 8 * d) < Int32.ofNat a * 100 ∧ ¬ Int32.ofNat a * 100 + 99 < W (22 + 8 * d))) &&& bits n (fun d => decide (¬ W (22 + 8 * d) = -1 ∧ W (23 + 8 * d) = Int32.ofNat p))) = S
  have tS : ∀ d, d < n → tb S d = decide (¬ W (22 + 8 * d) = -1 ∧ (W (22 + 8 * d)).toInt / 100 = a ∧ W (23 + 8 * d) = Int32.ofNat p) := by
    intro d hd
    rw [← hS, tb_and, tb_bits (by omega), tb_bits (by omega)]
    simp only [hd, decide_true, Bool.true_and]
    rw [← Bool.decide_and]
    congr 1
    apply propext
    rw [ti_lt, ti_lt, m1, m2]
    constructor
    · rintro ⟨⟨h1, h2, h3⟩, -, h4⟩; exact ⟨h1, by omega, h4⟩
    · rintro ⟨h1, h2, h3⟩; exact ⟨⟨h1, by omega, by omega⟩, h1, h3⟩
  have key : ∀ (k i : Nat) (acc : Int32), i + k = n → (∀ j, j < 31 → tb acc j = anyB i (hadBy W a p j)) → ∃ x, L_X1_companyIn_18 C b S acc (Int32.ofNat i) = some x ∧ ∀ j, j < 31 → tb x j = anyB n (hadBy W a p j) := by
    intro k
    induction k with
    | zero =>
      intro i acc hi h
      refine ⟨acc, ?_, fun j hj => by rw [h j hj, show i = n by omega]⟩
      rw [L_X1_companyIn_18, cl_n hD hW, show i = n by omega, if_pos (Int32.le_refl _)]
    | succ k ih =>
      intro i acc hi h
      rw [L_X1_companyIn_18, cl_n hD hW, if_neg (by rw [ofn_le (by omega) (by omega)]; omega), sh_tb (by omega)]
      simp only [ite10]
      rw [cl_com hD (show i < 12 by omega)]
      simp only [Option.bind_eq_bind, Option.bind_some, ofn_succ]
      rw [tS i (by omega)]
      by_cases q : ¬ W (22 + 8 * i) = -1 ∧ (W (22 + 8 * i)).toInt / 100 = a ∧ W (23 + 8 * i) = Int32.ofNat p
      · rw [if_neg (by simp [q])]
        by_cases w : W (24 + 8 * i) = -1
        · rw [if_pos w]
          refine ih (i + 1) acc (by omega) (fun j hj => ?_)
          rw [h j hj, anyB_succ]
          have : hadBy W a p j i = false := by
            unfold hadBy
            rw [decide_eq_false_iff_not]
            rintro ⟨-, -, -, y⟩
            rw [w] at y
            exact ofn_ne_m1 (show j < 2147483648 by omega) y.symm
          rw [this, Bool.or_false]
        · rw [if_neg w]
          obtain ⟨c, c1, c2⟩ : ∃ c, c ≤ 7 ∧ W (24 + 8 * i) = Int32.ofNat c := by
            obtain ⟨r1, r2⟩ := (hW.2.2 i (by omega)).2.2.2
            rw [ti_eq, ti_m1] at w
            refine ⟨(W (24 + 8 * i)).toInt.toNat, by omega, ?_⟩
            rw [ti_eq, ti_ofn (by omega)]; omega
          rw [c2]
          refine ih (i + 1) _ (by omega) (fun j hj => ?_)
          rw [tb_or, h j hj, anyB_succ, show (1 : Int32) <<< (Int32.ofNat c &&& 31) = bitN c from rfl, tb_bitN (by omega)]
          congr 1
          unfold hadBy
          congr 1
          apply propext
          rw [c2, ofn_eq (by omega) (by omega)]
          constructor
          · rintro rfl; exact ⟨q.1, q.2.1, q.2.2, rfl⟩
          · rintro ⟨-, -, -, y⟩; exact y.symm
      · rw [if_pos (by simp only [decide_eq_true_eq]; exact q)]
        refine ih (i + 1) acc (by omega) (fun j hj => ?_)
        rw [h j hj, anyB_succ]
        have : hadBy W a p j i = false := by
          unfold hadBy
          rw [decide_eq_false_iff_not]
          rintro ⟨y1, y2, y3, -⟩
          exact q ⟨y1, y2, y3⟩
        rw [this, Bool.or_false]
  exact key n 0 0 (by omega) (fun j _ => by rw [tb_0]; rfl)
theorem m_wasHad (hW : DOk n (M 206)) (hd : d < 12) {a p one : Nat} (ha : a ≤ 99) : F_X12_wasHad M (Int32.ofNat d) (Int32.ofNat a) (Int32.ofNat p) (Int32.ofNat one) = some (if hadBy (M 206) a p one d = true then 1 else 0) := by
  unfold F_X12_wasHad F_X12_ageOf
  rw [m_isNew hd, m_fst hd, m_plc hd, m_com hd]
  simp only [Option.bind_eq_bind, Option.bind_some]
  by_cases h0 : M 206 (22 + 8 * d) = -1
  · rw [if_pos h0, if_neg (by decide)]
    have : hadBy (M 206) a p one d = false := by unfold hadBy; simp [h0]
    rw [this]; rfl
  · rw [if_neg h0, if_pos rfl]
    obtain ⟨f, f1, f2⟩ := fst_nat hW hd h0
    have e1 : M 206 (22 + 8 * d) / 100 = Int32.ofNat a ↔ (M 206 (22 + 8 * d)).toInt / 100 = a := by
      rw [f2, show (100 : Int32) = Int32.ofNat 100 from rfl, ofn_div (by omega) (by omega) (by omega), ofn_eq (by omega) (by omega), ti_ofn (by omega)]
      omega
    unfold hadBy
    simp only [decide_eq_true_eq]
    by_cases q1 : (M 206 (22 + 8 * d)).toInt / 100 = a
    · rw [if_pos (e1.mpr q1)]
      by_cases q2 : M 206 (23 + 8 * d) = Int32.ofNat p
      · rw [if_pos q2]
        by_cases q3 : M 206 (24 + 8 * d) = Int32.ofNat one
        · rw [if_pos q3, if_pos ⟨h0, q1, q2, q3⟩]
        · rw [if_neg q3, if_neg (fun y => q3 y.2.2.2)]
      · rw [if_neg q2, if_neg (fun y => q2 y.2.2.1)]
    · rw [if_neg (fun y => q1 (e1.mp y)), if_neg (fun y => q1 y.2.1)]
/-- the pairs -/
def allP (W : Nat → Int32) (n : Nat) (vs : Nat → Nat) (one k : Nat) : Bool := lp (fun i s => s && anyB n (hadBy W (vs (2 * i)) (vs (2 * i + 1)) one)) 0 k true
theorem allP_succ (vs : Nat → Nat) (one k : Nat) : allP W n vs one (k + 1) = (allP W n vs one k && anyB n (hadBy W (vs (2 * k)) (vs (2 * k + 1)) one)) := by
  unfold allP; rw [lp_last, Nat.zero_add]
theorem ofn_2 (k : Nat) : Int32.ofNat (2 * k) + (2 : Int32) = Int32.ofNat (2 * (k + 1)) := by
  rw [show 2 * (k + 1) = 2 * k + 2 by omega, Int32.ofNat_add]; rfl
theorem s_he (h : GR C M n) : ∃ r C' b M', F_X11_he C = some (r, C') ∧ F_X12_he M = some (b, M') ∧ Qs ["java/lang/IllegalArgumentException"] r b M' ∧ (∃ n', GR C' M' n') ∧ fcl C C' ∧ fmo M M' := by
  obtain ⟨T, C0, N0, vs, hT, u1, u2, u3, u4, u5, hvs, u8, u9, -⟩ := use_nat h
  have hn := u3.1.2.1.1.2.1
  have hD := u3.1.1.D
  have hW := u3.1.2.1.1
  have z : ∀ i, L_X12_he_30 N0 0 (Int32.ofNat i) = some (0, up2 N0 205 0 1) := by
    intro i
    rw [L_X12_he_30]
    split
    · rfl
    · rfl
  have bad : ∃ r C' b M', (some ((Sum.inr "java/lang/IllegalArgumentException" : Int32 ⊕ String), C0)) = some (r, C') ∧ (some ((0 : Int32), up2 N0 205 0 1)) = some (b, M') ∧ Qs ["java/lang/IllegalArgumentException"] r b M' ∧ (∃ n', GR C' M' n') ∧ fcl C C' ∧ fmo M M' := ⟨_, _, _, _, rfl, rfl, ⟨1, rfl, 0, rfl, rfl⟩, ⟨n, u3.thr 1⟩, u8, u9.trans (fmo_thr _ _)⟩
  have z0 : L_X12_he_30 N0 0 0 = some (0, up2 N0 205 0 1) := z 0
  unfold F_X11_he F_X12_he
  simp only [Option.bind_eq_bind]
  rw [u1, Option.bind_some, u2, Option.bind_some, u4]
  have e2 : Int32.ofNat T - Int32.ofNat T / (2 : Int32) * (2 : Int32) = Int32.ofNat (T % 2) := ofn_mod (q := 2) (by omega) (by omega) (by omega)
  simp only [e2]
  by_cases h40 : T ≤ 40
  · have q40 : ¬ (40 : Int32) < Int32.ofNat T := by rw [show (40 : Int32) = Int32.ofNat 40 from rfl, ofn_lt (by omega) (by omega)]; omega
    rw [if_neg q40, if_neg q40]
    by_cases h2 : T % 2 = 0
    · have q2 : Int32.ofNat (T % 2) = 0 := by rw [h2]; rfl
      rw [if_pos q2, if_pos q2]
      obtain ⟨K, rfl⟩ : ∃ K, T = 2 * K := ⟨T / 2, by omega⟩
      -- are they pairs
      have pc : ∀ (k i : Nat), i + k = K → ((∀ j, i ≤ j → j < K → vs (2 * j) ≤ 99 ∧ vs (2 * j + 1) ≤ 7) → L_X11_arePairs_2 C0 (Int32.ofNat (2 * K)) (Int32.ofNat (2 * i)) = some 1 ∧ L_X12_he_30 N0 1 (Int32.ofNat (2 * i)) = L_X12_he_106 N0 0 0) ∧ ((∃ j, i ≤ j ∧ j < K ∧ ¬ (vs (2 * j) ≤ 99 ∧ vs (2 * j + 1) ≤ 7)) → L_X11_arePairs_2 C0 (Int32.ofNat (2 * K)) (Int32.ofNat (2 * i)) = some 0 ∧ L_X12_he_30 N0 1 (Int32.ofNat (2 * i)) = some (0, up2 N0 205 0 1)) := by
        intro k
        induction k with
        | zero =>
          intro i hi
          refine ⟨fun _ => ⟨?_, ?_⟩, fun ⟨j, h1, h2, _⟩ => by omega⟩
          · rw [L_X11_arePairs_2, show i = K by omega, if_pos (Int32.le_refl _)]
          · rw [L_X12_he_30, u4, show i = K by omega, if_pos (Int32.le_refl _), if_neg (by decide), m_thr0, Option.bind_eq_bind, Option.bind_some, if_pos rfl]
        | succ k ih =>
          intro i hi
          obtain ⟨a1, a2⟩ := ih (i + 1) (by omega)
          obtain ⟨v1, v2, v3⟩ := hvs (2 * i) (by omega)
          obtain ⟨w1, w2, w3⟩ := hvs (2 * i + 1) (by omega)
          have c1 : ald 400 (C0 2) (Int32.ofNat (2 * i)) = some (Int32.ofNat (vs (2 * i))) := by rw [ald_ofn (by omega) (by omega), v2]
          have c2 : ald 400 (C0 2) (Int32.ofNat (2 * i + 1)) = some (Int32.ofNat (vs (2 * i + 1))) := by rw [ald_ofn (by omega) (by omega), w2]
          have m1 : ald 400 (N0 211) (Int32.ofNat (2 * i)) = some (byI (vs (2 * i))) := by rw [ald_ofn (by omega) (by omega), v3]
          have m2 : ald 400 (N0 211) (Int32.ofNat (2 * i + 1)) = some (byI (vs (2 * i + 1))) := by rw [ald_ofn (by omega) (by omega), w3]
          have ec : L_X11_arePairs_2 C0 (Int32.ofNat (2 * K)) (Int32.ofNat (2 * i)) = (if (99 : Int32) < Int32.ofNat (vs (2 * i)) then some (0 : Int32) else (F_X11_isPlace C0 (Int32.ofNat (vs (2 * i + 1)))).bind fun r8 => if r8 = 0 then some (0 : Int32) else L_X11_arePairs_2 C0 (Int32.ofNat (2 * K)) (Int32.ofNat (2 * (i + 1)))) := by
            rw [L_X11_arePairs_2, if_neg (by rw [ofn_le (by omega) (by omega)]; omega), ofn_succ, if_neg (by rw [show (400 : Int32) = Int32.ofNat 400 from rfl, ofn_le (by omega) (by omega)]; omega), c1, Option.bind_eq_bind, Option.bind_some, c2, Option.bind_some, ofn_2]
          have em : L_X12_he_30 N0 1 (Int32.ofNat (2 * i)) = ((F_X12_in N0 (byI (vs (2 * i))) 0 99).bind fun r42 => if r42 = 0 then L_X12_he_30 N0 0 (Int32.ofNat (2 * (i + 1))) else (F_X12_noPlace N0 (byI (vs (2 * i + 1)))).bind fun r47 => if r47 = 0 then L_X12_he_30 N0 1 (Int32.ofNat (2 * (i + 1))) else L_X12_he_30 N0 0 (Int32.ofNat (2 * (i + 1)))) := by
            rw [L_X12_he_30, u4, if_neg (by rw [ofn_le (by omega) (by omega)]; omega), if_neg (show ¬ (1 : Int32) = 0 by decide), m1, Option.bind_eq_bind, Option.bind_some, ofn_succ, m2, ofn_2]
            rfl
          rw [ec, em]
          by_cases y1 : vs (2 * i) ≤ 99
          · rw [if_neg (show ¬ (99 : Int32) < Int32.ofNat (vs (2 * i)) by rw [show (99 : Int32) = Int32.ofNat 99 from rfl, ofn_lt (by omega) (by omega)]; omega)]
            rw [byI_lt (show vs (2 * i) < 128 by omega), m_in1 ⟨ofn_nneg (by omega), show ¬ (99 : Int32) < Int32.ofNat (vs (2 * i)) by rw [show (99 : Int32) = Int32.ofNat 99 from rfl, ofn_lt (by omega) (by omega)]; omega⟩, Option.bind_some, if_neg (show ¬ (1 : Int32) = 0 by decide)]
            by_cases y2 : vs (2 * i + 1) ≤ 7
            · have hp : ¬ Int32.ofNat (vs (2 * i + 1)) < 0 ∧ ¬ (7 : Int32) < Int32.ofNat (vs (2 * i + 1)) := ⟨ofn_nneg (by omega), by rw [show (7 : Int32) = Int32.ofNat 7 from rfl, ofn_lt (by omega) (by omega)]; omega⟩
              rw [byI_lt (show vs (2 * i + 1) < 128 by omega), cl_pl hp, m_pl hp, Option.bind_some, if_neg (show ¬ (1 : Int32) = 0 by decide), Option.bind_some, if_pos (show (0 : Int32) = 0 from rfl)]
              refine ⟨fun w => a1 (fun j h1 h2 => w j (by omega) h2), fun ⟨j, h1, h2, h3⟩ => a2 ⟨j, ?_, h2, h3⟩⟩
              rcases Nat.lt_or_ge i j with t | t
              · exact t
              · have : i = j := by omega
                subst this
                exact absurd ⟨y1, y2⟩ h3
            · have hp : Int32.ofNat (vs (2 * i + 1)) < 0 ∨ (7 : Int32) < Int32.ofNat (vs (2 * i + 1)) := Or.inr (by rw [show (7 : Int32) = Int32.ofNat 7 from rfl, ofn_lt (by omega) (by omega)]; omega)
              have hq : byI (vs (2 * i + 1)) < 0 ∨ (7 : Int32) < byI (vs (2 * i + 1)) := by
                rw [ti_lt, ti_lt, byI_rg w1, ti_0, ti_7]
                split <;> omega
              rw [cl_plN hp, m_plN hq, Option.bind_some, if_pos (show (0 : Int32) = 0 from rfl), Option.bind_some, if_neg (show ¬ (1 : Int32) = 0 by decide)]
              exact ⟨fun w => absurd (w i (Nat.le_refl _) (by omega)).2 y2, fun _ => ⟨rfl, z _⟩⟩
          · rw [if_pos (show (99 : Int32) < Int32.ofNat (vs (2 * i)) by rw [show (99 : Int32) = Int32.ofNat 99 from rfl, ofn_lt (by omega) (by omega)]; omega)]
            have hq : byI (vs (2 * i)) < 0 ∨ (99 : Int32) < byI (vs (2 * i)) := by
              rw [ti_lt, ti_lt, byI_rg v1, ti_0, ti_99]
              split <;> omega
            rw [m_in0 hq, Option.bind_some, if_pos (show (0 : Int32) = 0 from rfl)]
            exact ⟨fun w => absurd (w i (Nat.le_refl _) (by omega)).1 y1, fun _ => ⟨rfl, z _⟩⟩
      obtain ⟨p1, p2⟩ := pc K 0 (by omega)
      rw [show Int32.ofNat (2 * 0) = 0 from rfl] at p1 p2
      unfold F_X11_arePairs
      by_cases hall : ∀ j, j < K → vs (2 * j) ≤ 99 ∧ vs (2 * j + 1) ≤ 7
      · obtain ⟨g1, g2⟩ := p1 (fun j _ hj => hall j hj)
        rw [g1, g2, Option.bind_some, if_neg (show ¬ (1 : Int32) = 0 by decide)]
        -- the class
        have cc : ∀ (k i : Nat) (acc : Int32), i + k = K → (∀ j, j < 32 → tb acc j = (decide (j < 8) && allP (N0 206) n vs j i)) → L_X11_he_42 C0 (Int32.ofNat (2 * K)) acc (Int32.ofNat (2 * i)) = some (Sum.inl (bits 8 (fun j => allP (N0 206) n vs j K)), C0) := by
          intro k
          induction k with
          | zero =>
            intro i acc hi ha
            rw [L_X11_he_42, show i = K by omega, if_pos (Int32.le_refl _)]
            congr 3
            apply tb_ext
            intro j hj
            rw [ha j hj, tb_bits (by omega), show i = K by omega]
          | succ k ih =>
            intro i acc hi ha
            obtain ⟨v1, v2, v3⟩ := hvs (2 * i) (by omega)
            obtain ⟨w1, w2, w3⟩ := hvs (2 * i + 1) (by omega)
            have c1 : ald 400 (C0 2) (Int32.ofNat (2 * i)) = some (Int32.ofNat (vs (2 * i))) := by rw [ald_ofn (by omega) (by omega), v2]
            have c2 : ald 400 (C0 2) (Int32.ofNat (2 * i + 1)) = some (Int32.ofNat (vs (2 * i + 1))) := by rw [ald_ofn (by omega) (by omega), w2]
            obtain ⟨x, x1, x2⟩ := cl_companyIn (b := 3 + 1) hD hW (hall i (by omega)).1 (hall i (by omega)).2
            have x1' : F_X1_companyIn C0 4 (Int32.ofNat (vs (2 * i))) (Int32.ofNat (vs (2 * i + 1))) = some x := x1
            rw [L_X11_he_42, if_neg (by rw [ofn_le (by omega) (by omega)]; omega), ofn_succ, if_neg (by rw [show (400 : Int32) = Int32.ofNat 400 from rfl, ofn_le (by omega) (by omega)]; omega), c1, Option.bind_eq_bind, Option.bind_some, c2, Option.bind_some, x1', Option.bind_some, ofn_2]
            refine ih (i + 1) _ (by omega) (fun j hj => ?_)
            rw [tb_and, ha j hj, allP_succ]
            by_cases j8 : j < 8
            · rw [x2 j (by omega)]; simp [j8]
            · simp [j8]
        have ca := cc K 0 255 (by omega) (fun j hj => by
          have : ∀ j, j < 32 → tb (255 : Int32) j = decide (j < 8) := by decide +kernel
          rw [this j hj]
          show _ = (decide (j < 8) && true)
          rw [Bool.and_true])
        -- the reference
        have m3 : ∀ (one i : Nat), one < 8 → i < K → ∀ (y2 y4 : Int32), ∃ zz, L_X12_he_133 N0 y2 (Int32.ofNat one) y4 (Int32.ofNat (2 * i)) 0 0 = some (if anyB n (hadBy (N0 206) (vs (2 * i)) (vs (2 * i + 1)) one) = true then 1 else 0, zz) := by
          intro one i h1 h2 y2 y4
          obtain ⟨v1, v2, v3⟩ := hvs (2 * i) (by omega)
          obtain ⟨w1, w2, w3⟩ := hvs (2 * i + 1) (by omega)
          obtain ⟨t1, t2⟩ := hall i h2
          have d1 : ald 400 (N0 211) (Int32.ofNat (2 * i)) = some (Int32.ofNat (vs (2 * i))) := by rw [ald_ofn (by omega) (by omega), v3, byI_lt (by omega)]
          have d2 : ald 400 (N0 211) (Int32.ofNat (2 * i) + 1) = some (Int32.ofNat (vs (2 * i + 1))) := by rw [ofn_succ, ald_ofn (by omega) (by omega), w3, byI_lt (by omega)]
          refine ⟨Int32.ofNat n, ?_⟩
          have := lp_rule (fun (s : Bool) e => L_X12_he_133 N0 y2 (Int32.ofNat one) y4 (Int32.ofNat (2 * i)) (if s = true then 1 else 0) e) n (by omega) (fun d s => s || hadBy (N0 206) (vs (2 * i)) (vs (2 * i + 1)) one d) (fun s => (if s = true then (1 : Int32) else 0, Int32.ofNat n)) (fun s => by
            rw [L_X12_he_133]
            unfold F_X12_dishes
            rw [Option.bind_eq_bind, Option.bind_some, hW.1, if_pos (Int32.le_refl _)]) (fun e s he => by
            try simp only
            rw [L_X12_he_133]
            unfold F_X12_dishes
            rw [Option.bind_eq_bind, Option.bind_some, hW.1, if_neg (by rw [ofn_le (by omega) (by omega)]; omega), d1, d2]
            cases s with
            | true => rfl
            | false =>
              simp only [Option.bind_eq_bind, Option.bind_some, Bool.false_or]
              rw [if_pos (by decide), m_wasHad hW (show e < 12 by omega) t1, Option.bind_some]
              cases hadBy (N0 206) (vs (2 * i)) (vs (2 * i + 1)) one e <;> rfl) n 0 false (by omega)
          exact this
        have m2 : ∀ (one : Nat), one < 8 → ∀ (y2 : Int32), ∃ zz, L_X12_he_118 N0 y2 (Int32.ofNat one) 1 0 = some (if allP (N0 206) n vs one K = true then 1 else 0, zz) := by
          intro one h1 y2
          have key : ∀ (k i : Nat) (s : Bool), i + k = K → s = allP (N0 206) n vs one i → ∃ zz, L_X12_he_118 N0 y2 (Int32.ofNat one) (if s = true then 1 else 0) (Int32.ofNat (2 * i)) = some (if allP (N0 206) n vs one K = true then 1 else 0, zz) := by
            intro k
            induction k with
            | zero =>
              intro i s hi hs
              refine ⟨Int32.ofNat (2 * i), ?_⟩
              rw [L_X12_he_118, u4, show i = K by omega, if_pos (Int32.le_refl _), hs, show i = K by omega]
            | succ k ih =>
              intro i s hi hs
              obtain ⟨zz, hz⟩ := m3 one i h1 (by omega) y2 (if s = true then 1 else 0)
              obtain ⟨zz2, hz2⟩ := ih (i + 1) (s && anyB n (hadBy (N0 206) (vs (2 * i)) (vs (2 * i + 1)) one)) (by omega) (by rw [allP_succ, hs])
              refine ⟨zz2, ?_⟩
              rw [L_X12_he_118, u4, if_neg (by rw [ofn_le (by omega) (by omega)]; omega), hz, Option.bind_eq_bind, Option.bind_some, ofn_2, ← hz2]
              cases s with
              | false => rfl
              | true => cases anyB n (hadBy (N0 206) (vs (2 * i)) (vs (2 * i + 1)) one) <;> rfl
          exact key K 0 true (by omega) rfl
        have m1 : L_X12_he_106 N0 0 0 = some (bits 8 (fun j => allP (N0 206) n vs j K), N0) := by
          unfold bits
          refine lp_rule (fun s i => L_X12_he_106 N0 s i) 8 (by decide) _ (fun s => (s, N0)) (fun s => ?_) (fun i s hi => ?_) 8 0 (0 : Int32) rfl
          · rw [L_X12_he_106, if_pos (by decide)]
          · try simp only
            obtain ⟨zz, hz⟩ := m2 i hi s
            rw [L_X12_he_106, if_neg (by rw [show (8 : Int32) = Int32.ofNat 8 from rfl, ofn_le (by omega) (by omega)]; omega), hz, Option.bind_eq_bind, Option.bind_some]
            by_cases q : allP (N0 206) n vs i K = true
            · simp [q, bitN]
            · simp [q]
        exact ⟨_, _, _, _, ca, m1, ⟨0, by rw [thrn, u5], rfl, rfl⟩, ⟨n, u3⟩, u8, u9⟩
      · obtain ⟨g1, g2⟩ := p2 (by
          apply Classical.byContradiction
          intro w
          exact hall (fun j hj => Classical.byContradiction (fun y => w ⟨j, by omega, hj, y⟩)))
        rw [g1, g2, Option.bind_some, if_pos rfl]
        exact bad
    · have q2 : ¬ Int32.ofNat (T % 2) = 0 := by rw [show (0 : Int32) = Int32.ofNat 0 from rfl, ofn_eq (by omega) (by omega)]; exact h2
      rw [if_neg q2, if_neg q2, z0]
      exact bad
  · have q40 : (40 : Int32) < Int32.ofNat T := by rw [show (40 : Int32) = Int32.ofNat 40 from rfl, ofn_lt (by omega) (by omega)]; omega
    rw [if_pos q40, if_pos q40, z0]
    have : (if Int32.ofNat (T % 2) = 0 then (some (0, up2 N0 205 0 1) : Option (Int32 × HI)) else some (0, up2 N0 205 0 1)) = some (0, up2 N0 205 0 1) := by split <;> rfl
    rw [this]
    exact bad
end
