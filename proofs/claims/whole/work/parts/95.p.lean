/-! the reference's reading of things -/
section
variable {C C' M M' : HI} {a T : Nat} {vs : Nat → Nat}
def TM (M : HI) (T : Nat) (vs : Nat → Nat) : Prop := M 205 11 = Int32.ofNat T ∧ T ≤ 400 ∧ ∀ i, i < T → vs i < 256 ∧ M 211 i = byI (vs i)
/-- the point at p, the begin at b -/
def mp (M : HI) (p b : Nat) : HI := up2 (up2 M 205 10 (Int32.ofNat p)) 205 12 (Int32.ofNat b)
theorem mp_10 (M : HI) (p b : Nat) : mp M p b 205 10 = Int32.ofNat p := by unfold mp; rw [up2_get, if_neg (by decide), up2_get, if_pos ⟨rfl, rfl⟩]
theorem mp_12 (M : HI) (p b : Nat) : mp M p b 205 12 = Int32.ofNat b := by unfold mp; rw [up2_get, if_pos ⟨rfl, rfl⟩]
theorem mp_ne (M : HI) (p b : Nat) {x : Nat} (h : x ≠ 205) : mp M p b x = M x := by unfold mp; rw [up2_ne _ _ _ h, up2_ne _ _ _ h]
theorem mp_k (M : HI) (p b : Nat) {k : Nat} (h : k ≠ 10 ∧ k ≠ 12) : mp M p b 205 k = M 205 k := by unfold mp; rw [up2_get, if_neg (by omega), up2_get, if_neg (by omega)]
theorem mp_mp (M : HI) (p b p' b' : Nat) : mp (mp M p b) p' b' = mp M p' b' := by
  unfold mp
  funext x k
  simp only [up2_get]
  by_cases h : x = 205 ∧ k = 12
  · simp only [if_pos h]
  · by_cases h2 : x = 205 ∧ k = 10
    · simp only [if_neg h, if_pos h2]
    · simp only [if_neg h, if_neg h2]
theorem mp_up10 (M : HI) (p b q : Nat) : up2 (mp M p b) 205 10 (Int32.ofNat q) = mp M q b := by
  unfold mp
  funext x k
  simp only [up2_get]
  by_cases h : x = 205 ∧ k = 10
  · have h2 : ¬ (x = 205 ∧ k = 12) := by omega
    simp only [if_pos h, if_neg h2]
  · by_cases h2 : x = 205 ∧ k = 12
    · simp only [if_neg h, if_pos h2]
    · simp only [if_neg h, if_neg h2]
theorem TM.mp (h : TM M T vs) (p b : Nat) : TM (mp M p b) T vs := ⟨by rw [mp_k _ _ _ (by omega)]; exact h.1, h.2.1, fun i hi => by rw [mp_ne _ _ _ (by decide)]; exact h.2.2 i hi⟩
theorem TM.up (h : TM M T vs) {x k : Nat} {v : Int32} (hx : x ≠ 211) (hk : x ≠ 205 ∨ k ≠ 11) : TM (up2 M x k v) T vs := ⟨by rw [up2_get, if_neg (by omega)]; exact h.1, h.2.1, fun i hi => by rw [up2_ne _ _ _ (fun q => hx q.symm)]; exact h.2.2 i hi⟩
theorem m_isAt (h : TM M T vs) {p lo hi : Nat} (hp : M 205 10 = Int32.ofNat p) (hpT : p ≤ T) (hlo : 0 < lo ∧ lo < 200) (hhi : hi < 128) : F_X12_isAt M (Int32.ofNat lo) (Int32.ofNat hi) = some (bi (decide (p < T ∧ lo ≤ vs p ∧ vs p ≤ hi))) := by
  obtain ⟨h1, h2, h3⟩ := h
  unfold F_X12_isAt bi
  rw [h1, hp]
  by_cases q : p < T
  · obtain ⟨v1, v2⟩ := h3 p q
    have br := byI_rg v1
    simp only [Option.bind_eq_bind]
    rw [if_neg (by rw [ofn_le (by omega) (by omega)]; omega), ald_ofn (by omega) (by omega), v2, Option.bind_some, Option.bind_some]
    by_cases y : vs p < 128
    · rw [if_pos y] at br
      by_cases q1 : vs p < lo
      · rw [if_pos (by rw [ti_lt, br, ti_ofn (by omega)]; omega), if_neg (by simp only [decide_eq_true_eq]; omega)]
      · by_cases q2 : hi < vs p
        · rw [if_neg (by rw [ti_lt, br, ti_ofn (by omega)]; omega), if_pos (by rw [ti_lt, br, ti_ofn (by omega)]; omega), if_neg (by simp only [decide_eq_true_eq]; omega)]
        · rw [if_neg (by rw [ti_lt, br, ti_ofn (by omega)]; omega), if_neg (by rw [ti_lt, br, ti_ofn (by omega)]; omega), if_pos (by simp only [decide_eq_true_eq]; omega)]
    · rw [if_neg y] at br
      by_cases q1 : (byI (vs p)) < Int32.ofNat lo
      · rw [if_pos q1, if_neg (by simp only [decide_eq_true_eq]; omega)]
      · exfalso
        rw [ti_lt, br, ti_ofn (by omega)] at q1; omega
  · rw [if_pos (by rw [ofn_le (by omega) (by omega)]; omega), if_neg (by simp only [decide_eq_true_eq]; omega)]
theorem mp_up (M : HI) (p b : Nat) (v : Int32) : mp (up2 M 205 10 v) p b = mp M p b := by
  unfold mp
  rw [up2_up2]
theorem mp_self {p b : Nat} (h : M 205 10 = Int32.ofNat p) : up2 M 205 12 (Int32.ofNat b) = mp M p b := by
  unfold mp
  rw [← h, up2_same]
theorem m_blanks (h : TM M T vs) {p : Nat} (hp : M 205 10 = Int32.ofNat p) (hpT : p ≤ T) : F_X12_blanks M = some (mp M (skb vs T p) (skb vs T p)) := by
  unfold F_X12_blanks
  have loop : ∀ r p (M : HI), p + r = T → TM M T vs → M 205 10 = Int32.ofNat p → L_X12_blanks_0 M = some (mp M (skb vs T p) (skb vs T p)) := by
    intro r
    induction r with
    | zero =>
      intro p M hr hM hp
      have e := m_isAt hM (lo := 32) (hi := 32) hp (by omega) (by omega) (by omega)
      have e' : F_X12_isAt M 32 32 = _ := e
      rw [L_X12_blanks_0, e', Option.bind_eq_bind, Option.bind_some]
      unfold bi
      rw [if_neg (show ¬ decide (p < T ∧ 32 ≤ vs p ∧ vs p ≤ 32) = true by simp only [decide_eq_true_eq]; omega), if_pos rfl, hp, skb_at (by omega), mp_self hp]
    | succ r ih =>
      intro p M hr hM hp
      have e := m_isAt hM (lo := 32) (hi := 32) hp (by omega) (by omega) (by omega)
      have e' : F_X12_isAt M 32 32 = _ := e
      rw [L_X12_blanks_0, e', Option.bind_eq_bind, Option.bind_some]
      unfold bi
      by_cases q : vs p = 32
      · rw [if_pos (show decide (p < T ∧ 32 ≤ vs p ∧ vs p ≤ 32) = true by simp only [decide_eq_true_eq]; omega), if_neg (show ¬ (1 : Int32) = 0 by decide), hp, ofn_succ, ih (p + 1) _ (by omega) (hM.up (by decide) (Or.inr (by decide))) (by rw [up2_get, if_pos ⟨rfl, rfl⟩]), mp_up, skb_lt (by omega) q]
      · rw [if_neg (show ¬ decide (p < T ∧ 32 ≤ vs p ∧ vs p ≤ 32) = true by simp only [decide_eq_true_eq]; omega), if_pos rfl, hp, skb_at (by omega), mp_self hp]
  exact loop (T - p) p M (by omega) h hp
theorem bi_t {x : Bool} (h : x = true) : bi x = 1 := by unfold bi; rw [if_pos h]
theorem bi_f {x : Bool} (h : ¬ x = true) : bi x = 0 := by unfold bi; rw [if_neg h]
theorem rk_end {κ i : Nat} (hi : i ≤ T) (hκ : κ ≠ 0) : ¬ kd vs T (rk vs T κ i) = κ := by
  obtain ⟨h1, h2, h3, -⟩ := rn_spec (P := fun i => decide (kd vs T i = κ)) (T - i) i
  unfold rk
  rcases h3 with h3 | h3
  · intro w
    rw [h3] at w
    have := kd_0 (vs := vs) (T := T) (i := i + (T - i)) |>.mpr (by omega)
    omega
  · simpa using h3
theorem m_let (h : TM M T vs) {b : Nat} (hb : b ≤ T) : L_X12_letters_4 (mp M b b) = some (mp M (rk vs T 1 b) b) := by
  have he := rk_le (vs := vs) (κ := 1) hb
  have loop : ∀ r p, p + r = rk vs T 1 b → b ≤ p → L_X12_letters_4 (mp M p b) = some (mp M (rk vs T 1 b) b) := by
    intro r
    induction r with
    | zero =>
      intro p hr hbp
      have e := m_isAt (h.mp p b) (lo := 97) (hi := 122) (mp_10 _ _ _) (by omega) (by omega) (by omega)
      have e' : F_X12_isAt (mp M p b) 97 122 = _ := e
      have w := rk_end (vs := vs) (κ := 1) hb (by decide)
      rw [kd_1] at w
      rw [bi_f (by simp only [decide_eq_true_eq]; rw [show p = rk vs T 1 b by omega]; exact w)] at e'
      rw [L_X12_letters_4, e', Option.bind_eq_bind, Option.bind_some, if_pos rfl, show p = rk vs T 1 b by omega]
    | succ r ih =>
      intro p hr hbp
      have e := m_isAt (h.mp p b) (lo := 97) (hi := 122) (mp_10 _ _ _) (by omega) (by omega) (by omega)
      have e' : F_X12_isAt (mp M p b) 97 122 = _ := e
      have w : kd vs T p = 1 := rk_in hbp (by omega)
      rw [kd_1] at w
      rw [bi_t (by simp only [decide_eq_true_eq]; exact w)] at e'
      rw [L_X12_letters_4, e', Option.bind_eq_bind, Option.bind_some, if_neg (by decide), mp_10, ofn_succ, mp_up10]
      exact ih (p + 1) (by omega) (by omega)
  exact loop (rk vs T 1 b - b) b (by omega) (Nat.le_refl _)
theorem m_letters (h : TM M T vs) {p : Nat} (hp : M 205 10 = Int32.ofNat p) (hpT : p ≤ T) : F_X12_letters M = some (mp M (rk vs T 1 (skb vs T p)) (skb vs T p)) := by
  unfold F_X12_letters
  rw [m_blanks h hp hpT, Option.bind_eq_bind, Option.bind_some, m_let h (skb_spec hpT).2.1]
theorem sub_ofn {x y : Nat} (h : y ≤ x) (hx : x < 100000) : Int32.ofNat x - Int32.ofNat y = Int32.ofNat (x - y) := by
  rw [ti_eq, ti_sub (by rw [ti_ofn (by omega), ti_ofn (by omega)]; omega) (by rw [ti_ofn (by omega), ti_ofn (by omega)]; omega), ti_ofn (by omega), ti_ofn (by omega), ti_ofn (by omega)]; omega
theorem m_word (h : TM M T vs) {b s : Nat} {w : List Nat} (hb : b ≤ T) (hs : Ws s w) : F_X12_isWord (mp M (rk vs T 1 b) b) s = some (bi (wd vs T b w)) := by
  have hT := h.2.1
  have he := rk_le (vs := vs) (κ := 1) hb
  have hl := hs.2.2.1
  have z0 : L_X12_isWord_24 (mp M (rk vs T 1 b) b) s 0 0 = some 0 := by rw [L_X12_isWord_24, if_pos rfl, if_pos (Or.inl rfl)]
  unfold F_X12_isWord bi wd
  rw [mp_10, mp_12, Ws_l hs, sub_ofn he.1 (by omega), z0]
  by_cases e : rk vs T 1 b - b = w.length
  · rw [if_pos (by rw [e])]
    have q : kd vs T b = 1 := by
      apply Classical.byContradiction
      intro y
      rw [rk_stop y] at e
      have := hs.2.1
      omega
    have te := tnd_1 q
    have loop : ∀ r i, i + r = w.length → ((∀ j, i ≤ j → j < w.length → vs (b + j) = w.getD j 0) → L_X12_isWord_24 (mp M (rk vs T 1 b) b) s 1 (Int32.ofNat i) = some 1) ∧ ((∃ j, i ≤ j ∧ j < w.length ∧ ¬ vs (b + j) = w.getD j 0) → L_X12_isWord_24 (mp M (rk vs T 1 b) b) s 1 (Int32.ofNat i) = some 0) := by
      intro r
      induction r with
      | zero =>
        intro i hi
        refine ⟨fun _ => ?_, fun ⟨j, q1, q2, _⟩ => by omega⟩
        rw [L_X12_isWord_24, if_neg (by decide), Ws_l hs, if_pos (by rw [show i = w.length by omega]; exact Int32.le_refl _), if_pos (Or.inr rfl)]
      | succ r ih =>
        intro i hi
        obtain ⟨v1, v2⟩ := h.2.2 (b + i) (by omega)
        obtain ⟨i1, i2⟩ := ih (i + 1) (by omega)
        have w8 := (hs.2.2.2 i (by omega)).2
        rw [L_X12_isWord_24]
        simp only [Option.bind_eq_bind]
        rw [if_neg (by decide), Ws_l hs, if_neg (by rw [ofn_le (by omega) (by omega)]; omega), mp_12, ← Int32.ofNat_add, mp_ne _ _ _ (by decide), ald_ofn (by omega) (by omega), v2, Option.bind_some, Ws_c hs (by omega), Option.bind_some, ofn_succ]
        have beq : byI (vs (b + i)) = Int32.ofNat (w.getD i 0) ↔ vs (b + i) = w.getD i 0 := by
          rw [ti_eq, byI_rg v1, ti_ofn (by omega)]
          split <;> omega
        by_cases y : vs (b + i) = w.getD i 0
        · rw [if_pos (beq.mpr y)]
          refine ⟨fun z => i1 (fun j q1 q2 => z j (by omega) q2), fun ⟨j, q1, q2, q3⟩ => i2 ⟨j, ?_, q2, q3⟩⟩
          rcases Nat.lt_or_ge i j with u | u
          · exact u
          · exact absurd y (by rw [show i = j by omega]; exact q3)
        · rw [if_neg (fun u => y (beq.mp u)), L_X12_isWord_24, if_pos rfl, if_pos (Or.inl rfl)]
          exact ⟨fun z => absurd (z i (Nat.le_refl _) (by omega)) y, fun _ => rfl⟩
    obtain ⟨l1, l2⟩ := loop w.length 0 (by omega)
    by_cases z : ∀ j, j < w.length → vs (b + j) = w.getD j 0
    · rw [if_pos (by simp only [decide_eq_true_eq]; exact ⟨q, by omega, z⟩)]
      exact l1 (fun j _ hj => z j hj)
    · rw [if_neg (by simp only [decide_eq_true_eq]; exact fun u => z u.2.2)]
      exact l2 (Classical.byContradiction (fun u => z (fun j hj => Classical.byContradiction (fun y => u ⟨j, by omega, hj, y⟩))))
  · rw [if_neg (by rw [ofn_eq (by omega) (by omega)]; exact e), if_neg (by simp only [decide_eq_true_eq]; exact fun u => e (by rw [← tnd_1 u.1]; omega))]
theorem wd_1 {b : Nat} {w : List Nat} (h : wd vs T b w = true) : kd vs T b = 1 := by
  unfold wd at h
  simp only [decide_eq_true_eq] at h
  exact h.1
theorem m_passes (h : TM M T vs) {p s : Nat} {w : List Nat} (hp : M 205 10 = Int32.ofNat p) (hpT : p ≤ T) (hs : Ws s w) : F_X12_passes M s = some (bi (wd vs T (skb vs T p) w), mp M (if wd vs T (skb vs T p) w = true then tnd vs T (skb vs T p) else skb vs T p) (skb vs T p)) := by
  unfold F_X12_passes
  rw [m_letters h hp hpT, Option.bind_eq_bind, Option.bind_some, m_word h (skb_spec hpT).2.1 hs, Option.bind_eq_bind, Option.bind_some]
  unfold bi
  by_cases q : wd vs T (skb vs T p) w = true
  · rw [if_pos q, if_pos q, if_neg (by decide), tnd_1 (wd_1 q)]
  · rw [if_neg q, if_neg q, if_pos rfl, mp_12, mp_up10]
theorem m_sign (h : TM M T vs) {p c : Nat} (hp : M 205 10 = Int32.ofNat p) (hpT : p ≤ T) (hc : 0 < c ∧ c < 128 ∧ ¬ (97 ≤ c ∧ c ≤ 122) ∧ ¬ (48 ≤ c ∧ c ≤ 57)) : F_X12_sign M (Int32.ofNat c) = some (bi (sg vs T (skb vs T p) c), mp M (if sg vs T (skb vs T p) c = true then tnd vs T (skb vs T p) else skb vs T p) (skb vs T p)) := by
  have hb := (skb_spec (vs := vs) hpT).2.1
  have e := m_isAt (h.mp (skb vs T p) (skb vs T p)) (lo := c) (hi := c) (mp_10 _ _ _) hb (by omega) (by omega)
  unfold F_X12_sign
  rw [m_blanks h hp hpT, Option.bind_eq_bind, Option.bind_some, e, Option.bind_eq_bind, Option.bind_some]
  have eq : (decide (skb vs T p < T ∧ c ≤ vs (skb vs T p) ∧ vs (skb vs T p) ≤ c)) = sg vs T (skb vs T p) c := by
    unfold sg
    congr 1
    apply propext
    constructor
    · intro w
      refine ⟨?_, by omega⟩
      unfold kd
      rw [if_neg (by omega), if_neg (by omega), if_neg (by omega)]
    · intro w
      have : ¬ T ≤ skb vs T p := fun y => by have := kd_0 (vs := vs).mpr y; omega
      omega
  rw [eq]
  unfold bi
  by_cases q : sg vs T (skb vs T p) c = true
  · rw [if_pos q, if_pos q, if_neg (by decide), mp_10, ofn_succ, mp_up10]
    unfold sg at q
    simp only [decide_eq_true_eq] at q
    rw [tnd_3 q.1]
  · rw [if_neg q, if_neg q, if_pos rfl]
theorem m_number (h : TM M T vs) {p lo hi : Nat} (hp : M 205 10 = Int32.ofNat p) (hpT : p ≤ T) (hlo : lo ≤ 1000) (hhi : hi ≤ 1000) : F_X12_number M (Int32.ofNat lo) (Int32.ofNat hi) = some (enc (nAt vs T lo hi (skb vs T p)), mp M (rk vs T 2 (skb vs T p)) (skb vs T p)) := by
  have hT := h.2.1
  have hb := (skb_spec (vs := vs) hpT).2.1
  unfold F_X12_number
  rw [m_blanks h hp hpT, Option.bind_eq_bind, Option.bind_some]
  generalize skb vs T p = b at hb
  have he := rk_le (vs := vs) (κ := 2) hb
  have at1 : ∀ p, b ≤ p → p < rk vs T 2 b → F_X12_isAt (mp M p b) 48 57 = some 1 := by
    intro p q1 q2
    have e := m_isAt (h.mp p b) (lo := 48) (hi := 57) (mp_10 _ _ _) (by omega) (by omega) (by omega)
    have w : kd vs T p = 2 := rk_in q1 q2
    rw [kd_2] at w
    have e' : F_X12_isAt (mp M p b) 48 57 = _ := e
    rw [e']
    unfold bi
    rw [if_pos (by simp only [decide_eq_true_eq]; exact w)]
  have at0 : F_X12_isAt (mp M (rk vs T 2 b) b) 48 57 = some 0 := by
    have e := m_isAt (h.mp (rk vs T 2 b) b) (lo := 48) (hi := 57) (mp_10 _ _ _) (by omega) (by omega) (by omega)
    have w := rk_end (vs := vs) (κ := 2) hb (by decide)
    rw [kd_2] at w
    have e' : F_X12_isAt (mp M (rk vs T 2 b) b) 48 57 = _ := e
    rw [e']
    unfold bi
    rw [if_neg (by simp only [decide_eq_true_eq]; exact w)]
  by_cases h3 : rk vs T 2 b - b ≤ 3
  · have loop : ∀ r p acc, p + r = rk vs T 2 b → b ≤ p → r ≤ 3 → acc ≤ (if r = 3 then 0 else if r = 2 then 9 else if r = 1 then 99 else 999) → L_X12_number_6 (Int32.ofNat lo) (Int32.ofNat hi) (Int32.ofNat acc) (mp M p b) = some (enc (if ¬ rk vs T 2 b = b ∧ lo ≤ nvl vs r p acc ∧ nvl vs r p acc ≤ hi then some (nvl vs r p acc) else none), mp M (rk vs T 2 b) b) := by
      intro r
      induction r with
      | zero =>
        intro p acc hr hbp _ hacc
        simp at hacc
        rw [show p = rk vs T 2 b by omega, L_X12_number_6, at0, Option.bind_eq_bind, Option.bind_some, if_pos rfl, mp_10, mp_12]
        show _ = some (enc (if ¬ rk vs T 2 b = b ∧ lo ≤ acc ∧ acc ≤ hi then some acc else none), _)
        by_cases q : rk vs T 2 b = b
        · rw [if_pos (by rw [q]), if_neg (by omega)]; rfl
        · rw [if_neg (by rw [ofn_eq (by omega) (by omega)]; exact q), sub_ofn he.1 (by omega), if_neg (by rw [show (3 : Int32) = Int32.ofNat 3 from rfl, ofn_lt (by omega) (by omega)]; omega)]
          by_cases q1 : acc < lo
          · rw [if_pos (by rw [ofn_lt (by omega) (by omega)]; exact q1), if_neg (by omega)]; rfl
          · rw [if_neg (by rw [ofn_lt (by omega) (by omega)]; exact q1)]
            by_cases q2 : acc ≤ hi
            · rw [if_pos (by rw [ofn_le (by omega) (by omega)]; exact q2), if_pos ⟨q, by omega, q2⟩]; rfl
            · rw [if_neg (by rw [ofn_le (by omega) (by omega)]; exact q2), if_neg (by omega)]; rfl
      | succ r ih =>
        intro p acc hr hbp hr3 hacc
        obtain ⟨v1, v2⟩ := h.2.2 p (by omega)
        have w : kd vs T p = 2 := rk_in hbp (by omega)
        rw [kd_2] at w
        have hacc' : acc ≤ 1000 := by split at hacc <;> (try split at hacc) <;> (try split at hacc) <;> omega
        rw [L_X12_number_6, at1 p hbp (by omega)]
        simp only [Option.bind_eq_bind]
        rw [Option.bind_some, if_neg (by decide), mp_10, mp_12, sub_ofn hbp (by omega), if_neg (by rw [show (3 : Int32) = Int32.ofNat 3 from rfl, ofn_le (by omega) (by omega)]; omega), mp_ne _ _ _ (by decide), ald_ofn (by omega) (by omega), v2, byI_lt (by omega), Option.bind_some, dig' acc (vs p) hacc' w.2.1 w.2.2, ofn_succ, mp_up10]
        refine ih (p + 1) _ (by omega) (by omega) (by omega) ?_
        rcases (show r = 0 ∨ r = 1 ∨ r = 2 by omega) with u | u | u <;> subst u <;> simp at hacc ⊢ <;> omega
    have l0 := loop (rk vs T 2 b - b) b 0 (by omega) (Nat.le_refl _) h3 (Nat.zero_le _)
    rw [show Int32.ofNat 0 = 0 from rfl] at l0
    rw [l0]
    unfold nAt
    by_cases q : kd vs T b = 2
    · have hlt := (kd_2.mp q).1
      have te := tnd_2 q
      have tl := (tnd_spec (vs := vs) hb).2.2 hlt
      rw [te] at tl
      rw [te]
      by_cases y : lo ≤ nvl vs (rk vs T 2 b - b) b 0 ∧ nvl vs (rk vs T 2 b - b) b 0 ≤ hi
      · rw [if_pos ⟨by omega, y⟩, if_pos ⟨q, h3, y⟩]
      · rw [if_neg (fun u => y u.2), if_neg (fun u => y u.2.2)]
    · rw [if_neg (fun u => u.1 (rk_stop q)), if_neg (fun u => q u.1)]
  · have loop : ∀ r p x, p + r = rk vs T 2 b → b ≤ p → L_X12_number_6 (Int32.ofNat lo) (Int32.ofNat hi) x (mp M p b) = some (-1, mp M (rk vs T 2 b) b) := by
      intro r
      induction r with
      | zero =>
        intro p x hr hbp
        rw [show p = rk vs T 2 b by omega, L_X12_number_6, at0, Option.bind_eq_bind, Option.bind_some, if_pos rfl, mp_10, mp_12, if_neg (by rw [ofn_eq (by omega) (by omega)]; omega), sub_ofn he.1 (by omega), if_pos (by rw [show (3 : Int32) = Int32.ofNat 3 from rfl, ofn_lt (by omega) (by omega)]; omega)]
      | succ r ih =>
        intro p x hr hbp
        rw [L_X12_number_6, at1 p hbp (by omega)]
        simp only [Option.bind_eq_bind]
        rw [Option.bind_some, if_neg (by decide), mp_10, mp_12, sub_ofn hbp (by omega), ofn_succ, mp_up10]
        by_cases y : 3 ≤ p - b
        · rw [if_pos (by rw [show (3 : Int32) = Int32.ofNat 3 from rfl, ofn_le (by omega) (by omega)]; exact y)]
          exact ih (p + 1) _ (by omega) (by omega)
        · rw [if_neg (by rw [show (3 : Int32) = Int32.ofNat 3 from rfl, ofn_le (by omega) (by omega)]; exact y), mp_ne _ _ _ (by decide), ald_ofn (by omega) (by omega), Option.bind_some]
          exact ih (p + 1) _ (by omega) (by omega)
    rw [loop (rk vs T 2 b - b) b _ (by omega) (Nat.le_refl _)]
    unfold nAt
    rw [if_neg (fun u => h3 (by rw [← tnd_2 u.1]; exact u.2.1))]
    rfl
theorem m_after (h : TM M T vs) {p lo hi s : Nat} {w : List Nat} (hp : M 205 10 = Int32.ofNat p) (hpT : p ≤ T) (hs : Ws s w) (hlo : lo ≤ 1000) (hhi : hi ≤ 1000) : F_X12_after M s (Int32.ofNat lo) (Int32.ofNat hi) = some (if wd vs T (skb vs T p) w = true then (enc (nAt vs T lo hi (nx vs T (skb vs T p))), mp M (rk vs T 2 (nx vs T (skb vs T p))) (nx vs T (skb vs T p))) else (-1, mp M (rk vs T 1 (skb vs T p)) (skb vs T p))) := by
  have hb := (skb_spec (vs := vs) hpT).2.1
  unfold F_X12_after
  rw [m_letters h hp hpT, Option.bind_eq_bind, Option.bind_some, m_word h hb hs, Option.bind_eq_bind, Option.bind_some]
  unfold bi
  by_cases q : wd vs T (skb vs T p) w = true
  · have e := m_number (h.mp (rk vs T 1 (skb vs T p)) (skb vs T p)) (lo := lo) (hi := hi) (mp_10 _ _ _) (rk_le hb).2 hlo hhi
    rw [← tnd_1 (wd_1 q)] at e
    rw [if_pos q, if_pos q, if_neg (by decide), ← tnd_1 (wd_1 q), e, Option.bind_eq_bind, Option.bind_some, mp_mp]
    rfl
  · rw [if_neg q, if_neg q, if_pos rfl]
end
