/-! the reference copies rows -/
def cpR (M : HI) (dst off src off2 N : Nat) : HI := up1 M dst (fun z => if off ≤ z ∧ z < off + N then M src (off2 + (z - off)) else M dst z)
theorem cp_rule {ρ : Type} (L : Int32 → HI → Option ρ) (fin : HI → Option ρ) (keep : HI → Prop) {dst src off off2 N : Nat} (hN : N < 100000) (hne : src ≠ dst) (hk : ∀ M k v, keep M → keep (up2 M dst k v)) (h1 : ∀ M, keep M → L (Int32.ofNat N) M = fin M) (h2 : ∀ i M, i < N → keep M → L (Int32.ofNat i) M = L (Int32.ofNat i + 1) (up2 M dst (off + i) (M src (off2 + i)))) (M : HI) (hM : keep M) : L 0 M = fin (cpR M dst off src off2 N) := by
  have key : ∀ (k i : Nat) (M : HI), i + k = N → keep M → L (Int32.ofNat i) M = fin (up1 M dst (fun z => if off + i ≤ z ∧ z < off + N then M src (off2 + (z - off)) else M dst z)) := by
    intro k
    induction k with
    | zero =>
      intro i M hi hM
      rw [show i = N by omega, h1 M hM]
      congr 1
      funext x z
      rw [up1_get]
      split
      · rename_i q
        simp only
        rw [q, if_neg (by omega)]
      · rfl
    | succ k ih =>
      intro i M hi hM
      rw [h2 i M (by omega) hM, ofn_succ, ih (i + 1) _ (by omega) (hk _ _ _ hM)]
      congr 1
      funext x z
      rw [up1_get, up1_get]
      split
      · rename_i q
        simp only
        rw [up2_ne _ _ _ hne]
        by_cases h : off + i ≤ z ∧ z < off + N
        · rw [if_pos h]
          by_cases h3 : z = off + i
          · rw [if_neg (by omega), up2_get, if_pos ⟨rfl, h3⟩, show off2 + (z - off) = off2 + i by omega]
          · rw [if_pos (by omega)]
        · rw [if_neg h, if_neg (by omega), up2_get, if_neg (by omega)]
      · rename_i q
        rw [up2_ne _ _ _ q]
  have := key N 0 M (by omega) hM
  exact this
theorem cpR_ne (M : HI) {dst off src off2 N b : Nat} (h : b ≠ dst) : cpR M dst off src off2 N b = M b := by unfold cpR; rw [up1_get, if_neg h]
theorem cpR_in (M : HI) {dst off src off2 N z : Nat} (h : off ≤ z ∧ z < off + N) : cpR M dst off src off2 N dst z = M src (off2 + (z - off)) := by unfold cpR; rw [up1_get, if_pos rfl, if_pos h]
theorem cpR_out (M : HI) {dst off src off2 N z : Nat} (h : ¬ (off ≤ z ∧ z < off + N)) : cpR M dst off src off2 N dst z = M dst z := by unfold cpR; rw [up1_get, if_pos rfl, if_neg h]
section
variable {M : HI}
theorem m_keeps (M : HI) : F_X12_keepsAll M = some (cpR M 209 0 206 0 353) := by
  unfold F_X12_keepsAll
  refine cp_rule (fun i M => L_X12_keepsAll_2 i M) some (fun _ => True) (by decide) (by decide) (fun _ _ _ _ => trivial) (fun M _ => ?_) (fun i M hi _ => ?_) M trivial
  · show L_X12_keepsAll_2 (Int32.ofNat 353) M = some M
    rw [L_X12_keepsAll_2, if_pos (by decide)]
  · show L_X12_keepsAll_2 (Int32.ofNat i) M = _
    rw [L_X12_keepsAll_2, if_neg (by rw [show (353 : Int32) = Int32.ofNat 353 from rfl, ofn_le (by omega) (by omega)]; omega), ald_ofn (by omega) (by omega)]
    simp only [Option.bind_eq_bind, Option.bind_some]
    rw [if_pos (inB_ofn (by omega) (by omega)), ofn_clamp (by omega), Nat.zero_add]
theorem m_brings (M : HI) : F_X12_bringsBack M = some (cpR M 206 0 209 0 353) := by
  unfold F_X12_bringsBack
  refine cp_rule (fun i M => L_X12_bringsBack_2 i M) some (fun _ => True) (by decide) (by decide) (fun _ _ _ _ => trivial) (fun M _ => ?_) (fun i M hi _ => ?_) M trivial
  · show L_X12_bringsBack_2 (Int32.ofNat 353) M = some M
    rw [L_X12_bringsBack_2, if_pos (by decide)]
  · show L_X12_bringsBack_2 (Int32.ofNat i) M = _
    rw [L_X12_bringsBack_2, if_neg (by rw [show (353 : Int32) = Int32.ofNat 353 from rfl, ofn_le (by omega) (by omega)]; omega), ald_ofn (by omega) (by omega)]
    simp only [Option.bind_eq_bind, Option.bind_some]
    rw [if_pos (inB_ofn (by omega) (by omega)), ofn_clamp (by omega), Nat.zero_add]
theorem m_image (M : HI) : F_X12_image M = some (up2 (cpR (M0 M) 207 0 206 0 1202) 205 6 1) := by
  unfold F_X12_image
  refine cp_rule (fun i M => L_X12_image_7 i M) (fun M => some (up2 M 205 6 1)) (fun _ => True) (by decide) (by decide) (fun _ _ _ _ => trivial) (fun M _ => ?_) (fun i M hi _ => ?_) (M0 M) trivial
  · show L_X12_image_7 (Int32.ofNat 1202) M = _
    rw [L_X12_image_7, if_pos (by decide)]
  · show L_X12_image_7 (Int32.ofNat i) M = _
    rw [L_X12_image_7, if_neg (by rw [show (1202 : Int32) = Int32.ofNat 1202 from rfl, ofn_le (by omega) (by omega)]; omega), ald_ofn (by omega) (by omega)]
    simp only [Option.bind_eq_bind, Option.bind_some]
    rw [if_pos (inB_ofn (by omega) (by omega)), ofn_clamp (by omega), Nat.zero_add]
theorem m_back (M : HI) (h : ¬ M 205 6 = 0) : F_X12_back M = some (1, up2 (cpR (M0 M) 206 0 207 0 1202) 205 7 0) := by
  unfold F_X12_back
  rw [if_neg h]
  refine cp_rule (fun i M => L_X12_back_16 i M) (fun M => some (1, up2 M 205 7 0)) (fun _ => True) (by decide) (by decide) (fun _ _ _ _ => trivial) (fun M _ => ?_) (fun i M hi _ => ?_) (M0 M) trivial
  · show L_X12_back_16 (Int32.ofNat 1202) M = _
    rw [L_X12_back_16, if_pos (by decide)]
  · show L_X12_back_16 (Int32.ofNat i) M = _
    rw [L_X12_back_16, if_neg (by rw [show (1202 : Int32) = Int32.ofNat 1202 from rfl, ofn_le (by omega) (by omega)]; omega), ald_ofn (by omega) (by omega)]
    simp only [Option.bind_eq_bind, Option.bind_some]
    rw [if_pos (inB_ofn (by omega) (by omega)), ofn_clamp (by omega), Nat.zero_add]
theorem ix353 (r i : Nat) : (353 : Int32) * Int32.ofNat r + Int32.ofNat i = Int32.ofNat (353 * r + i) := by
  rw [Int32.ofNat_add, Int32.ofNat_mul]; rfl
theorem m_undo (M : HI) {m : Nat} (hm : m < 12) (h : M 205 7 = Int32.ofNat (m + 1)) : F_X12_undo M = some (1, cpR (up2 (M0 M) 205 7 (Int32.ofNat m)) 206 0 210 (353 * m) 353) := by
  unfold F_X12_undo
  rw [h, if_neg (by rw [show (0 : Int32) = Int32.ofNat 0 from rfl, ofn_eq (by omega) (by omega)]; omega), ofn_p1]
  refine cp_rule (fun i M => L_X12_undo_26 i M) (fun M => some (1, M)) (fun M => M 205 7 = Int32.ofNat m) (by decide) (by decide) (fun M k v q => by rw [up2_ne _ _ _ (by decide)]; exact q) (fun M q => ?_) (fun i M hi q => ?_) _ (by rw [up2_get, if_pos ⟨rfl, rfl⟩])
  · show L_X12_undo_26 (Int32.ofNat 353) M = _
    rw [L_X12_undo_26, if_pos (by decide)]
  · show L_X12_undo_26 (Int32.ofNat i) M = _
    rw [L_X12_undo_26, if_neg (by rw [show (353 : Int32) = Int32.ofNat 353 from rfl, ofn_le (by omega) (by omega)]; omega), q, ix353, ald_ofn (by omega) (by omega)]
    simp only [Option.bind_eq_bind, Option.bind_some]
    rw [if_pos (inB_ofn (by omega) (by omega)), ofn_clamp (by omega), Nat.zero_add]
/-- the rows of the acts behind a new one -/
theorem m_rem55 (M : HI) {m : Nat} (hm : m < 12) (h : M 205 7 = Int32.ofNat (m + 1)) : L_X12_remembers_55 0 M = some (cpR M 210 (353 * m) 206 0 353) := by
  refine cp_rule (fun i M => L_X12_remembers_55 i M) some (fun M => M 205 7 = Int32.ofNat (m + 1)) (by decide) (by decide) (fun M k v q => by rw [up2_ne _ _ _ (by decide)]; exact q) (fun M q => ?_) (fun i M hi q => ?_) M h
  · show L_X12_remembers_55 (Int32.ofNat 353) M = _
    rw [L_X12_remembers_55, if_pos (by decide)]
  · show L_X12_remembers_55 (Int32.ofNat i) M = _
    rw [L_X12_remembers_55, if_neg (by rw [show (353 : Int32) = Int32.ofNat 353 from rfl, ofn_le (by omega) (by omega)]; omega), q, ofn_p1, ix353, ald_ofn (by omega) (by omega)]
    simp only [Option.bind_eq_bind, Option.bind_some]
    rw [if_pos (inB_ofn (by omega) (by omega)), ofn_clamp (by omega), Nat.zero_add]
theorem m_rem11 (M : HI) : L_X12_remembers_11 0 M = L_X12_remembers_55 0 (up1 M 210 (fun z => if z < 3883 then M 210 (z + 353) else M 210 z)) := by
  have key : ∀ (k i : Nat) (M1 : HI), i + k = 3883 → (∀ z, z < i → M1 210 z = M 210 (z + 353)) → (∀ z, i ≤ z → M1 210 z = M 210 z) → (∀ b, b ≠ 210 → M1 b = M b) → L_X12_remembers_11 (Int32.ofNat i) M1 = L_X12_remembers_55 0 (up1 M 210 (fun z => if z < 3883 then M 210 (z + 353) else M 210 z)) := by
    intro k
    induction k with
    | zero =>
      intro i M1 hi h1 h2 h3
      rw [L_X12_remembers_11, show i = 3883 by omega, if_pos (by decide)]
      congr 1
      funext b z
      rw [up1_get]
      split
      · rename_i q
        subst q
        simp only
        split
        · exact h1 z (by omega)
        · exact h2 z (by omega)
      · rename_i q
        rw [h3 b q]
    | succ k ih =>
      intro i M1 hi h1 h2 h3
      have e : Int32.ofNat i + (353 : Int32) = Int32.ofNat (i + 353) := (Int32.ofNat_add _ _).symm
      rw [L_X12_remembers_11, if_neg (by rw [show (3883 : Int32) = Int32.ofNat 3883 from rfl, ofn_le (by omega) (by omega)]; omega), e, ald_ofn (by omega) (by omega)]
      simp only [Option.bind_eq_bind, Option.bind_some]
      rw [if_pos (inB_ofn (by omega) (by omega)), ofn_clamp (by omega), ofn_succ]
      refine ih (i + 1) _ (by omega) (fun z hz => ?_) (fun z hz => ?_) (fun b hb => by rw [up2_ne _ _ _ hb]; exact h3 b hb)
      · rw [up2_get]
        by_cases q : z = i
        · rw [if_pos ⟨rfl, q⟩, h2 _ (by omega), q]
        · rw [if_neg (fun w => q w.2)]; exact h1 z (by omega)
      · rw [up2_get, if_neg (by omega)]; exact h2 z (by omega)
  exact key 3883 0 M (by omega) (fun z hz => by omega) (fun _ _ => rfl) (fun _ _ => rfl)
/-- remembers: how many there are then; the newest row is the world; the older ones stay, or are shifted -/
theorem m_remembers (M : HI) {m : Nat} (hm : m ≤ 12) (h : M 205 7 = Int32.ofNat m) : ∃ M' m', F_X12_remembers M = some M' ∧ m' < 12 ∧ M' 205 7 = Int32.ofNat (m' + 1) ∧ (m' = m ∨ (m = 12 ∧ m' = 11)) ∧ (∀ k, k < 353 → M' 210 (353 * m' + k) = M 206 k) ∧ (∀ j k, j < m' → k < 353 → M' 210 (353 * (m' - 1 - j) + k) = M 210 (353 * (m - 1 - j) + k)) ∧ (∀ b, b ≠ 205 → b ≠ 210 → M' b = M b) ∧ (∀ k, k ≠ 7 → M' 205 k = M 205 k) := by
  unfold F_X12_remembers
  by_cases h12 : m = 12
  · subst h12
    rw [h, if_pos (show Int32.ofNat 12 = 12 from rfl), m_rem11]
    have e := m_rem55 (up1 M 210 (fun z => if z < 3883 then M 210 (z + 353) else M 210 z)) (m := 11) (by omega) (by rw [up1_get, if_neg (by decide)]; exact h)
    rw [e]
    refine ⟨_, 11, rfl, by omega, ?_, Or.inr ⟨rfl, rfl⟩, fun k hk => ?_, fun j k hj hk => ?_, fun b h1 h2 => ?_, fun k _ => ?_⟩
    · rw [cpR_ne _ (by decide), up1_get, if_neg (by decide)]; exact h
    · rw [cpR_in _ (by omega), up1_get, if_neg (by decide), show 0 + (353 * 11 + k - 353 * 11) = k by omega]
    · rw [cpR_out _ (by omega), up1_get, if_pos rfl, if_pos (by omega), show 353 * (11 - 1 - j) + k + 353 = 353 * (12 - 1 - j) + k by omega]
    · rw [cpR_ne _ h2, up1_get, if_neg h2]
    · rw [cpR_ne _ (by decide), up1_get, if_neg (by decide)]
  · rw [h, if_neg (by rw [show (12 : Int32) = Int32.ofNat 12 from rfl, ofn_eq (by omega) (by omega)]; exact h12), ofn_succ]
    have e := m_rem55 (up2 M 205 7 (Int32.ofNat (m + 1))) (m := m) (by omega) (by rw [up2_get, if_pos ⟨rfl, rfl⟩])
    rw [e]
    refine ⟨_, m, rfl, by omega, ?_, Or.inl rfl, fun k hk => ?_, fun j k hj hk => ?_, fun b h1 h2 => ?_, fun k hk => ?_⟩
    · rw [cpR_ne _ (by decide), up2_get, if_pos ⟨rfl, rfl⟩]
    · rw [cpR_in _ (by omega), up2_ne _ _ _ (by decide), show 0 + (353 * m + k - 353 * m) = k by omega]
    · rw [cpR_out _ (fun q => by
        have : 353 * (m - 1 - j) + k < 353 * m := by
          have : m - 1 - j + 1 ≤ m := by omega
          have := Nat.mul_le_mul_left 353 this
          omega
        omega), up2_ne _ _ _ (by decide)]
    · rw [cpR_ne _ h2, up2_ne _ _ _ h1]
    · rw [cpR_ne _ (by decide), up2_get, if_neg (fun q => hk q.2)]
end
