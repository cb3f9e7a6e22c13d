/-! the log: a ring beside shifted rows -/
theorem ofn_div {N q : Nat} (hN : N < 2147483648) (hq : 0 < q) (hq2 : q < 2147483648) : Int32.ofNat N / Int32.ofNat q = Int32.ofNat (N / q) := by
  have h1 : N / q ≤ N := Nat.div_le_self _ _
  rw [ti_eq, Int32.toInt_div, ti_ofn hN, ti_ofn hq2, ti_ofn (by omega)]
  rw [← Int.ofNat_tdiv]
  generalize N / q = z at *
  rw [bm (by omega) (by omega)]
theorem ofn_mod {N q : Nat} (hN : N < 2147483648) (hq : 0 < q) (hq2 : q < 2147483648) : Int32.ofNat N - Int32.ofNat N / Int32.ofNat q * Int32.ofNat q = Int32.ofNat (N % q) := by
  have h1 : N / q ≤ N := Nat.div_le_self _ _
  have h2 := Nat.div_add_mod N q
  have h3 : N / q * q = q * (N / q) := Nat.mul_comm _ _
  have h4 : N % q ≤ N := Nat.mod_le _ _
  rw [ofn_div hN hq hq2, ← Int32.ofNat_mul, ti_eq]
  rw [ti_sub (by rw [ti_ofn hN, ti_ofn (by omega)]; omega) (by rw [ti_ofn hN, ti_ofn (by omega)]; omega), ti_ofn hN, ti_ofn (by omega), ti_ofn (by omega)]
  omega
def tellW (W : Nat → Int32) (x1 x2 : Int32) : Nat → Int32 := fun k => if k = 113 then W 7 else if k = 114 then x1 else if k = 115 then x2 else if k = 116 then W 4 else if k = 15 then (if W 15 + 1 < 60 then W 15 + 1 else 60) else if 117 ≤ k ∧ k < 353 then W (k - 4) else W k
theorem m_tells (M : HI) (x1 x2 : Int32) : ∃ M', F_X12_tells M x1 x2 = some M' ∧ M' 206 = tellW (M 206) x1 x2 ∧ ∀ b, b ≠ 206 → M' b = M b := by
  have key : ∀ (j : Nat) (M1 : HI), j ≤ 239 → 3 ≤ j → (∀ i, 113 + j < i → i < 353 → M1 206 i = M 206 (i - 4)) → (∀ i, ¬ (113 + j < i ∧ i < 353) → M1 206 i = M 206 i) → (∀ b, b ≠ 206 → M1 b = M b) → ∃ M', L_X12_tells_4 x1 x2 (Int32.ofNat j) M1 = some M' ∧ M' 206 = tellW (M 206) x1 x2 ∧ ∀ b, b ≠ 206 → M' b = M b := by
    intro j
    induction j with
    | zero => intro _ _ h; omega
    | succ j ih =>
      intro M1 h1 h2 h3 h4 h5
      rw [L_X12_tells_4]
      by_cases hj : j = 2
      · subst hj
        rw [if_pos (by decide)]
        refine ⟨_, rfl, ?_, fun b hb => by rw [up2_ne _ _ _ hb, up2_ne _ _ _ hb, up2_ne _ _ _ hb, up2_ne _ _ _ hb, up2_ne _ _ _ hb]; exact h5 b hb⟩
        funext k
        simp only [up2_get, true_and]
        unfold tellW
        rw [h4 7 (by omega), h4 4 (by omega), h4 15 (by omega)]
        by_cases k15 : k = 15
        · subst k15; simp
        · by_cases k116 : k = 116
          · subst k116; simp
          · by_cases k115 : k = 115
            · subst k115; simp
            · by_cases k114 : k = 114
              · subst k114; simp
              · by_cases k113 : k = 113
                · subst k113; simp
                · rw [if_neg k15, if_neg k116, if_neg k115, if_neg k114, if_neg k113, if_neg k113, if_neg k114, if_neg k115, if_neg k116, if_neg k15]
                  by_cases hk : 117 ≤ k ∧ k < 353
                  · rw [if_pos hk]; exact h3 k (by omega) hk.2
                  · rw [if_neg hk]; exact h4 k (by omega)
      · rw [if_neg (by rw [show (4 : Int32) = Int32.ofNat 4 from rfl, ofn_lt (by omega) (by omega)]; omega)]
        have e1 : (113 : Int32) + Int32.ofNat (j + 1) = Int32.ofNat (114 + j) := by
          rw [show (113 : Int32) = Int32.ofNat 113 from rfl, ← Int32.ofNat_add, show 113 + (j + 1) = 114 + j by omega]
        have e2 : Int32.ofNat (114 + j) - (4 : Int32) = Int32.ofNat (110 + j) := by
          rw [show 114 + j = (110 + j) + 4 by omega, Int32.ofNat_add]
          exact Int32.add_sub_cancel _ _
        rw [e1, e2, ald_ofn (by omega) (by omega), ofn_m1, ofn_clamp (by omega)]
        simp only [Option.bind_eq_bind, Option.bind_some]
        rw [if_pos (inB_ofn (by omega) (by omega))]
        refine ih _ (by omega) (by omega) (fun i hi1 hi2 => ?_) (fun i hi => ?_) (fun b hb => by rw [up2_ne _ _ _ hb]; exact h5 b hb)
        · rw [up2_get]
          by_cases q : i = 114 + j
          · rw [if_pos ⟨rfl, q⟩, h4 (110 + j) (by omega), q, show 114 + j - 4 = 110 + j by omega]
          · rw [if_neg (fun z => q z.2)]
            exact h3 i (by omega) hi2
        · rw [up2_get, if_neg (fun z => by omega)]
          exact h4 i (by omega)
  exact key 239 M (by omega) (by omega) (fun i h1 h2 => by omega) (fun _ _ => rfl) (fun _ _ => rfl)
def LogR (C : HI) (c : Nat) (W : Nat → Int32) : Prop := ∃ m l, m ≤ 60 ∧ l < 60 ∧ W 15 = Int32.ofNat m ∧ C c 0 = Int32.ofNat m ∧ C c 1 = Int32.ofNat l ∧ ∀ g w, g < m → w < 4 → C (c + 1) ((l + 60 - g) % 60 * 4 + w) = W (113 + 4 * g + w)
theorem LogR.congr {C C' : HI} {c : Nat} {W : Nat → Int32} (h : LogR C c W) (h0 : C' c = C c) (h1 : C' (c + 1) = C (c + 1)) : LogR C' c W := by
  obtain ⟨m, l, a1, a2, a3, a4, a5, a6⟩ := h
  exact ⟨m, l, a1, a2, a3, by rw [h0]; exact a4, by rw [h0]; exact a5, fun g w hg hw => by rw [h1]; exact a6 g w hg hw⟩
theorem LogR.congrW {C : HI} {c : Nat} {W W' : Nat → Int32} (h : LogR C c W) (h0 : W' 15 = W 15) (h1 : ∀ k, 113 ≤ k → k < 353 → W' k = W k) : LogR C c W' := by
  obtain ⟨m, l, a1, a2, a3, a4, a5, a6⟩ := h
  exact ⟨m, l, a1, a2, by rw [h0]; exact a3, a4, a5, fun g w hg hw => by rw [h1 _ (by omega) (by omega)]; exact a6 g w hg hw⟩
theorem cl_write {C : HI} {c : Nat} {W : Nat → Int32} (h : LogR C c W) (x1 x2 : Int32) : ∃ C', F_X7_write C c (W 7) x1 x2 (W 4) = some C' ∧ LogR C' c (tellW W x1 x2) ∧ ∀ b, b ≠ c → b ≠ c + 1 → C' b = C b := by
  obtain ⟨m, l, a1, a2, a3, a4, a5, a6⟩ := h
  unfold F_X7_write
  have e1 : (C c 1 + 1) - (C c 1 + 1) / (60 : Int32) * (60 : Int32) = Int32.ofNat ((l + 1) % 60) := by
    rw [a5, ofn_succ]
    exact ofn_mod (q := 60) (by omega) (by omega) (by omega)
  have hl : (l + 1) % 60 < 60 := Nat.mod_lt _ (by omega)
  rw [e1]
  generalize hL : (l + 1) % 60 = L at *
  have e2 : Int32.ofNat L * (4 : Int32) = Int32.ofNat (L * 4) := by rw [Int32.ofNat_mul]; rfl
  have e3 : ∀ w : Nat, Int32.ofNat (L * 4) + Int32.ofNat w = Int32.ofNat (L * 4 + w) := fun w => (Int32.ofNat_add _ _).symm
  rw [e2, if_neg (ofn_nneg (by omega)), show (240 : Int32) = Int32.ofNat 240 from rfl, show (4 : Int32) = Int32.ofNat 4 from rfl, e3, if_neg (by rw [ofn_lt (by omega) (by omega)]; omega)]
  rw [show (1 : Int32) = Int32.ofNat 1 from rfl, show (2 : Int32) = Int32.ofNat 2 from rfl, show (3 : Int32) = Int32.ofNat 3 from rfl, e3, e3, e3]
  rw [if_pos (inB_ofn (by omega) (by omega)), if_pos (inB_ofn (by omega) (by omega)), if_pos (inB_ofn (by omega) (by omega)), if_pos (inB_ofn (by omega) (by omega)), ofn_clamp (by omega), ofn_clamp (by omega), ofn_clamp (by omega), ofn_clamp (by omega)]
  refine ⟨_, rfl, ?_, fun b h1 h2 => by rw [up2_ne _ _ _ h1, up2_ne _ _ _ h2, up2_ne _ _ _ h2, up2_ne _ _ _ h2, up2_ne _ _ _ h2, up2_ne _ _ _ h1]⟩
  have hm : (if W 15 + 1 < 60 then W 15 + 1 else (60 : Int32)) = Int32.ofNat (if m + 1 < 60 then m + 1 else 60) := by
    rw [a3, ofn_succ]
    by_cases q : m + 1 < 60
    · rw [if_pos (by rw [show (60 : Int32) = Int32.ofNat 60 from rfl, ofn_lt (by omega) (by omega)]; exact q), if_pos q]
    · rw [if_neg (by rw [show (60 : Int32) = Int32.ofNat 60 from rfl, ofn_lt (by omega) (by omega)]; exact q), if_neg q]
      rfl
  refine ⟨if m + 1 < 60 then m + 1 else 60, L, by split <;> omega, hl, ?_, ?_, ?_, fun g w hg hw => ?_⟩
  · unfold tellW; simp only [show (15 : Nat) = 113 ↔ False by decide, show (15 : Nat) = 114 ↔ False by decide, show (15 : Nat) = 115 ↔ False by decide, show (15 : Nat) = 116 ↔ False by decide, if_false, if_true]; exact hm
  · rw [up2_get, if_pos ⟨rfl, rfl⟩]
    simp only [up2_get]
    have : ¬ (c = c + 1) := by omega
    simp only [this, false_and, if_false]
    rw [a4, ← a3]
    exact hm
  · simp only [up2_get]
    have : ¬ (c = c + 1) := by omega
    simp [this]
  · have hc1 : ¬ (c + 1 = c) := by omega
    simp only [up2_get, hc1, false_and, if_false, true_and]
    rcases g with _ | g
    · have e9 : (L + 60 - 0) % 60 * 4 + w = L * 4 + w := by rw [Nat.sub_zero, Nat.add_mod_right, Nat.mod_eq_of_lt hl]
      rw [e9]
      rcases (show w = 0 ∨ w = 1 ∨ w = 2 ∨ w = 3 by omega) with rfl | rfl | rfl | rfl
      · rw [if_neg (by omega), if_neg (by omega), if_neg (by omega), if_pos (by omega)]; rfl
      · rw [if_neg (by omega), if_neg (by omega), if_pos rfl]; rfl
      · rw [if_neg (by omega), if_pos rfl]; rfl
      · rw [if_pos rfl]; rfl
    · have hgm : g < m := by split at hg <;> omega
      have hg59 : g + 1 < 60 := by split at hg <;> omega
      have e9 : (L + 60 - (g + 1)) % 60 = (l + 60 - g) % 60 := by
        rw [← hL]
        omega
      have e10 : (l + 60 - g) % 60 ≠ L := by rw [← hL]; omega
      have this := a6 g w hgm hw
      rw [e9]
      generalize (l + 60 - g) % 60 = Z at this e10 ⊢
      rw [if_neg (by omega), if_neg (by omega), if_neg (by omega), if_neg (by omega)]
      unfold tellW
      rw [if_neg (by omega), if_neg (by omega), if_neg (by omega), if_neg (by omega), if_neg (by omega), if_pos (by omega), show 113 + 4 * (g + 1) + w - 4 = 113 + 4 * g + w by omega]
      exact this
