section
variable {C M : HI} {b n : Nat} {W : Nat → Int32}
theorem m_callsBy (hW : DOk n (M 206)) (hr : rg (M 206 8) 0 45) {d : Nat} (hd : d < n) : F_X12_callsBy M (Int32.ofNat d) = some (cup (M 206) n d (M 206 8)) := by
  have hn := hW.2.1
  unfold F_X12_callsBy cup
  rw [m_isNew (by omega)]
  simp only [Option.bind_eq_bind, Option.bind_some]
  by_cases h0 : M 206 (22 + 8 * d) = -1
  · rw [if_pos h0, if_neg (by decide), if_pos h0]
    have hr1 : (M 206 8 + 1).toInt ≤ 1000000 := by
      rw [ti_add (by rw [ti_1]; have := hr.1; omega) (by rw [ti_1]; have := hr.2; omega), ti_1]
      have := hr.2; omega
    refine (lp_ruleI (fun (s : Int32 × Int32) i => L_X12_callsBy_25 M (Int32.ofNat d) s.1 s.2 i) n (by omega) _ (fun s => s.1) (fun _ s => s.2.toInt ≤ 1000000) (fun s _ => ?_) (fun i s hi' hq => ?_) n 0 ((-1 : Int32), M 206 8 + 1) (by omega) hr1).1
    · rw [L_X12_callsBy_25]
      unfold F_X12_dishes
      simp only [Option.bind_eq_bind, Option.bind_some]
      rw [hW.1, if_pos (Int32.le_refl _)]
    · try simp only
      rw [L_X12_callsBy_25]
      unfold F_X12_dishes
      rw [m_isNew (by omega), m_farOf (by omega) (by omega)]
      simp only [Option.bind_eq_bind, Option.bind_some]
      rw [hW.1, if_neg (by rw [ofn_le (by omega) (by omega)]; omega)]
      by_cases h1 : M 206 (22 + 8 * i) = -1
      · have h2 : s.2 ≤ (1000000 : Int32) := by rw [ti_le, ti_mill]; exact hq
        have h3 : ¬ (1000000 : Int32) < s.2 := by rw [ti_lt, ti_mill]; omega
        simp [h1, h2, h3, hq]
      · by_cases h2 : s.2 ≤ dst (M 206) d i
        · have h3 : ¬ dst (M 206) d i < s.2 := by rw [ti_le] at h2; rw [ti_lt]; omega
          simp [h1, h2, h3, hq]
        · have h3 : dst (M 206) d i < s.2 := by rw [ti_le] at h2; rw [ti_lt]; omega
          have h4 : (dst (M 206) d i).toInt ≤ 1000000 := by rw [ti_lt] at h3; omega
          simp [h1, h2, h3, h4]
  · rw [if_neg h0, if_pos rfl, if_neg h0]
/-- no dish, or a dish -/
def enc : Option Nat → Int32
  | none => -1
  | some e => Int32.ofNat e
def earl (W : Nat → Int32) (n : Nat) (x : Int32) : Option Nat := lp (fun e s => if W (22 + 8 * e) ≤ x then s else match s with | none => some e | some f => if W (22 + 8 * f) ≤ W (22 + 8 * e) then s else some e) 0 n none
theorem cl_earl (hD : DR C b W) (hW : DOk n W) {x : Int32} : F_X1_earliestBehind C b x = some (enc (earl W n x)) := by
  have hn := hW.2.1
  unfold F_X1_earliestBehind earl
  refine (lp_ruleI (fun (s : Option Nat) i => L_X1_earliestBehind_4 C b x (enc s) i) n (by omega) _ (fun s => enc s) (fun _ s => ∀ f, s = some f → f < n) (fun s _ => ?_) (fun i s hi' hq => ?_) n 0 none (by omega) (fun f h => by cases h)).1
  · rw [L_X1_earliestBehind_4, cl_n hD hW, if_pos (Int32.le_refl _)]
  · try simp only
    rw [L_X1_earliestBehind_4, cl_n hD hW, if_neg (by rw [ofn_le (by omega) (by omega)]; omega), cl_fst hD (by omega)]
    simp only [Option.bind_eq_bind, Option.bind_some]
    by_cases h1 : W (22 + 8 * i) ≤ x
    · simp only [h1, if_true]
      exact ⟨trivial, hq⟩
    · cases s with
      | none => simp [h1, enc, hi']
      | some f =>
        have hf := hq f rfl
        have : ¬ enc (some f) = -1 := ofn_ne_m1 (by omega)
        simp only [h1, if_false, this]
        rw [show enc (some f) = Int32.ofNat f from rfl, cl_fst hD (by omega)]
        simp only [Option.bind_some]
        by_cases h2 : W (22 + 8 * f) ≤ W (22 + 8 * i)
        · simp [h2, enc]; exact hf
        · simp [h2, enc, hi']
theorem m_next (hW : DOk n (M 206)) {x : Int32} (hx : rg x (-1) 9999) : F_X12_nextFrom M (x + 1) = some (enc (earl (M 206) n x)) := by
  have hn := hW.2.1
  have hx1 : (x + 1).toInt = x.toInt + 1 := by rw [ti_add (by rw [ti_1]; have := hx.1; omega) (by rw [ti_1]; have := hx.2; omega), ti_1]
  have hm : (if (0 : Int32) < x + 1 then x + 1 else (0 : Int32)).toInt = x.toInt + 1 := by
    split
    · exact hx1
    · rename_i h
      rw [ti_lt, ti_0, hx1] at h
      have := hx.1
      rw [ti_0]; omega
  unfold F_X12_nextFrom earl
  refine (lp_ruleI (fun (s : Option Nat) i => L_X12_nextFrom_4 M (x + 1) (enc s) i) n (by omega) _ (fun s => enc s) (fun _ s => ∀ f, s = some f → f < n) (fun s _ => ?_) (fun i s hi' hq => ?_) n 0 none (by omega) (fun f h => by cases h)).1
  · rw [L_X12_nextFrom_4]
    unfold F_X12_dishes
    simp only [Option.bind_eq_bind, Option.bind_some]
    rw [hW.1, if_pos (Int32.le_refl _)]
  · try simp only
    rw [L_X12_nextFrom_4]
    unfold F_X12_dishes
    rw [m_fst (by omega)]
    simp only [Option.bind_eq_bind, Option.bind_some]
    rw [hW.1, if_neg (by rw [ofn_le (by omega) (by omega)]; omega)]
    have e1 : (M 206 (22 + 8 * i) < if (0 : Int32) < x + 1 then x + 1 else (0 : Int32)) ↔ M 206 (22 + 8 * i) ≤ x := by
      rw [ti_lt, hm, ti_le]; omega
    by_cases h1 : M 206 (22 + 8 * i) ≤ x
    · rw [if_pos (e1.mpr h1)]
      simp only [h1, if_true]
      exact ⟨trivial, hq⟩
    · rw [if_neg (fun q => h1 (e1.mp q))]
      cases s with
      | none => simp [h1, enc, hi']
      | some f =>
        have hf := hq f rfl
        have : ¬ enc (some f) = -1 := ofn_ne_m1 (by omega)
        simp only [h1, if_false, this]
        rw [show enc (some f) = Int32.ofNat f from rfl, m_fst (by omega)]
        simp only [Option.bind_some]
        by_cases h2 : M 206 (22 + 8 * f) ≤ M 206 (22 + 8 * i)
        · simp [h2, enc]; exact hf
        · simp [h2, enc, hi']
theorem earl_lt {x : Int32} {f : Nat} (h : earl W n x = some f) : f < n := by
  have := lp_inv (f := fun e (s : Option Nat) => if W (22 + 8 * e) ≤ x then s else match s with | none => some e | some f => if W (22 + 8 * f) ≤ W (22 + 8 * e) then s else some e) (fun i s => ∀ f, s = some f → f < i) n 0 none (fun f h => by cases h) (fun d s _ h2 hs f hf => by
    split at hf
    · have := hs f hf; omega
    · cases s with
      | none => cases hf; omega
      | some g =>
        simp only at hf
        split at hf
        · have := hs f hf; omega
        · cases hf; omega)
  rw [Nat.zero_add] at this
  exact this f h
end
