section
variable {C C' M M' X X' : HI} {a T n d b : Nat} {vs : Nat → Nat} {W W' : Nat → Int32}
theorem GR.flt (h : GR C M n) {v : Int32} (hc : ∀ b, b < 130 → b ≠ 14 → b ≠ 1 → C' b = C b) (hc1 : ∀ k, k ≠ 2 → C' 1 k = C 1 k) (hc2 : C' 1 2 = v) (hm : ∀ b, 206 ≤ b → b ≤ 211 → b ≠ 208 → b ≠ 209 → M' b = M b) (h5 : ∀ k, k = 6 ∨ k = 7 ∨ k = 9 → M' 205 k = M 205 k) (h14 : M' 205 14 = v) : GR C' M' n := by
  obtain ⟨⟨g1, g2, g3, g4⟩, g5, g6, g7, g8⟩ := h
  have m6 := hm 206 (by omega) (by omega) (by omega) (by omega)
  refine ⟨⟨?_, ?_, ?_, ?_⟩, ?_, ?_, ?_, ?_⟩
  · rw [m6]; exact g1.congr (fun j hj => hc _ (by omega) (by omega) (by omega))
  · rw [m6]; exact g2
  · rw [m6]; exact g3.congr (hc _ (by omega) (by omega) (by omega)) (hc _ (by omega) (by omega) (by omega))
  · rw [m6]; exact g4.congr (fun j hj => hc _ (by omega) (by omega) (by omega)) rfl (fun _ _ _ => rfl)
  · exact g5.congr (fun b hb => hc b (by omega) (by omega) (by omega)) (h5 7 (by omega)) (hm 210 (by omega) (by omega) (by omega) (by omega)) (by rw [m6])
  · exact g6.congr (fun b h1 h2 => hc b (by omega) (by omega) (by omega)) (hc1 10 (by omega)) (h5 6 (by omega)) (hm 207 (by omega) (by omega) (by omega) (by omega))
  · exact g7.congr (hc1 1 (by omega)) (hc 2 (by omega) (by omega) (by omega)) (h5 9 (by omega)) (hm 211 (by omega) (by omega) (by omega) (by omega))
  · rw [hc2, h14]
def lifeEnd (I : HI) : Option (Int32 × HI) := (F_X12_readAll I (1 : Int32)) >>= fun r2 => if 0 ≤ r2.1 then (F_X12_throwsIf (up2 r2.2 205 14 (-1 : Int32)) (0 : Int32) (1 : Int32)) >>= fun r5 => if r5.1 = 0 then if (r5.2 206 1) = (12 : Int32) then (F_X12_throwsIf r5.2 (1 : Int32) (2 : Int32)) >>= fun r16 => if r16.1 = 0 then some (((r16.2 206 1) + (1 : Int32)), (up2 (up2 r16.2 206 1 ((r16.2 206 1) + (1 : Int32))) 205 7 (0 : Int32))) else L_X12_life_92 (0 : Int32) r16.2 else (F_X12_throwsIf r5.2 (0 : Int32) (2 : Int32)) >>= fun r13 => if r13.1 = 0 then some (((r13.2 206 1) + (1 : Int32)), (up2 (up2 r13.2 206 1 ((r13.2 206 1) + (1 : Int32))) 205 7 (0 : Int32))) else L_X12_life_92 (0 : Int32) r13.2 else L_X12_life_92 (0 : Int32) r5.2 else (F_X12_throwsIf (up2 r2.2 205 14 (r2.2 205 12)) (1 : Int32) (1 : Int32)) >>= fun r19 => if r19.1 = 0 then if (r19.2 206 1) = (12 : Int32) then (F_X12_throwsIf r19.2 (1 : Int32) (2 : Int32)) >>= fun r26 => if r26.1 = 0 then some (((r26.2 206 1) + (1 : Int32)), (up2 (up2 r26.2 206 1 ((r26.2 206 1) + (1 : Int32))) 205 7 (0 : Int32))) else L_X12_life_92 (0 : Int32) r26.2 else (F_X12_throwsIf r19.2 (0 : Int32) (2 : Int32)) >>= fun r23 => if r23.1 = 0 then some (((r23.2 206 1) + (1 : Int32)), (up2 (up2 r23.2 206 1 ((r23.2 206 1) + (1 : Int32))) 205 7 (0 : Int32))) else L_X12_life_92 (0 : Int32) r23.2 else L_X12_life_92 (0 : Int32) r19.2
theorem m_life0 (M : HI) : F_X12_life M = lifeEnd (cpR M 208 0 206 0 1202) := by
  unfold F_X12_life
  refine cp_rule (fun i M => L_X12_life_2 i M) lifeEnd (fun _ => True) (by decide) (by decide) (fun _ _ _ _ => trivial) (fun M _ => ?_) (fun i M hi _ => ?_) M trivial
  · show L_X12_life_2 (Int32.ofNat 1202) M = lifeEnd M
    rw [L_X12_life_2, if_pos (by decide)]
    rfl
  · show L_X12_life_2 (Int32.ofNat i) M = _
    rw [L_X12_life_2, if_neg (by rw [show (1202 : Int32) = Int32.ofNat 1202 from rfl, ofn_le (by omega) (by omega)]; omega), ald_ofn (by omega) (by omega), Option.bind_eq_bind, Option.bind_some, if_pos (inB_ofn (by omega) (by omega)), ofn_clamp (by omega), Nat.zero_add]
theorem m_life92 (M : HI) : L_X12_life_92 0 M = some (0, cpR M 206 0 208 0 1202) := by
  refine cp_rule (fun i M => L_X12_life_92 i M) (fun M => some (0, M)) (fun _ => True) (by decide) (by decide) (fun _ _ _ _ => trivial) (fun M _ => ?_) (fun i M hi _ => ?_) M trivial
  · show L_X12_life_92 (Int32.ofNat 1202) M = some (0, M)
    rw [L_X12_life_92, if_pos (by decide)]
  · show L_X12_life_92 (Int32.ofNat i) M = _
    rw [L_X12_life_92, if_neg (by rw [show (1202 : Int32) = Int32.ofNat 1202 from rfl, ofn_le (by omega) (by omega)]; omega), ald_ofn (by omega) (by omega), Option.bind_eq_bind, Option.bind_some, if_pos (inB_ofn (by omega) (by omega)), ofn_clamp (by omega), Nat.zero_add]
theorem le_ok {I Y : HI} {m : Nat} (h : F_X12_readAll I 1 = some (Int32.ofNat m, Y)) (hm : m ≤ 15) : lifeEnd I = if Y 206 1 = 12 then some (0, cpR (up2 (up2 Y 205 14 (-1)) 205 0 2) 206 0 208 0 1202) else some (Y 206 1 + 1, up2 (up2 (up2 Y 205 14 (-1)) 206 1 (Y 206 1 + 1)) 205 7 0) := by
  unfold lifeEnd
  simp only [Option.bind_eq_bind]
  rw [h, Option.bind_some, if_pos (show (0 : Int32) ≤ Int32.ofNat m by rw [show (0 : Int32) = Int32.ofNat 0 from rfl, ofn_le (by omega) (by omega)]; omega), m_thr0, Option.bind_some, if_pos rfl]
  by_cases q : Y 206 1 = 12
  · rw [if_pos q, if_pos (show (up2 Y 205 14 (-1)) 206 1 = 12 from q), m_thr1, Option.bind_some, if_neg (show ¬ (1 : Int32) = 0 by decide), m_life92]
  · rw [if_neg q, if_neg (show ¬ (up2 Y 205 14 (-1)) 206 1 = 12 from q), m_thr0, Option.bind_some, if_pos rfl]
    rfl
theorem le_bad {I Y : HI} (h : F_X12_readAll I 1 = some (-1, Y)) : lifeEnd I = some (0, cpR (up2 (up2 Y 205 14 (Y 205 12)) 205 0 1) 206 0 208 0 1202) := by
  unfold lifeEnd
  simp only [Option.bind_eq_bind]
  rw [h, Option.bind_some, if_neg (show ¬ (0 : Int32) ≤ -1 by decide), m_thr1, Option.bind_some, if_neg (show ¬ (1 : Int32) = 0 by decide), m_life92]
theorem back206 {Y : HI} {k1 k2 : Nat} {v1 v2 : Int32} (h8 : Y 208 = (cpR M 208 0 206 0 1202) 208) (h6 : ∀ k, 1202 ≤ k → Y 206 k = M 206 k) : (cpR (up2 (up2 Y 205 k1 v1) 205 k2 v2) 206 0 208 0 1202) 206 = M 206 := by
  funext k
  by_cases q : k < 1202
  · rw [cpR_in _ (by omega), up2_ne _ _ _ (by decide), up2_ne _ _ _ (by decide), h8, cpR_in _ (by omega)]
    congr 1
    omega
  · rw [cpR_out _ (by omega), up2_ne _ _ _ (by decide), up2_ne _ _ _ (by decide)]
    exact h6 k (by omega)
end
