section
variable {C M : HI} {a : Nat} {f : Nat → Int32} {k : Nat → Nat} {W : Nat → Int32}
def hzC (q : Nat × (Nat → Int32)) : Int32 := if q.1 = 0 then 1 else if q.2 0 = 0 then 0 else 1
def hzM (q : Nat × (Nat → Int32)) : Int32 := if q.1 = 0 then 1 else if q.2 0 = 1 then 1 else 0
theorem cl_line {line E : Nat} (ha : a + 5 ≠ 137) (hl : line < 12) (hE : E ≤ 400) : ∀ (r i : Nat) (ts tsf : List Bool) (s : Nat → Int32) (C : HI), i + r = E → tyR k i r ts = some tsf → agr ts.length (C (a + 5)) s → (∀ j, j < 9 → C 137 j = f j) → C (a + 3) line = Int32.ofNat E → (∀ t, t < E → C (a + 4) t = Int32.ofNat (k t)) → ts.length ≤ 61 →
    ∃ C', L_X4_holds_20 a (Int32.ofNat line) (Int32.ofNat ts.length) (Int32.ofNat i) C = some (hzC (evR f k i r ts.length s), C') ∧ ∀ b, b ≠ a + 5 → C' b = C b := by
  intro r
  induction r with
  | zero =>
    intro i ts tsf s C hi ht hs hf he hk hlen
    refine ⟨C, ?_, fun _ _ => rfl⟩
    rw [L_X4_holds_20, ald_ofn hl (by omega), he]
    simp only [Option.bind_eq_bind, Option.bind_some]
    rw [if_pos (by rw [ofn_le (by omega) (by omega)]; omega)]
    unfold evR hzC
    simp only
    by_cases h0 : ts.length = 0
    · rw [h0, if_pos (show Int32.ofNat 0 = 0 from rfl), if_pos rfl]
    · rw [if_neg (by rw [show (0 : Int32) = Int32.ofNat 0 from rfl, ofn_eq (by omega) (by omega)]; exact h0), if_neg h0, hs 0 (by omega)]
      split <;> rfl
  | succ r ih =>
    intro i ts tsf s C hi ht hs hf he hk hlen
    unfold tyR at ht
    split at ht
    · rename_i h60
      obtain ⟨t, ht1, ht2⟩ := Option.bind_eq_some_iff.mp ht
      obtain ⟨g1, g2⟩ := tyS_len ht1
      have e1 := cl_step (C := C) (a := a) (f := f) ht1 h60 hs hf
      rw [L_X4_holds_20, ald_ofn hl (by omega), he, ald_ofn (show i < 400 by omega) (by omega), hk i (by omega)]
      simp only [Option.bind_eq_bind, Option.bind_some]
      rw [if_neg (by rw [ofn_le (by omega) (by omega)]; omega), e1]
      simp only [Option.bind_some]
      rw [← g1, ofn_succ]
      obtain ⟨C', q1, q2⟩ := ih (i + 1) t tsf (updR s (evP (k i) ts.length) (evV f (k i) ts.length s)) (up2 C (a + 5) (evP (k i) ts.length) (evV f (k i) ts.length s)) (by omega) ht2
        (by rw [upd_row, g1]; exact agr_upd hs g2) (fun j hj => by rw [up2_ne _ _ _ (by omega)]; exact hf j hj) (by rw [up2_ne _ _ _ (by omega)]; exact he) (fun t ht => by rw [up2_ne _ _ _ (by omega)]; exact hk t ht) (by omega)
      refine ⟨C', ?_, fun b hb => by rw [q2 b hb, up2_ne _ _ _ hb]⟩
      rw [q1, g1]
      rfl
    · cases ht
def stp (c : Nat) : Nat := if c < 1000 then 9 else c - 1000
def nmb (c : Nat) : Nat := if c < 1000 then c else 0
theorem fact9 {x c m : Int32} : F_X12_factOf M 9 m x c = some m := by
  unfold F_X12_factOf
  rw [if_neg (by decide), if_neg (by decide), if_neg (by decide), if_neg (by decide), if_neg (by decide), if_neg (by decide), if_neg (by decide), if_neg (by decide), if_neg (by decide)]
theorem b01 {x y : Int32} (hx : x = 0 ∨ x = 1) (hy : y = 0 ∨ y = 1) : (jn 1014 x y = if x + y = 2 then 1 else 0) ∧ (jn 1015 x y = if x + y ≤ 0 then 0 else 1) := by
  rcases hx with rfl | rfl <;> rcases hy with rfl | rfl <;> decide
theorem m_step {x c : Int32} {line E i : Nat} {ts ts' : List Bool} {s : Nat → Int32} (hM : M 206 = W) (hl : line < 12) (hE : E ≤ 400) (hi : i < E) (h : tyS (k i) ts = some ts') (hlen : ts.length ≤ 60) (hs : agr ts.length (M 213) s) (hv : vtR ts s) (hf : ∀ j, j < 9 → ∀ m, F_X12_factOf M (Int32.ofNat j) m x c = some (f j)) (he : W (357 + 4 * line) = Int32.ofNat E) (hk1 : W (402 + 2 * i) = Int32.ofNat (stp (k i))) (hk2 : W (403 + 2 * i) = Int32.ofNat (nmb (k i))) :
    L_X12_holdsLine_23 x c (Int32.ofNat (354 + 4 * line)) (Int32.ofNat ts.length) (Int32.ofNat i) M = L_X12_holdsLine_23 x c (Int32.ofNat (354 + 4 * line)) (Int32.ofNat (evP (k i) ts.length + 1)) (Int32.ofNat i + 1) (up2 M 213 (evP (k i) ts.length) (evV f (k i) ts.length s)) := by
  have e0 : Int32.ofNat (354 + 4 * line) + (3 : Int32) = Int32.ofNat (357 + 4 * line) := by
    rw [show (3 : Int32) = Int32.ofNat 3 from rfl, ← Int32.ofNat_add, show 354 + 4 * line + 3 = 357 + 4 * line by omega]
  have e1 : (402 : Int32) + (2 : Int32) * Int32.ofNat i = Int32.ofNat (402 + 2 * i) := by
    rw [Int32.ofNat_add, Int32.ofNat_mul]; rfl
  have e2 : Int32.ofNat (402 + 2 * i) + (1 : Int32) = Int32.ofNat (403 + 2 * i) := by rw [ofn_succ, show 402 + 2 * i + 1 = 403 + 2 * i by omega]
  rw [L_X12_holdsLine_23, e0, e1, e2, hM, ald_ofn (by omega) (by omega), ald_ofn (by omega) (by omega), ald_ofn (by omega) (by omega), he, hk1, hk2]
  simp only [Option.bind_eq_bind, Option.bind_some]
  rw [if_neg (by rw [ofn_le (by omega) (by omega)]; omega)]
  have hpush : k i < 1009 → (if (9 : Int32) < Int32.ofNat (stp (k i)) then (none : Option (Int32 × HI)) else (F_X12_factOf M (Int32.ofNat (stp (k i))) (Int32.ofNat (nmb (k i))) x c).bind fun r60 => if inB (Int32.ofNat ts.length) 400 = true then L_X12_holdsLine_23 x c (Int32.ofNat (354 + 4 * line)) (Int32.ofNat ts.length + 1) (Int32.ofNat i + 1) (up2 M 213 (Int32.ofNat ts.length).toNatClampNeg r60) else none) = L_X12_holdsLine_23 x c (Int32.ofNat (354 + 4 * line)) (Int32.ofNat (evP (k i) ts.length + 1)) (Int32.ofNat i + 1) (up2 M 213 (evP (k i) ts.length) (evV f (k i) ts.length s)) ∧ ¬ (9 : Int32) < Int32.ofNat (stp (k i)) := by
    intro hc
    have h9 : ¬ (9 : Int32) < Int32.ofNat (stp (k i)) := by
      rw [show (9 : Int32) = Int32.ofNat 9 from rfl, ofn_lt (by omega) (by unfold stp; split <;> omega)]
      unfold stp; split <;> omega
    refine ⟨?_, h9⟩
    rw [if_neg h9]
    have hq : F_X12_factOf M (Int32.ofNat (stp (k i))) (Int32.ofNat (nmb (k i))) x c = some (evV f (k i) ts.length s) := by
      unfold stp nmb evV
      by_cases h1 : k i < 1000
      · rw [if_pos h1, if_pos h1, if_pos h1]
        exact fact9
      · rw [if_neg h1, if_neg h1, if_neg h1, if_pos hc]
        exact hf _ (by omega) _
    rw [hq]
    simp only [Option.bind_some]
    rw [if_pos (inB_ofn (by omega) (by omega)), ofn_clamp (by omega), ofn_succ]
    unfold evP
    rw [if_pos hc]
  generalize k i = cc at h hpush ⊢
  unfold tyS at h
  split at h
  · obtain ⟨q1, q2⟩ := hpush (by omega)
    rw [if_neg q2] at q1 ⊢
    exact q1
  · split at h
    · obtain ⟨q1, q2⟩ := hpush (by omega)
      rw [if_neg q2] at q1 ⊢
      exact q1
    · clear hpush
      split at h <;> cases h
      · rename_i r _ _
        simp only [List.length_cons] at hlen hs ⊢
        have a1 := hs r.length (by omega)
        have a2 := hs (r.length + 1) (by omega)
        rw [show Int32.ofNat (stp 1010) = (10 : Int32) from rfl, if_pos (by decide), if_neg (by decide), ofn_m1, ofn_p1, ald_ofn (by omega) (by omega), ald_ofn (by omega) (by omega), a1, a2]
        simp only [Option.bind_some]
        rw [inB_ofn (by omega) (by omega), ofn_clamp (by omega)]
        simp only [if_true]
        rw [if_neg (by decide), if_neg (by decide), if_neg (by decide)]
        split <;> rfl
      · rename_i r _ _
        simp only [List.length_cons] at hlen hs ⊢
        have a1 := hs r.length (by omega)
        have a2 := hs (r.length + 1) (by omega)
        rw [show Int32.ofNat (stp 1011) = (11 : Int32) from rfl, if_pos (by decide), if_neg (by decide), ofn_m1, ofn_p1, ald_ofn (by omega) (by omega), ald_ofn (by omega) (by omega), a1, a2]
        simp only [Option.bind_some]
        rw [inB_ofn (by omega) (by omega), ofn_clamp (by omega)]
        simp only [if_true]
        simp only [show ((11 : Int32) = 10) = False by simp, if_false]
        rw [show evP 1011 (r.length + 1 + 1) = r.length from rfl, show evV f 1011 (r.length + 1 + 1) s = jn 1011 (s r.length) (s (r.length + 1)) from rfl]
        rw [jn_less]
        by_cases q : s (r.length + 1) ≤ s r.length
        · rw [if_pos q, if_neg (by rw [ti_le] at q; rw [ti_lt]; omega)]
        · rw [if_neg q, if_pos (ilt_of_not_le q)]
      · rename_i r _ _
        simp only [List.length_cons] at hlen hs ⊢
        have a1 := hs r.length (by omega)
        have a2 := hs (r.length + 1) (by omega)
        rw [show Int32.ofNat (stp 1012) = (12 : Int32) from rfl, if_pos (by decide), if_neg (by decide), ofn_m1, ofn_p1, ald_ofn (by omega) (by omega), ald_ofn (by omega) (by omega), a1, a2]
        simp only [Option.bind_some]
        rw [inB_ofn (by omega) (by omega), ofn_clamp (by omega)]
        simp only [if_true]
        rw [if_neg (by decide)]
        simp only [show ((12 : Int32) = 10) = False by simp, if_false]
        rw [show evP 1012 (r.length + 1 + 1) = r.length from rfl, show evV f 1012 (r.length + 1 + 1) s = jn 1012 (s r.length) (s (r.length + 1)) from rfl]
        rw [jn_more]
        by_cases q : s r.length ≤ s (r.length + 1)
        · rw [if_pos q, if_neg (by rw [ti_le] at q; rw [ti_lt]; omega)]
        · rw [if_neg q, if_pos (ilt_of_not_le q)]
      · rename_i r _ _
        simp only [List.length_cons] at hlen hs ⊢
        have a1 := hs r.length (by omega)
        rw [show Int32.ofNat (stp 1013) = (13 : Int32) from rfl, if_pos (by decide), if_pos rfl, ofn_p1, ald_ofn (by omega) (by omega), a1]
        simp only [Option.bind_some]
        rw [inB_ofn (by omega) (by omega), ofn_clamp (by omega)]
        simp only [if_true]
        rfl
      · rename_i r _ _
        simp only [List.length_cons] at hlen hs ⊢
        have a1 := hs r.length (by omega)
        have a2 := hs (r.length + 1) (by omega)
        rw [show Int32.ofNat (stp 1014) = (14 : Int32) from rfl, if_pos (by decide), if_neg (by decide), ofn_m1, ofn_p1, ald_ofn (by omega) (by omega), ald_ofn (by omega) (by omega), a1, a2]
        simp only [Option.bind_some]
        rw [inB_ofn (by omega) (by omega), ofn_clamp (by omega)]
        simp only [if_true]
        rw [if_neg (by decide), if_neg (by decide)]
        simp only [show ((14 : Int32) = 10) = False by simp, if_false]
        rw [show evP 1014 (r.length + 1 + 1) = r.length from rfl, show evV f 1014 (r.length + 1 + 1) s = jn 1014 (s r.length) (s (r.length + 1)) from rfl]
        rw [(b01 (y := s (r.length + 1)) (hv.2.1 rfl) (hv.1 rfl)).1]
        split <;> rfl
      · rename_i r _ _
        simp only [List.length_cons] at hlen hs ⊢
        have a1 := hs r.length (by omega)
        have a2 := hs (r.length + 1) (by omega)
        rw [show Int32.ofNat (stp 1015) = (15 : Int32) from rfl, if_pos (by decide), if_neg (by decide), ofn_m1, ofn_p1, ald_ofn (by omega) (by omega), ald_ofn (by omega) (by omega), a1, a2]
        simp only [Option.bind_some]
        rw [inB_ofn (by omega) (by omega), ofn_clamp (by omega)]
        simp only [if_true]
        rw [if_neg (by decide), if_neg (by decide), if_neg (by decide)]
        simp only [show ((15 : Int32) = 10) = False by simp, if_false]
        rw [show evP 1015 (r.length + 1 + 1) = r.length from rfl, show evV f 1015 (r.length + 1 + 1) s = jn 1015 (s r.length) (s (r.length + 1)) from rfl]
        rw [(b01 (y := s (r.length + 1)) (hv.2.1 rfl) (hv.1 rfl)).2]
        split <;> rfl
theorem m_line {x c : Int32} {line E : Nat} (hl : line < 12) (hE : E ≤ 400) (hf : ∀ M', M' 206 = W → ∀ j, j < 9 → ∀ m, F_X12_factOf M' (Int32.ofNat j) m x c = some (f j)) (hf2 : ∀ j, 6 ≤ j → j < 9 → f j = 0 ∨ f j = 1) (he : W (357 + 4 * line) = Int32.ofNat E) (hk : ∀ t, t < E → W (402 + 2 * t) = Int32.ofNat (stp (k t)) ∧ W (403 + 2 * t) = Int32.ofNat (nmb (k t))) : ∀ (r i : Nat) (ts tsf : List Bool) (s : Nat → Int32) (M : HI), i + r = E → tyR k i r ts = some tsf → agr ts.length (M 213) s → vtR ts s → M 206 = W → ts.length ≤ 61 →
    ∃ M', L_X12_holdsLine_23 x c (Int32.ofNat (354 + 4 * line)) (Int32.ofNat ts.length) (Int32.ofNat i) M = some (hzM (evR f k i r ts.length s), M') ∧ ∀ b, b ≠ 213 → M' b = M b := by
  intro r
  induction r with
  | zero =>
    intro i ts tsf s M hi ht hs hv hM hlen
    refine ⟨M, ?_, fun _ _ => rfl⟩
    have e0 : Int32.ofNat (354 + 4 * line) + (3 : Int32) = Int32.ofNat (357 + 4 * line) := by
      rw [show (3 : Int32) = Int32.ofNat 3 from rfl, ← Int32.ofNat_add, show 354 + 4 * line + 3 = 357 + 4 * line by omega]
    rw [L_X12_holdsLine_23, e0, hM, ald_ofn (by omega) (by omega), he]
    simp only [Option.bind_eq_bind, Option.bind_some]
    rw [if_pos (by rw [ofn_le (by omega) (by omega)]; omega)]
    unfold evR hzM
    simp only
    by_cases h0 : ts.length = 0
    · rw [h0, if_pos (show Int32.ofNat 0 = 0 from rfl), if_pos rfl]
    · rw [if_neg (by rw [show (0 : Int32) = Int32.ofNat 0 from rfl, ofn_eq (by omega) (by omega)]; exact h0), if_neg h0, hs 0 (by omega)]
      split <;> rfl
  | succ r ih =>
    intro i ts tsf s M hi ht hs hv hM hlen
    unfold tyR at ht
    split at ht
    · rename_i h60
      obtain ⟨t, ht1, ht2⟩ := Option.bind_eq_some_iff.mp ht
      obtain ⟨g1, g2⟩ := tyS_len ht1
      rw [m_step hM hl hE (by omega) ht1 h60 hs hv (hf M hM) he (hk i (by omega)).1 (hk i (by omega)).2, ← g1, ofn_succ]
      obtain ⟨M', q1, q2⟩ := ih (i + 1) t tsf (updR s (evP (k i) ts.length) (evV f (k i) ts.length s)) (up2 M 213 (evP (k i) ts.length) (evV f (k i) ts.length s)) (by omega) ht2
        (by rw [upd_row, g1]; exact agr_upd hs g2) (tyS_vt hf2 ht1 hv) (by rw [up2_ne _ _ _ (by decide)]; exact hM) (by omega)
      refine ⟨M', ?_, fun b hb => by rw [q2 b hb, up2_ne _ _ _ hb]⟩
      rw [q1, g1]
      rfl
    · cases ht
/-- the types hold of what the codes come to -/
theorem evR_vt (hf2 : ∀ j, 6 ≤ j → j < 9 → f j = 0 ∨ f j = 1) : ∀ (r i : Nat) (ts tsf : List Bool) (s : Nat → Int32), tyR k i r ts = some tsf → vtR ts s → (evR f k i r ts.length s).1 = tsf.length ∧ vtR tsf (evR f k i r ts.length s).2 := by
  intro r
  induction r with
  | zero => intro i ts tsf s h hv; cases h; exact ⟨rfl, hv⟩
  | succ r ih =>
    intro i ts tsf s h hv
    unfold tyR at h
    split at h
    · obtain ⟨t, ht1, ht2⟩ := Option.bind_eq_some_iff.mp h
      obtain ⟨g1, g2⟩ := tyS_len ht1
      have := ih (i + 1) t tsf _ ht2 (tyS_vt (f := f) hf2 ht1 hv)
      rw [g1] at this
      exact this
    · cases h
theorem hz_same (hf2 : ∀ j, 6 ≤ j → j < 9 → f j = 0 ∨ f j = 1) {r i : Nat} {tsf : List Bool} {s : Nat → Int32} (h : tyR k i r [] = some tsf) (ht : tsf = [] ∨ tsf = [true]) : hzM (evR f k i r 0 s) = hzC (evR f k i r 0 s) := by
  obtain ⟨e1, e2⟩ := evR_vt (f := f) hf2 r i [] tsf s h trivial
  change (evR f k i r 0 s).1 = _ at e1
  change vtR tsf (evR f k i r 0 s).2 at e2
  unfold hzM hzC
  rcases ht with rfl | rfl
  · have e1 : (evR f k i r 0 s).1 = 0 := e1
    rw [if_pos e1, if_pos e1]
  · have : ¬ (evR f k i r 0 s).1 = 0 := by rw [e1]; simp
    rw [if_neg this, if_neg this]
    have e3 := e2.1 rfl
    change _ ∨ _ at e3
    rcases e3 with q | q
    · change (evR f k i r 0 s).2 0 = 0 at q
      rw [q]; rfl
    · change (evR f k i r 0 s).2 0 = 1 at q
      rw [q]; rfl
end
