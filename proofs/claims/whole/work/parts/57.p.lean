/-! the law's codes: their types, and what they come to -/
def tyS (c : Nat) (ts : List Bool) : Option (List Bool) :=
  if c < 1006 then some (false :: ts) else if c < 1009 then some (true :: ts) else match c, ts with
    | 1010, false :: false :: r => some (false :: r)
    | 1011, false :: false :: r => some (true :: r)
    | 1012, false :: false :: r => some (true :: r)
    | 1013, true :: r => some (true :: r)
    | 1014, true :: true :: r => some (true :: r)
    | 1015, true :: true :: r => some (true :: r)
    | _, _ => none
def jn (c : Nat) (x y : Int32) : Int32 := if c = 1010 then x + y else if c = 1011 then (if x < y then 1 else 0) else if c = 1012 then (if y < x then 1 else 0) else if c = 1014 then x &&& y else x ||| y
theorem jn_less (x y : Int32) : jn 1011 x y = if x < y then 1 else 0 := by simp [jn]
theorem jn_more (x y : Int32) : jn 1012 x y = if y < x then 1 else 0 := by simp [jn]
def evP (c h : Nat) : Nat := if c < 1009 then h else if c = 1013 then h - 1 else h - 2
def evV (f : Nat → Int32) (c h : Nat) (s : Nat → Int32) : Int32 := if c < 1000 then Int32.ofNat c else if c < 1009 then f (c - 1000) else if c = 1013 then 1 - s (h - 1) else jn c (s (h - 2)) (s (h - 1))
def updR (s : Nat → Int32) (p : Nat) (v : Int32) : Nat → Int32 := fun i => if i = p then v else s i
def evR (f : Nat → Int32) (k : Nat → Nat) : Nat → Nat → Nat → (Nat → Int32) → Nat × (Nat → Int32)
  | _, 0, h, s => (h, s)
  | i, r + 1, h, s => evR f k (i + 1) r (evP (k i) h + 1) (updR s (evP (k i) h) (evV f (k i) h s))
def tyR (k : Nat → Nat) : Nat → Nat → List Bool → Option (List Bool)
  | _, 0, ts => some ts
  | i, r + 1, ts => if ts.length ≤ 60 then (tyS (k i) ts).bind (fun t => tyR k (i + 1) r t) else none
def vtR : List Bool → (Nat → Int32) → Prop
  | [], _ => True
  | t :: r, s => (t = true → s r.length = 0 ∨ s r.length = 1) ∧ vtR r s
def agr (h : Nat) (s s' : Nat → Int32) : Prop := ∀ i, i < h → s i = s' i
theorem vtR_congr : ∀ {ts : List Bool} {s s' : Nat → Int32}, agr ts.length s s' → vtR ts s → vtR ts s' := by
  intro ts
  induction ts with
  | nil => intros; trivial
  | cons t r ih =>
    intro s s' h hv
    refine ⟨fun ht => ?_, ih (fun i hi => h i (by simp; omega)) hv.2⟩
    rw [← h r.length (by simp)]
    exact hv.1 ht
theorem upd_row (C : HI) (b p : Nat) (v : Int32) : up2 C b p v b = updR (C b) p v := by
  funext i
  rw [up2_self]
  rfl
theorem agr_upd {h p : Nat} {s s' : Nat → Int32} {v : Int32} (ha : agr h s s') (hp : p ≤ h) : agr (p + 1) (updR s p v) (updR s' p v) := by
  intro i hi
  unfold updR
  split
  · rfl
  · exact ha i (by omega)
theorem ofn_p1 (h : Nat) : Int32.ofNat (h + 1) - (1 : Int32) = Int32.ofNat h := by
  rw [Int32.ofNat_add]
  exact Int32.add_sub_cancel _ _
theorem ofn_p2 (h : Nat) : Int32.ofNat (h + 2) - (2 : Int32) = Int32.ofNat h := by
  rw [Int32.ofNat_add]
  exact Int32.add_sub_cancel _ _
theorem ofn_m1 (h : Nat) : Int32.ofNat (h + 1) + (-1 : Int32) = Int32.ofNat h := by
  rw [← ofn_p1 h, Int32.sub_eq_add_neg]
/-- what the type says of the new height and value -/
theorem tyS_len {c : Nat} {ts ts' : List Bool} (h : tyS c ts = some ts') : ts'.length = evP c ts.length + 1 ∧ evP c ts.length ≤ ts.length := by
  unfold tyS at h
  unfold evP
  split at h
  · cases h
    rw [if_pos (by omega)]
    exact ⟨rfl, Nat.le_refl _⟩
  · split at h
    · cases h
      rw [if_pos (by omega)]
      exact ⟨rfl, Nat.le_refl _⟩
    · rw [if_neg (by omega)]
      split at h <;> cases h <;> simp <;> omega
theorem vt_0 {s : Nat → Int32} {t : Bool} {r : List Bool} (h : vtR (t :: r) s) (ht : t = true) : s r.length = 0 ∨ s r.length = 1 := h.1 ht
theorem tyS_vt {f : Nat → Int32} {c : Nat} {ts ts' : List Bool} {s : Nat → Int32} (hf : ∀ j, 6 ≤ j → j < 9 → f j = 0 ∨ f j = 1) (h : tyS c ts = some ts') (hv : vtR ts s) : vtR ts' (updR s (evP c ts.length) (evV f c ts.length s)) := by
  have low : ∀ (t : Bool) (r : List Bool) (v : Int32), vtR r s → (t = true → v = 0 ∨ v = 1) → vtR (t :: r) (updR s r.length v) := by
    intro t r v h1 h2
    refine ⟨fun ht => ?_, vtR_congr (fun i hi => ?_) h1⟩
    · unfold updR; rw [if_pos rfl]; exact h2 ht
    · unfold updR; rw [if_neg (by omega)]
  unfold tyS at h
  split at h
  · cases h
    have e : evP c ts.length = ts.length := by unfold evP; rw [if_pos (by omega)]
    rw [e]
    exact low false ts _ hv (fun q => by cases q)
  · split at h
    · rename_i q1 q2
      cases h
      have e : evP c ts.length = ts.length := by unfold evP; rw [if_pos (by omega)]
      rw [e]
      refine low true ts _ hv (fun _ => ?_)
      unfold evV
      rw [if_neg (by omega), if_pos (by omega)]
      exact hf _ (by omega) (by omega)
    · split at h <;> cases h
      · exact low false _ _ hv.2.2 (fun q => by cases q)
      · refine low true _ _ hv.2.2 (fun _ => ?_)
        show jn 1011 _ _ = 0 ∨ jn 1011 _ _ = 1
        unfold jn; simp only [show (1011 : Nat) = 1010 ↔ False by decide, if_false, if_true]
        split <;> simp
      · refine low true _ _ hv.2.2 (fun _ => ?_)
        show jn 1012 _ _ = 0 ∨ jn 1012 _ _ = 1
        unfold jn; simp only [show (1012 : Nat) = 1010 ↔ False by decide, show (1012 : Nat) = 1011 ↔ False by decide, if_false, if_true]
        split <;> simp
      · rename_i r _ _
        refine low true _ _ hv.2 (fun _ => ?_)
        show 1 - s (r.length + 1 - 1) = 0 ∨ 1 - s (r.length + 1 - 1) = 1
        rw [Nat.add_sub_cancel]
        rcases hv.1 rfl with q | q <;> rw [q] <;> decide
      · rename_i r _ _
        refine low true _ _ hv.2.2 (fun _ => ?_)
        show jn 1014 (s (r.length + 2 - 2)) (s (r.length + 2 - 1)) = 0 ∨ jn 1014 (s (r.length + 2 - 2)) (s (r.length + 2 - 1)) = 1
        rw [Nat.add_sub_cancel, show r.length + 2 - 1 = r.length + 1 by omega]
        rcases hv.1 rfl with q | q <;> rcases hv.2.1 rfl with q2 | q2 <;> rw [show (true :: r).length = r.length + 1 from rfl] at q <;> rw [q, q2] <;> decide
      · rename_i r _ _
        refine low true _ _ hv.2.2 (fun _ => ?_)
        show jn 1015 (s (r.length + 2 - 2)) (s (r.length + 2 - 1)) = 0 ∨ jn 1015 (s (r.length + 2 - 2)) (s (r.length + 2 - 1)) = 1
        rw [Nat.add_sub_cancel, show r.length + 2 - 1 = r.length + 1 by omega]
        rcases hv.1 rfl with q | q <;> rcases hv.2.1 rfl with q2 | q2 <;> rw [show (true :: r).length = r.length + 1 from rfl] at q <;> rw [q, q2] <;> decide
section
variable {C M : HI} {a : Nat} {f : Nat → Int32}
theorem cl_step {c : Nat} {ts ts' : List Bool} {s : Nat → Int32} (h : tyS c ts = some ts') (hl : ts.length ≤ 60) (hs : agr ts.length (C (a + 5)) s) (hf : ∀ j, j < 9 → C 137 j = f j) : F_X4_step C a (Int32.ofNat c) (Int32.ofNat ts.length) = some (Int32.ofNat (evP c ts.length + 1), up2 C (a + 5) (evP c ts.length) (evV f c ts.length s)) := by
  have hpush : c < 1009 → F_X4_step C a (Int32.ofNat c) (Int32.ofNat ts.length) = some (Int32.ofNat (evP c ts.length + 1), up2 C (a + 5) (evP c ts.length) (evV f c ts.length s)) := by
    intro hc
    unfold F_X4_step F_X4_push
    rw [show (1010 : Int32) = Int32.ofNat 1010 from rfl, show (1009 : Int32) = Int32.ofNat 1009 from rfl, show (64 : Int32) = Int32.ofNat 64 from rfl, show (1000 : Int32) = Int32.ofNat 1000 from rfl]
    rw [if_neg (by rw [ofn_le (by omega) (by omega)]; omega), if_neg (by rw [ofn_le (by omega) (by omega)]; omega), if_neg (ofn_nneg (by omega)), if_pos (by rw [ofn_lt (by omega) (by omega)]; omega)]
    unfold evP evV
    rw [if_pos hc]
    by_cases h1 : c < 1000
    · rw [if_neg (by rw [ofn_le (by omega) (by omega)]; omega), if_pos (inB_ofn (by omega) (by omega)), if_pos h1, ofn_clamp (by omega), ofn_succ]
      rfl
    · rw [if_pos (by rw [ofn_le (by omega) (by omega)]; omega), if_neg h1, if_pos hc]
      have e : Int32.ofNat c - Int32.ofNat 1000 = Int32.ofNat (c - 1000) := by
        rw [show c = (c - 1000) + 1000 by omega, Int32.ofNat_add, Int32.add_sub_cancel, Nat.add_sub_cancel]
      rw [e, ald_ofn (by omega) (by omega)]
      simp only [Option.bind_eq_bind, Option.bind_some]
      rw [if_pos (inB_ofn (by omega) (by omega)), ofn_clamp (by omega), hf _ (by omega), ofn_succ]
      rfl
  unfold tyS at h
  split at h
  · exact hpush (by omega)
  · split at h
    · exact hpush (by omega)
    · split at h <;> cases h
      all_goals
        simp only [List.length_cons] at hl hs ⊢
      · rename_i r _ _
        have a1 := hs r.length (by omega)
        have a2 := hs (r.length + 1) (by omega)
        unfold F_X4_step F_X4_join
        rw [if_pos (by decide), if_neg (by decide), if_pos (by rw [show (2 : Int32) = Int32.ofNat 2 from rfl, ofn_le (by omega) (by omega)]; omega), ofn_p2, ofn_p1, ald_ofn (by omega) (by omega), ald_ofn (by omega) (by omega), a1, a2]
        simp only [Option.bind_eq_bind, Option.bind_some]
        rw [if_pos (by decide)]
        simp only [Option.bind_some]
        rw [if_pos (inB_ofn (by omega) (by omega)), ofn_clamp (by omega)]
        rfl
      · rename_i r _ _
        have a1 := hs r.length (by omega)
        have a2 := hs (r.length + 1) (by omega)
        unfold F_X4_step F_X4_join
        rw [if_pos (by decide), if_neg (by decide), if_pos (by rw [show (2 : Int32) = Int32.ofNat 2 from rfl, ofn_le (by omega) (by omega)]; omega), ofn_p2, ofn_p1, ald_ofn (by omega) (by omega), ald_ofn (by omega) (by omega), a1, a2]
        simp only [Option.bind_eq_bind, Option.bind_some]
        rw [if_neg (by decide), if_pos (by decide)]
        have e : (if s (r.length + 1) ≤ s r.length then some (0 : Int32) else some 1) = some (evV f 1011 (r.length + 2) s) := by
          show _ = some (jn 1011 (s r.length) (s (r.length + 1)))
          rw [jn_less]
          by_cases q : s (r.length + 1) ≤ s r.length
          · rw [if_pos q, if_neg (by rw [ti_le] at q; rw [ti_lt]; omega)]
          · rw [if_neg q, if_pos (ilt_of_not_le q)]
        rw [e]
        simp only [Option.bind_some]
        rw [if_pos (inB_ofn (by omega) (by omega)), ofn_clamp (by omega)]
        rfl
      · rename_i r _ _
        have a1 := hs r.length (by omega)
        have a2 := hs (r.length + 1) (by omega)
        unfold F_X4_step F_X4_join
        rw [if_pos (by decide), if_neg (by decide), if_pos (by rw [show (2 : Int32) = Int32.ofNat 2 from rfl, ofn_le (by omega) (by omega)]; omega), ofn_p2, ofn_p1, ald_ofn (by omega) (by omega), ald_ofn (by omega) (by omega), a1, a2]
        simp only [Option.bind_eq_bind, Option.bind_some]
        rw [if_neg (by decide), if_neg (by decide), if_pos (by decide)]
        have e : (if s r.length ≤ s (r.length + 1) then some (0 : Int32) else some 1) = some (evV f 1012 (r.length + 2) s) := by
          show _ = some (jn 1012 (s r.length) (s (r.length + 1)))
          rw [jn_more]
          by_cases q : s r.length ≤ s (r.length + 1)
          · rw [if_pos q, if_neg (by rw [ti_le] at q; rw [ti_lt]; omega)]
          · rw [if_neg q, if_pos (ilt_of_not_le q)]
        rw [e]
        simp only [Option.bind_some]
        rw [if_pos (inB_ofn (by omega) (by omega)), ofn_clamp (by omega)]
        rfl
      · rename_i r _ _
        have a1 := hs r.length (by omega)
        unfold F_X4_step
        rw [if_pos (by decide), if_pos (by decide), if_neg (by rw [show (1 : Int32) = Int32.ofNat 1 from rfl, ofn_lt (by omega) (by omega)]; omega), ofn_p1, ald_ofn (by omega) (by omega), a1]
        simp only [Option.bind_eq_bind, Option.bind_some]
        rw [if_pos (inB_ofn (by omega) (by omega)), ofn_clamp (by omega)]
        rfl
      · rename_i r _ _
        have a1 := hs r.length (by omega)
        have a2 := hs (r.length + 1) (by omega)
        unfold F_X4_step F_X4_join
        rw [if_pos (by decide), if_neg (by decide), if_pos (by rw [show (2 : Int32) = Int32.ofNat 2 from rfl, ofn_le (by omega) (by omega)]; omega), ofn_p2, ofn_p1, ald_ofn (by omega) (by omega), ald_ofn (by omega) (by omega), a1, a2]
        simp only [Option.bind_eq_bind, Option.bind_some]
        rw [if_neg (by decide), if_neg (by decide), if_neg (by decide), if_neg (by decide), if_pos (by decide)]
        simp only [Option.bind_some]
        rw [if_pos (inB_ofn (by omega) (by omega)), ofn_clamp (by omega)]
        rfl
      · rename_i r _ _
        have a1 := hs r.length (by omega)
        have a2 := hs (r.length + 1) (by omega)
        unfold F_X4_step F_X4_join
        rw [if_pos (by decide), if_neg (by decide), if_pos (by rw [show (2 : Int32) = Int32.ofNat 2 from rfl, ofn_le (by omega) (by omega)]; omega), ofn_p2, ofn_p1, ald_ofn (by omega) (by omega), ald_ofn (by omega) (by omega), a1, a2]
        simp only [Option.bind_eq_bind, Option.bind_some]
        rw [if_neg (by decide), if_neg (by decide), if_neg (by decide), if_neg (by decide), if_neg (by decide)]
        simp only [Option.bind_some]
        rw [if_pos (inB_ofn (by omega) (by omega)), ofn_clamp (by omega)]
        rfl
end
