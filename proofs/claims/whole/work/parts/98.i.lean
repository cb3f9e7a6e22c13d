def lwB (I : HI) (x1 κ : Int32) : Option (Int32 × HI) := if inB ((1203 : Int32) + ((4 : Int32) * x1)) 2051 = true then (ald 2051 ((up2 I 206 (((1203 : Int32) + ((4 : Int32) * x1))).toNatClampNeg κ) 206) ((1203 : Int32) + ((4 : Int32) * x1))) >>= fun v68 => if 0 ≤ v68 then (F_X12_number (up2 I 206 (((1203 : Int32) + ((4 : Int32) * x1))).toNatClampNeg κ) (0 : Int32) (60 : Int32)) >>= fun r71 => if inB (((1203 : Int32) + ((4 : Int32) * x1)) + (1 : Int32)) 2051 = true then (ald 2051 ((up2 r71.2 206 ((((1203 : Int32) + ((4 : Int32) * x1)) + (1 : Int32))).toNatClampNeg r71.1) 206) (((1203 : Int32) + ((4 : Int32) * x1)) + (1 : Int32))) >>= fun v74 => if 0 ≤ v74 then if inB (((1203 : Int32) + ((4 : Int32) * x1)) + (2 : Int32)) 2051 = true then (F_X12_passes (up2 (up2 (up2 r71.2 206 ((((1203 : Int32) + ((4 : Int32) * x1)) + (1 : Int32))).toNatClampNeg r71.1) 206 ((((1203 : Int32) + ((4 : Int32) * x1)) + (2 : Int32))).toNatClampNeg ((up2 r71.2 206 ((((1203 : Int32) + ((4 : Int32) * x1)) + (1 : Int32))).toNatClampNeg r71.1) 205 16)) 205 13 (0 : Int32)) 74) >>= fun r78 => if r78.1 = 0 then if inB (((1203 : Int32) + ((4 : Int32) * x1)) + (3 : Int32)) 2051 = true then some ((1 : Int32), (up2 r78.2 206 ((((1203 : Int32) + ((4 : Int32) * x1)) + (3 : Int32))).toNatClampNeg (r78.2 205 16))) else none else (F_X12_readCond (F_X12_readAtom 32) r78.2) >>= fun r82 => if r82.1 = 0 then some ((0 : Int32), r82.2) else if inB (((1203 : Int32) + ((4 : Int32) * x1)) + (3 : Int32)) 2051 = true then some ((1 : Int32), (up2 r82.2 206 ((((1203 : Int32) + ((4 : Int32) * x1)) + (3 : Int32))).toNatClampNeg (r82.2 205 16))) else none else none else some ((0 : Int32), (up2 r71.2 206 ((((1203 : Int32) + ((4 : Int32) * x1)) + (1 : Int32))).toNatClampNeg r71.1)) else none else some ((0 : Int32), (up2 I 206 (((1203 : Int32) + ((4 : Int32) * x1))).toNatClampNeg κ)) else none
theorem lw_eq (I : HI) (x1 : Int32) : F_X12_readLawLine I x1 = (F_X12_isWord I 71) >>= fun r1 => if r1 = 0 then (F_X12_isWord I 72) >>= fun r4 => if r4 = 0 then (F_X12_isWord I 73) >>= fun r7 => if r7 = 0 then lwB I x1 (-1 : Int32) else lwB I x1 (2 : Int32) else lwB I x1 (1 : Int32) else lwB I x1 (0 : Int32) := rfl
section
variable {C C' X X' : HI} {vs : Nat → Nat} {T b b' l x n k i m h : Nat} {S D cs : List Nat} {q a e : Nat → Nat}
theorem tyR_congr {k k' : Nat → Nat} : ∀ r i ts, (∀ j, i ≤ j → j < i + r → k j = k' j) → tyR k i r ts = tyR k' i r ts := by
  intro r
  induction r with
  | zero => intro i ts _; rfl
  | succ r ih =>
    intro i ts h
    show (if ts.length ≤ 60 then (tyS (k i) ts).bind (fun t => tyR k (i + 1) r t) else none) = (if ts.length ≤ 60 then (tyS (k' i) ts).bind (fun t => tyR k' (i + 1) r t) else none)
    rw [h i (by omega) (by omega)]
    have e : (fun t => tyR k (i + 1) r t) = fun t => tyR k' (i + 1) r t := by funext t; exact ih (i + 1) t (fun j q1 q2 => h j (by omega) (by omega))
    rw [e]
theorem tyR_new : ∀ (cs D : List Nat) (ts : List Bool), tyR (fun i => (D ++ cs).getD i 0) D.length cs.length ts = tyC cs ts := by
  intro cs
  induction cs with
  | nil => intro D ts; rfl
  | cons c cs ih =>
    intro D ts
    show (if ts.length ≤ 60 then (tyS ((D ++ c :: cs).getD D.length 0) ts).bind (fun t => tyR (fun i => (D ++ c :: cs).getD i 0) (D.length + 1) cs.length t) else none) = (if ts.length ≤ 60 then (tyS c ts).bind (fun t => tyC cs t) else none)
    have e1 : (D ++ c :: cs).getD D.length 0 = c := by
      rw [List.getD_eq_getElem?_getD, List.getElem?_append_right (Nat.le_refl _), Nat.sub_self]; rfl
    have e2 : (fun t => tyR (fun i => (D ++ c :: cs).getD i 0) (D.length + 1) cs.length t) = fun t => tyC cs t := by
      funext t
      have := ih (D ++ [c]) t
      rw [List.append_assoc, List.length_append, List.length_singleton] at this
      exact this
    rw [e1, e2]
def WSt (C X : HI) (T : Nat) (vs : Nat → Nat) (b n : Nat) (q a e : Nat → Nat) (D : List Nat) : Prop := TC C 146 T vs ∧ TK C 146 T vs b ∧ TM X T vs ∧ (C 148 5 = Int32.ofNat D.length ∧ ∀ i, i < D.length → C 152 i = Int32.ofNat (D.getD i 0)) ∧ (X 205 16 = Int32.ofNat D.length ∧ ∀ i, i < D.length → X 206 (1251 + 2 * i) = Int32.ofNat (stp (D.getD i 0)) ∧ X 206 (1252 + 2 * i) = Int32.ofNat (nmb (D.getD i 0))) ∧ C 148 0 = Int32.ofNat n ∧ D.length = bg e n ∧ D.length ≤ b ∧ ∀ j, j < n → (C 149 j = Int32.ofNat (q j) ∧ C 150 j = Int32.ofNat (a j) ∧ C 151 j = Int32.ofNat (e j)) ∧ (X 206 (1203 + 4 * j) = Int32.ofNat (q j) ∧ X 206 (1204 + 4 * j) = Int32.ofNat (a j) ∧ X 206 (1205 + 4 * j) = Int32.ofNat (bg e j) ∧ X 206 (1206 + 4 * j) = Int32.ofNat (e j)) ∧ (q j ≤ 2 ∧ a j ≤ 60 ∧ bg e j ≤ e j ∧ e j ≤ D.length ∧ ∃ tsf, tyR (fun i => D.getD i 0) (bg e j) (e j - bg e j) [] = some tsf ∧ (tsf = [] ∨ tsf = [true]))
def frW (C C' : HI) : Prop := ∀ y, (y < 146 ∨ 154 < y) → C' y = C y
def frV (X X' : HI) : Prop := (∀ y, y ≠ 205 → y ≠ 206 → X' y = X y) ∧ (∀ k, k ≠ 13 → k ≠ 16 → X' 205 k = X 205 k) ∧ ∀ k, k < 1202 → X' 206 k = X 206 k
theorem frW.trans {A B G : HI} (h1 : frW A B) (h2 : frW B G) : frW A G := fun y q => by rw [h2 y q, h1 y q]
theorem frV.trans {A B G : HI} (h1 : frV A B) (h2 : frV B G) : frV A G := ⟨fun y q1 q2 => by rw [h2.1 y q1 q2, h1.1 y q1 q2], fun k q1 q2 => by rw [h2.2.1 k q1 q2, h1.2.1 k q1 q2], fun k q => by rw [h2.2.2 k q, h1.2.2 k q]⟩
theorem frW.refl (A : HI) : frW A A := fun _ _ => rfl
theorem frV.refl (A : HI) : frV A A := ⟨fun _ _ _ => rfl, fun _ _ _ => rfl, fun _ _ => rfl⟩
theorem frK.W (h : frK C C') : frW C C' := fun y q => h.1 y (by omega) (by omega) (by omega) (by omega)
theorem frY.V (h : frY X X') : frV X X' := ⟨h.1, h.2.1, fun k q => h.2.2 k (by omega)⟩
theorem frW_tk {b : Nat} : frW C (ctk C 146 T vs b) := fun y q => ctk_ne (by omega)
theorem frV_up {k : Nat} {v : Int32} (h : 1202 ≤ k) : frV X (up2 X 206 k v) := ⟨fun y _ q => up2_ne _ _ _ q, fun j _ _ => by rw [up2_ne _ _ _ (by decide)], fun j hj => by rw [up206g0, if_neg (by omega)]⟩
theorem frV_13 {v : Int32} : frV X (up2 X 205 13 v) := frY_13.V
theorem TM.frV (h : TM X T vs) (hf : frV X X') : TM X' T vs := ⟨by rw [hf.2.1 11 (by decide) (by decide)]; exact h.1, h.2.1, fun i hi => by rw [hf.1 211 (by decide) (by decide)]; exact h.2.2 i hi⟩
theorem WSt.next (hS : WSt C X T vs b n q a e D) {κ am : Nat} (hκ : κ ≤ 2) (ham : am ≤ 60) (h1 : TC C' 146 T vs) (h2 : TK C' 146 T vs b') (h3 : TM X' T vs) (h4 : C' 148 5 = Int32.ofNat (D ++ cs).length ∧ ∀ i, i < (D ++ cs).length → C' 152 i = Int32.ofNat ((D ++ cs).getD i 0)) (h5 : X' 205 16 = Int32.ofNat (D ++ cs).length ∧ ∀ i, i < (D ++ cs).length → X' 206 (1251 + 2 * i) = Int32.ofNat (stp ((D ++ cs).getD i 0)) ∧ X' 206 (1252 + 2 * i) = Int32.ofNat (nmb ((D ++ cs).getD i 0))) (h6 : C' 148 0 = Int32.ofNat (n + 1)) (h7 : (D ++ cs).length ≤ b') (h8 : ∀ j, C' 149 j = if j = n then Int32.ofNat κ else C 149 j) (h9 : ∀ j, C' 150 j = if j = n then Int32.ofNat am else C 150 j) (h10 : ∀ j, C' 151 j = if j = n then Int32.ofNat (D ++ cs).length else C 151 j) (h11 : X' 206 (1203 + 4 * n) = Int32.ofNat κ ∧ X' 206 (1204 + 4 * n) = Int32.ofNat am ∧ X' 206 (1205 + 4 * n) = Int32.ofNat D.length ∧ X' 206 (1206 + 4 * n) = Int32.ofNat (D ++ cs).length) (h12 : ∀ k, 1203 ≤ k → k < 1203 + 4 * n → X' 206 k = X 206 k) (h13 : ∃ tsf, tyC cs [] = some tsf ∧ (tsf = [] ∨ tsf = [true])) : WSt C' X' T vs b' (n + 1) (fun j => if j = n then κ else q j) (fun j => if j = n then am else a j) (fun j => if j = n then (D ++ cs).length else e j) (D ++ cs) := by
  obtain ⟨g1, g2, g3, g4, g5, g6, g7, g8, g9⟩ := hS
  have hbg : ∀ j, j ≤ n → bg (fun j => if j = n then (D ++ cs).length else e j) j = bg e j := by
    intro j hj
    unfold bg
    by_cases z : j = 0
    · rw [if_pos z, if_pos z]
    · rw [if_neg z, if_neg z]
      show (if j - 1 = n then (D ++ cs).length else e (j - 1)) = _
      rw [if_neg (by omega)]
  refine ⟨h1, h2, h3, h4, h5, h6, ?_, h7, fun j hj => ?_⟩
  · unfold bg
    rw [if_neg (by omega), Nat.add_sub_cancel]
    show _ = (if n = n then (D ++ cs).length else e n)
    rw [if_pos rfl]
  · rw [hbg j (by omega)]
    by_cases z : j = n
    · subst z
      rw [h8, h9, h10, if_pos rfl, if_pos rfl, if_pos rfl]
      dsimp only
      rw [if_pos rfl, if_pos rfl, if_pos rfl]
      refine ⟨⟨rfl, rfl, rfl⟩, ⟨h11.1, h11.2.1, by rw [← g7]; exact h11.2.2.1, h11.2.2.2⟩, hκ, ham, by rw [← g7, List.length_append]; omega, Nat.le_refl _, ?_⟩
      rw [← g7, List.length_append, Nat.add_sub_cancel_left, tyR_new]
      exact h13
    · obtain ⟨⟨y1, y2, y3⟩, ⟨y4, y5, y6, y7⟩, y8, y9, y10, y11, tsf, y12, y13⟩ := g9 j (by omega)
      rw [h8, h9, h10, if_neg z, if_neg z, if_neg z]
      dsimp only
      rw [if_neg z, if_neg z, if_neg z]
      refine ⟨⟨y1, y2, y3⟩, ⟨by rw [h12 _ (by omega) (by omega)]; exact y4, by rw [h12 _ (by omega) (by omega)]; exact y5, by rw [h12 _ (by omega) (by omega)]; exact y6, by rw [h12 _ (by omega) (by omega)]; exact y7⟩, y8, y9, y10, by rw [List.length_append]; omega, tsf, ?_, y13⟩
      rw [← y12]
      exact tyR_congr _ _ _ (fun i q1 q2 => by show (D ++ cs).getD i 0 = D.getD i 0; exact getD_app2 _ _ (by omega))
/-- the end of a line, the class -/
theorem cl_end (h0 : C 148 0 = Int32.ofNat n) (hn : n < 12) (x y : Int32) : ∃ C', F_X4_endLine C 148 x y = some C' ∧ C' 148 0 = Int32.ofNat (n + 1) ∧ C' 148 5 = C 148 5 ∧ (∀ j, C' 149 j = if j = n then x else C 149 j) ∧ (∀ j, C' 150 j = if j = n then y else C 150 j) ∧ (∀ j, C' 151 j = if j = n then C 148 5 else C 151 j) ∧ (∀ z, z ≠ 148 → z ≠ 149 → z ≠ 150 → z ≠ 151 → C' z = C z) := by
  unfold F_X4_endLine
  have e1 : (up2 C (148 + 1) n x) 148 0 = Int32.ofNat n := by rw [up2_ne _ _ _ (by decide)]; exact h0
  have e2 : (up2 (up2 C (148 + 1) n x) (148 + 2) n y) 148 0 = Int32.ofNat n := by rw [up2_ne _ _ _ (by decide)]; exact e1
  have e3 : (up2 (up2 C (148 + 1) n x) (148 + 2) n y) 148 5 = C 148 5 := by rw [up2_ne _ _ _ (by decide), up2_ne _ _ _ (by decide)]
  have e4 : ∀ v : Int32, (up2 (up2 (up2 C (148 + 1) n x) (148 + 2) n y) (148 + 3) n v) 148 0 = Int32.ofNat n := fun v => by rw [up2_ne _ _ _ (by decide)]; exact e2
  rw [h0, if_neg (show ¬ Int32.ofNat n < 0 by rw [show (0 : Int32) = Int32.ofNat 0 from rfl, ofn_lt (by omega) (by omega)]; omega), if_neg (show ¬ (12 : Int32) ≤ Int32.ofNat n by rw [show (12 : Int32) = Int32.ofNat 12 from rfl, ofn_le (by omega) (by omega)]; omega), if_pos (inB_ofn hn (by omega)), ofn_clamp (by omega), e1, if_pos (inB_ofn hn (by omega)), ofn_clamp (by omega), e2, if_pos (inB_ofn hn (by omega)), ofn_clamp (by omega), e3, e4, ofn_succ]
  refine ⟨_, rfl, by rw [up2_get, if_pos ⟨rfl, rfl⟩], by rw [up2_get, if_neg (by decide), up2_ne _ _ _ (by decide), up2_ne _ _ _ (by decide), up2_ne _ _ _ (by decide)], fun j => ?_, fun j => ?_, fun j => ?_, fun z q1 q2 q3 q4 => by rw [up2_ne _ _ _ q1, up2_ne _ _ _ q4, up2_ne _ _ _ q3, up2_ne _ _ _ q2]⟩
  · rw [up2_ne _ _ _ (by decide), up2_ne _ _ _ (by decide), up2_ne _ _ _ (by decide), up2_get]
    by_cases z : j = n
    · rw [if_pos ⟨rfl, z⟩, if_pos z]
    · rw [if_neg (fun w => z w.2), if_neg z]
  · rw [up2_ne _ _ _ (by decide), up2_ne _ _ _ (by decide), up2_get]
    by_cases z : j = n
    · rw [if_pos ⟨rfl, z⟩, if_pos z]
    · rw [if_neg (fun w => z w.2), if_neg z, up2_ne _ _ _ (by decide)]
  · rw [up2_ne _ _ _ (by decide), up2_get]
    by_cases z : j = n
    · rw [if_pos ⟨rfl, z⟩, if_pos z]
    · rw [if_neg (fun w => z w.2), if_neg z, up2_ne _ _ _ (by decide), up2_ne _ _ _ (by decide)]
end
