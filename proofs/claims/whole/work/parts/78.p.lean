/-! trials -/
section
variable {C C' M M' : HI} {n N : Nat} {x1 x2 : Int32} {W : Nat → Int32}
theorem ap130 : apA 130 := Or.inr (Or.inl ⟨by omega, by omega⟩)
def Kp (M : HI) : HI := cpR M 209 0 206 0 353
def Bk (M : HI) : HI := cpR M 206 0 209 0 353
def kept (M : HI) : Prop := ∀ k, k < 353 → M 209 k = M 206 k
theorem Kp_kept (M : HI) : kept (Kp M) := fun k hk => by
  unfold Kp
  rw [cpR_in _ (by omega), cpR_ne _ (by decide), Nat.zero_add, Nat.sub_zero]
theorem Kp_ne (M : HI) {b : Nat} (h : b ≠ 209) : Kp M b = M b := cpR_ne _ h
theorem GR.K (h : GR C M n) : GR C (Kp M) n := h.congr (fun _ _ _ => rfl) (fun b _ _ _ h2 => Kp_ne M h2) (fun k _ => by rw [Kp_ne M (by decide)])
theorem fmo_K (M : HI) : fmo M (Kp M) := fun b hb => Kp_ne M (by omega)
/-- back to where it was -/
theorem Bk_206 (hk : kept M) (hf : frM M M') : Bk M' 206 = M 206 := by
  funext k
  unfold Bk
  by_cases h : k < 353
  · rw [cpR_in _ (by omega), hf.1 209 (by omega) (by omega), Nat.zero_add, Nat.sub_zero]; exact hk k h
  · rw [cpR_out _ (by omega)]; exact hf.2.2 k (by omega)
theorem Bk_ne (M : HI) {b : Nat} (h : b ≠ 206) : Bk M b = M b := cpR_ne _ h
theorem GR.B (h : GR C M n) (hk : kept M) (hf : frM M M') (hc : frC false 130 C C') : GR C' (Bk M') n ∧ kept (Bk M') ∧ fcl C C' ∧ fmo M (Bk M') := by
  have e := Bk_206 hk hf
  refine ⟨h.congr (fun b h1 h2 => hc b (fun j hj => by omega) h2 (by omega) (by omega) (fun q => by cases q)) (fun b h1 h2 h3 h4 => ?_) (fun k _ => by rw [Bk_ne _ (by decide), hf.1 205 (by omega) (by omega)]), fun k hq => ?_, fun b hb => hc b (fun j hj => by omega) (by omega) (by omega) (by omega) (fun q => by cases q), fun b hb => by rw [Bk_ne _ (by omega), hf.1 b (by omega) (by omega)]⟩
  · by_cases q : b = 206
    · subst q; exact e
    · rw [Bk_ne _ q, hf.1 b q (by omega)]
  · rw [e, Bk_ne _ (by decide), hf.1 209 (by omega) (by omega)]; exact hk k hq
/-- the tried lady begins as the lady -/
theorem try_start (h : GR C M n) : ∃ C1, F_X3_copy C 130 3 = some C1 ∧ Run false C1 130 M n ∧ frC false 130 C C1 := by
  obtain ⟨C1, c1, c2, c3⟩ := cl_copyL (C := C) (a := 130) (b := 3) (fun i j hi hj => by omega)
  have hf : frC false 130 C C1 := fun b q _ _ _ _ => c3 b q
  exact ⟨C1, c1, ⟨c2 _ h.1.1, h.1.2.1, h.1.2.2.2.congr (hf.law ap130) rfl (fun _ _ _ => rfl), fun q => by cases q⟩, hf⟩
theorem up2_same (M : HI) (b k : Nat) : up2 M b k (M b k) = M := by
  funext x j
  rw [up2_get]
  split
  · rename_i q; rw [q.1, q.2]
  · rfl
theorem Run.setSeed (h : Run false C 130 M n) (seed : Int32) : Run false (up2 C 130 14 seed) 130 (up2 M 206 16 seed) n ∧ frC false 130 C (up2 C 130 14 seed) ∧ frM M (up2 M 206 16 seed) := by
  have e : (up2 M 206 16 seed) 206 = updR (M 206) 16 seed := upd_row _ _ _ _
  exact h.step ap130 (by rw [e]; exact h.1.set (Or.inr (Or.inr ⟨rfl, rfl⟩))) (by rw [e]; exact h.2.1.set (Or.inr (Or.inr rfl))) (fun b hb => up2_ne _ _ _ hb) (fun b hb => up2_ne _ _ _ hb) (fun k hk => by rw [e, updR_ne (by omega)])
theorem run_try (hN : N ≤ 60) : ∀ (k i : Nat) (acc : Int32) (C M : HI), i + k = N → Run false C 130 M n → ∃ r C' M', L_X11_tryEvenings_21 (Int32.ofNat N) (Int32.ofNat i) C = some C' ∧ L_X12_goesOn_4 (Int32.ofNat N) acc (Int32.ofNat i) M = some (r, M') ∧ Run false C' 130 M' n ∧ frC false 130 C C' ∧ frM M M' := by
  intro k
  induction k with
  | zero =>
    intro i acc C M hi R
    refine ⟨acc, C, M, ?_, ?_, R, frC.refl _, frM.refl _⟩
    · rw [L_X11_tryEvenings_21, show i = N by omega, if_pos (Int32.le_refl _)]
    · rw [L_X12_goesOn_4, show i = N by omega, if_pos (Int32.le_refl _)]
  | succ k ih =>
    intro i acc C M hi R
    obtain ⟨r, C1, M1, e1, e2, R1, f1, f2⟩ := run_eve ap130 R
    obtain ⟨r2, C2, M2, g1, g2, R2, f3, f4⟩ := ih (i + 1) (acc + r) C1 M1 (by omega) R1
    have e1' : F_X11_passEvening C 130 0 = some (r, C1) := e1
    refine ⟨r2, C2, M2, ?_, ?_, R2, f1.trans f3, f2.trans f4⟩
    · rw [L_X11_tryEvenings_21, if_neg (by rw [ofn_le (by omega) (by omega)]; omega), e1', Option.bind_eq_bind, Option.bind_some, ofn_succ]; exact g1
    · rw [L_X12_goesOn_4, if_neg (by rw [ofn_le (by omega) (by omega)]; omega), e2, Option.bind_eq_bind, Option.bind_some, ofn_succ]; exact g2
theorem try_sim (h : GR C M n) (hN : N ≤ 60) (seed : Int32) : ∃ r C' M', F_X11_tryEvenings C (Int32.ofNat N) seed = some C' ∧ F_X12_goesOn (up2 M 206 16 seed) (Int32.ofNat N) = some (r, M') ∧ Run false C' 130 M' n ∧ frC false 130 C C' ∧ frM M M' := by
  obtain ⟨C1, c1, R1, f1⟩ := try_start h
  obtain ⟨R2, f2, f3⟩ := R1.setSeed seed
  obtain ⟨r, C', M', e1, e2, e3, e4, e5⟩ := run_try hN N 0 0 _ _ (by omega) R2
  refine ⟨r, C', M', ?_, e2, e3, (f1.trans f2).trans e4, f3.trans e5⟩
  unfold F_X11_tryEvenings
  rw [c1, Option.bind_eq_bind, Option.bind_some]
  exact e1
theorem n60 (h1 : ¬ x1 < 0) (h2 : ¬ (60 : Int32) < x1) : ∃ N, N ≤ 60 ∧ x1 = Int32.ofNat N := by
  rcases nat_or x1 61 (by omega) with ⟨N, hN, rfl⟩ | hx
  · exact ⟨N, by omega, rfl⟩
  · rw [ti_lt, ti_0] at h1
    rw [ti_lt, ti_60] at h2
    rw [ti_lt, ti_0, ti_le, ti_ofn (by omega)] at hx
    omega
theorem s_trial (h : GR C M n) : ∃ r C' b M', F_X11_trial C x1 x2 = some (r, C') ∧ F_X12_trial M x1 x2 = some (b, M') ∧ Qs ["java/lang/IllegalArgumentException"] r b M' ∧ (∃ n', GR C' M' n') ∧ fcl C C' ∧ fmo M M' := by
  unfold F_X11_trial F_X12_trial
  simp only [Option.bind_eq_bind]
  rcases in_or x1 0 60 with q | q
  · obtain ⟨N, hN, rfl⟩ := n60 q.1 q.2
    rw [if_neg q.1, if_pos (ile_of_not_lt q.2), m_in1 q, Option.bind_some, if_neg (by decide), m_thr0, Option.bind_some, if_pos rfl, m_keeps, Option.bind_some]
    have hK : GR C (Kp (M0 M)) n := (h.thr 0).K
    obtain ⟨r, C', M', e1, e2, R, f1, f2⟩ := try_sim hK hN (C 3 14)
    have hs : C 3 14 = Kp (M0 M) 206 16 := hK.1.1.1.2.2.2.2.2.2.2.2.2.2.2.2.2
    rw [hs, up2_same] at e2
    obtain ⟨g1, g2, g3, g4⟩ := hK.B (Kp_kept _) f2 f1
    have hth : Bk M' 205 0 = 0 := by rw [Bk_ne _ (by decide), f2.1 205 (by omega) (by omega), Kp_ne _ (by decide)]; rfl
    have e2' : F_X12_goesOn (cpR (M0 M) 209 0 206 0 353) (Int32.ofNat N) = some (r, M') := e2
    rw [e1, Option.bind_some, e2', Option.bind_some]
    by_cases q2 : x2 = 0
    · rw [if_pos q2, if_pos q2, m_brings, Option.bind_some]
      exact ⟨_, _, _, _, rfl, rfl, ⟨0, by rw [thrn]; exact congrArg some hth, rfl, R.1.1.2.2.2.1⟩, ⟨n, g1⟩, g3, ((fmo_thr M 0).trans (fmo_K _)).trans g4⟩
    · rw [if_neg q2, if_neg q2, m_brings, Option.bind_some]
      exact ⟨_, _, _, _, rfl, rfl, ⟨0, by rw [thrn]; exact congrArg some hth, rfl, R.1.1.2.2.2.2.2.2.2.2.2.2.2.2.1⟩, ⟨n, g1⟩, g3, ((fmo_thr M 0).trans (fmo_K _)).trans g4⟩
  · have e9 : ∀ z : Option ((Int32 ⊕ String) × HI), (if x1 < 0 then some ((Sum.inr "java/lang/IllegalArgumentException" : Int32 ⊕ String), C) else if x1 ≤ (60 : Int32) then z else some (Sum.inr "java/lang/IllegalArgumentException", C)) = some (Sum.inr "java/lang/IllegalArgumentException", C) := by
      intro z
      by_cases w : x1 < 0
      · rw [if_pos w]
      · rw [if_neg w, if_neg (by have := q.resolve_left w; rw [ti_lt] at this; rw [ti_le]; omega)]
    rw [e9, m_in0 q, Option.bind_some, if_pos rfl, m_thr1, Option.bind_some, if_neg (show ¬ (1 : Int32) = 0 by decide), M0_up]
    exact ⟨_, _, _, _, rfl, rfl, ⟨1, rfl, 0, rfl, rfl⟩, ⟨n, h.thr 1⟩, fcl.refl _, fmo_thr _ _⟩
theorem s_span (h : GR C M n) : ∃ r C' b M', F_X11_span C x1 x2 = some (r, C') ∧ F_X12_span M x1 x2 = some (b, M') ∧ Qs ["java/lang/IllegalArgumentException"] r b M' ∧ (∃ n', GR C' M' n') ∧ fcl C C' ∧ fmo M M' := by
  unfold F_X11_span F_X12_span
  simp only [Option.bind_eq_bind]
  rcases in_or x1 0 60 with q | q
  · obtain ⟨N, hN, rfl⟩ := n60 q.1 q.2
    rw [if_neg q.1, if_pos (ile_of_not_lt q.2), m_in1 q, Option.bind_some, if_neg (by decide), m_thr0, Option.bind_some, if_pos rfl, m_keeps, Option.bind_some]
    have hK : GR C (Kp (M0 M)) n := (h.thr 0).K
    have key : ∀ (k i : Nat) (lo hi best : Int32) (C M : HI), i + k = 7 → GR C M n → kept M → M 205 0 = 0 → ((best = -1 ∧ lo = 9999 ∧ hi = 0 ∧ k ≠ 0) ∨ (rg best 0 9999 ∧ rg lo 0 9999 ∧ rg hi 0 9999 ∧ best = if x2 = 0 then lo else hi)) → ∃ r C' M', L_X11_span_31 (Int32.ofNat N) x2 lo hi (Int32.ofNat i) C = some (Sum.inl r, C') ∧ L_X12_span_39 (Int32.ofNat N) x2 best (Int32.ofNat i) M = some (r, M') ∧ GR C' M' n ∧ M' 205 0 = 0 ∧ fcl C C' ∧ fmo M M' := by
      intro k
      induction k with
      | zero =>
        intro i lo hi best C M hi7 h hk h0 hb
        rcases hb with ⟨-, -, -, w⟩ | ⟨b1, b2, b3, b4⟩
        · exact absurd rfl w
        · refine ⟨best, C, M, ?_, ?_, h, h0, fcl.refl _, fmo.refl _⟩
          · rw [L_X11_span_31, show i = 7 by omega, if_pos (by decide)]
            by_cases w : x2 = 0
            · rw [if_pos w, b4, if_pos w]
            · rw [if_neg w, b4, if_neg w]
          · rw [L_X12_span_39, show i = 7 by omega, if_pos (by decide)]
      | succ k ih =>
        intro i lo hi best C M hi7 h hk h0 hb
        obtain ⟨r, C1, M1, e1, e2, R, f1, f2⟩ := try_sim h hN (Int32.ofNat i)
        obtain ⟨g1, g2, g3, g4⟩ := h.B hk f2 f1
        have hp : C1 130 13 = M1 206 14 := R.1.1.2.2.2.2.2.2.2.2.2.2.2.2.1
        have hr : rg (M1 206 14) 0 9999 := R.2.1.2.2.2.2.2.2.2.2.2.2.2.2.1
        have hb0 : Bk M1 205 0 = 0 := by rw [Bk_ne _ (by decide), f2.1 205 (by omega) (by omega)]; exact h0
        have ec : L_X11_span_31 (Int32.ofNat N) x2 lo hi (Int32.ofNat i) C = L_X11_span_31 (Int32.ofNat N) x2 (if M1 206 14 < lo then M1 206 14 else lo) (if hi < M1 206 14 then M1 206 14 else hi) (Int32.ofNat (i + 1)) C1 := by
          rw [L_X11_span_31, if_neg (by rw [show (6 : Int32) = Int32.ofNat 6 from rfl, ofn_lt (by omega) (by omega)]; omega), e1, Option.bind_eq_bind, Option.bind_some, hp, ofn_succ]
        have em : L_X12_span_39 (Int32.ofNat N) x2 best (Int32.ofNat i) M = (if 0 ≤ best then if x2 = 0 then L_X12_span_39 (Int32.ofNat N) x2 (if M1 206 14 < best then M1 206 14 else best) (Int32.ofNat (i + 1)) (Bk M1) else L_X12_span_39 (Int32.ofNat N) x2 (if best < M1 206 14 then M1 206 14 else best) (Int32.ofNat (i + 1)) (Bk M1) else L_X12_span_39 (Int32.ofNat N) x2 (M1 206 14) (Int32.ofNat (i + 1)) (Bk M1)) := by
          rw [L_X12_span_39, if_neg (by rw [show (6 : Int32) = Int32.ofNat 6 from rfl, ofn_lt (by omega) (by omega)]; omega), e2, Option.bind_eq_bind, Option.bind_some, m_brings, Option.bind_eq_bind, Option.bind_some, ofn_succ]
          rfl
        generalize M1 206 14 = v at *
        have fin : ∀ b', ((rg b' 0 9999 ∧ rg (if v < lo then v else lo) 0 9999 ∧ rg (if hi < v then v else hi) 0 9999 ∧ b' = if x2 = 0 then (if v < lo then v else lo) else (if hi < v then v else hi))) → ∃ r C' M', L_X11_span_31 (Int32.ofNat N) x2 (if v < lo then v else lo) (if hi < v then v else hi) (Int32.ofNat (i + 1)) C1 = some (Sum.inl r, C') ∧ L_X12_span_39 (Int32.ofNat N) x2 b' (Int32.ofNat (i + 1)) (Bk M1) = some (r, M') ∧ GR C' M' n ∧ M' 205 0 = 0 ∧ fcl C C' ∧ fmo M M' := by
          intro b' hb'
          obtain ⟨r, C', M', z1, z2, z3, z4, z5, z6⟩ := ih (i + 1) _ _ b' C1 (Bk M1) (by omega) g1 g2 hb0 (Or.inr hb')
          exact ⟨r, C', M', z1, z2, z3, z4, g3.trans z5, g4.trans z6⟩
        have rmin : ∀ a b : Int32, rg a 0 9999 → rg b 0 9999 → rg (if a < b then a else b) 0 9999 := fun a b ha hb => by split <;> assumption
        have rmax : ∀ a b : Int32, rg a 0 9999 → rg b 0 9999 → rg (if b < a then a else b) 0 9999 := fun a b ha hb => by split <;> assumption
        rw [ec, em]
        rcases hb with ⟨rfl, rfl, rfl, -⟩ | ⟨b1, b2, b3, b4⟩
        · rw [if_neg (show ¬ (0 : Int32) ≤ -1 by decide)]
          have z1 : (if v < 9999 then v else 9999) = v := by
            split
            · rfl
            · rename_i w; rw [ti_lt, ti_9999] at w; rw [ti_eq, ti_9999]; have := hr.2; omega
          have z2 : (if 0 < v then v else 0) = v := by
            split
            · rfl
            · rename_i w; rw [ti_lt, ti_0] at w; rw [ti_eq, ti_0]; have := hr.1; omega
          refine fin v ⟨hr, by rw [z1]; exact hr, by rw [z2]; exact hr, ?_⟩
          rw [z1, z2]; split <;> rfl
        · rw [if_pos (show (0 : Int32) ≤ best by rw [ti_le, ti_0]; exact b1.1)]
          by_cases w : x2 = 0
          · rw [if_pos w]
            rw [if_pos w] at b4
            subst b4
            exact fin _ ⟨rmin _ _ hr b1, rmin _ _ hr b2, rmax _ _ hr b3, by rw [if_pos w]⟩
          · rw [if_neg w]
            rw [if_neg w] at b4
            subst b4
            exact fin _ ⟨rmax _ _ hr b1, rmin _ _ hr b2, rmax _ _ hr b3, by rw [if_neg w]⟩
    obtain ⟨r, C', M', z1, z2, z3, z4, z5, z6⟩ := key 6 1 9999 0 (-1) C (Kp (M0 M)) (by omega) hK (Kp_kept _) (by rw [Kp_ne _ (by decide)]; rfl) (Or.inl ⟨rfl, rfl, rfl, by omega⟩)
    refine ⟨Sum.inl r, C', r, M', z1, z2, ⟨0, by rw [thrn, z4], rfl, rfl⟩, ⟨n, z3⟩, z5, ((fmo_thr M 0).trans (fmo_K _)).trans z6⟩
  · have e9 : ∀ z : Option ((Int32 ⊕ String) × HI), (if x1 < 0 then some ((Sum.inr "java/lang/IllegalArgumentException" : Int32 ⊕ String), C) else if x1 ≤ (60 : Int32) then z else some (Sum.inr "java/lang/IllegalArgumentException", C)) = some (Sum.inr "java/lang/IllegalArgumentException", C) := by
      intro z
      by_cases w : x1 < 0
      · rw [if_pos w]
      · rw [if_neg w, if_neg (by have := q.resolve_left w; rw [ti_lt] at this; rw [ti_le]; omega)]
    rw [e9, m_in0 q, Option.bind_some, if_pos rfl, m_thr1, Option.bind_some, if_neg (show ¬ (1 : Int32) = 0 by decide), M0_up]
    exact ⟨_, _, _, _, rfl, rfl, ⟨1, rfl, 0, rfl, rfl⟩, ⟨n, h.thr 1⟩, fcl.refl _, fmo_thr _ _⟩
end
