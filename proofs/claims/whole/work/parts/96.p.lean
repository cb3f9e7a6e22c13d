/-! the words -/
def w_dish : List Nat := [100, 105, 115, 104]
theorem W39 : Ws 39 w_dish := by unfold Ws; decide
theorem W33 : Ws 33 w_dish := by unfold Ws; decide
theorem W54 : Ws 54 w_dish := by unfold Ws; decide
def w_war : List Nat := [119, 97, 114]
theorem W40 : Ws 40 w_war := by unfold Ws; decide
theorem W31 : Ws 31 w_war := by unfold Ws; decide
theorem W56 : Ws 56 w_war := by unfold Ws; decide
def w_today : List Nat := [116, 111, 100, 97, 121]
theorem W41 : Ws 41 w_today := by unfold Ws; decide
theorem W55 : Ws 55 w_today := by unfold Ws; decide
def w_reach : List Nat := [114, 101, 97, 99, 104]
theorem W42 : Ws 42 w_reach := by unfold Ws; decide
theorem W57 : Ws 57 w_reach := by unfold Ws; decide
def w_slip : List Nat := [115, 108, 105, 112]
theorem W43 : Ws 43 w_slip := by unfold Ws; decide
theorem W58 : Ws 58 w_slip := by unfold Ws; decide
def w_house : List Nat := [104, 111, 117, 115, 101]
theorem W44 : Ws 44 w_house := by unfold Ws; decide
theorem W59 : Ws 59 w_house := by unfold Ws; decide
def w_wage : List Nat := [119, 97, 103, 101]
theorem W45 : Ws 45 w_wage := by unfold Ws; decide
theorem W60 : Ws 60 w_wage := by unfold Ws; decide
def w_to : List Nat := [116, 111]
theorem W46 : Ws 46 w_to := by unfold Ws; decide
theorem W53 : Ws 53 w_to := by unfold Ws; decide
def w_first : List Nat := [102, 105, 114, 115, 116]
theorem W47 : Ws 47 w_first := by unfold Ws; decide
theorem W50 : Ws 50 w_first := by unfold Ws; decide
def w_at : List Nat := [97, 116]
theorem W48 : Ws 48 w_at := by unfold Ws; decide
theorem W51 : Ws 51 w_at := by unfold Ws; decide
def w_with : List Nat := [119, 105, 116, 104]
theorem W49 : Ws 49 w_with := by unfold Ws; decide
theorem W52 : Ws 52 w_with := by unfold Ws; decide
def w_if : List Nat := [105, 102]
theorem W23 : Ws 23 w_if := by unfold Ws; decide
theorem W74 : Ws 74 w_if := by unfold Ws; decide
def w_grief : List Nat := [103, 114, 105, 101, 102]
theorem W24 : Ws 24 w_grief := by unfold Ws; decide
theorem W71 : Ws 71 w_grief := by unfold Ws; decide
def w_joy : List Nat := [106, 111, 121]
theorem W25 : Ws 25 w_joy := by unfold Ws; decide
theorem W72 : Ws 72 w_joy := by unfold Ws; decide
def w_pay : List Nat := [112, 97, 121]
theorem W26 : Ws 26 w_pay := by unfold Ws; decide
theorem W73 : Ws 73 w_pay := by unfold Ws; decide
def w_not : List Nat := [110, 111, 116]
theorem W27 : Ws 27 w_not := by unfold Ws; decide
theorem W68 : Ws 68 w_not := by unfold Ws; decide
def w_and : List Nat := [97, 110, 100]
theorem W28 : Ws 28 w_and := by unfold Ws; decide
theorem W69 : Ws 69 w_and := by unfold Ws; decide
def w_or : List Nat := [111, 114]
theorem W29 : Ws 29 w_or := by unfold Ws; decide
theorem W70 : Ws 70 w_or := by unfold Ws; decide
def w_new : List Nat := [110, 101, 119]
theorem W30 : Ws 30 w_new := by unfold Ws; decide
theorem W66 : Ws 66 w_new := by unfold Ws; decide
def w_alone : List Nat := [97, 108, 111, 110, 101]
theorem W32 : Ws 32 w_alone := by unfold Ws; decide
theorem W67 : Ws 67 w_alone := by unfold Ws; decide
def w_day : List Nat := [100, 97, 121]
theorem W34 : Ws 34 w_day := by unfold Ws; decide
theorem W61 : Ws 61 w_day := by unfold Ws; decide
def w_place : List Nat := [112, 108, 97, 99, 101]
theorem W35 : Ws 35 w_place := by unfold Ws; decide
theorem W62 : Ws 62 w_place := by unfold Ws; decide
def w_company : List Nat := [99, 111, 109, 112, 97, 110, 121]
theorem W36 : Ws 36 w_company := by unfold Ws; decide
theorem W63 : Ws 63 w_company := by unfold Ws; decide
def w_sorrow : List Nat := [115, 111, 114, 114, 111, 119]
theorem W37 : Ws 37 w_sorrow := by unfold Ws; decide
theorem W64 : Ws 64 w_sorrow := by unfold Ws; decide
def w_spoons : List Nat := [115, 112, 111, 111, 110, 115]
theorem W38 : Ws 38 w_spoons := by unfold Ws; decide
theorem W65 : Ws 65 w_spoons := by unfold Ws; decide
section
variable {C C' M M' X X' : HI} {a T n d b : Nat} {vs : Nat → Nat} {W W' : Nat → Int32}
theorem wd_inj {w w' : List Nat} (h : wd vs T b w = true) (h' : wd vs T b w' = true) : w = w' := by
  unfold wd at h h'
  simp only [decide_eq_true_eq] at h h'
  obtain ⟨-, h1, h2⟩ := h
  obtain ⟨-, h3, h4⟩ := h'
  have hl : w.length = w'.length := by omega
  refine List.ext_getElem hl (fun i q1 q2 => ?_)
  have e1 := h2 i q1
  have e2 := h4 i q2
  rw [List.getD_eq_getElem?_getD, List.getElem?_eq_getElem q1] at e1
  rw [List.getD_eq_getElem?_getD, List.getElem?_eq_getElem q2] at e2
  simp only [Option.getD_some] at e1 e2
  omega
theorem wd_no {w w' : List Nat} (h : wd vs T b w = true) (hne : w ≠ w') : bi (wd vs T b w') = 0 := bi_f (fun h' => hne (wd_inj h h'))
/-! one of the lady's numbers -/
theorem LR.set2 (hL : LR C a W) {x : Int32} {ci wi : Nat} (hp : (ci = 1 ∧ wi = 1) ∨ (ci = 2 ∧ wi = 3) ∨ (ci = 3 ∧ wi = 4) ∨ (ci = 7 ∧ wi = 8) ∨ (ci = 8 ∧ wi = 9) ∨ (ci = 9 ∧ wi = 10) ∨ (ci = 10 ∧ wi = 11) ∨ (ci = 11 ∧ wi = 12) ∨ (ci = 12 ∧ wi = 13)) : LR (up2 C a ci x) a (updR W wi x) := by
  obtain ⟨⟨l1, l2, l3, l4, l5, l6, l7, l8, l9, l10, l11, l12, l13, l14⟩, hD⟩ := hL
  have hD2 : DR (up2 C a ci x) (a + 1) (updR W wi x) := by
    have := hD.congr (C' := up2 C a ci x) (fun j hj => up2_ne _ _ _ (by omega))
    refine ⟨by rw [updR_ne (by omega)]; exact this.1, fun d hd => ⟨fun k hk => ?_, ?_, ?_, ?_⟩⟩
    · rw [updR_ne (by omega)]; exact (this.2 d hd).1 k hk
    · rw [updR_ne (by omega)]; exact (this.2 d hd).2.1
    · rw [updR_ne (by omega)]; exact (this.2 d hd).2.2.1
    · rw [updR_ne (by omega)]; exact (this.2 d hd).2.2.2
  rcases hp with ⟨rfl, rfl⟩ | ⟨rfl, rfl⟩ | ⟨rfl, rfl⟩ | ⟨rfl, rfl⟩ | ⟨rfl, rfl⟩ | ⟨rfl, rfl⟩ | ⟨rfl, rfl⟩ | ⟨rfl, rfl⟩ | ⟨rfl, rfl⟩ <;> exact ⟨⟨by simp [up2_get, updR, l1], by simp [up2_get, updR, l2], by simp [up2_get, updR, l3], by simp [up2_get, updR, l4], by simp [up2_get, updR, l5], by simp [up2_get, updR, l6], by simp [up2_get, updR, l7], by simp [up2_get, updR, l8], by simp [up2_get, updR, l9], by simp [up2_get, updR, l10], by simp [up2_get, updR, l11], by simp [up2_get, updR, l12], by simp [up2_get, updR, l13], by simp [up2_get, updR, l14]⟩, hD2⟩
def okI (wi : Nat) (x : Int32) : Prop := (wi = 1 ∧ rg x 0 12) ∨ (wi = 3 ∧ rg x 0 9999) ∨ (wi = 4 ∧ rg x 0 9999) ∨ (wi = 8 ∧ rg x 0 45) ∨ (wi = 9 ∧ rg x 0 999) ∨ (wi = 10 ∧ rg x 0 999) ∨ (wi = 11 ∧ rg x 0 100) ∨ (wi = 12 ∧ rg x 0 7) ∨ (wi = 13 ∧ rg x 0 50)
theorem WOk.set2 (h : WOk n W) {x : Int32} {wi : Nat} (hp : okI wi x) : WOk n (updR W wi x) := by
  obtain ⟨⟨d1, d2, d3⟩, w1, w3, w4, w5, w7, w8, w9, w10, w11, w12, w13, w14, w15⟩ := h
  unfold okI at hp
  have g : ∀ (k : Nat) (lo hi : Int), (k = wi → rg x lo hi) → rg (W k) lo hi → rg (updR W wi x k) lo hi := by
    intro k lo hi h1 h2
    by_cases q : k = wi
    · rw [q, updR_self]; exact h1 q
    · rw [updR_ne q]; exact h2
  refine ⟨⟨?_, d2, fun e he => ⟨fun k hk => ?_, ?_, ?_, ?_⟩⟩, ?_, ?_, ?_, ?_, ?_, ?_, ?_, ?_, ?_, ?_, ?_, ?_, ?_⟩
  · rw [updR_ne (by omega)]; exact d1
  · rw [updR_ne (by omega)]; exact (d3 e he).1 k hk
  · rw [updR_ne (by omega)]; exact (d3 e he).2.1
  · rw [updR_ne (by omega)]; exact (d3 e he).2.2.1
  · rw [updR_ne (by omega)]; exact (d3 e he).2.2.2
  · exact g _ _ _ (fun q => by unfold rg at hp ⊢; omega) w1
  · exact g _ _ _ (fun q => by unfold rg at hp ⊢; omega) w3
  · exact g _ _ _ (fun q => by unfold rg at hp ⊢; omega) w4
  · exact g _ _ _ (fun q => by unfold rg at hp ⊢; omega) w5
  · exact g _ _ _ (fun q => by unfold rg at hp ⊢; omega) w7
  · exact g _ _ _ (fun q => by unfold rg at hp ⊢; omega) w8
  · exact g _ _ _ (fun q => by unfold rg at hp ⊢; omega) w9
  · exact g _ _ _ (fun q => by unfold rg at hp ⊢; omega) w10
  · exact g _ _ _ (fun q => by unfold rg at hp ⊢; omega) w11
  · exact g _ _ _ (fun q => by unfold rg at hp ⊢; omega) w12
  · exact g _ _ _ (fun q => by unfold rg at hp ⊢; omega) w13
  · exact g _ _ _ (fun q => by unfold rg at hp ⊢; omega) w14
  · rw [updR_ne (by omega)]; exact w15
theorem rg_ofn {v : Nat} {hi : Int} (h : (v : Int) ≤ hi) (hv : v < 100000) : rg (Int32.ofNat v) 0 hi := ⟨by rw [ti_ofn (by omega)]; omega, by rw [ti_ofn (by omega)]; exact h⟩
/-! a dish told in a text -/
def adW (W : Nat → Int32) (d : Nat) (ts : Nat → Nat) (y p c : Int32) : Nat → Int32 := fun k => if k = 0 then Int32.ofNat (d + 1) else if 17 + 8 * d ≤ k ∧ k < 22 + 8 * d then Int32.ofNat (ts (k - (17 + 8 * d))) else if k = 22 + 8 * d then y else if k = 23 + 8 * d then p else if k = 24 + 8 * d then c else W k
theorem adW_ne {ts : Nat → Nat} {y p c : Int32} {k : Nat} (h : k ≠ 0) (h2 : k < 17 + 8 * d ∨ 25 + 8 * d ≤ k) : adW W d ts y p c k = W k := by
  unfold adW
  rw [if_neg h, if_neg (by omega), if_neg (by omega), if_neg (by omega), if_neg (by omega)]
theorem adW_t {ts : Nat → Nat} {y p c : Int32} {k : Nat} (h : k < 5) : adW W d ts y p c (17 + 8 * d + k) = Int32.ofNat (ts k) := by
  unfold adW
  rw [if_neg (by omega), if_pos (by omega), show 17 + 8 * d + k - (17 + 8 * d) = k by omega]
theorem adW_y {ts : Nat → Nat} {y p c : Int32} : adW W d ts y p c (22 + 8 * d) = y := by
  unfold adW
  rw [if_neg (by omega), if_neg (by omega), if_pos rfl]
theorem adW_p {ts : Nat → Nat} {y p c : Int32} : adW W d ts y p c (23 + 8 * d) = p := by
  unfold adW
  rw [if_neg (by omega), if_neg (by omega), if_neg (by omega), if_pos rfl]
theorem adW_c {ts : Nat → Nat} {y p c : Int32} : adW W d ts y p c (24 + 8 * d) = c := by
  unfold adW
  rw [if_neg (by omega), if_neg (by omega), if_neg (by omega), if_neg (by omega), if_pos rfl]
theorem ad_LR {ts : Nat → Nat} {y p c : Int32} (hL : LR C a W) (hd : d < 12) (h0 : C' a = C a) (h1 : C' (a + 1) 0 = Int32.ofNat (d + 1)) (h2 : ∀ i, C' (a + 2) i = if 5 * d ≤ i ∧ i < 5 * d + 5 then Int32.ofNat (ts (i - 5 * d)) else C (a + 2) i) (h3 : ∀ e, C' (a + 3) e = if e = d then y else C (a + 3) e) (h4 : ∀ e, C' (a + 4) e = if e = d then p else C (a + 4) e) (h5 : ∀ e, C' (a + 5) e = if e = d then c else C (a + 5) e) : LR C' a (adW W d ts y p c) := by
  obtain ⟨hs, hD⟩ := hL
  have lo : ∀ k, 0 < k → k < 17 → adW W d ts y p c k = W k := fun k q1 q2 => adW_ne (by omega) (by omega)
  refine ⟨?_, ?_, fun e he => ⟨fun k hk => ?_, ?_, ?_, ?_⟩⟩
  · rw [h0]
    simp only [lo 1 (by omega) (by omega), lo 3 (by omega) (by omega), lo 4 (by omega) (by omega), lo 5 (by omega) (by omega), lo 6 (by omega) (by omega), lo 7 (by omega) (by omega), lo 8 (by omega) (by omega), lo 9 (by omega) (by omega), lo 10 (by omega) (by omega), lo 11 (by omega) (by omega), lo 12 (by omega) (by omega), lo 13 (by omega) (by omega), lo 14 (by omega) (by omega), lo 16 (by omega) (by omega)]
    exact hs
  · rw [h1]; unfold adW; rw [if_pos rfl]
  · rw [show a + 1 + 1 = a + 2 by omega, h2]
    by_cases q : e = d
    · subst q; rw [if_pos (by omega), adW_t hk, show 5 * e + k - 5 * e = k by omega]
    · rw [if_neg (by omega), adW_ne (by omega) (by omega)]; exact (hD.2 e he).1 k hk
  · rw [show a + 1 + 2 = a + 3 by omega, h3]
    by_cases q : e = d
    · subst q; rw [if_pos rfl, adW_y]
    · rw [if_neg q, adW_ne (by omega) (by omega)]; exact (hD.2 e he).2.1
  · rw [show a + 1 + 3 = a + 4 by omega, h4]
    by_cases q : e = d
    · subst q; rw [if_pos rfl, adW_p]
    · rw [if_neg q, adW_ne (by omega) (by omega)]; exact (hD.2 e he).2.2.1
  · rw [show a + 1 + 4 = a + 5 by omega, h5]
    by_cases q : e = d
    · subst q; rw [if_pos rfl, adW_c]
    · rw [if_neg q, adW_ne (by omega) (by omega)]; exact (hD.2 e he).2.2.2
theorem ad_WOk {ts : Nat → Nat} {y p c : Int32} (h : WOk d W) (hd : d < 12) (ht : ∀ k, k < 5 → ts k ≤ 9) (hy : rg y (-1) 9999) (hp : rg p (-1) 7) (hc : rg c (-1) 7) : WOk (d + 1) (adW W d ts y p c) := by
  obtain ⟨⟨d1, d2, d3⟩, w1, w3, w4, w5, w7, w8, w9, w10, w11, w12, w13, w14, w15⟩ := h
  have lo : ∀ k, 0 < k → k < 17 → adW W d ts y p c k = W k := fun k q1 q2 => adW_ne (by omega) (by omega)
  refine ⟨⟨?_, by omega, fun e he => ⟨fun k hk => ?_, ?_, ?_, ?_⟩⟩, ?_, ?_, ?_, ?_, ?_, ?_, ?_, ?_, ?_, ?_, ?_, ?_, ?_⟩
  · unfold adW; rw [if_pos rfl]
  · by_cases q : e = d
    · subst q; rw [adW_t hk]; exact rg_ofn (by have := ht k hk; omega) (by have := ht k hk; omega)
    · rw [adW_ne (by omega) (by omega)]; exact (d3 e he).1 k hk
  · by_cases q : e = d
    · subst q; rw [adW_y]; exact hy
    · rw [adW_ne (by omega) (by omega)]; exact (d3 e he).2.1
  · by_cases q : e = d
    · subst q; rw [adW_p]; exact hp
    · rw [adW_ne (by omega) (by omega)]; exact (d3 e he).2.2.1
  · by_cases q : e = d
    · subst q; rw [adW_c]; exact hc
    · rw [adW_ne (by omega) (by omega)]; exact (d3 e he).2.2.2
  all_goals (rw [lo _ (by omega) (by omega)])
  · exact w1
  · exact w3
  · exact w4
  · exact w5
  · exact w7
  · exact w8
  · exact w9
  · exact w10
  · exact w11
  · exact w12
  · exact w13
  · exact w14
  · exact w15
/-! the lines of a life -/
def frL (C C' : HI) : Prop := ∀ x, x ≠ 138 → (x < 140 ∨ 145 < x) → C' x = C x
def frX (X X' : HI) : Prop := (∀ x, x ≠ 206 → X' x = X x) ∧ ∀ k, k = 1 ∨ k = 2 ∨ k = 15 ∨ 113 ≤ k → X' 206 k = X 206 k
theorem frL.trans {A B D : HI} (h1 : frL A B) (h2 : frL B D) : frL A D := fun x q1 q2 => by rw [h2 x q1 q2, h1 x q1 q2]
theorem frX.trans {A B D : HI} (h1 : frX A B) (h2 : frX B D) : frX A D := ⟨fun x q => by rw [h2.1 x q, h1.1 x q], fun k q => by rw [h2.2 k q, h1.2 k q]⟩
theorem frL.refl (A : HI) : frL A A := fun _ _ _ => rfl
theorem frX.refl (A : HI) : frX A A := ⟨fun _ _ => rfl, fun _ _ => rfl⟩
theorem frL_tk : frL C (ctk C 138 T vs b) := fun x q1 _ => ctk_ne q1
theorem frL_up {k : Nat} {v : Int32} (x : Nat) (h : 140 ≤ x ∧ x ≤ 145) : frL C (up2 C x k v) := fun y _ q2 => up2_ne _ _ _ (by omega)
theorem frX_up {k : Nat} {v : Int32} (h : 1 ≠ k ∧ 2 ≠ k ∧ 15 ≠ k ∧ k < 113) : frX X (up2 X 206 k v) := ⟨fun y q => up2_ne _ _ _ q, fun j hj => by rw [up2_get, if_neg (by omega)]⟩
def LSt (C X : HI) (T : Nat) (vs : Nat → Nat) (b n : Nat) : Prop := TC C 138 T vs ∧ TK C 138 T vs b ∧ TM X T vs ∧ LR C 140 (X 206) ∧ WOk n (X 206)
def lfO (F1 : Option (Int32 × HI)) (F2 : Option (Int32 × HI)) (C X : HI) (T : Nat) (vs : Nat → Nat) : Prop := (∃ C' X' p' c' b' n', F1 = some (1, C') ∧ F2 = some (1, mp X' p' c') ∧ p' ≤ T ∧ skb vs T p' = b' ∧ LSt C' X' T vs b' n' ∧ frL C C' ∧ frX X X') ∨ (∃ C' X' p' f, F1 = some (0, C') ∧ F2 = some (0, mp X' p' f) ∧ f ≤ T ∧ C' 138 3 = Int32.ofNat f ∧ frL C C' ∧ frX X X')
theorem mp_up206 (X : HI) (p b k : Nat) (v : Int32) : up2 (mp X p b) 206 k v = mp (up2 X 206 k v) p b := by
  unfold mp
  funext x j
  simp only [up2_get]
  by_cases h : x = 206 ∧ j = k
  · have h1 : ¬ (x = 205 ∧ j = 12) := by omega
    have h2 : ¬ (x = 205 ∧ j = 10) := by omega
    simp only [if_pos h, if_neg h1, if_neg h2]
  · simp only [if_neg h]
theorem upd206 (X : HI) (k : Nat) (v : Int32) : (up2 X 206 k v) 206 = updR (X 206) k v := upd_row _ _ _ _
theorem ctk_up {x k : Nat} {v : Int32} (hx : x ≠ a) : up2 (ctk C a T vs b) x k v = ctk (up2 C x k v) a T vs b := by
  unfold ctk
  funext y j
  simp only [up2_get]
  by_cases h : y = x ∧ j = k
  · have h1 : ¬ (y = a ∧ j = 4) := by omega
    have h2 : ¬ (y = a ∧ j = 2) := by omega
    have h3 : ¬ (y = a ∧ j = 3) := by omega
    simp only [if_pos h, if_neg h1, if_neg h2, if_neg h3]
  · simp only [if_neg h]
/-- number lines -/
theorem m_readNumber (hX : TM X T vs) {p c k lo hi : Nat} (hp : p ≤ T) (hk : k < 2051) (hlo : lo ≤ 1000) (hhi : hi ≤ 1000) : F_X12_readNumber (mp X p c) (Int32.ofNat k) (Int32.ofNat lo) (Int32.ofNat hi) = some (match nAt vs T lo hi (skb vs T p) with | some v => (1, mp (up2 X 206 k (Int32.ofNat v)) (tnd vs T (skb vs T p)) (skb vs T p)) | none => (0, mp X (rk vs T 2 (skb vs T p)) (skb vs T p))) := by
  have e := m_number (hX.mp p c) (lo := lo) (hi := hi) (mp_10 _ _ _) hp hlo hhi
  unfold F_X12_readNumber
  simp only [Option.bind_eq_bind]
  rw [e, Option.bind_some]
  cases q : nAt vs T lo hi (skb vs T p) with
  | none =>
    rw [if_neg (show ¬ (0 : Int32) ≤ enc none by decide), ald_ofn hk (by omega), Option.bind_some, if_pos (inB_ofn hk (by omega)), if_pos (show enc none < 0 by decide), ofn_clamp (by omega), up2_same, mp_mp]
  | some v =>
    have hv := nAt_rg q
    have g1 : (0 : Int32) ≤ enc (some v) := by show (0 : Int32) ≤ Int32.ofNat v; rw [show (0 : Int32) = Int32.ofNat 0 from rfl, ofn_le (by omega) (by omega)]; omega
    have g2 : ¬ enc (some v) < 0 := by show ¬ Int32.ofNat v < 0; rw [show (0 : Int32) = Int32.ofNat 0 from rfl, ofn_lt (by omega) (by omega)]; omega
    rw [if_pos g1, if_pos (inB_ofn hk (by omega)), if_neg g2, ofn_clamp (by omega), mp_mp, mp_up206, tnd_2 hv.2.2]
    rfl
end
