/-! numbers, values, sums -/
def tyC : List Nat → List Bool → Option (List Bool)
  | [], ts => some ts
  | c :: cs, ts => if ts.length ≤ 60 then (tyS c ts).bind (fun t => tyC cs t) else none
def MS (X : HI) (E : List Nat) (k : Nat) : Prop := X 205 16 = Int32.ofNat E.length ∧ X 205 13 = Int32.ofNat k ∧ ∀ i, i < E.length → X 206 (1251 + 2 * i) = Int32.ofNat (stp (E.getD i 0)) ∧ X 206 (1252 + 2 * i) = Int32.ofNat (nmb (E.getD i 0))
def frY (X X' : HI) : Prop := (∀ y, y ≠ 205 → y ≠ 206 → X' y = X y) ∧ (∀ k, k ≠ 13 → k ≠ 16 → X' 205 k = X 205 k) ∧ ∀ k, k < 1251 → X' 206 k = X 206 k
def Mspec (vs : Nat → Nat) (T : Nat) (F : HI → Option (Int32 × HI)) (δ k b : Nat) (res : RS) : Prop := ∀ (X : HI) (E : List Nat) (p c : Nat), TM X T vs → p ≤ T → skb vs T p = b → MS X E k → E.length + δ < b → match res with
  | Sum.inl r => ∃ X' p' c', F (mp X p c) = some (1, mp X' p' c') ∧ p' ≤ T ∧ skb vs T p' = r.2 ∧ TM X' T vs ∧ MS X' (E ++ r.1) k ∧ frY X X'
  | Sum.inr f => ∃ X' p', F (mp X p c) = some (0, mp X' p' f) ∧ frY X X'
def Cspec (vs : Nat → Nat) (T : Nat) (F : HI → Option (Int32 × HI)) (δ b : Nat) (res : RS) : Prop := ∀ (C : HI) (S D : List Nat) (m : Nat), CSd C T vs b S D m → D.length + δ < b → match res with
  | Sum.inl r => ∃ C', F C = some (1, C') ∧ CSd C' T vs r.2 S (D ++ r.1) m ∧ frK C C'
  | Sum.inr f => ∃ C', F C = some (0, C') ∧ C' 146 3 = Int32.ofNat f ∧ frK C C'
section
variable {C C' X X' : HI} {vs : Nat → Nat} {T b l x n k : Nat} {S D E : List Nat}
theorem tyC_app : ∀ (a c : List Nat) (ts : List Bool), tyC (a ++ c) ts = (tyC a ts).bind (fun t => tyC c t) := by
  intro a
  induction a with
  | nil => intro c ts; rfl
  | cons x a ih =>
    intro c ts
    show (if ts.length ≤ 60 then (tyS x ts).bind (fun t => tyC (a ++ c) t) else none) = ((if ts.length ≤ 60 then (tyS x ts).bind (fun t => tyC a t) else none)).bind _
    by_cases q : ts.length ≤ 60
    · rw [if_pos q, if_pos q]
      cases tyS x ts with
      | none => rfl
      | some t => exact ih c t
    · rw [if_neg q, if_neg q]
      rfl
theorem tyC_1 {ts : List Bool} (h : ts.length ≤ 60) : tyC [x] ts = tyS x ts := by
  show (if ts.length ≤ 60 then (tyS x ts).bind (fun t => some t) else none) = _
  rw [if_pos h]
  cases tyS x ts <;> rfl
theorem frY.trans {A B G : HI} (h1 : frY A B) (h2 : frY B G) : frY A G := ⟨fun y q1 q2 => by rw [h2.1 y q1 q2, h1.1 y q1 q2], fun k q1 q2 => by rw [h2.2.1 k q1 q2, h1.2.1 k q1 q2], fun k q => by rw [h2.2.2 k q, h1.2.2 k q]⟩
theorem frY.refl (A : HI) : frY A A := ⟨fun _ _ _ => rfl, fun _ _ _ => rfl, fun _ _ => rfl⟩
theorem mp_up5 (X : HI) (p c : Nat) {k : Nat} (v : Int32) (hk : k ≠ 10 ∧ k ≠ 12) : up2 (mp X p c) 205 k v = mp (up2 X 205 k v) p c := by
  unfold mp
  funext y j
  simp only [up2_get]
  by_cases h : y = 205 ∧ j = k
  · have h1 : ¬ (y = 205 ∧ j = 12) := by omega
    have h2 : ¬ (y = 205 ∧ j = 10) := by omega
    simp only [if_pos h, if_neg h1, if_neg h2]
  · simp only [if_neg h]
def emX (X : HI) (n : Nat) (x y : Int32) : HI := up2 (up2 (up2 X 206 (1251 + 2 * n) x) 206 (1252 + 2 * n) y) 205 16 (Int32.ofNat (n + 1))
theorem m_emit (h : MS X E k) (hE : E.length < 400) (p c : Nat) (x y : Int32) : F_X12_emits (mp X p c) x y = some (mp (emX X E.length x y) p c) := by
  have e16 : ∀ (k : Nat) (v : Int32), mp (up2 X 206 k v) p c 205 16 = Int32.ofNat E.length := fun k v => by rw [mp_k _ _ _ (by decide), up2_ne _ _ _ (by decide)]; exact h.1
  have e17 : ∀ (k k' : Nat) (v v' : Int32), mp (up2 (up2 X 206 k v) 206 k' v') p c 205 16 = Int32.ofNat E.length := fun k k' v v' => by rw [mp_k _ _ _ (by decide), up2_ne _ _ _ (by decide), up2_ne _ _ _ (by decide)]; exact h.1
  have e15 : mp X p c 205 16 = Int32.ofNat E.length := by rw [mp_k _ _ _ (by decide)]; exact h.1
  have ei : (1251 : Int32) + (2 : Int32) * Int32.ofNat E.length = Int32.ofNat (1251 + 2 * E.length) := by rw [Int32.ofNat_add, Int32.ofNat_mul]; rfl
  unfold F_X12_emits
  rw [e15, ei, if_pos (inB_ofn (by omega) (by omega)), ofn_clamp (by omega), mp_up206, e16, ei, ofn_succ, if_pos (inB_ofn (by omega) (by omega)), ofn_clamp (by omega), mp_up206, e17, ofn_succ, mp_up5 _ _ _ _ (by decide), show 1251 + 2 * E.length + 1 = 1252 + 2 * E.length by omega]
  rfl
theorem emX_206 {n j : Nat} {x y : Int32} : emX X n x y 206 j = if j = 1252 + 2 * n then y else if j = 1251 + 2 * n then x else X 206 j := by
  unfold emX
  rw [up2_ne _ _ _ (by decide), up206g0, up206g0]
theorem emX_fr (x y : Int32) (n : Nat) : frY X (emX X n x y) := by
  refine ⟨fun z q1 q2 => ?_, fun k q1 q2 => ?_, fun k q => ?_⟩
  · unfold emX; rw [up2_ne _ _ _ q1, up2_ne _ _ _ q2, up2_ne _ _ _ q2]
  · unfold emX; rw [up2_get, if_neg (fun w => q2 w.2), up2_ne _ _ _ (by decide), up2_ne _ _ _ (by decide)]
  · rw [emX_206, if_neg (by omega), if_neg (by omega)]
theorem TM.fr (h : TM X T vs) (hf : frY X X') : TM X' T vs := ⟨by rw [hf.2.1 11 (by decide) (by decide)]; exact h.1, h.2.1, fun i hi => by rw [hf.1 211 (by decide) (by decide)]; exact h.2.2 i hi⟩
theorem MS.em (h : MS X E k) (q : Nat) : MS (emX X E.length (Int32.ofNat (stp q)) (Int32.ofNat (nmb q))) (E ++ [q]) k := by
  obtain ⟨h1, h2, h3⟩ := h
  refine ⟨?_, ?_, fun i hi => ?_⟩
  · unfold emX; rw [up2_get, if_pos ⟨rfl, rfl⟩, List.length_append]; rfl
  · unfold emX; rw [up2_get, if_neg (by decide), up2_ne _ _ _ (by decide), up2_ne _ _ _ (by decide)]; exact h2
  · rw [List.length_append, List.length_singleton] at hi
    rw [emX_206, emX_206]
    by_cases z : i = E.length
    · subst z
      rw [getD_app, if_neg (by omega), if_pos rfl, if_pos rfl]; exact ⟨rfl, rfl⟩
    · rw [getD_app2 _ _ (by omega), if_neg (by omega), if_neg (by omega), if_neg (by omega), if_neg (by omega)]
      exact h3 i (by omega)
/-- a value's word -/
def vh (vs : Nat → Nat) (T b : Nat) : Option Nat := if wd vs T b w_dish = true then some 0 else if wd vs T b w_day = true then some 1 else if wd vs T b w_place = true then some 2 else if wd vs T b w_company = true then some 3 else if wd vs T b w_sorrow = true then some 4 else if wd vs T b w_spoons = true then some 5 else none
theorem vh_rg {v : Nat} (h : vh vs T b = some v) : v ≤ 5 ∧ kd vs T b = 1 := by
  unfold vh at h
  by_cases q1 : wd vs T b w_dish = true
  · rw [if_pos q1] at h; cases h; exact ⟨by omega, wd_1 q1⟩
  rw [if_neg q1] at h
  by_cases q2 : wd vs T b w_day = true
  · rw [if_pos q2] at h; cases h; exact ⟨by omega, wd_1 q2⟩
  rw [if_neg q2] at h
  by_cases q3 : wd vs T b w_place = true
  · rw [if_pos q3] at h; cases h; exact ⟨by omega, wd_1 q3⟩
  rw [if_neg q3] at h
  by_cases q4 : wd vs T b w_company = true
  · rw [if_pos q4] at h; cases h; exact ⟨by omega, wd_1 q4⟩
  rw [if_neg q4] at h
  by_cases q5 : wd vs T b w_sorrow = true
  · rw [if_pos q5] at h; cases h; exact ⟨by omega, wd_1 q5⟩
  rw [if_neg q5] at h
  by_cases q6 : wd vs T b w_spoons = true
  · rw [if_pos q6] at h; cases h; exact ⟨by omega, wd_1 q6⟩
  rw [if_neg q6] at h
  cases h
theorem cl_value (h1 : TC C 146 T vs) (h2 : TK C 146 T vs b) : F_X5_valueHere C = some (enc (vh vs T b)) := by
  have n01 : ¬ (1 : Int32) = 0 := by decide
  unfold F_X5_valueHere vh
  simp only [Option.bind_eq_bind]
  rw [cl_word h1 h2 W33, Option.bind_some]
  by_cases q1 : wd vs T b w_dish = true
  · rw [bi_t q1, if_neg n01, if_pos q1]; rfl
  rw [bi_f q1, if_pos rfl, if_neg q1, cl_word h1 h2 W34, Option.bind_some]
  by_cases q2 : wd vs T b w_day = true
  · rw [bi_t q2, if_neg n01, if_pos q2]; rfl
  rw [bi_f q2, if_pos rfl, if_neg q2, cl_word h1 h2 W35, Option.bind_some]
  by_cases q3 : wd vs T b w_place = true
  · rw [bi_t q3, if_neg n01, if_pos q3]; rfl
  rw [bi_f q3, if_pos rfl, if_neg q3, cl_word h1 h2 W36, Option.bind_some]
  by_cases q4 : wd vs T b w_company = true
  · rw [bi_t q4, if_neg n01, if_pos q4]; rfl
  rw [bi_f q4, if_pos rfl, if_neg q4, cl_word h1 h2 W37, Option.bind_some]
  by_cases q5 : wd vs T b w_sorrow = true
  · rw [bi_t q5, if_neg n01, if_pos q5]; rfl
  rw [bi_f q5, if_pos rfl, if_neg q5, cl_word h1 h2 W38, Option.bind_some]
  by_cases q6 : wd vs T b w_spoons = true
  · rw [bi_t q6, if_neg n01, if_pos q6]; rfl
  rw [bi_f q6, if_pos rfl, if_neg q6]; rfl
theorem m_value (h : TM X T vs) (hb : b ≤ T) : F_X12_wordOfPart (mp X (rk vs T 1 b) b) = some (enc (vh vs T b)) := by
  have n01 : ¬ (1 : Int32) = 0 := by decide
  unfold F_X12_wordOfPart vh
  simp only [Option.bind_eq_bind]
  rw [m_word h hb W54, Option.bind_some]
  by_cases q1 : wd vs T b w_dish = true
  · rw [bi_t q1, if_neg n01, if_pos q1]; rfl
  rw [bi_f q1, if_pos rfl, if_neg q1, m_word h hb W61, Option.bind_some]
  by_cases q2 : wd vs T b w_day = true
  · rw [bi_t q2, if_neg n01, if_pos q2]; rfl
  rw [bi_f q2, if_pos rfl, if_neg q2, m_word h hb W62, Option.bind_some]
  by_cases q3 : wd vs T b w_place = true
  · rw [bi_t q3, if_neg n01, if_pos q3]; rfl
  rw [bi_f q3, if_pos rfl, if_neg q3, m_word h hb W63, Option.bind_some]
  by_cases q4 : wd vs T b w_company = true
  · rw [bi_t q4, if_neg n01, if_pos q4]; rfl
  rw [bi_f q4, if_pos rfl, if_neg q4, m_word h hb W64, Option.bind_some]
  by_cases q5 : wd vs T b w_sorrow = true
  · rw [bi_t q5, if_neg n01, if_pos q5]; rfl
  rw [bi_f q5, if_pos rfl, if_neg q5, m_word h hb W65, Option.bind_some]
  by_cases q6 : wd vs T b w_spoons = true
  · rw [bi_t q6, if_neg n01, if_pos q6]; rfl
  rw [bi_f q6, if_pos rfl, if_neg q6]; rfl
/-- a part of a sum: a number, or a value -/
def pt (vs : Nat → Nat) (T b : Nat) : Option Nat := match nAt vs T 0 999 b with
  | some v => some v
  | none => (vh vs T b).map (fun v => 1000 + v)
theorem pt_rg {c : Nat} (h : pt vs T b = some c) : c < 1006 ∧ b < T := by
  unfold pt at h
  cases q : nAt vs T 0 999 b with
  | some v =>
    rw [q] at h
    cases h
    have := nAt_rg q
    exact ⟨by omega, (kd_2.mp this.2.2).1⟩
  | none =>
    rw [q] at h
    cases q2 : vh vs T b with
    | none => rw [q2] at h; cases h
    | some v =>
      rw [q2] at h
      have := vh_rg q2
      simp at h
      exact ⟨by omega, (kd_1.mp this.2).1⟩
theorem m_part (h : TM X T vs) {p c : Nat} (hp : p ≤ T) (hpb : skb vs T p = b) (hM : MS X E k) (hE : E.length < 400) : match pt vs T b with
    | some q => ∃ X', F_X12_readPart (mp X p c) = some (1, mp X' (tnd vs T b) b) ∧ TM X' T vs ∧ MS X' (E ++ [q]) k ∧ frY X X'
    | none => ∃ X' p', F_X12_readPart (mp X p c) = some (0, mp X' p' b) ∧ frY X X' := by
  have hb : b ≤ T := by rw [← hpb]; exact (skb_spec hp).2.1
  have hT := h.2.1
  have e1 := m_letters (h.mp p c) (mp_10 _ _ _) hp
  rw [hpb, mp_mp] at e1
  have hrk := rk_le (vs := vs) (κ := 1) hb
  unfold F_X12_readPart
  simp only [Option.bind_eq_bind]
  rw [e1, Option.bind_some]
  by_cases q : kd vs T b = 1
  · have hlt := (tnd_spec (vs := vs) hb).2.2 (kd_1.mp q).1
    rw [tnd_1 q] at hlt
    have en : nAt vs T 0 999 b = none := by unfold nAt; rw [if_neg (by omega)]
    have ep : pt vs T b = (vh vs T b).map (fun v => 1000 + v) := by unfold pt; rw [en]
    rw [if_neg (show ¬ mp X (rk vs T 1 b) b 205 10 = mp X (rk vs T 1 b) b 205 12 by rw [mp_10, mp_12, ofn_eq (by omega) (by omega)]; omega), m_value h hb, Option.bind_some, m_emit hM hE, Option.bind_some, ep]
    cases qv : vh vs T b with
    | none =>
      rw [if_pos (show enc none < 0 by decide)]
      exact ⟨_, _, rfl, emX_fr _ _ _⟩
    | some v =>
      have hv := vh_rg qv
      rw [if_neg (show ¬ enc (some v) < 0 by show ¬ Int32.ofNat v < 0; rw [show (0 : Int32) = Int32.ofNat 0 from rfl, ofn_lt (by omega) (by omega)]; omega), tnd_1 q]
      have es : stp (1000 + v) = v := by unfold stp; rw [if_neg (by omega)]; omega
      have en2 : nmb (1000 + v) = 0 := by unfold nmb; rw [if_neg (by omega)]
      refine ⟨emX X E.length (enc (some v)) 0, rfl, h.fr (emX_fr _ _ _), ?_, emX_fr _ _ _⟩
      have := hM.em (1000 + v)
      rw [es, en2] at this
      exact this
  · have e3 := m_number (h.mp (rk vs T 1 b) b) (lo := 0) (hi := 999) (mp_10 _ _ _) hrk.2 (by omega) (by omega)
    have e3' : F_X12_number (mp X (rk vs T 1 b) b) 0 999 = _ := e3
    have eb : skb vs T (rk vs T 1 b) = b := by rw [rk_stop q, ← hpb]; exact skb_skb hp
    rw [eb, mp_mp] at e3'
    have evh : vh vs T b = none := by
      cases qv : vh vs T b with
      | none => rfl
      | some v => exact absurd (vh_rg qv).2 q
    rw [if_pos (show mp X (rk vs T 1 b) b 205 10 = mp X (rk vs T 1 b) b 205 12 by rw [mp_10, mp_12, rk_stop q]), e3', Option.bind_some]
    dsimp only
    rw [m_emit hM hE, Option.bind_some]
    cases qn : nAt vs T 0 999 b with
    | none =>
      have ep : pt vs T b = none := by unfold pt; rw [qn, evh]; rfl
      rw [ep, if_pos (show enc none < 0 by decide)]
      exact ⟨_, _, rfl, emX_fr _ _ _⟩
    | some v =>
      have ep : pt vs T b = some v := by unfold pt; rw [qn]
      have hv := nAt_rg qn
      rw [ep, if_neg (show ¬ enc (some v) < 0 by show ¬ Int32.ofNat v < 0; rw [show (0 : Int32) = Int32.ofNat 0 from rfl, ofn_lt (by omega) (by omega)]; omega), tnd_2 hv.2.2]
      have es : stp v = 9 := by unfold stp; rw [if_pos (by omega)]
      have en2 : nmb v = v := by unfold nmb; rw [if_pos (by omega)]
      refine ⟨emX X E.length 9 (enc (some v)), rfl, h.fr (emX_fr _ _ _), ?_, emX_fr _ _ _⟩
      have := hM.em v
      rw [es, en2] at this
      exact this
end
