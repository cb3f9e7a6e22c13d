/-! texts: what stands where -/
def kd (vs : Nat → Nat) (T i : Nat) : Nat := if T ≤ i then 0 else if 97 ≤ vs i ∧ vs i ≤ 122 then 1 else if 48 ≤ vs i ∧ vs i ≤ 57 then 2 else 3
/-- where a run ends -/
def rn (P : Nat → Bool) : Nat → Nat → Nat
  | 0, i => i
  | r + 1, i => if P i = true then rn P r (i + 1) else i
def skb (vs : Nat → Nat) (T p : Nat) : Nat := rn (fun i => decide (i < T ∧ vs i = 32)) (T - p) p
def rk (vs : Nat → Nat) (T κ i : Nat) : Nat := rn (fun i => decide (kd vs T i = κ)) (T - i) i
def tnd (vs : Nat → Nat) (T b : Nat) : Nat := if kd vs T b = 0 then b else if kd vs T b = 3 then b + 1 else rk vs T (kd vs T b) b
def nx (vs : Nat → Nat) (T b : Nat) : Nat := skb vs T (tnd vs T b)
def bi (x : Bool) : Int32 := if x = true then 1 else 0
section
variable {C C' M M' : HI} {a T : Nat} {vs : Nat → Nat} {P : Nat → Bool}
theorem rn_spec : ∀ r i, i ≤ rn P r i ∧ rn P r i ≤ i + r ∧ (rn P r i = i + r ∨ P (rn P r i) = false) ∧ ∀ j, i ≤ j → j < rn P r i → P j = true := by
  intro r
  induction r with
  | zero => intro i; exact ⟨Nat.le_refl _, Nat.le_refl _, Or.inl rfl, fun j h1 h2 => by have : j < i := h2; omega⟩
  | succ r ih =>
    intro i
    rw [rn]
    by_cases q : P i = true
    · rw [if_pos q]
      obtain ⟨a1, a2, a3, a4⟩ := ih (i + 1)
      refine ⟨by omega, by omega, ?_, fun j h1 h2 => ?_⟩
      · rcases a3 with a3 | a3
        · left; omega
        · exact Or.inr a3
      · by_cases w : j = i
        · rw [w]; exact q
        · exact a4 j (by omega) h2
    · rw [if_neg q]
      exact ⟨Nat.le_refl _, by omega, Or.inr (by cases h : P i with | true => exact absurd h q | false => rfl), fun j h1 h2 => by omega⟩
theorem rn_stop {r i : Nat} (h : P i = false) : rn P r i = i := by
  cases r with
  | zero => rfl
  | succ r => rw [rn, h, if_neg (by decide)]
theorem kd_le (i : Nat) : kd vs T i ≤ 3 := by unfold kd; split <;> (try split) <;> (try split) <;> omega
theorem kd_0 {i : Nat} : kd vs T i = 0 ↔ T ≤ i := by
  unfold kd
  constructor
  · intro h
    apply Classical.byContradiction
    intro w
    rw [if_neg w] at h
    split at h
    · omega
    · split at h <;> omega
  · intro h; rw [if_pos h]
theorem kd_1 {i : Nat} : kd vs T i = 1 ↔ i < T ∧ 97 ≤ vs i ∧ vs i ≤ 122 := by
  unfold kd
  by_cases h : T ≤ i
  · rw [if_pos h]; constructor
    · intro w; omega
    · intro w; omega
  · rw [if_neg h]
    by_cases q : 97 ≤ vs i ∧ vs i ≤ 122
    · rw [if_pos q]; exact ⟨fun _ => ⟨by omega, q⟩, fun _ => rfl⟩
    · rw [if_neg q]; constructor
      · intro w; split at w <;> omega
      · intro w; exact absurd w.2 q
theorem kd_2 {i : Nat} : kd vs T i = 2 ↔ i < T ∧ 48 ≤ vs i ∧ vs i ≤ 57 := by
  unfold kd
  by_cases h : T ≤ i
  · rw [if_pos h]; constructor
    · intro w; omega
    · intro w; omega
  · rw [if_neg h]
    by_cases q : 97 ≤ vs i ∧ vs i ≤ 122
    · rw [if_pos q]; constructor
      · intro w; omega
      · intro w; omega
    · rw [if_neg q]
      by_cases y : 48 ≤ vs i ∧ vs i ≤ 57
      · rw [if_pos y]; exact ⟨fun _ => ⟨by omega, y⟩, fun _ => rfl⟩
      · rw [if_neg y]; constructor
        · intro w; omega
        · intro w; exact absurd w.2 y
theorem skb_spec {p : Nat} (hp : p ≤ T) : p ≤ skb vs T p ∧ skb vs T p ≤ T ∧ ¬ (skb vs T p < T ∧ vs (skb vs T p) = 32) := by
  obtain ⟨h1, h2, h3, -⟩ := rn_spec (P := fun i => decide (i < T ∧ vs i = 32)) (T - p) p
  unfold skb
  refine ⟨h1, by omega, fun w => ?_⟩
  rcases h3 with h3 | h3
  · omega
  · simp only [decide_eq_false_iff_not] at h3
    exact h3 w
theorem skb_skb {p : Nat} (hp : p ≤ T) : skb vs T (skb vs T p) = skb vs T p := by
  have h := (skb_spec (vs := vs) hp).2.2
  unfold skb at h ⊢
  exact rn_stop (by simp only [decide_eq_false_iff_not]; exact h)
theorem skb_lt {p : Nat} (h : p < T) (hb : vs p = 32) : skb vs T p = skb vs T (p + 1) := by
  unfold skb
  rw [show T - p = (T - (p + 1)) + 1 by omega, rn, if_pos (by simp [h, hb])]
theorem skb_at {p : Nat} (h : ¬ (p < T ∧ vs p = 32)) : skb vs T p = p := by
  unfold skb
  exact rn_stop (by simp only [decide_eq_false_iff_not]; exact h)
theorem rk_le {κ i : Nat} (hi : i ≤ T) : i ≤ rk vs T κ i ∧ rk vs T κ i ≤ T := by
  obtain ⟨h1, h2, -, -⟩ := rn_spec (P := fun i => decide (kd vs T i = κ)) (T - i) i
  unfold rk
  exact ⟨h1, by omega⟩
theorem rk_in {κ i j : Nat} (h1 : i ≤ j) (h2 : j < rk vs T κ i) : kd vs T j = κ := by
  have := (rn_spec (P := fun i => decide (kd vs T i = κ)) (T - i) i).2.2.2 j h1 h2
  simpa using this
theorem rk_step {κ i : Nat} (h : kd vs T i = κ) (hi : i < T) : rk vs T κ i = rk vs T κ (i + 1) := by
  unfold rk
  rw [show T - i = (T - (i + 1)) + 1 by omega, rn, if_pos (by simp [h])]
theorem rk_stop {κ i : Nat} (h : ¬ kd vs T i = κ) : rk vs T κ i = i := by
  unfold rk
  exact rn_stop (by simp [h])
theorem rk_ge {κ i : Nat} (h : T ≤ i) : rk vs T κ i = i := by
  unfold rk
  rw [show T - i = 0 by omega]
  rfl
theorem tnd_spec {b : Nat} (hb : b ≤ T) : b ≤ tnd vs T b ∧ tnd vs T b ≤ T ∧ (b < T → b < tnd vs T b) := by
  unfold tnd
  by_cases h0 : kd vs T b = 0
  · rw [if_pos h0]
    have := kd_0.mp h0
    exact ⟨Nat.le_refl _, hb, fun w => by omega⟩
  · have hlt : b < T := Nat.lt_of_not_le (fun w => h0 (kd_0.mpr w))
    rw [if_neg h0]
    by_cases h3 : kd vs T b = 3
    · rw [if_pos h3]; exact ⟨by omega, by omega, fun _ => by omega⟩
    · rw [if_neg h3, rk_step rfl hlt]
      have := rk_le (vs := vs) (T := T) (κ := kd vs T b) (i := b + 1) (by omega)
      exact ⟨by omega, this.2, fun _ => by omega⟩
theorem nx_spec {b : Nat} (hb : b ≤ T) : b ≤ nx vs T b ∧ nx vs T b ≤ T ∧ (b < T → b < nx vs T b) ∧ tnd vs T b ≤ nx vs T b := by
  obtain ⟨h1, h2, h3⟩ := tnd_spec (vs := vs) hb
  obtain ⟨q1, q2, -⟩ := skb_spec (vs := vs) h2
  unfold nx
  exact ⟨by omega, q2, fun w => by have := h3 w; omega, q1⟩
theorem nx_skb {b : Nat} (hb : b ≤ T) : skb vs T (nx vs T b) = nx vs T b := skb_skb (tnd_spec hb).2.1
theorem tnd_1 {b : Nat} (h : kd vs T b = 1) : tnd vs T b = rk vs T 1 b := by
  unfold tnd; rw [if_neg (by omega), if_neg (by omega), h]
theorem tnd_2 {b : Nat} (h : kd vs T b = 2) : tnd vs T b = rk vs T 2 b := by
  unfold tnd; rw [if_neg (by omega), if_neg (by omega), h]
theorem tnd_3 {b : Nat} (h : kd vs T b = 3) : tnd vs T b = b + 1 := by
  unfold tnd; rw [if_neg (by omega), if_pos h]
/-! the class's reading of things -/
def TC (C : HI) (a T : Nat) (vs : Nat → Nat) : Prop := C a 1 = Int32.ofNat T ∧ T ≤ 400 ∧ ∀ i, i < T → vs i < 256 ∧ C 2 i = Int32.ofNat (vs i)
def ctk (C : HI) (a T : Nat) (vs : Nat → Nat) (b : Nat) : HI := up2 (up2 (up2 C a 3 (Int32.ofNat b)) a 2 (Int32.ofNat (kd vs T b))) a 4 (Int32.ofNat (tnd vs T b))
def TK (C : HI) (a T : Nat) (vs : Nat → Nat) (b : Nat) : Prop := C a 3 = Int32.ofNat b ∧ C a 2 = Int32.ofNat (kd vs T b) ∧ C a 4 = Int32.ofNat (tnd vs T b) ∧ b ≤ T
theorem ctk_TK {b : Nat} (hb : b ≤ T) : TK (ctk C a T vs b) a T vs b := by
  unfold ctk
  refine ⟨?_, ?_, ?_, hb⟩
  · rw [up2_get, if_neg (by omega), up2_get, if_neg (by omega), up2_get, if_pos ⟨rfl, rfl⟩]
  · rw [up2_get, if_neg (by omega), up2_get, if_pos ⟨rfl, rfl⟩]
  · rw [up2_get, if_pos ⟨rfl, rfl⟩]
theorem ctk_ne {b x : Nat} (h : x ≠ a) : ctk C a T vs b x = C x := by unfold ctk; rw [up2_ne _ _ _ h, up2_ne _ _ _ h, up2_ne _ _ _ h]
theorem ctk_get {b k : Nat} (h : k ≠ 2 ∧ k ≠ 3 ∧ k ≠ 4) : ctk C a T vs b a k = C a k := by unfold ctk; rw [up2_get, if_neg (by omega), up2_get, if_neg (by omega), up2_get, if_neg (by omega)]
theorem TC.tk (h : TC C a T vs) (ha : a ≠ 2) (b : Nat) : TC (ctk C a T vs b) a T vs := ⟨by rw [ctk_get (by omega)]; exact h.1, h.2.1, fun i hi => by rw [ctk_ne (fun q => ha q.symm)]; exact h.2.2 i hi⟩
theorem TC.up (h : TC C a T vs) {x k : Nat} {v : Int32} (hx : x ≠ 2) (hk : x ≠ a ∨ k ≠ 1) : TC (up2 C x k v) a T vs := ⟨by rw [up2_get, if_neg (by omega)]; exact h.1, h.2.1, fun i hi => by rw [up2_ne _ _ _ (fun q => hx q.symm)]; exact h.2.2 i hi⟩
theorem cl_kindAt (h : TC C a T vs) {i : Nat} (hi : i ≤ 400) : F_X10_kindAt C a (Int32.ofNat i) = some (Int32.ofNat (kd vs T i)) := by
  obtain ⟨h1, h2, h3⟩ := h
  unfold F_X10_kindAt kd
  rw [if_neg (show ¬ Int32.ofNat i < 0 by rw [show (0 : Int32) = Int32.ofNat 0 from rfl, ofn_lt (by omega) (by omega)]; omega), h1]
  by_cases q : T ≤ i
  · rw [if_neg (by rw [ofn_lt (by omega) (by omega)]; omega), if_pos q]
    rfl
  · obtain ⟨v1, v2⟩ := h3 i (by omega)
    rw [if_pos (by rw [ofn_lt (by omega) (by omega)]; omega), if_neg q, ald_ofn (by omega) (by omega), v2]
    simp only [Option.bind_eq_bind, Option.bind_some]
    rw [show (97 : Int32) = Int32.ofNat 97 from rfl, show (122 : Int32) = Int32.ofNat 122 from rfl, show (48 : Int32) = Int32.ofNat 48 from rfl, show (57 : Int32) = Int32.ofNat 57 from rfl]
    have l : ∀ k, k < 200 → (Int32.ofNat (vs i) < Int32.ofNat k ↔ vs i < k) := fun k hk => ofn_lt (by omega) (by omega)
    have l' : ∀ k, k < 200 → (Int32.ofNat k < Int32.ofNat (vs i) ↔ k < vs i) := fun k hk => ofn_lt (by omega) (by omega)
    simp only [l 97 (by omega), l 48 (by omega), l' 122 (by omega), l' 57 (by omega)]
    by_cases q1 : vs i < 97
    · rw [if_pos q1, if_neg (show ¬ (97 ≤ vs i ∧ vs i ≤ 122) by omega)]
      by_cases q2 : vs i < 48
      · rw [if_pos q2, if_neg (show ¬ (48 ≤ vs i ∧ vs i ≤ 57) by omega)]; rfl
      · rw [if_neg q2]
        by_cases q3 : 57 < vs i
        · rw [if_pos q3, if_neg (show ¬ (48 ≤ vs i ∧ vs i ≤ 57) by omega)]; rfl
        · rw [if_neg q3, if_pos (show (48 ≤ vs i ∧ vs i ≤ 57) by omega)]; rfl
    · rw [if_neg q1]
      by_cases q2 : 122 < vs i
      · rw [if_pos q2, if_neg (show ¬ (97 ≤ vs i ∧ vs i ≤ 122) by omega), if_neg (show ¬ vs i < 48 by omega), if_pos (show 57 < vs i by omega), if_neg (show ¬ (48 ≤ vs i ∧ vs i ≤ 57) by omega)]; rfl
      · rw [if_neg q2, if_pos (show (97 ≤ vs i ∧ vs i ≤ 122) by omega)]; rfl
theorem cl_adv54 (h : TC C a T vs) {κ : Nat} (hκ : C a 2 = Int32.ofNat κ) (hk : κ ≤ 3) : ∀ r i, i + r = T → L_X10_advance_54 C a (Int32.ofNat i) = some (up2 C a 4 (Int32.ofNat (if κ = 3 then i else rk vs T κ i))) := by
  obtain ⟨h1, h2, h3⟩ := id h
  intro r
  induction r with
  | zero =>
    intro i hi
    rw [L_X10_advance_54, h1, if_pos (by rw [show i = T by omega]; exact Int32.le_refl _)]
    split
    · rfl
    · rw [rk_ge (by omega)]
  | succ r ih =>
    intro i hi
    rw [L_X10_advance_54, h1, if_neg (by rw [ofn_le (by omega) (by omega)]; omega), hκ]
    by_cases q : κ = 3
    · rw [if_pos (by rw [q]; rfl), if_pos q]
    · rw [if_neg (by rw [show (3 : Int32) = Int32.ofNat 3 from rfl, ofn_eq (by omega) (by omega)]; exact q), cl_kindAt h (by omega), Option.bind_eq_bind, Option.bind_some, if_neg q]
      have hkd := kd_le (vs := vs) (T := T) i
      by_cases w : kd vs T i = κ
      · rw [if_pos (by rw [w]), ofn_succ, ih (i + 1) (by omega), if_neg q, rk_step w (by omega)]
      · rw [if_neg (by rw [ofn_eq (by omega) (by omega)]; exact w), rk_stop w]
theorem cl_adv (h : TC C a T vs) (ha : a ≠ 2) {p : Nat} (hp : C a 4 = Int32.ofNat p) (hpT : p ≤ T) : F_X10_advance C a = some (ctk C a T vs (skb vs T p)) := by
  obtain ⟨h1, h2, h3⟩ := id h
  unfold F_X10_advance
  rw [hp]
  have h3' : ∀ p : Nat, TC (up2 C a 3 (Int32.ofNat p)) a T vs := fun p => h.up ha (Or.inr (by omega))
  have h32 : ∀ (p : Nat) (v : Int32), TC (up2 (up2 C a 3 (Int32.ofNat p)) a 2 v) a T vs := fun p v => (h3' p).up ha (Or.inr (by omega))
  have fin : ∀ p, p ≤ T → ((F_X10_kindAt (up2 C a 3 (Int32.ofNat p)) a (Int32.ofNat p)).bind fun r2 => if r2 = 0 then L_X10_advance_54 (up2 (up2 C a 3 (Int32.ofNat p)) a 2 r2) a (Int32.ofNat p) else L_X10_advance_54 (up2 (up2 C a 3 (Int32.ofNat p)) a 2 r2) a (Int32.ofNat p + (1 : Int32))) = some (ctk C a T vs p) := by
    intro p hp
    have hkd := kd_le (vs := vs) (T := T) p
    rw [cl_kindAt (h3' p) (by omega), Option.bind_some]
    have e2 : up2 (up2 C a 3 (Int32.ofNat p)) a 2 (Int32.ofNat (kd vs T p)) a 2 = Int32.ofNat (kd vs T p) := by rw [up2_get, if_pos ⟨rfl, rfl⟩]
    by_cases q : kd vs T p = 0
    · have hTp := kd_0.mp q
      rw [if_pos (by rw [q]; rfl), cl_adv54 (h32 p _) e2 hkd 0 p (by omega), if_neg (by omega), rk_ge hTp]
      unfold ctk tnd
      rw [if_pos q]
    · have hTp : p < T := Nat.lt_of_not_le (fun w => q (kd_0.mpr w))
      rw [if_neg (by rw [show (0 : Int32) = Int32.ofNat 0 from rfl, ofn_eq (by omega) (by omega)]; exact q), ofn_succ, cl_adv54 (h32 p _) e2 hkd (T - (p + 1)) (p + 1) (by omega)]
      unfold ctk tnd
      rw [if_neg q]
      by_cases w : kd vs T p = 3
      · rw [if_pos w, if_pos w]
      · rw [if_neg w, if_neg w, rk_step rfl hTp]
  have loop : ∀ r p, p + r = T → L_X10_advance_5 C a (Int32.ofNat p) = some (ctk C a T vs (skb vs T p)) := by
    intro r
    induction r with
    | zero =>
      intro p hp
      rw [L_X10_advance_5, h1, if_pos (by rw [show p = T by omega]; exact Int32.le_refl _), skb_at (by omega)]
      exact fin p (by omega)
    | succ r ih =>
      intro p hp
      obtain ⟨v1, v2⟩ := h3 p (by omega)
      rw [L_X10_advance_5, h1, if_neg (by rw [ofn_le (by omega) (by omega)]; omega), ald_ofn (by omega) (by omega), v2, Option.bind_eq_bind, Option.bind_some]
      by_cases q : vs p = 32
      · rw [if_pos (by rw [q]; rfl), ofn_succ, ih (p + 1) (by omega), skb_lt (by omega) q]
      · rw [if_neg (by rw [show (32 : Int32) = Int32.ofNat 32 from rfl, ofn_eq (by omega) (by omega)]; exact q), skb_at (fun w => q w.2)]
        exact fin p (by omega)
  exact loop (T - p) p (by omega)
theorem cl_advTK (h : TC C a T vs) (ha : a ≠ 2) {b : Nat} (hb : TK C a T vs b) : F_X10_advance C a = some (ctk C a T vs (nx vs T b)) := cl_adv h ha hb.2.2.1 (tnd_spec hb.2.2.2).2.1
/-- a sign -/
def sg (vs : Nat → Nat) (T b c : Nat) : Bool := decide (kd vs T b = 3 ∧ vs b = c)
theorem cl_sign (h : TC C a T vs) {b c : Nat} (hb : TK C a T vs b) (hc : c < 200) : F_X10_isSign C a (Int32.ofNat c) = some (bi (sg vs T b c)) := by
  obtain ⟨h1, h2, h3⟩ := h
  obtain ⟨b1, b2, b3, b4⟩ := hb
  unfold F_X10_isSign bi sg
  have hkd := kd_le (vs := vs) (T := T) b
  rw [b2, b1, h1]
  by_cases q : kd vs T b = 3
  · have hlt : b < T := Nat.lt_of_not_le (fun w => by have := kd_0 (vs := vs).mpr w; omega)
    obtain ⟨v1, v2⟩ := h3 b hlt
    rw [if_pos (by rw [q]; rfl), if_neg (by rw [ofn_le (by omega) (by omega)]; omega), ald_ofn (by omega) (by omega), v2, Option.bind_eq_bind, Option.bind_some]
    by_cases w : vs b = c
    · rw [if_pos (by rw [w]), if_pos (by simp [q, w])]
    · rw [if_neg (by rw [ofn_eq (by omega) (by omega)]; exact w), if_neg (by simp [w])]
  · rw [if_neg (by rw [show (3 : Int32) = Int32.ofNat 3 from rfl, ofn_eq (by omega) (by omega)]; exact q), if_neg (by simp [q])]
/-- a word -/
def wd (vs : Nat → Nat) (T b : Nat) (w : List Nat) : Bool := decide (kd vs T b = 1 ∧ tnd vs T b = b + w.length ∧ ∀ i, i < w.length → vs (b + i) = w.getD i 0)
def Ws (s : Nat) (w : List Nat) : Prop := lenL.getD s 0 = w.length ∧ 0 < w.length ∧ w.length < 60 ∧ ∀ i, i < w.length → (bytL.getD s []).getD i 0 = Int32.ofNat (w.getD i 0) ∧ w.getD i 0 < 128
theorem Ws_c {s : Nat} {w : List Nat} (h : Ws s w) {i : Nat} (hi : i < w.length) : sch s (Int32.ofNat i) = some (Int32.ofNat (w.getD i 0)) := by
  unfold sch
  have := h.2.2.1
  rw [h.1, ald_ofn hi (by omega), (h.2.2.2 i hi).1]
theorem Ws_l {s : Nat} {w : List Nat} (h : Ws s w) : slen s = Int32.ofNat w.length := by
  unfold slen
  rw [h.1]
theorem cl_word (h : TC C a T vs) {b s : Nat} {w : List Nat} (hb : TK C a T vs b) (hs : Ws s w) : F_X10_isWord C a s = some (bi (wd vs T b w)) := by
  obtain ⟨h1, h2, h3⟩ := h
  obtain ⟨b1, b2, b3, b4⟩ := hb
  obtain ⟨t1, t2, -⟩ := tnd_spec (vs := vs) b4
  have hl := hs.2.2.1
  have hkd := kd_le (vs := vs) (T := T) b
  unfold F_X10_isWord bi wd
  rw [b2, b1, b3, Ws_l hs]
  by_cases q : kd vs T b = 1
  · rw [if_pos (by rw [q]; rfl)]
    have es : Int32.ofNat (tnd vs T b) - Int32.ofNat b = Int32.ofNat (tnd vs T b - b) := by
      rw [ti_eq, ti_sub (by rw [ti_ofn (by omega), ti_ofn (by omega)]; omega) (by rw [ti_ofn (by omega), ti_ofn (by omega)]; omega), ti_ofn (by omega), ti_ofn (by omega), ti_ofn (by omega)]; omega
    rw [es]
    by_cases e : tnd vs T b - b = w.length
    · rw [if_pos (by rw [e])]
      have loop : ∀ r i, i + r = w.length → ((∀ j, i ≤ j → j < w.length → vs (b + j) = w.getD j 0) → L_X10_isWord_28 C a s (Int32.ofNat i) = some 1) ∧ ((∃ j, i ≤ j ∧ j < w.length ∧ ¬ vs (b + j) = w.getD j 0) → L_X10_isWord_28 C a s (Int32.ofNat i) = some 0) := by
        intro r
        induction r with
        | zero =>
          intro i hi
          refine ⟨fun _ => ?_, fun ⟨j, q1, q2, _⟩ => by omega⟩
          rw [L_X10_isWord_28, Ws_l hs, if_pos (by rw [show i = w.length by omega]; exact Int32.le_refl _)]
        | succ r ih =>
          intro i hi
          obtain ⟨v1, v2⟩ := h3 (b + i) (by omega)
          obtain ⟨i1, i2⟩ := ih (i + 1) (by omega)
          rw [L_X10_isWord_28]
          simp only [Option.bind_eq_bind]
          rw [Ws_l hs, if_neg (by rw [ofn_le (by omega) (by omega)]; omega), h1, b1, ← Int32.ofNat_add, if_neg (by rw [ofn_le (by omega) (by omega)]; omega), ald_ofn (by omega) (by omega), v2, Option.bind_some, Ws_c hs (by omega), Option.bind_some]
          have w8 := (hs.2.2.2 i (by omega)).2
          by_cases y : vs (b + i) = w.getD i 0
          · rw [if_pos (by rw [y]), ofn_succ]
            refine ⟨fun z => i1 (fun j q1 q2 => z j (by omega) q2), fun ⟨j, q1, q2, q3⟩ => i2 ⟨j, ?_, q2, q3⟩⟩
            rcases Nat.lt_or_ge i j with u | u
            · exact u
            · exact absurd y (by rw [show i = j by omega]; exact q3)
          · rw [if_neg (by rw [ofn_eq (by omega) (by omega)]; exact y)]
            exact ⟨fun z => absurd (z i (Nat.le_refl _) (by omega)) y, fun _ => rfl⟩
      obtain ⟨l1, l2⟩ := loop w.length 0 (by omega)
      by_cases z : ∀ j, j < w.length → vs (b + j) = w.getD j 0
      · rw [if_pos (by simp only [decide_eq_true_eq]; exact ⟨q, by omega, z⟩)]
        exact l1 (fun j _ hj => z j hj)
      · rw [if_neg (by simp only [decide_eq_true_eq]; exact fun u => z u.2.2)]
        refine l2 (Classical.byContradiction (fun u => z (fun j hj => Classical.byContradiction (fun y => u ⟨j, by omega, hj, y⟩))))
    · rw [if_neg (by rw [ofn_eq (by omega) (by omega)]; exact e), if_neg (by simp only [decide_eq_true_eq]; exact fun u => e (by omega))]
  · rw [if_neg (by rw [show (1 : Int32) = Int32.ofNat 1 from rfl, ofn_eq (by omega) (by omega)]; exact q), if_neg (by simp only [decide_eq_true_eq]; exact fun u => q u.1)]
/-- a number -/
def nvl (vs : Nat → Nat) : Nat → Nat → Nat → Nat
  | 0, _, acc => acc
  | r + 1, i, acc => nvl vs r (i + 1) (10 * acc + vs i - 48)
def nAt (vs : Nat → Nat) (T lo hi b : Nat) : Option Nat := if kd vs T b = 2 ∧ tnd vs T b - b ≤ 3 ∧ lo ≤ nvl vs (tnd vs T b - b) b 0 ∧ nvl vs (tnd vs T b - b) b 0 ≤ hi then some (nvl vs (tnd vs T b - b) b 0) else none
theorem nAt_rg {lo hi b v : Nat} (h : nAt vs T lo hi b = some v) : lo ≤ v ∧ v ≤ hi ∧ kd vs T b = 2 := by
  unfold nAt at h
  split at h
  · rename_i w
    cases h
    exact ⟨w.2.2.1, w.2.2.2, w.1⟩
  · cases h
theorem dig (acc v : Nat) (ha : acc ≤ 1000) (h1 : 48 ≤ v) (h2 : v ≤ 57) : Int32.ofNat acc * (10 : Int32) + Int32.ofNat v - (48 : Int32) = Int32.ofNat (10 * acc + v - 48) := by
  rw [show (10 : Int32) = Int32.ofNat 10 from rfl, ← Int32.ofNat_mul, ← Int32.ofNat_add, ti_eq, ti_sub (by rw [ti_ofn (by omega), show (48 : Int32).toInt = 48 by decide]; omega) (by rw [ti_ofn (by omega), show (48 : Int32).toInt = 48 by decide]; omega), ti_ofn (by omega), ti_ofn (by omega), show (48 : Int32).toInt = 48 by decide]; omega
theorem dig' (acc v : Nat) (ha : acc ≤ 1000) (h1 : 48 ≤ v) (h2 : v ≤ 57) : (10 : Int32) * Int32.ofNat acc + Int32.ofNat v - (48 : Int32) = Int32.ofNat (10 * acc + v - 48) := by
  rw [Int32.mul_comm]; exact dig acc v ha h1 h2
theorem cl_num (h : TC C a T vs) {b lo hi : Nat} (hb : TK C a T vs b) (hlo : lo ≤ 1000) (hhi : hi ≤ 1000) : F_X10_number C a (Int32.ofNat lo) (Int32.ofNat hi) = some (enc (nAt vs T lo hi b)) := by
  obtain ⟨h1, h2, h3⟩ := h
  obtain ⟨b1, b2, b3, b4⟩ := hb
  obtain ⟨t1, t2, -⟩ := tnd_spec (vs := vs) b4
  have hkd := kd_le (vs := vs) (T := T) b
  unfold F_X10_number nAt
  rw [b2, b1, b3]
  by_cases q : kd vs T b = 2
  · rw [if_pos (by rw [q]; rfl)]
    have es : Int32.ofNat (tnd vs T b) - Int32.ofNat b = Int32.ofNat (tnd vs T b - b) := by
      rw [ti_eq, ti_sub (by rw [ti_ofn (by omega), ti_ofn (by omega)]; omega) (by rw [ti_ofn (by omega), ti_ofn (by omega)]; omega), ti_ofn (by omega), ti_ofn (by omega), ti_ofn (by omega)]; omega
    rw [es]
    by_cases e : tnd vs T b - b ≤ 3
    · rw [if_pos (by rw [show (3 : Int32) = Int32.ofNat 3 from rfl, ofn_le (by omega) (by omega)]; exact e)]
      have hin : ∀ j, b ≤ j → j < tnd vs T b → 48 ≤ vs j ∧ vs j ≤ 57 := fun j q1 q2 => by
        rw [tnd_2 q] at q2
        exact (kd_2.mp (rk_in q1 q2)).2
      have loop : ∀ r i acc, i + r = tnd vs T b → b ≤ i → r ≤ 3 → acc ≤ (if r = 3 then 0 else if r = 2 then 9 else if r = 1 then 99 else 999) → L_X10_number_31 C a (Int32.ofNat lo) (Int32.ofNat hi) (Int32.ofNat acc) (Int32.ofNat i) = some (enc (if lo ≤ nvl vs r i acc ∧ nvl vs r i acc ≤ hi then some (nvl vs r i acc) else none)) := by
        intro r
        induction r with
        | zero =>
          intro i acc hi' hbi _ hacc
          simp at hacc
          have e0 : (if Int32.ofNat acc < Int32.ofNat lo then some (-1 : Int32) else if Int32.ofNat hi < Int32.ofNat acc then some (-1 : Int32) else some (Int32.ofNat acc)) = some (enc (if lo ≤ acc ∧ acc ≤ hi then some acc else none)) := by
            by_cases q1 : acc < lo
            · rw [if_pos (by rw [ofn_lt (by omega) (by omega)]; exact q1), if_neg (by omega)]; rfl
            · rw [if_neg (by rw [ofn_lt (by omega) (by omega)]; exact q1)]
              by_cases q2 : hi < acc
              · rw [if_pos (by rw [ofn_lt (by omega) (by omega)]; exact q2), if_neg (by omega)]; rfl
              · rw [if_neg (by rw [ofn_lt (by omega) (by omega)]; exact q2), if_pos (by omega)]; rfl
          rw [L_X10_number_31, b3, if_pos (by rw [show i = tnd vs T b by omega]; exact Int32.le_refl _)]
          exact e0
        | succ r ih =>
          intro i acc hi' hbi hr3 hacc
          obtain ⟨v1, v2⟩ := h3 i (by omega)
          obtain ⟨d1, d2⟩ := hin i hbi (by omega)
          have hacc' : acc ≤ 1000 := by split at hacc <;> (try split at hacc) <;> (try split at hacc) <;> omega
          rw [L_X10_number_31, b3, if_neg (by rw [ofn_le (by omega) (by omega)]; omega), h1, if_neg (by rw [ofn_le (by omega) (by omega)]; omega), ald_ofn (by omega) (by omega), v2, Option.bind_eq_bind, Option.bind_some, dig acc (vs i) hacc' d1 d2, ofn_succ]
          refine ih (i + 1) _ (by omega) (by omega) (by omega) ?_
          rcases (show r = 0 ∨ r = 1 ∨ r = 2 by omega) with w | w | w <;> subst w <;> simp at hacc ⊢ <;> omega
      have l0 := loop (tnd vs T b - b) b 0 (by omega) (Nat.le_refl _) e (Nat.zero_le _)
      rw [show Int32.ofNat 0 = 0 from rfl] at l0
      rw [l0]
      by_cases z : lo ≤ nvl vs (tnd vs T b - b) b 0 ∧ nvl vs (tnd vs T b - b) b 0 ≤ hi
      · rw [if_pos z, if_pos ⟨q, e, z.1, z.2⟩]
      · rw [if_neg z, if_neg (fun u => z u.2.2)]
    · rw [if_neg (by rw [show (3 : Int32) = Int32.ofNat 3 from rfl, ofn_le (by omega) (by omega)]; exact e), if_neg (fun u => e u.2.1)]
      rfl
  · rw [if_neg (by rw [show (2 : Int32) = Int32.ofNat 2 from rfl, ofn_eq (by omega) (by omega)]; exact q), if_neg (fun u => q u.1)]
    rfl
theorem ctk_ctk {b b' : Nat} : ctk (ctk C a T vs b) a T vs b' = ctk C a T vs b' := by
  unfold ctk
  funext x k
  simp only [up2_get]
  by_cases h : x = a ∧ k = 4
  · simp only [if_pos h]
  · by_cases h2 : x = a ∧ k = 2
    · simp only [if_neg h, if_pos h2]
    · by_cases h3 : x = a ∧ k = 3
      · simp only [if_neg h, if_neg h2, if_pos h3]
      · simp only [if_neg h, if_neg h2, if_neg h3]
theorem enc_m1 {o : Option Nat} (h : ∀ v, o = some v → v < 100000) : enc o = -1 ↔ o = none := by
  cases o with
  | none => exact ⟨fun _ => rfl, fun _ => rfl⟩
  | some v => exact ⟨fun w => absurd w (ofn_ne_m1 (by have := h v rfl; omega)), fun w => by cases w⟩
/-- a number behind the word that stands here -/
theorem cl_numBehind (h : TC C a T vs) (ha : a ≠ 2) {b lo hi : Nat} (hb : TK C a T vs b) (hlo : lo ≤ 1000) (hhi : hi ≤ 1000) : F_X10_numberBehind C a (Int32.ofNat lo) (Int32.ofNat hi) = some (enc (nAt vs T lo hi (nx vs T b)), ctk C a T vs (if nAt vs T lo hi (nx vs T b) = none then nx vs T b else nx vs T (nx vs T b))) := by
  have hn := nx_spec (vs := vs) hb.2.2.2
  have k1 : TK (ctk C a T vs (nx vs T b)) a T vs (nx vs T b) := ctk_TK hn.2.1
  have k2 := h.tk ha (nx vs T b)
  unfold F_X10_numberBehind
  rw [cl_advTK h ha hb, Option.bind_eq_bind, Option.bind_some, cl_num k2 k1 hlo hhi, Option.bind_eq_bind, Option.bind_some]
  cases q : nAt vs T lo hi (nx vs T b) with
  | none => rw [if_pos rfl, if_pos (show enc none = -1 from rfl)]
  | some v =>
    have := nAt_rg q
    rw [if_neg (show ¬ enc (some v) = -1 from ofn_ne_m1 (by omega)), if_neg (by intro w; cases w), cl_advTK k2 ha k1, Option.bind_some, ctk_ctk]
end
