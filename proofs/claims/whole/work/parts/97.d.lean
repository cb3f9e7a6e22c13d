section
variable {C C' M M' X X' : HI} {a T n d b : Nat} {vs : Nat → Nat} {W W' : Nat → Int32}
theorem m_rd23 (hd : d < 12) (X : HI) (p b : Nat) : L_X12_readDish_23 (Int32.ofNat d) 5 (mp X p b) = (F_X12_readFirst (mp (adX X d (-1) (-1) (-1)) p b) (Int32.ofNat d)).bind fun r8 => if r8.1 = 0 then some ((0 : Int32), r8.2) else some ((1 : Int32), (up2 r8.2 206 0 ((r8.2 206 0) + (1 : Int32)))) := by
  rw [L_X12_readDish_23, if_neg (by decide), show (5 : Int32) = Int32.ofNat 5 from rfl, m_at, Option.bind_eq_bind, Option.bind_some, if_pos (inB_ofn (by omega) (by omega)), ofn_clamp (by omega), ofn_succ, mp_up206]
  rw [L_X12_readDish_23, if_neg (by decide), m_at, Option.bind_eq_bind, Option.bind_some, if_pos (inB_ofn (by omega) (by omega)), ofn_clamp (by omega), ofn_succ, mp_up206]
  rw [L_X12_readDish_23, if_neg (by decide), m_at, Option.bind_eq_bind, Option.bind_some, if_pos (inB_ofn (by omega) (by omega)), ofn_clamp (by omega), ofn_succ, mp_up206]
  rw [L_X12_readDish_23, if_pos (by decide), show 17 + 8 * d + 5 = 22 + 8 * d by omega, show 17 + 8 * d + (5 + 1) = 23 + 8 * d by omega, show 17 + 8 * d + (5 + 1 + 1) = 24 + 8 * d by omega]
  rfl
theorem adX_206 (Y : HI) {ts : Nat → Nat} {y q u : Int32} (hY : ∀ k, (k < 22 + 8 * d ∨ 25 + 8 * d ≤ k) → Y 206 k = tsW W d ts 5 k) : (up2 (adX Y d y q u) 206 0 (Int32.ofNat (d + 1))) 206 = adW W d ts y q u := by
  funext k
  unfold adX adW
  rw [up206g0, up206g0, up206g0, up206g0]
  by_cases k0 : k = 0
  · rw [if_pos k0, if_pos k0]
  · rw [if_neg k0, if_neg k0]
    by_cases k4 : k = 24 + 8 * d
    · rw [if_pos k4, if_neg (by omega), if_neg (by omega), if_neg (by omega), if_pos k4]
    · rw [if_neg k4]
      by_cases k3 : k = 23 + 8 * d
      · rw [if_pos k3, if_neg (by omega), if_neg (by omega), if_pos k3]
      · rw [if_neg k3]
        by_cases k2 : k = 22 + 8 * d
        · rw [if_pos k2, if_neg (by omega), if_pos k2]
        · rw [if_neg k2, if_neg k2, if_neg k3, if_neg k4, hY k (by omega)]
          unfold tsW
          by_cases z : 17 + 8 * d ≤ k ∧ k < 22 + 8 * d
          · rw [if_pos z, if_pos (by omega)]
          · rw [if_neg z, if_neg (by omega)]
theorem adX_ne (X : HI) {y q u : Int32} {x : Nat} (h : x ≠ 206) : adX X d y q u x = X x := by unfold adX; rw [up2_ne _ _ _ h, up2_ne _ _ _ h, up2_ne _ _ _ h]
theorem adX_k (X : HI) {y q u : Int32} {k : Nat} (h : k < 22 + 8 * d ∨ 25 + 8 * d ≤ k) : adX X d y q u 206 k = X 206 k := by unfold adX; rw [up206g0, up206g0, up206g0, if_neg (by omega), if_neg (by omega), if_neg (by omega)]
theorem lf_dish (h : LSt C X T vs b n) (hk : kd vs T b = 1) : lfO (if (12 : Int32) ≤ (C 141 0) then some ((0 : Int32), C) else (F_X6_readDish C).bind fun r41 => if r41.1 = 0 then some ((0 : Int32), r41.2) else some ((1 : Int32), r41.2)) (F_X12_readDish (mp X (rk vs T 1 b) b)) C X T vs := by
  obtain ⟨h1, h2, h3, h4, h5⟩ := id h
  have hb := h.tk
  have hT := h1.2.1
  have hn12 := h5.1.2.1
  have hw0 : X 206 0 = Int32.ofNat n := h5.1.1
  have hc0 : C 141 0 = Int32.ofNat n := h4.2.1.trans hw0
  have hn1 := nx_spec (vs := vs) hb
  have hn2 := nx_spec (vs := vs) hn1.2.1
  have hd0 : F_X12_dishes (mp X (rk vs T 1 b) b) = some (Int32.ofNat n) := by unfold F_X12_dishes; rw [mp_ne _ _ _ (by decide), hw0]
  unfold F_X12_readDish
  simp only [Option.bind_eq_bind]
  rw [hc0, hd0, Option.bind_some]
  by_cases h12 : n = 12
  · right
    refine ⟨C, X, _, _, by rw [if_pos (by rw [h12]; decide)], by rw [if_pos (by rw [h12]; rfl)], hb, h2.1, frL.refl _, frX.refl _⟩
  · have hd : n < 12 := by omega
    rw [if_neg (by rw [show (12 : Int32) = Int32.ofNat 12 from rfl, ofn_le (by omega) (by omega)]; omega), if_neg (by rw [show (12 : Int32) = Int32.ofNat 12 from rfl, ofn_eq (by omega) (by omega)]; exact h12)]
    have en : skb vs T (rk vs T 1 b) = nx vs T b := by rw [← tnd_1 hk]; rfl
    have e2 := m_tastes h3 (p := rk vs T 1 b) (c := b) (d := n) (rk_le hb).2 hd
    rw [en] at e2
    generalize hb1 : nx vs T b = b1 at *
    have k1 : TK (ctk C 138 T vs b1) 138 T vs b1 := ctk_TK hn1.2.1
    have c1 : TC (ctk C 138 T vs b1) 138 T vs := h1.tk (by decide) _
    have ea := cl_advTK h1 (by decide) h2
    rw [hb1] at ea
    unfold F_X6_readDish
    simp only [Option.bind_eq_bind]
    rw [ea, Option.bind_some, cl_isFig k1 hT, Option.bind_some, e2, Option.bind_some]
    dsimp only
    have hts : frX X (up1 X 206 (tsW (X 206) n (fun i => vs (b1 + i) - 48) (min 5 (rk vs T 2 b1 - b1)))) := ⟨fun x hx => by rw [up1_get, if_neg hx], fun k hk => by
      rw [up1_get, if_pos rfl]
      unfold tsW
      rw [if_neg (by omega)]⟩
    by_cases h5t : rk vs T 2 b1 = b1 + 5
    · obtain ⟨r1, r2, r3⟩ := rk5_kd h5t
      rw [bi_t (by simp only [decide_eq_true_eq]; exact h5t), if_neg (show ¬ (1 : Int32) = 0 by decide), if_neg (show ¬ (1 : Int32) = 0 by decide), m_rd23 hd, h5t, show min 5 (b1 + 5 - b1) = 5 by omega]
      rw [h5t, show min 5 (b1 + 5 - b1) = 5 by omega] at hts
      have e5 : (ctk C 138 T vs b1) 141 0 * (5 : Int32) = Int32.ofNat (5 * n) := by rw [ctk_ne (by decide), hc0, Int32.mul_comm, Int32.ofNat_mul]; rfl
      obtain ⟨C5, a1, a2, a3⟩ := cl_tastes (b := b1) hd h5t 5 0 (ctk C 138 T vs b1) (by omega) c1 k1
      have a1' : L_X6_readDish_29 (Int32.ofNat (5 * n)) 0 (ctk C 138 T vs b1) = dTail C5 := a1
      rw [e5, a1']
      have c5 : TC C5 138 T vs := ⟨by rw [a2 138 (by decide)]; exact c1.1, hT, fun i hi => by rw [a2 2 (by decide)]; exact c1.2.2 i hi⟩
      have k5 : TK C5 138 T vs b1 := by unfold TK; rw [a2 138 (by decide)]; exact k1
      have b5 : C5 141 0 = Int32.ofNat n := by rw [a2 141 (by decide), ctk_ne (by decide)]; exact hc0
      unfold dTail
      rw [cl_advTK c5 (by decide) k5, Option.bind_some]
      generalize hb2 : nx vs T b1 = b2 at *
      have k6 : TK (ctk C5 138 T vs b2) 138 T vs b2 := ctk_TK hn2.2.1
      have c6 : TC (ctk C5 138 T vs b2) 138 T vs := c5.tk (by decide) _
      have es2 : skb vs T (b1 + 5) = b2 := by rw [← r2]; exact hb2
      have hle5 : b1 + 5 ≤ T := by have := (rk_le (vs := vs) (κ := 2) hn1.2.1).2; omega
      rw [cl_word c6 k6 W47, Option.bind_some]
      -- what both come to
      have fin : ∀ (y q u : Int32) (b' p' c' : Nat), skb vs T p' = b' → p' ≤ T → b' ≤ T → rg y (-1) 9999 → rg q (-1) 7 → rg u (-1) 7 → ∀ Y : HI, (∀ x, x ≠ 206 → Y x = X x) → (∀ k, (k < 22 + 8 * n ∨ 25 + 8 * n ≤ k) → Y 206 k = tsW (X 206) n (fun i => vs (b1 + i) - 48) 5 k) → lfO (some (1, adC (ctk C5 138 T vs b') n y q u)) (some (1, up2 (mp (adX Y n y q u) p' c') 206 0 ((mp (adX Y n y q u) p' c' 206 0) + (1 : Int32)))) C X T vs := by
        intro y q u b' p' c' s1 s2 s3 ry rq ru Y y1 y2
        left
        have w0 : mp (adX Y n y q u) p' c' 206 0 = Int32.ofNat n := by
          rw [mp_ne _ _ _ (by decide), adX_k _ (by omega), y2 0 (by omega)]
          unfold tsW
          rw [if_neg (by omega)]; exact hw0
        refine ⟨_, up2 (adX Y n y q u) 206 0 (Int32.ofNat (n + 1)), p', c', b', n + 1, rfl, ?_, s2, s1, ⟨?_, ?_, ?_, ?_, ?_⟩, ?_, ?_⟩
        · rw [w0, ofn_succ, mp_up206]
        · unfold adC
          exact ((((c5.tk (by decide) b').up (by decide) (Or.inl (by decide))).up (by decide) (Or.inl (by decide))).up (by decide) (Or.inl (by decide))).up (by decide) (Or.inl (by decide))
        · unfold adC TK
          rw [up2_ne _ _ _ (by decide), up2_ne _ _ _ (by decide), up2_ne _ _ _ (by decide), up2_ne _ _ _ (by decide)]
          exact ctk_TK s3
        · refine ⟨?_, hT, fun i hi => ?_⟩
          · rw [up2_ne _ _ _ (by decide), adX_ne _ (by decide), y1 205 (by decide)]; exact h3.1
          · rw [up2_ne _ _ _ (by decide), adX_ne _ (by decide), y1 211 (by decide)]; exact h3.2.2 i hi
        · rw [adX_206 Y y2]
          have fx : ∀ x, x ≠ 138 → x ≠ 142 → (ctk C5 138 T vs b') x = C x := fun x q1 q2 => by rw [ctk_ne q1, a2 x q2, ctk_ne q1]
          refine ad_LR (C := C) h4 hd ?_ ?_ (fun i => ?_) (fun e => ?_) (fun e => ?_) (fun e => ?_)
          · unfold adC
            rw [up2_ne _ _ _ (by decide), up2_ne _ _ _ (by decide), up2_ne _ _ _ (by decide), up2_ne _ _ _ (by decide), fx 140 (by decide) (by decide)]
          · unfold adC
            rw [up2_ne _ _ _ (by decide), up2_ne _ _ _ (by decide), up2_ne _ _ _ (by decide), up2_get, if_pos ⟨rfl, rfl⟩]
          · unfold adC
            rw [up2_ne _ _ _ (by decide), up2_ne _ _ _ (by decide), up2_ne _ _ _ (by decide), up2_ne _ _ _ (by decide), ctk_ne (by decide), a3 i, ctk_ne (by decide)]
            rfl
          · unfold adC
            rw [up2_ne _ _ _ (by decide), up2_ne _ _ _ (by decide), up2_get]
            by_cases z : e = n
            · rw [if_pos ⟨rfl, z⟩, if_pos z]
            · rw [if_neg (fun w => z w.2), if_neg z, up2_ne _ _ _ (by decide), fx 143 (by decide) (by decide)]
          · unfold adC
            rw [up2_ne _ _ _ (by decide), up2_get]
            by_cases z : e = n
            · rw [if_pos ⟨rfl, z⟩, if_pos z]
            · rw [if_neg (fun w => z w.2), if_neg z, up2_ne _ _ _ (by decide), up2_ne _ _ _ (by decide), fx 144 (by decide) (by decide)]
          · unfold adC
            rw [up2_get]
            by_cases z : e = n
            · rw [if_pos ⟨rfl, z⟩, if_pos z]
            · rw [if_neg (fun w => z w.2), if_neg z, up2_ne _ _ _ (by decide), up2_ne _ _ _ (by decide), up2_ne _ _ _ (by decide), fx 145 (by decide) (by decide)]
        · rw [adX_206 Y y2]
          exact ad_WOk h5 hd (fun k hk => by have := r3 k hk; show vs (b1 + k) - 48 ≤ 9; omega) ry rq ru
        · intro x q1 q2
          unfold adC
          rw [up2_ne _ _ _ (by omega), up2_ne _ _ _ (by omega), up2_ne _ _ _ (by omega), up2_ne _ _ _ (by omega), ctk_ne q1, a2 x (by omega), ctk_ne q1]
        · refine ⟨fun x hx => by rw [up2_ne _ _ _ hx, adX_ne _ hx, y1 x hx], fun k hk => ?_⟩
          rw [up206g0, if_neg (by omega), adX_k _ (by omega), y2 k (by omega)]
          unfold tsW
          rw [if_neg (by omega)]
      have Y1 : ∀ x, x ≠ 206 → (adX (up1 X 206 (tsW (X 206) n (fun i => vs (b1 + i) - 48) 5)) n (-1) (-1) (-1)) x = X x := fun x hx => by rw [adX_ne _ hx, up1_get, if_neg hx]
      have Y2 : ∀ k, (k < 22 + 8 * n ∨ 25 + 8 * n ≤ k) → (adX (up1 X 206 (tsW (X 206) n (fun i => vs (b1 + i) - 48) 5)) n (-1) (-1) (-1)) 206 k = tsW (X 206) n (fun i => vs (b1 + i) - 48) 5 k := fun k hk => by rw [adX_k _ hk, up1_get, if_pos rfl]
      have hTM : TM (adX (up1 X 206 (tsW (X 206) n (fun i => vs (b1 + i) - 48) 5)) n (-1) (-1) (-1)) T vs := ⟨by rw [Y1 205 (by decide)]; exact h3.1, hT, fun i hi => by rw [Y1 211 (by decide)]; exact h3.2.2 i hi⟩
      by_cases w : wd vs T b2 w_first = true
      · rw [bi_t w, if_neg (show ¬ (1 : Int32) = 0 by decide)]
        rcases lf_first (d := n) (p := b1 + 5) (c := b1) c6 k6 hTM hle5 es2 w (by rw [ctk_ne (by decide)]; exact b5) hd with ⟨y, q, u, b', p', c', f1, f2, f3, f4, f5, f6, f7, f8⟩ | ⟨p', f, f1, f2, f3⟩
        · rw [f1, f2, Option.bind_some, if_pos (Or.inr rfl), Option.bind_some, if_neg (show ¬ (1 : Int32) = 0 by decide), Option.bind_some, if_neg (show ¬ (1 : Int32) = 0 by decide), ctk_ctk]
          exact fin y q u b' p' c' f3 f4 f5 f6 f7 f8 _ Y1 Y2
        · right
          rw [f1, f2, Option.bind_some, if_pos (Or.inl rfl), Option.bind_some, if_pos rfl, Option.bind_some, if_pos rfl, ctk_ctk]
          refine ⟨ctk C5 138 T vs f, _, p', f, rfl, rfl, f3, (ctk_TK f3).1, fun x q1 q2 => by rw [ctk_ne q1, a2 x (by omega), ctk_ne q1], ⟨fun x hx => Y1 x hx, fun k hk => ?_⟩⟩
          rw [Y2 k (by omega)]
          unfold tsW
          rw [if_neg (by omega)]
      · have e6 := m_passes (hTM.mp (b1 + 5) b1) (mp_10 _ _ _) hle5 W50
        rw [es2, mp_mp, if_neg w, bi_f w] at e6
        have ef : F_X12_readFirst (mp (adX (up1 X 206 (tsW (X 206) n (fun i => vs (b1 + i) - 48) 5)) n (-1) (-1) (-1)) (b1 + 5) b1) (Int32.ofNat n) = some (1, mp (adX (up1 X 206 (tsW (X 206) n (fun i => vs (b1 + i) - 48) 5)) n (-1) (-1) (-1)) b2 b2) := by
          unfold F_X12_readFirst
          simp only [Option.bind_eq_bind]
          rw [e6, Option.bind_some, if_pos rfl]
        have ha : (ctk C5 138 T vs b2) 141 0 = Int32.ofNat n := by rw [ctk_ne (by decide)]; exact b5
        rw [bi_f w, if_pos rfl, cl_add ha hd, Option.bind_some, Option.bind_some, if_neg (show ¬ (1 : Int32) = 0 by decide), ef, Option.bind_some, if_neg (show ¬ (1 : Int32) = 0 by decide)]
        have rm : rg (-1 : Int32) (-1) 7 := ⟨by rw [ti_m1]; omega, by rw [ti_m1]; omega⟩
        have rm9 : rg (-1 : Int32) (-1) 9999 := ⟨by rw [ti_m1]; omega, by rw [ti_m1]; omega⟩
        exact fin (-1) (-1) (-1) b2 b2 b2 (by rw [← hb2]; exact nx_skb hn1.2.1) hn2.2.1 hn2.2.1 rm9 rm rm (up1 X 206 (tsW (X 206) n (fun i => vs (b1 + i) - 48) 5)) (fun x hx => by rw [up1_get, if_neg hx]) (fun k hk => by rw [up1_get, if_pos rfl])
    · right
      rw [bi_f (by simp only [decide_eq_true_eq]; exact h5t), if_pos rfl, if_pos rfl, Option.bind_some, if_pos rfl]
      exact ⟨ctk C 138 T vs b1, _, _, b1, rfl, rfl, hn1.2.1, (ctk_TK hn1.2.1).1, frL_tk, hts⟩
end
