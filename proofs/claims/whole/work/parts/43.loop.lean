/-! the law's loop and its start -/
theorem and63 (x : Int32) : ∃ n, n < 64 ∧ x &&& 63 = Int32.ofNat n := by
  refine ⟨(x.toBitVec &&& 63#32).toNat, ?_, ?_⟩
  · rw [BitVec.toNat_and]
    exact Nat.lt_succ_of_le (Nat.and_le_right)
  · apply Int32.toBitVec.inj
    rw [Int32.toBitVec_and, Int32.toBitVec_ofNat']
    rw [BitVec.ofNat_toNat]
    simp
theorem ofn_toInt {n : Nat} (h : n < 2147483648) : (Int32.ofNat n).toInt = n := Int32.toInt_ofNat_of_lt h
theorem ofn_clamp {n : Nat} (h : n < 2147483648) : (Int32.ofNat n).toNatClampNeg = n := by
  show (Int32.ofNat n).toInt.toNat = n
  rw [ofn_toInt h]; rfl
theorem ofn_nneg {n : Nat} (h : n < 2147483648) : ¬ Int32.ofNat n < 0 := by
  rw [Int32.lt_iff_toInt_lt, ofn_toInt h]
  show ¬ ((n : Int) < 0)
  omega
theorem vp_ofn {n m : Nat} (h : n < m) (hm : n < 2147483648) : vp_in (Int32.ofNat n) m := by
  rintro (q | q)
  · exact ofn_nneg hm q
  · rw [ofn_clamp hm] at q; omega
theorem small6 {j : Int32} (h0 : 0 ≤ j) (h5 : j ≤ 5) : ∃ n, n ≤ 5 ∧ j = Int32.ofNat n := by
  rw [Int32.le_iff_toInt_le] at h0 h5
  have a0 : (0 : Int32).toInt = 0 := by decide
  have a5 : (5 : Int32).toInt = 5 := by decide
  rw [a0] at h0
  rw [a5] at h5
  refine ⟨j.toInt.toNat, by omega, ?_⟩
  apply Int32.toInt_inj.mp
  rw [ofn_toInt (by omega)]
  omega
theorem inS_of {g : gX} {q : Nat} (h : 6 * q + 6 ≤ gL g) (hL : gL g ≤ 3072) : inS g (Int32.ofNat (6 * q)) := by
  intro j h0 h5
  obtain ⟨n, hn, rfl⟩ := small6 h0 h5
  rw [← Int32.ofNat_add]
  exact vp_ofn (by omega) (by omega)
section
variable {g : gX} {nc ns : Nat} {J : HJ} {P : Nat → Nat → Option Nat} {I : HI} {G : HI → Prop}
theorem Y_end {ls : List (Option Value)} (h1 : nc ≤ 601024) (h2 : ns ≤ 7293034) {S : hS} : Y g mL_law_ (ZL g) nc ns 2315 ls [] S := by
  refine Y_iconst (pc := 2315) dL_law__2315 (v := 1) rfl ?_
  refine Y_widen h1 h2 ?_
  intro p e s m args below meth c A F H locs la q1 q2 q3
  have ha : args = #[.ref (gb g)] := F.2.2.2.2.2.2.2.2.1
  subst ha
  by_cases hA : ∀ q, A q → s.heap.size ≤ q
  · refine va_forget (fun q hq => hA _ (q2.2.2 q hq)) ?_
    have k9 := lw_ret (p := p) (l := gl g) (e := e) (s := s) (m := m) (below := below) (meth := meth) (c := c) (b := gb g) (H := H) (ls := la) (pc := 2316) F.1 F.2.1 F.2.2.1 F.2.2.2.2.2.2.1 dL_law__2316
    intro T hT X
    obtain ⟨t, a1, b1⟩ := k9 T hT X
    exact ⟨t, a1, fun _ => b1⟩
  · intro T hT X
    exact ⟨_, Steps.refl _, fun h => absurd h hA⟩
def s0L : Nat := sT NT - sT 1
theorem s0L_le : s0L ≤ 1000000 := by unfold s0L; decide +kernel
theorem lt_sub6 {L : Nat} (h : L ≤ 4000) : (Int32.ofNat L - 6).toInt = (L : Int) - 6 := by
  rw [Int32.toInt_sub, ofn_toInt (by omega)]
  show Int.bmod ((L : Int) - 6) (2 ^ 32) = _
  rw [Int.bmod_eq_of_le] <;> omega
theorem law_case {i : Int32} {n : Nat} (hS : Steps G) (hi : inS g i) (hr9 : rL nc ns) (hp : Wp P) (hG : G I) (k : KL g G nc ns i) (hn : n < 64) : Y g mL_law_ (ZL g) nc ns 40 (lsL i none none) [.int (Int32.ofNat n)] (NT, I, J, P) := by
  obtain ⟨s0, s1, s2, s3, s4, s5, s6, s7, s8, s9, s10, s11, s12, s13, s14, s15, s16, s17, s18, s19, s20, s21, s22, s23, s24, s25, s26, s27, s28, s29, s30, s31, s32, s33, s34, s35, s36, s37, s38, s39, s40, s41, s42, s43, s44, s45, s46⟩ := hS
  rcases Nat.lt_or_ge n 47 with h | h
  · rcases Nat.lt_or_ge n 23 with h23 | h23
    · rcases Nat.lt_or_ge n 11 with h11 | h11
      · rcases Nat.lt_or_ge n 5 with h5 | h5
        · rcases Nat.lt_or_ge n 2 with h2 | h2
          · rcases Nat.lt_or_ge n 1 with h1 | h1
            · obtain rfl : n = 0 := by omega
              exact Y_tableIn (pc := 40) (tgt := 244) dL_law__40 (by decide) (by decide) (off := 204) (by decide) (by decide) (LC_feed hi hr9 hp (s0 _ _ _ _ _ _ hG) k)
            · obtain rfl : n = 1 := by omega
              exact Y_tableIn (pc := 40) (tgt := 317) dL_law__40 (by decide) (by decide) (off := 277) (by decide) (by decide) (LC_end hi hr9 hp (s1 _ _ hG) k)
          · rcases Nat.lt_or_ge n 3 with h3 | h3
            · obtain rfl : n = 2 := by omega
              exact Y_tableIn (pc := 40) (tgt := 342) dL_law__40 (by decide) (by decide) (off := 302) (by decide) (by decide) (LC_life hi hr9 hp (s2 _ hG) k)
            · rcases Nat.lt_or_ge n 4 with h4 | h4
              · obtain rfl : n = 3 := by omega
                exact Y_tableIn (pc := 40) (tgt := 386) dL_law__40 (by decide) (by decide) (off := 346) (by decide) (by decide) (LC_law hi hr9 hp (s3 _ hG) k)
              · obtain rfl : n = 4 := by omega
                exact Y_tableIn (pc := 40) (tgt := 430) dL_law__40 (by decide) (by decide) (off := 390) (by decide) (by decide) (LC_fault hi hr9 hp (s4 _ hG) k)
        · rcases Nat.lt_or_ge n 8 with h8 | h8
          · rcases Nat.lt_or_ge n 6 with h6 | h6
            · obtain rfl : n = 5 := by omega
              exact Y_tableIn (pc := 40) (tgt := 443) dL_law__40 (by decide) (by decide) (off := 403) (by decide) (by decide) (LC_dish hi hr9 hp (s5 _ _ _ hG) k)
            · rcases Nat.lt_or_ge n 7 with h7 | h7
              · obtain rfl : n = 6 := by omega
                exact Y_tableIn (pc := 40) (tgt := 511) dL_law__40 (by decide) (by decide) (off := 471) (by decide) (by decide) (LC_far hi hr9 hp (s6 _ _ _ hG) k)
              · obtain rfl : n = 7 := by omega
                exact Y_tableIn (pc := 40) (tgt := 579) dL_law__40 (by decide) (by decide) (off := 539) (by decide) (by decide) (LC_near hi hr9 hp (s7 _ _ hG) k)
          · rcases Nat.lt_or_ge n 9 with h9 | h9
            · obtain rfl : n = 8 := by omega
              exact Y_tableIn (pc := 40) (tgt := 635) dL_law__40 (by decide) (by decide) (off := 595) (by decide) (by decide) (LC_left hi hr9 hp (s8 _ hG) k)
            · rcases Nat.lt_or_ge n 10 with h10 | h10
              · obtain rfl : n = 9 := by omega
                exact Y_tableIn (pc := 40) (tgt := 648) dL_law__40 (by decide) (by decide) (off := 608) (by decide) (by decide) (LC_spoon hi hr9 hp (s9 _ _ hG) k)
              · obtain rfl : n = 10 := by omega
                exact Y_tableIn (pc := 40) (tgt := 704) dL_law__40 (by decide) (by decide) (off := 664) (by decide) (by decide) (LC_crust hi hr9 hp (s10 _ hG) k)
      · rcases Nat.lt_or_ge n 17 with h17 | h17
        · rcases Nat.lt_or_ge n 14 with h14 | h14
          · rcases Nat.lt_or_ge n 12 with h12 | h12
            · obtain rfl : n = 11 := by omega
              exact Y_tableIn (pc := 40) (tgt := 717) dL_law__40 (by decide) (by decide) (off := 677) (by decide) (by decide) (LC_had hi hr9 hp (s11 _ _ _ _ _ hG) k)
            · rcases Nat.lt_or_ge n 13 with h13 | h13
              · obtain rfl : n = 12 := by omega
                exact Y_tableIn (pc := 40) (tgt := 809) dL_law__40 (by decide) (by decide) (off := 769) (by decide) (by decide) (LC_forget hi hr9 hp (s12 _ _ hG) k)
              · obtain rfl : n = 13 := by omega
                exact Y_tableIn (pc := 40) (tgt := 865) dL_law__40 (by decide) (by decide) (off := 825) (by decide) (by decide) (LC_reach hi hr9 hp (s13 _ _ hG) k)
          · rcases Nat.lt_or_ge n 15 with h15 | h15
            · obtain rfl : n = 14 := by omega
              exact Y_tableIn (pc := 40) (tgt := 921) dL_law__40 (by decide) (by decide) (off := 881) (by decide) (by decide) (LC_house hi hr9 hp (s14 _ _ hG) k)
            · rcases Nat.lt_or_ge n 16 with h16 | h16
              · obtain rfl : n = 15 := by omega
                exact Y_tableIn (pc := 40) (tgt := 977) dL_law__40 (by decide) (by decide) (off := 937) (by decide) (by decide) (LC_look hi hr9 hp (s15 _ hG) k)
              · obtain rfl : n = 16 := by omega
                exact Y_tableIn (pc := 40) (tgt := 990) dL_law__40 (by decide) (by decide) (off := 950) (by decide) (by decide) (LC_evenings hi hr9 hp (s16 _ _ hG) k)
        · rcases Nat.lt_or_ge n 20 with h20 | h20
          · rcases Nat.lt_or_ge n 18 with h18 | h18
            · obtain rfl : n = 17 := by omega
              exact Y_tableIn (pc := 40) (tgt := 1046) dL_law__40 (by decide) (by decide) (off := 1006) (by decide) (by decide) (LC_menu hi hr9 hp (s17 _ _ hG) k)
            · rcases Nat.lt_or_ge n 19 with h19 | h19
              · obtain rfl : n = 18 := by omega
                exact Y_tableIn (pc := 40) (tgt := 1102) dL_law__40 (by decide) (by decide) (off := 1062) (by decide) (by decide) (LC_fewest hi hr9 hp (s18 _ _ _ hG) k)
              · obtain rfl : n = 19 := by omega
                exact Y_tableIn (pc := 40) (tgt := 1170) dL_law__40 (by decide) (by decide) (off := 1130) (by decide) (by decide) (LC_order hi hr9 hp (s19 _ _ _ hG) k)
          · rcases Nat.lt_or_ge n 21 with h21 | h21
            · obtain rfl : n = 20 := by omega
              exact Y_tableIn (pc := 40) (tgt := 1238) dL_law__40 (by decide) (by decide) (off := 1198) (by decide) (by decide) (LC_he hi hr9 hp (s20 _ hG) k)
            · rcases Nat.lt_or_ge n 22 with h22 | h22
              · obtain rfl : n = 21 := by omega
                exact Y_tableIn (pc := 40) (tgt := 1282) dL_law__40 (by decide) (by decide) (off := 1242) (by decide) (by decide) (LC_unknown hi hr9 hp (s21 _ hG) k)
              · obtain rfl : n = 22 := by omega
                exact Y_tableIn (pc := 40) (tgt := 1326) dL_law__40 (by decide) (by decide) (off := 1286) (by decide) (by decide) (LC_serve hi hr9 hp (s22 _ hG) k)
    · rcases Nat.lt_or_ge n 35 with h35 | h35
      · rcases Nat.lt_or_ge n 29 with h29 | h29
        · rcases Nat.lt_or_ge n 26 with h26 | h26
          · rcases Nat.lt_or_ge n 24 with h24 | h24
            · obtain rfl : n = 23 := by omega
              exact Y_tableIn (pc := 40) (tgt := 1370) dL_law__40 (by decide) (by decide) (off := 1330) (by decide) (by decide) (LC_jars hi hr9 hp (s23 _ _ hG) k)
            · rcases Nat.lt_or_ge n 25 with h25 | h25
              · obtain rfl : n = 24 := by omega
                exact Y_tableIn (pc := 40) (tgt := 1426) dL_law__40 (by decide) (by decide) (off := 1386) (by decide) (by decide) (LC_kitchen hi hr9 hp (s24 _ _ hG) k)
              · obtain rfl : n = 25 := by omega
                exact Y_tableIn (pc := 40) (tgt := 1482) dL_law__40 (by decide) (by decide) (off := 1442) (by decide) (by decide) (LC_dated hi hr9 hp (s25 _ _ hG) k)
          · rcases Nat.lt_or_ge n 27 with h27 | h27
            · obtain rfl : n = 26 := by omega
              exact Y_tableIn (pc := 40) (tgt := 1507) dL_law__40 (by decide) (by decide) (off := 1467) (by decide) (by decide) (LC_gap hi hr9 hp (s26 _ hG) k)
            · rcases Nat.lt_or_ge n 28 with h28 | h28
              · obtain rfl : n = 27 := by omega
                exact Y_tableIn (pc := 40) (tgt := 1520) dL_law__40 (by decide) (by decide) (off := 1480) (by decide) (by decide) (LC_lover hi hr9 hp (s27 _ hG) k)
              · obtain rfl : n = 28 := by omega
                exact Y_tableIn (pc := 40) (tgt := 1533) dL_law__40 (by decide) (by decide) (off := 1493) (by decide) (by decide) (LC_oldest hi hr9 hp (s28 _ hG) k)
        · rcases Nat.lt_or_ge n 32 with h32 | h32
          · rcases Nat.lt_or_ge n 30 with h30 | h30
            · obtain rfl : n = 29 := by omega
              exact Y_tableIn (pc := 40) (tgt := 1546) dL_law__40 (by decide) (by decide) (off := 1506) (by decide) (by decide) (LC_sad hi hr9 hp (s29 _ hG) k)
            · rcases Nat.lt_or_ge n 31 with h31 | h31
              · obtain rfl : n = 30 := by omega
                exact Y_tableIn (pc := 40) (tgt := 1559) dL_law__40 (by decide) (by decide) (off := 1519) (by decide) (by decide) (LC_hosts hi hr9 hp (s30 _ _ _ hG) k)
              · obtain rfl : n = 31 := by omega
                exact Y_tableIn (pc := 40) (tgt := 1627) dL_law__40 (by decide) (by decide) (off := 1587) (by decide) (by decide) (LC_breaks hi hr9 hp (s31 _ _ hG) k)
          · rcases Nat.lt_or_ge n 33 with h33 | h33
            · obtain rfl : n = 32 := by omega
              exact Y_tableIn (pc := 40) (tgt := 1683) dL_law__40 (by decide) (by decide) (off := 1643) (by decide) (by decide) (LC_twins hi hr9 hp (s32 _ hG) k)
            · rcases Nat.lt_or_ge n 34 with h34 | h34
              · obtain rfl : n = 33 := by omega
                exact Y_tableIn (pc := 40) (tgt := 1696) dL_law__40 (by decide) (by decide) (off := 1656) (by decide) (by decide) (LC_next hi hr9 hp (s33 _ hG) k)
              · obtain rfl : n = 34 := by omega
                exact Y_tableIn (pc := 40) (tgt := 1709) dL_law__40 (by decide) (by decide) (off := 1669) (by decide) (by decide) (LC_warlike hi hr9 hp (s34 _ hG) k)
      · rcases Nat.lt_or_ge n 41 with h41 | h41
        · rcases Nat.lt_or_ge n 38 with h38 | h38
          · rcases Nat.lt_or_ge n 36 with h36 | h36
            · obtain rfl : n = 35 := by omega
              exact Y_tableIn (pc := 40) (tgt := 1722) dL_law__40 (by decide) (by decide) (off := 1682) (by decide) (by decide) (LC_company hi hr9 hp (s35 _ _ hG) k)
            · rcases Nat.lt_or_ge n 37 with h37 | h37
              · obtain rfl : n = 36 := by omega
                exact Y_tableIn (pc := 40) (tgt := 1778) dL_law__40 (by decide) (by decide) (off := 1738) (by decide) (by decide) (LC_odds hi hr9 hp (s36 _ _ _ hG) k)
              · obtain rfl : n = 37 := by omega
                exact Y_tableIn (pc := 40) (tgt := 1846) dL_law__40 (by decide) (by decide) (off := 1806) (by decide) (by decide) (LC_share hi hr9 hp (s37 _ _ hG) k)
          · rcases Nat.lt_or_ge n 39 with h39 | h39
            · obtain rfl : n = 38 := by omega
              exact Y_tableIn (pc := 40) (tgt := 1902) dL_law__40 (by decide) (by decide) (off := 1862) (by decide) (by decide) (LC_trial hi hr9 hp (fun x2 hx => s38 _ _ x2 hG hx) k)
            · rcases Nat.lt_or_ge n 40 with h40 | h40
              · obtain rfl : n = 39 := by omega
                exact Y_tableIn (pc := 40) (tgt := 1986) dL_law__40 (by decide) (by decide) (off := 1946) (by decide) (by decide) (LC_span hi hr9 hp (fun x2 hx => s39 _ _ x2 hG hx) k)
              · obtain rfl : n = 40 := by omega
                exact Y_tableIn (pc := 40) (tgt := 2070) dL_law__40 (by decide) (by decide) (off := 2030) (by decide) (by decide) (LC_led hi hr9 hp (fun x2 hx => s40 _ _ x2 hG hx) k)
        · rcases Nat.lt_or_ge n 44 with h44 | h44
          · rcases Nat.lt_or_ge n 42 with h42 | h42
            · obtain rfl : n = 41 := by omega
              exact Y_tableIn (pc := 40) (tgt := 2154) dL_law__40 (by decide) (by decide) (off := 2114) (by decide) (by decide) (LC_log hi hr9 hp (s41 _ _ _ hG) k)
            · rcases Nat.lt_or_ge n 43 with h43 | h43
              · obtain rfl : n = 42 := by omega
                exact Y_tableIn (pc := 40) (tgt := 2222) dL_law__40 (by decide) (by decide) (off := 2182) (by decide) (by decide) (LC_seed hi hr9 hp (s42 _ _ hG) k)
              · obtain rfl : n = 43 := by omega
                exact Y_tableIn (pc := 40) (tgt := 2247) dL_law__40 (by decide) (by decide) (off := 2207) (by decide) (by decide) (LC_undo hi hr9 hp (s43 _ hG) k)
          · rcases Nat.lt_or_ge n 45 with h45 | h45
            · obtain rfl : n = 44 := by omega
              exact Y_tableIn (pc := 40) (tgt := 2260) dL_law__40 (by decide) (by decide) (off := 2220) (by decide) (by decide) (LC_image hi hr9 hp (s44 _ hG) k)
            · rcases Nat.lt_or_ge n 46 with h46 | h46
              · obtain rfl : n = 45 := by omega
                exact Y_tableIn (pc := 40) (tgt := 2271) dL_law__40 (by decide) (by decide) (off := 2231) (by decide) (by decide) (LC_back hi hr9 hp (s45 _ hG) k)
              · obtain rfl : n = 46 := by omega
                exact Y_tableIn (pc := 40) (tgt := 2284) dL_law__40 (by decide) (by decide) (off := 2244) (by decide) (by decide) (LC_count hi hr9 hp (s46 _ _ hG) k)
  · refine Y_tableOut (pc := 40) (tgt := 2309) dL_law__40 (Or.inr ?_) (by decide) (Y_widen (Nat.le_succ _) (Nat.le_add_right _ 6) (k _ _ _ _ _ hG hp))
    rw [ofn_toInt (by omega)]
    omega
theorem law_loop (hS : Steps G) (hL : gL g ≤ 3072) : ∀ (m q : Nat), gL g ≤ 6 * q + 6 * m + 5 → q ≤ 512 → ∀ (I : HI) (J : HJ) (P : Nat → Nat → Option Nat) (a b : Option Value), G I → Wp P → Y g mL_law_ (ZL g) (218 + q) (s0L + 6 * q) 23 (lsL (Int32.ofNat (6 * q)) a b) [] (NT, I, J, P) := by
  intro m
  induction m with
  | zero =>
    intro q hm hq I J P a b hG hp
    have hs := s0L_le
    refine Y_iload (pc := 23) dL_law__23 rfl ?_
    refine Y_aload_n (pc := 25) dL_law__25 rfl ?_
    refine Y_slen (pc := 26) dL_law__26 rfl ?_
    refine Y_bipush (pc := 27) dL_law__27 (v := 6) rfl ?_
    refine Y_isub (pc := 29) dL_law__29 ?_
    refine Y_icmp_gt (pc := 30) (tgt := 2315) dL_law__30 (by decide) (fun _ => Y_end (by omega) (by omega)) (fun hn => ?_)
    exfalso
    apply hn
    rw [Int32.lt_iff_toInt_lt, ofn_toInt (by omega), lt_sub6 (by omega)]
    omega
  | succ m ih =>
    intro q hm hq I J P a b hG hp
    have hs := s0L_le
    refine Y_mask [true, true, true, true, true, false, false] rfl ?_
    refine Y_iload (pc := 23) dL_law__23 rfl ?_
    refine Y_aload_n (pc := 25) dL_law__25 rfl ?_
    refine Y_slen (pc := 26) dL_law__26 rfl ?_
    refine Y_bipush (pc := 27) dL_law__27 (v := 6) rfl ?_
    refine Y_isub (pc := 29) dL_law__29 ?_
    refine Y_icmp_gt (pc := 30) (tgt := 2315) dL_law__30 (by decide) (fun _ => Y_end (by omega) (by omega)) (fun hn => ?_)
    have h6 : 6 * q + 6 ≤ gL g := by
      rw [Int32.lt_iff_toInt_lt, ofn_toInt (by omega), lt_sub6 (by omega)] at hn
      omega
    have hi := inS_of h6 hL
    have hr9 : rL (218 + q) (s0L + 6 * q) := ⟨by omega, by omega⟩
    have k : KL g G (218 + q) (s0L + 6 * q) (Int32.ofNat (6 * q)) := by
      intro I2 J2 P2 a2 b2 hG2 hp2
      refine Y_iinc (pc := 2309) dL_law__2309 rfl (v := Int32.ofNat (6 * (q + 1))) ?_ (by decide) rfl ?_
      · rw [show 6 * (q + 1) = 6 * q + 6 by omega, Int32.ofNat_add]
        rfl
      refine Y_goto (pc := 2312) (tgt := 23) dL_law__2312 (by decide) ?_
      have h9 := ih (q + 1) (by omega) (by omega) I2 J2 P2 a2 b2 hG2 hp2
      rw [show 218 + (q + 1) = 218 + q + 1 by omega, show s0L + 6 * (q + 1) = s0L + 6 * q + 6 by omega] at h9
      exact h9
    refine Y_aload_n (pc := 33) dL_law__33 rfl ?_
    refine Y_iload (pc := 34) dL_law__34 rfl ?_
    refine Y_sld (pc := 36) dL_law__36 (vp_ofn (by omega) (by omega)) ?_
    refine Y_bipush (pc := 37) dL_law__37 (v := 63) rfl ?_
    refine Y_iand (pc := 39) dL_law__39 ?_
    obtain ⟨n, hn64, hnx⟩ := and63 (gxs g (Int32.ofNat (6 * q)).toNatClampNeg)
    rw [hnx]
    exact law_case hS hi hr9 hp hG k hn64
theorem i_L_108 : IF RL 108 mX11_init := ⟨Or.inl w_31, ⟨w_32, w_1, w_33⟩, ⟨by decide, by decide, by decide +kernel⟩, by decide, rfl, rfl⟩
theorem i_L_111 : IF RL 111 mX12_init := ⟨Or.inl w_1372, ⟨w_1373, w_13, w_1374⟩, ⟨by decide, by decide, by decide +kernel⟩, by decide, rfl, rfl⟩
theorem LT_1 : LT 1 = (10, cN 10) := by decide +kernel
theorem LT_205 : LT 205 = (11, cN 11) := by decide +kernel
theorem LT_218 : LT 218 = (14, 1) := by decide +kernel
theorem sT_b : sT 2 ≤ 1000000 ∧ sT 205 ≤ 1000000 ∧ sT 206 ≤ 1000000 ∧ sT 218 ≤ 1000000 ∧ sT 219 ≤ 1000000 ∧ cN 10 ≤ 100 ∧ cN 11 ≤ 100 := by decide +kernel
theorem sT_sum : 0 + cN 10 + (sT 205 - sT 2 + 6 * 0) + cN 11 + (sT 218 - sT 206 + 6 * 0) + 1 = s0L := by
  have h1 : sT 2 = sT 1 + cN 10 := by rw [sT_succ, LT_1]
  have h2 : sT 206 = sT 205 + cN 11 := by rw [sT_succ, LT_205]
  have h3 : sT NT = sT 218 + 1 := by rw [show NT = 218 + 1 from rfl, sT_succ, LT_218]
  have h4 := sT_mono (show 2 ≤ 205 by decide)
  have h5 := sT_mono (show 206 ≤ 218 by decide)
  simp only [s0L]
  omega
theorem law_start (hS : Steps G) (hG : G I0) (hL : gL g ≤ 3072) : Y g mL_law_ (ZL g) 0 0 0 [some (.ref 0), none, none, none, none, none, none] [] (1, zI, zJ, zP) := by
  have hb := sT_b
  have hsl : (ZL g).1.slots = 7293034 := rfl
  refine Y_new (pc := 0) (t := 1) dL_law__0 cf10 zf10 (by decide) w_29 LT_1 (by decide) (Nat.le_refl _) (Nat.le_refl _) ⟨Nat.le_of_ble_eq_true rfl, ?_⟩ (zr0 1) ?_
  · rw [hsl]; omega
  refine Y_dup (pc := 3) dL_law__3 rfl ?_
  refine Y_callI (pc := 4) (d := 4) (S := (2, zI, zJ, zP)) (S' := (205, nI_X11 zI, zJ, nP_X11 zP)) dL_law__4 i_L_108 (Nat.le_of_ble_eq_true rfl) (K_X11 (d := 0) (zr0 2)) (Nat.le_of_ble_eq_true rfl) (Nat.le_of_ble_eq_true rfl) ⟨Nat.le_of_ble_eq_true rfl, Nat.le_of_ble_eq_true rfl, Nat.le_of_ble_eq_true rfl, ?_⟩ ?_
  · rw [hsl]; simp only; omega
  refine Y_astore_n (pc := 7) dL_law__7 (by decide) (ls' := [some (.ref 0), some (.ref 1), none, none, none, none, none]) rfl ?_
  refine Y_new (pc := 8) (t := 205) dL_law__8 cf11 zf11 (by decide) w_1370 LT_205 (by decide) (Nat.le_of_ble_eq_true rfl) (Nat.le_of_ble_eq_true rfl) ⟨Nat.le_of_ble_eq_true rfl, ?_⟩ zrA ?_
  · rw [hsl]; simp only; omega
  refine Y_dup (pc := 11) dL_law__11 rfl ?_
  refine Y_callI (pc := 12) (d := 1) (S := (206, nI_X11 zI, zJ, nP_X11 zP)) (S' := (218, I0, zJ, P0)) dL_law__12 i_L_111 (Nat.le_of_ble_eq_true rfl) (K_X12 (d := 0) (zrA.mono (by decide))) (Nat.le_of_ble_eq_true rfl) (Nat.le_of_ble_eq_true rfl) ⟨Nat.le_of_ble_eq_true rfl, Nat.le_of_ble_eq_true rfl, Nat.le_of_ble_eq_true rfl, ?_⟩ ?_
  · rw [hsl]; simp only; omega
  refine Y_astore_n (pc := 15) dL_law__15 (by decide) (ls' := [some (.ref 0), some (.ref 1), some (.ref 205), none, none, none, none]) rfl ?_
  refine Y_iconst (pc := 16) dL_law__16 (v := 1) rfl ?_
  refine Y_newaJ (pc := 17) (t := 218) (n := 1) dL_law__17 w_1443 ⟨by decide, rfl⟩ (by decide) LT_218 (by decide) (Nat.le_of_ble_eq_true rfl) (Nat.le_of_ble_eq_true rfl) ⟨Nat.le_of_ble_eq_true rfl, ?_⟩ zrB ?_
  · rw [hsl]; simp only; omega
  refine Y_astore_n (pc := 19) dL_law__19 (by decide) (ls' := [some (.ref 0), some (.ref 1), some (.ref 205), some (.ref 218), none, none, none]) rfl ?_
  refine Y_iconst (pc := 20) dL_law__20 (v := 0) rfl ?_
  refine Y_istore (pc := 21) dL_law__21 (by decide) (ls' := lsL 0 none none) rfl ?_
  have h := law_loop (g := g) hS hL 512 0 (by omega) (by decide) I0 zJ P0 none none hG wp0
  rw [show Int32.ofNat (6 * 0) = 0 from rfl] at h
  have e9 := sT_sum
  refine Y_widen (k := 218 + 0) (n := s0L + 6 * 0) (Nat.le_of_ble_eq_true rfl) ?_ h
  simp only
  omega
end
