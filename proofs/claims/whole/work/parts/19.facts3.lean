theorem x_X11_118 : XF RX11 118 122 "java/lang/IllegalArgumentException" ["java/lang/RuntimeException", "java/lang/Exception"] := ⟨by decide +kernel, by decide +kernel, w_874, w_23, by decide +kernel, rfl⟩
theorem x_X11_128 : XF RX11 128 132 "java/lang/UnsupportedOperationException" ["java/lang/RuntimeException", "java/lang/Exception"] := ⟨by decide +kernel, by decide +kernel, w_944, w_24, by decide +kernel, rfl⟩
theorem x_X11_158 : XF RX11 158 162 "java/lang/IndexOutOfBoundsException" ["java/lang/RuntimeException", "java/lang/Exception"] := ⟨by decide +kernel, by decide +kernel, w_985, w_25, by decide +kernel, rfl⟩
theorem x_X11_223 : XF RX11 223 227 "java/lang/IllegalStateException" ["java/lang/RuntimeException", "java/lang/Exception"] := ⟨by decide +kernel, by decide +kernel, w_1044, w_27, by decide +kernel, rfl⟩
theorem a_X10_40_5 : AF RX10 40 5 ⟨"BiteYears$Text", "readLine", "()Z"⟩ mX5_readLine 0 := ⟨⟨w_660, w_662, w_663, w_664, w_10, w_665⟩, rfl, nw_661, by decide +kernel, by decide⟩
theorem a_X10_40_6 : AF RX10 40 6 ⟨"BiteYears$Text", "readLine", "()Z"⟩ mX6_readLine 0 := ⟨⟨w_660, w_662, w_818, w_819, w_9, w_820⟩, rfl, nw_661, by decide +kernel, by decide⟩
theorem Wp_up {P : Nat → Nat → Option Nat} {a b : Nat} (hp : Wp P) (h : (LT a).1 = 5 ∨ (LT a).1 = 6) : Wp (up2 P a 0 (some b)) := by
  intro c k hc
  rw [up2_get]
  by_cases q : c = a ∧ k = 0
  · exact absurd ⟨q.1 ▸ h, q.2⟩ hc
  · rw [if_neg q]; exact hp c k hc
theorem rd_ne {α : Type} {f : Nat → Nat → α} {a k : Nat} {x : α} {b j : Nat} (h : b ≠ a ∨ j ≠ k) : up2 f a k x b j = f b j := by
  rw [up2_get, if_neg (fun q => h.elim (fun z => z q.1) (fun z => z q.2))]
theorem rd_eq {α : Type} {f : Nat → Nat → α} {a k : Nat} {x : α} : up2 f a k x a k = x := by rw [up2_get, if_pos ⟨rfl, rfl⟩]
section
variable {g : gX} {μ : mX} {d pc : Nat} {tt : tX} {R : rX} {ls : List (Option Value)} {st : List Value} {t : Nat} {I : Nat → Nat → Int32} {J : Nat → Nat → Int64} {P : Nat → Nat → Option Nat}
theorem M_getIs {idx c k a : Nat} {x : Int32} (hd : decode μ.2.1 pc = .ok (.getfield idx, 3)) (hf : FLI μ.1.cls idx c k) (ho : OB t a c) (hx : I a k = x) (kk : M g μ d tt R (pc + 3) ls (.int x :: st) (t, I, J, P)) : M g μ d tt R pc ls (.ref a :: st) (t, I, J, P) := by
  subst hx
  exact M_getI hd hf ho kk
theorem M_ildcs {a n j : Nat} {i x : Int32} (hd : decode μ.2.1 pc = .ok (.iaload, 1)) (ho : AR t a 13 n) (hi : inB i n = true) (hj : i.toNatClampNeg = j) (hx : I a j = x) (kk : M g μ d tt R (pc + 1) ls (.int x :: st) (t, I, J, P)) : M g μ d tt R pc ls (.int i :: .ref a :: st) (t, I, J, P) := by
  subst hx
  exact M_ildc hd ho hi hj kk
end
theorem ob_1 : OB NT 1 10 := OB_of (by decide +kernel)
theorem gc_1_0 {P : Nat → Nat → Option Nat} (hp : Wp P) : P 1 0 = some 2 ∧ AR NT 2 13 400 := gr_10_0 hp ob_1
theorem gc_1_3 {P : Nat → Nat → Option Nat} (hp : Wp P) : P 1 3 = some 3 ∧ OB NT 3 3 := gr_10_3 hp ob_1
theorem gc_1_4 {P : Nat → Nat → Option Nat} (hp : Wp P) : P 1 4 = some 9 ∧ OB NT 9 4 := gr_10_4 hp ob_1
theorem gc_1_5 {P : Nat → Nat → Option Nat} (hp : Wp P) : P 1 5 = some 15 ∧ OB NT 15 7 := gr_10_5 hp ob_1
theorem gc_1_6 {P : Nat → Nat → Option Nat} (hp : Wp P) : P 1 6 = some 17 ∧ OB NT 17 0 := gr_10_6 hp ob_1
theorem gc_1_7 {P : Nat → Nat → Option Nat} (hp : Wp P) : P 1 7 = some 116 ∧ OB NT 116 3 := gr_10_7 hp ob_1
theorem gc_1_8 {P : Nat → Nat → Option Nat} (hp : Wp P) : P 1 8 = some 122 ∧ OB NT 122 4 := gr_10_8 hp ob_1
theorem gc_1_9 {P : Nat → Nat → Option Nat} (hp : Wp P) : P 1 9 = some 128 ∧ OB NT 128 7 := gr_10_9 hp ob_1
theorem gc_1_11 {P : Nat → Nat → Option Nat} (hp : Wp P) : P 1 11 = some 130 ∧ OB NT 130 3 := gr_10_11 hp ob_1
theorem gc_1_12 {P : Nat → Nat → Option Nat} (hp : Wp P) : P 1 12 = some 136 ∧ OB NT 136 9 := gr_10_12 hp ob_1
theorem gc_1_13 {P : Nat → Nat → Option Nat} (hp : Wp P) : P 1 13 = some 138 ∧ OB NT 138 6 := gr_10_13 hp ob_1
theorem gc_1_14 {P : Nat → Nat → Option Nat} (hp : Wp P) : P 1 14 = some 146 ∧ OB NT 146 5 := gr_10_14 hp ob_1
theorem gc_1_15 {P : Nat → Nat → Option Nat} (hp : Wp P) : P 1 15 = some 155 ∧ OB NT 155 8 := gr_10_15 hp ob_1
theorem gc_1_16 {P : Nat → Nat → Option Nat} (hp : Wp P) : P 1 16 = some 201 ∧ OB NT 201 2 := gr_10_16 hp ob_1
theorem ob_3 : OB NT 3 3 := OB_of (by decide +kernel)
theorem gc_3_0 {P : Nat → Nat → Option Nat} (hp : Wp P) : P 3 0 = some 4 ∧ OB NT 4 1 := gr_3_0 hp ob_3
theorem ob_4 : OB NT 4 1 := OB_of (by decide +kernel)
theorem gc_4_1 {P : Nat → Nat → Option Nat} (hp : Wp P) : P 4 1 = some 5 ∧ AR NT 5 13 60 := gr_1_1 hp ob_4
theorem gc_4_2 {P : Nat → Nat → Option Nat} (hp : Wp P) : P 4 2 = some 6 ∧ AR NT 6 13 12 := gr_1_2 hp ob_4
theorem gc_4_3 {P : Nat → Nat → Option Nat} (hp : Wp P) : P 4 3 = some 7 ∧ AR NT 7 13 12 := gr_1_3 hp ob_4
theorem gc_4_4 {P : Nat → Nat → Option Nat} (hp : Wp P) : P 4 4 = some 8 ∧ AR NT 8 13 12 := gr_1_4 hp ob_4
theorem ob_9 : OB NT 9 4 := OB_of (by decide +kernel)
theorem gc_9_1 {P : Nat → Nat → Option Nat} (hp : Wp P) : P 9 1 = some 10 ∧ AR NT 10 13 12 := gr_4_1 hp ob_9
theorem gc_9_2 {P : Nat → Nat → Option Nat} (hp : Wp P) : P 9 2 = some 11 ∧ AR NT 11 13 12 := gr_4_2 hp ob_9
theorem gc_9_3 {P : Nat → Nat → Option Nat} (hp : Wp P) : P 9 3 = some 12 ∧ AR NT 12 13 12 := gr_4_3 hp ob_9
theorem gc_9_4 {P : Nat → Nat → Option Nat} (hp : Wp P) : P 9 4 = some 13 ∧ AR NT 13 13 400 := gr_4_4 hp ob_9
theorem gc_9_6 {P : Nat → Nat → Option Nat} (hp : Wp P) : P 9 6 = some 14 ∧ AR NT 14 13 64 := gr_4_6 hp ob_9
theorem ob_15 : OB NT 15 7 := OB_of (by decide +kernel)
theorem gc_15_2 {P : Nat → Nat → Option Nat} (hp : Wp P) : P 15 2 = some 16 ∧ AR NT 16 13 240 := gr_7_2 hp ob_15
theorem ob_17 : OB NT 17 0 := OB_of (by decide +kernel)
theorem gc_17_2 {P : Nat → Nat → Option Nat} (hp : Wp P) : P 17 2 = some 18 ∧ AR NT 18 15 12 := gr_0_2 hp ob_17
theorem gc_17_3 {P : Nat → Nat → Option Nat} (hp : Wp P) : P 17 3 = some 19 ∧ AR NT 19 16 12 := gr_0_3 hp ob_17
theorem ob_20 : OB NT 20 3 := OB_of (by decide +kernel)
theorem gc_20_0 {P : Nat → Nat → Option Nat} (hp : Wp P) : P 20 0 = some 21 ∧ OB NT 21 1 := gr_3_0 hp ob_20
theorem ob_21 : OB NT 21 1 := OB_of (by decide +kernel)
theorem gc_21_1 {P : Nat → Nat → Option Nat} (hp : Wp P) : P 21 1 = some 22 ∧ AR NT 22 13 60 := gr_1_1 hp ob_21
theorem gc_21_2 {P : Nat → Nat → Option Nat} (hp : Wp P) : P 21 2 = some 23 ∧ AR NT 23 13 12 := gr_1_2 hp ob_21
theorem gc_21_3 {P : Nat → Nat → Option Nat} (hp : Wp P) : P 21 3 = some 24 ∧ AR NT 24 13 12 := gr_1_3 hp ob_21
theorem gc_21_4 {P : Nat → Nat → Option Nat} (hp : Wp P) : P 21 4 = some 25 ∧ AR NT 25 13 12 := gr_1_4 hp ob_21
theorem ob_26 : OB NT 26 7 := OB_of (by decide +kernel)
theorem gc_26_2 {P : Nat → Nat → Option Nat} (hp : Wp P) : P 26 2 = some 27 ∧ AR NT 27 13 240 := gr_7_2 hp ob_26
theorem ob_28 : OB NT 28 3 := OB_of (by decide +kernel)
theorem gc_28_0 {P : Nat → Nat → Option Nat} (hp : Wp P) : P 28 0 = some 29 ∧ OB NT 29 1 := gr_3_0 hp ob_28
theorem ob_29 : OB NT 29 1 := OB_of (by decide +kernel)
theorem gc_29_1 {P : Nat → Nat → Option Nat} (hp : Wp P) : P 29 1 = some 30 ∧ AR NT 30 13 60 := gr_1_1 hp ob_29
theorem gc_29_2 {P : Nat → Nat → Option Nat} (hp : Wp P) : P 29 2 = some 31 ∧ AR NT 31 13 12 := gr_1_2 hp ob_29
theorem gc_29_3 {P : Nat → Nat → Option Nat} (hp : Wp P) : P 29 3 = some 32 ∧ AR NT 32 13 12 := gr_1_3 hp ob_29
theorem gc_29_4 {P : Nat → Nat → Option Nat} (hp : Wp P) : P 29 4 = some 33 ∧ AR NT 33 13 12 := gr_1_4 hp ob_29
theorem ob_34 : OB NT 34 7 := OB_of (by decide +kernel)
theorem gc_34_2 {P : Nat → Nat → Option Nat} (hp : Wp P) : P 34 2 = some 35 ∧ AR NT 35 13 240 := gr_7_2 hp ob_34
theorem ob_36 : OB NT 36 3 := OB_of (by decide +kernel)
theorem gc_36_0 {P : Nat → Nat → Option Nat} (hp : Wp P) : P 36 0 = some 37 ∧ OB NT 37 1 := gr_3_0 hp ob_36
theorem ob_37 : OB NT 37 1 := OB_of (by decide +kernel)
theorem gc_37_1 {P : Nat → Nat → Option Nat} (hp : Wp P) : P 37 1 = some 38 ∧ AR NT 38 13 60 := gr_1_1 hp ob_37
theorem gc_37_2 {P : Nat → Nat → Option Nat} (hp : Wp P) : P 37 2 = some 39 ∧ AR NT 39 13 12 := gr_1_2 hp ob_37
theorem gc_37_3 {P : Nat → Nat → Option Nat} (hp : Wp P) : P 37 3 = some 40 ∧ AR NT 40 13 12 := gr_1_3 hp ob_37
theorem gc_37_4 {P : Nat → Nat → Option Nat} (hp : Wp P) : P 37 4 = some 41 ∧ AR NT 41 13 12 := gr_1_4 hp ob_37
theorem ob_42 : OB NT 42 7 := OB_of (by decide +kernel)
theorem gc_42_2 {P : Nat → Nat → Option Nat} (hp : Wp P) : P 42 2 = some 43 ∧ AR NT 43 13 240 := gr_7_2 hp ob_42
theorem ob_44 : OB NT 44 3 := OB_of (by decide +kernel)
theorem gc_44_0 {P : Nat → Nat → Option Nat} (hp : Wp P) : P 44 0 = some 45 ∧ OB NT 45 1 := gr_3_0 hp ob_44
theorem ob_45 : OB NT 45 1 := OB_of (by decide +kernel)
theorem gc_45_1 {P : Nat → Nat → Option Nat} (hp : Wp P) : P 45 1 = some 46 ∧ AR NT 46 13 60 := gr_1_1 hp ob_45
theorem gc_45_2 {P : Nat → Nat → Option Nat} (hp : Wp P) : P 45 2 = some 47 ∧ AR NT 47 13 12 := gr_1_2 hp ob_45
theorem gc_45_3 {P : Nat → Nat → Option Nat} (hp : Wp P) : P 45 3 = some 48 ∧ AR NT 48 13 12 := gr_1_3 hp ob_45
theorem gc_45_4 {P : Nat → Nat → Option Nat} (hp : Wp P) : P 45 4 = some 49 ∧ AR NT 49 13 12 := gr_1_4 hp ob_45
theorem ob_50 : OB NT 50 7 := OB_of (by decide +kernel)
theorem gc_50_2 {P : Nat → Nat → Option Nat} (hp : Wp P) : P 50 2 = some 51 ∧ AR NT 51 13 240 := gr_7_2 hp ob_50
theorem ob_52 : OB NT 52 3 := OB_of (by decide +kernel)
theorem gc_52_0 {P : Nat → Nat → Option Nat} (hp : Wp P) : P 52 0 = some 53 ∧ OB NT 53 1 := gr_3_0 hp ob_52
theorem ob_53 : OB NT 53 1 := OB_of (by decide +kernel)
theorem gc_53_1 {P : Nat → Nat → Option Nat} (hp : Wp P) : P 53 1 = some 54 ∧ AR NT 54 13 60 := gr_1_1 hp ob_53
theorem gc_53_2 {P : Nat → Nat → Option Nat} (hp : Wp P) : P 53 2 = some 55 ∧ AR NT 55 13 12 := gr_1_2 hp ob_53
theorem gc_53_3 {P : Nat → Nat → Option Nat} (hp : Wp P) : P 53 3 = some 56 ∧ AR NT 56 13 12 := gr_1_3 hp ob_53
theorem gc_53_4 {P : Nat → Nat → Option Nat} (hp : Wp P) : P 53 4 = some 57 ∧ AR NT 57 13 12 := gr_1_4 hp ob_53
theorem ob_58 : OB NT 58 7 := OB_of (by decide +kernel)
theorem gc_58_2 {P : Nat → Nat → Option Nat} (hp : Wp P) : P 58 2 = some 59 ∧ AR NT 59 13 240 := gr_7_2 hp ob_58
theorem ob_60 : OB NT 60 3 := OB_of (by decide +kernel)
theorem gc_60_0 {P : Nat → Nat → Option Nat} (hp : Wp P) : P 60 0 = some 61 ∧ OB NT 61 1 := gr_3_0 hp ob_60
theorem ob_61 : OB NT 61 1 := OB_of (by decide +kernel)
theorem gc_61_1 {P : Nat → Nat → Option Nat} (hp : Wp P) : P 61 1 = some 62 ∧ AR NT 62 13 60 := gr_1_1 hp ob_61
theorem gc_61_2 {P : Nat → Nat → Option Nat} (hp : Wp P) : P 61 2 = some 63 ∧ AR NT 63 13 12 := gr_1_2 hp ob_61
theorem gc_61_3 {P : Nat → Nat → Option Nat} (hp : Wp P) : P 61 3 = some 64 ∧ AR NT 64 13 12 := gr_1_3 hp ob_61
theorem gc_61_4 {P : Nat → Nat → Option Nat} (hp : Wp P) : P 61 4 = some 65 ∧ AR NT 65 13 12 := gr_1_4 hp ob_61
theorem ob_66 : OB NT 66 7 := OB_of (by decide +kernel)
theorem gc_66_2 {P : Nat → Nat → Option Nat} (hp : Wp P) : P 66 2 = some 67 ∧ AR NT 67 13 240 := gr_7_2 hp ob_66
theorem ob_68 : OB NT 68 3 := OB_of (by decide +kernel)
theorem gc_68_0 {P : Nat → Nat → Option Nat} (hp : Wp P) : P 68 0 = some 69 ∧ OB NT 69 1 := gr_3_0 hp ob_68
theorem ob_69 : OB NT 69 1 := OB_of (by decide +kernel)
theorem gc_69_1 {P : Nat → Nat → Option Nat} (hp : Wp P) : P 69 1 = some 70 ∧ AR NT 70 13 60 := gr_1_1 hp ob_69
theorem gc_69_2 {P : Nat → Nat → Option Nat} (hp : Wp P) : P 69 2 = some 71 ∧ AR NT 71 13 12 := gr_1_2 hp ob_69
theorem gc_69_3 {P : Nat → Nat → Option Nat} (hp : Wp P) : P 69 3 = some 72 ∧ AR NT 72 13 12 := gr_1_3 hp ob_69
theorem gc_69_4 {P : Nat → Nat → Option Nat} (hp : Wp P) : P 69 4 = some 73 ∧ AR NT 73 13 12 := gr_1_4 hp ob_69
theorem ob_74 : OB NT 74 7 := OB_of (by decide +kernel)
theorem gc_74_2 {P : Nat → Nat → Option Nat} (hp : Wp P) : P 74 2 = some 75 ∧ AR NT 75 13 240 := gr_7_2 hp ob_74
theorem ob_76 : OB NT 76 3 := OB_of (by decide +kernel)
theorem gc_76_0 {P : Nat → Nat → Option Nat} (hp : Wp P) : P 76 0 = some 77 ∧ OB NT 77 1 := gr_3_0 hp ob_76
theorem ob_77 : OB NT 77 1 := OB_of (by decide +kernel)
theorem gc_77_1 {P : Nat → Nat → Option Nat} (hp : Wp P) : P 77 1 = some 78 ∧ AR NT 78 13 60 := gr_1_1 hp ob_77
theorem gc_77_2 {P : Nat → Nat → Option Nat} (hp : Wp P) : P 77 2 = some 79 ∧ AR NT 79 13 12 := gr_1_2 hp ob_77
theorem gc_77_3 {P : Nat → Nat → Option Nat} (hp : Wp P) : P 77 3 = some 80 ∧ AR NT 80 13 12 := gr_1_3 hp ob_77
theorem gc_77_4 {P : Nat → Nat → Option Nat} (hp : Wp P) : P 77 4 = some 81 ∧ AR NT 81 13 12 := gr_1_4 hp ob_77
theorem ob_82 : OB NT 82 7 := OB_of (by decide +kernel)
theorem gc_82_2 {P : Nat → Nat → Option Nat} (hp : Wp P) : P 82 2 = some 83 ∧ AR NT 83 13 240 := gr_7_2 hp ob_82
theorem ob_84 : OB NT 84 3 := OB_of (by decide +kernel)
theorem gc_84_0 {P : Nat → Nat → Option Nat} (hp : Wp P) : P 84 0 = some 85 ∧ OB NT 85 1 := gr_3_0 hp ob_84
theorem ob_85 : OB NT 85 1 := OB_of (by decide +kernel)
theorem gc_85_1 {P : Nat → Nat → Option Nat} (hp : Wp P) : P 85 1 = some 86 ∧ AR NT 86 13 60 := gr_1_1 hp ob_85
theorem gc_85_2 {P : Nat → Nat → Option Nat} (hp : Wp P) : P 85 2 = some 87 ∧ AR NT 87 13 12 := gr_1_2 hp ob_85
theorem gc_85_3 {P : Nat → Nat → Option Nat} (hp : Wp P) : P 85 3 = some 88 ∧ AR NT 88 13 12 := gr_1_3 hp ob_85
theorem gc_85_4 {P : Nat → Nat → Option Nat} (hp : Wp P) : P 85 4 = some 89 ∧ AR NT 89 13 12 := gr_1_4 hp ob_85
theorem ob_90 : OB NT 90 7 := OB_of (by decide +kernel)
theorem gc_90_2 {P : Nat → Nat → Option Nat} (hp : Wp P) : P 90 2 = some 91 ∧ AR NT 91 13 240 := gr_7_2 hp ob_90
theorem ob_92 : OB NT 92 3 := OB_of (by decide +kernel)
theorem gc_92_0 {P : Nat → Nat → Option Nat} (hp : Wp P) : P 92 0 = some 93 ∧ OB NT 93 1 := gr_3_0 hp ob_92
theorem ob_93 : OB NT 93 1 := OB_of (by decide +kernel)
theorem gc_93_1 {P : Nat → Nat → Option Nat} (hp : Wp P) : P 93 1 = some 94 ∧ AR NT 94 13 60 := gr_1_1 hp ob_93
theorem gc_93_2 {P : Nat → Nat → Option Nat} (hp : Wp P) : P 93 2 = some 95 ∧ AR NT 95 13 12 := gr_1_2 hp ob_93
theorem gc_93_3 {P : Nat → Nat → Option Nat} (hp : Wp P) : P 93 3 = some 96 ∧ AR NT 96 13 12 := gr_1_3 hp ob_93
theorem gc_93_4 {P : Nat → Nat → Option Nat} (hp : Wp P) : P 93 4 = some 97 ∧ AR NT 97 13 12 := gr_1_4 hp ob_93
theorem ob_98 : OB NT 98 7 := OB_of (by decide +kernel)
theorem gc_98_2 {P : Nat → Nat → Option Nat} (hp : Wp P) : P 98 2 = some 99 ∧ AR NT 99 13 240 := gr_7_2 hp ob_98
theorem ob_100 : OB NT 100 3 := OB_of (by decide +kernel)
theorem gc_100_0 {P : Nat → Nat → Option Nat} (hp : Wp P) : P 100 0 = some 101 ∧ OB NT 101 1 := gr_3_0 hp ob_100
theorem ob_101 : OB NT 101 1 := OB_of (by decide +kernel)
theorem gc_101_1 {P : Nat → Nat → Option Nat} (hp : Wp P) : P 101 1 = some 102 ∧ AR NT 102 13 60 := gr_1_1 hp ob_101
theorem gc_101_2 {P : Nat → Nat → Option Nat} (hp : Wp P) : P 101 2 = some 103 ∧ AR NT 103 13 12 := gr_1_2 hp ob_101
theorem gc_101_3 {P : Nat → Nat → Option Nat} (hp : Wp P) : P 101 3 = some 104 ∧ AR NT 104 13 12 := gr_1_3 hp ob_101
theorem gc_101_4 {P : Nat → Nat → Option Nat} (hp : Wp P) : P 101 4 = some 105 ∧ AR NT 105 13 12 := gr_1_4 hp ob_101
theorem ob_106 : OB NT 106 7 := OB_of (by decide +kernel)
theorem gc_106_2 {P : Nat → Nat → Option Nat} (hp : Wp P) : P 106 2 = some 107 ∧ AR NT 107 13 240 := gr_7_2 hp ob_106
theorem ob_108 : OB NT 108 3 := OB_of (by decide +kernel)
theorem gc_108_0 {P : Nat → Nat → Option Nat} (hp : Wp P) : P 108 0 = some 109 ∧ OB NT 109 1 := gr_3_0 hp ob_108
theorem ob_109 : OB NT 109 1 := OB_of (by decide +kernel)
theorem gc_109_1 {P : Nat → Nat → Option Nat} (hp : Wp P) : P 109 1 = some 110 ∧ AR NT 110 13 60 := gr_1_1 hp ob_109
theorem gc_109_2 {P : Nat → Nat → Option Nat} (hp : Wp P) : P 109 2 = some 111 ∧ AR NT 111 13 12 := gr_1_2 hp ob_109
theorem gc_109_3 {P : Nat → Nat → Option Nat} (hp : Wp P) : P 109 3 = some 112 ∧ AR NT 112 13 12 := gr_1_3 hp ob_109
theorem gc_109_4 {P : Nat → Nat → Option Nat} (hp : Wp P) : P 109 4 = some 113 ∧ AR NT 113 13 12 := gr_1_4 hp ob_109
theorem ob_114 : OB NT 114 7 := OB_of (by decide +kernel)
theorem gc_114_2 {P : Nat → Nat → Option Nat} (hp : Wp P) : P 114 2 = some 115 ∧ AR NT 115 13 240 := gr_7_2 hp ob_114
theorem ob_116 : OB NT 116 3 := OB_of (by decide +kernel)
theorem gc_116_0 {P : Nat → Nat → Option Nat} (hp : Wp P) : P 116 0 = some 117 ∧ OB NT 117 1 := gr_3_0 hp ob_116
theorem ob_117 : OB NT 117 1 := OB_of (by decide +kernel)
theorem gc_117_1 {P : Nat → Nat → Option Nat} (hp : Wp P) : P 117 1 = some 118 ∧ AR NT 118 13 60 := gr_1_1 hp ob_117
theorem gc_117_2 {P : Nat → Nat → Option Nat} (hp : Wp P) : P 117 2 = some 119 ∧ AR NT 119 13 12 := gr_1_2 hp ob_117
theorem gc_117_3 {P : Nat → Nat → Option Nat} (hp : Wp P) : P 117 3 = some 120 ∧ AR NT 120 13 12 := gr_1_3 hp ob_117
theorem gc_117_4 {P : Nat → Nat → Option Nat} (hp : Wp P) : P 117 4 = some 121 ∧ AR NT 121 13 12 := gr_1_4 hp ob_117
theorem ob_122 : OB NT 122 4 := OB_of (by decide +kernel)
theorem gc_122_1 {P : Nat → Nat → Option Nat} (hp : Wp P) : P 122 1 = some 123 ∧ AR NT 123 13 12 := gr_4_1 hp ob_122
theorem gc_122_2 {P : Nat → Nat → Option Nat} (hp : Wp P) : P 122 2 = some 124 ∧ AR NT 124 13 12 := gr_4_2 hp ob_122
theorem gc_122_3 {P : Nat → Nat → Option Nat} (hp : Wp P) : P 122 3 = some 125 ∧ AR NT 125 13 12 := gr_4_3 hp ob_122
theorem gc_122_4 {P : Nat → Nat → Option Nat} (hp : Wp P) : P 122 4 = some 126 ∧ AR NT 126 13 400 := gr_4_4 hp ob_122
theorem gc_122_6 {P : Nat → Nat → Option Nat} (hp : Wp P) : P 122 6 = some 127 ∧ AR NT 127 13 64 := gr_4_6 hp ob_122
theorem ob_128 : OB NT 128 7 := OB_of (by decide +kernel)
theorem gc_128_2 {P : Nat → Nat → Option Nat} (hp : Wp P) : P 128 2 = some 129 ∧ AR NT 129 13 240 := gr_7_2 hp ob_128
theorem ob_130 : OB NT 130 3 := OB_of (by decide +kernel)
theorem gc_130_0 {P : Nat → Nat → Option Nat} (hp : Wp P) : P 130 0 = some 131 ∧ OB NT 131 1 := gr_3_0 hp ob_130
theorem ob_131 : OB NT 131 1 := OB_of (by decide +kernel)
theorem gc_131_1 {P : Nat → Nat → Option Nat} (hp : Wp P) : P 131 1 = some 132 ∧ AR NT 132 13 60 := gr_1_1 hp ob_131
theorem gc_131_2 {P : Nat → Nat → Option Nat} (hp : Wp P) : P 131 2 = some 133 ∧ AR NT 133 13 12 := gr_1_2 hp ob_131
theorem gc_131_3 {P : Nat → Nat → Option Nat} (hp : Wp P) : P 131 3 = some 134 ∧ AR NT 134 13 12 := gr_1_3 hp ob_131
theorem gc_131_4 {P : Nat → Nat → Option Nat} (hp : Wp P) : P 131 4 = some 135 ∧ AR NT 135 13 12 := gr_1_4 hp ob_131
theorem ob_136 : OB NT 136 9 := OB_of (by decide +kernel)
theorem gc_136_3 {P : Nat → Nat → Option Nat} (hp : Wp P) : P 136 3 = some 137 ∧ AR NT 137 13 9 := gr_9_3 hp ob_136
theorem ob_138 : OB NT 138 6 := OB_of (by decide +kernel)
theorem gc_138_5 {P : Nat → Nat → Option Nat} (hp : Wp P) : P 138 5 = some 140 ∧ OB NT 140 3 := gr_6_5 hp ob_138
theorem ob_140 : OB NT 140 3 := OB_of (by decide +kernel)
theorem gc_140_0 {P : Nat → Nat → Option Nat} (hp : Wp P) : P 140 0 = some 141 ∧ OB NT 141 1 := gr_3_0 hp ob_140
theorem ob_141 : OB NT 141 1 := OB_of (by decide +kernel)
theorem gc_141_1 {P : Nat → Nat → Option Nat} (hp : Wp P) : P 141 1 = some 142 ∧ AR NT 142 13 60 := gr_1_1 hp ob_141
theorem gc_141_2 {P : Nat → Nat → Option Nat} (hp : Wp P) : P 141 2 = some 143 ∧ AR NT 143 13 12 := gr_1_2 hp ob_141
theorem gc_141_3 {P : Nat → Nat → Option Nat} (hp : Wp P) : P 141 3 = some 144 ∧ AR NT 144 13 12 := gr_1_3 hp ob_141
theorem gc_141_4 {P : Nat → Nat → Option Nat} (hp : Wp P) : P 141 4 = some 145 ∧ AR NT 145 13 12 := gr_1_4 hp ob_141
theorem ob_146 : OB NT 146 5 := OB_of (by decide +kernel)
theorem gc_146_5 {P : Nat → Nat → Option Nat} (hp : Wp P) : P 146 5 = some 148 ∧ OB NT 148 4 := gr_5_5 hp ob_146
theorem gc_146_6 {P : Nat → Nat → Option Nat} (hp : Wp P) : P 146 6 = some 154 ∧ AR NT 154 13 21 := gr_5_6 hp ob_146
theorem ob_148 : OB NT 148 4 := OB_of (by decide +kernel)
theorem gc_148_1 {P : Nat → Nat → Option Nat} (hp : Wp P) : P 148 1 = some 149 ∧ AR NT 149 13 12 := gr_4_1 hp ob_148
theorem gc_148_2 {P : Nat → Nat → Option Nat} (hp : Wp P) : P 148 2 = some 150 ∧ AR NT 150 13 12 := gr_4_2 hp ob_148
theorem gc_148_3 {P : Nat → Nat → Option Nat} (hp : Wp P) : P 148 3 = some 151 ∧ AR NT 151 13 12 := gr_4_3 hp ob_148
theorem gc_148_4 {P : Nat → Nat → Option Nat} (hp : Wp P) : P 148 4 = some 152 ∧ AR NT 152 13 400 := gr_4_4 hp ob_148
theorem gc_148_6 {P : Nat → Nat → Option Nat} (hp : Wp P) : P 148 6 = some 153 ∧ AR NT 153 13 64 := gr_4_6 hp ob_148
theorem ob_155 : OB NT 155 8 := OB_of (by decide +kernel)
theorem gc_155_2 {P : Nat → Nat → Option Nat} (hp : Wp P) : P 155 2 = some 156 ∧ AR NT 156 13 6 := gr_8_2 hp ob_155
theorem gc_155_3 {P : Nat → Nat → Option Nat} (hp : Wp P) : P 155 3 = some 157 ∧ AR NT 157 13 6 := gr_8_3 hp ob_155
theorem gc_155_4 {P : Nat → Nat → Option Nat} (hp : Wp P) : P 155 4 = some 158 ∧ AR NT 158 15 7 := gr_8_4 hp ob_155
theorem ob_159 : OB NT 159 3 := OB_of (by decide +kernel)
theorem gc_159_0 {P : Nat → Nat → Option Nat} (hp : Wp P) : P 159 0 = some 160 ∧ OB NT 160 1 := gr_3_0 hp ob_159
theorem ob_160 : OB NT 160 1 := OB_of (by decide +kernel)
theorem gc_160_1 {P : Nat → Nat → Option Nat} (hp : Wp P) : P 160 1 = some 161 ∧ AR NT 161 13 60 := gr_1_1 hp ob_160
theorem gc_160_2 {P : Nat → Nat → Option Nat} (hp : Wp P) : P 160 2 = some 162 ∧ AR NT 162 13 12 := gr_1_2 hp ob_160
theorem gc_160_3 {P : Nat → Nat → Option Nat} (hp : Wp P) : P 160 3 = some 163 ∧ AR NT 163 13 12 := gr_1_3 hp ob_160
theorem gc_160_4 {P : Nat → Nat → Option Nat} (hp : Wp P) : P 160 4 = some 164 ∧ AR NT 164 13 12 := gr_1_4 hp ob_160
theorem ob_165 : OB NT 165 3 := OB_of (by decide +kernel)
theorem gc_165_0 {P : Nat → Nat → Option Nat} (hp : Wp P) : P 165 0 = some 166 ∧ OB NT 166 1 := gr_3_0 hp ob_165
theorem ob_166 : OB NT 166 1 := OB_of (by decide +kernel)
theorem gc_166_1 {P : Nat → Nat → Option Nat} (hp : Wp P) : P 166 1 = some 167 ∧ AR NT 167 13 60 := gr_1_1 hp ob_166
theorem gc_166_2 {P : Nat → Nat → Option Nat} (hp : Wp P) : P 166 2 = some 168 ∧ AR NT 168 13 12 := gr_1_2 hp ob_166
theorem gc_166_3 {P : Nat → Nat → Option Nat} (hp : Wp P) : P 166 3 = some 169 ∧ AR NT 169 13 12 := gr_1_3 hp ob_166
theorem gc_166_4 {P : Nat → Nat → Option Nat} (hp : Wp P) : P 166 4 = some 170 ∧ AR NT 170 13 12 := gr_1_4 hp ob_166
theorem ob_171 : OB NT 171 3 := OB_of (by decide +kernel)
theorem gc_171_0 {P : Nat → Nat → Option Nat} (hp : Wp P) : P 171 0 = some 172 ∧ OB NT 172 1 := gr_3_0 hp ob_171
theorem ob_172 : OB NT 172 1 := OB_of (by decide +kernel)
theorem gc_172_1 {P : Nat → Nat → Option Nat} (hp : Wp P) : P 172 1 = some 173 ∧ AR NT 173 13 60 := gr_1_1 hp ob_172
theorem gc_172_2 {P : Nat → Nat → Option Nat} (hp : Wp P) : P 172 2 = some 174 ∧ AR NT 174 13 12 := gr_1_2 hp ob_172
theorem gc_172_3 {P : Nat → Nat → Option Nat} (hp : Wp P) : P 172 3 = some 175 ∧ AR NT 175 13 12 := gr_1_3 hp ob_172
theorem gc_172_4 {P : Nat → Nat → Option Nat} (hp : Wp P) : P 172 4 = some 176 ∧ AR NT 176 13 12 := gr_1_4 hp ob_172
theorem ob_177 : OB NT 177 3 := OB_of (by decide +kernel)
theorem gc_177_0 {P : Nat → Nat → Option Nat} (hp : Wp P) : P 177 0 = some 178 ∧ OB NT 178 1 := gr_3_0 hp ob_177
theorem ob_178 : OB NT 178 1 := OB_of (by decide +kernel)
theorem gc_178_1 {P : Nat → Nat → Option Nat} (hp : Wp P) : P 178 1 = some 179 ∧ AR NT 179 13 60 := gr_1_1 hp ob_178
theorem gc_178_2 {P : Nat → Nat → Option Nat} (hp : Wp P) : P 178 2 = some 180 ∧ AR NT 180 13 12 := gr_1_2 hp ob_178
theorem gc_178_3 {P : Nat → Nat → Option Nat} (hp : Wp P) : P 178 3 = some 181 ∧ AR NT 181 13 12 := gr_1_3 hp ob_178
theorem gc_178_4 {P : Nat → Nat → Option Nat} (hp : Wp P) : P 178 4 = some 182 ∧ AR NT 182 13 12 := gr_1_4 hp ob_178
theorem ob_183 : OB NT 183 3 := OB_of (by decide +kernel)
theorem gc_183_0 {P : Nat → Nat → Option Nat} (hp : Wp P) : P 183 0 = some 184 ∧ OB NT 184 1 := gr_3_0 hp ob_183
theorem ob_184 : OB NT 184 1 := OB_of (by decide +kernel)
theorem gc_184_1 {P : Nat → Nat → Option Nat} (hp : Wp P) : P 184 1 = some 185 ∧ AR NT 185 13 60 := gr_1_1 hp ob_184
theorem gc_184_2 {P : Nat → Nat → Option Nat} (hp : Wp P) : P 184 2 = some 186 ∧ AR NT 186 13 12 := gr_1_2 hp ob_184
theorem gc_184_3 {P : Nat → Nat → Option Nat} (hp : Wp P) : P 184 3 = some 187 ∧ AR NT 187 13 12 := gr_1_3 hp ob_184
theorem gc_184_4 {P : Nat → Nat → Option Nat} (hp : Wp P) : P 184 4 = some 188 ∧ AR NT 188 13 12 := gr_1_4 hp ob_184
theorem ob_189 : OB NT 189 3 := OB_of (by decide +kernel)
theorem gc_189_0 {P : Nat → Nat → Option Nat} (hp : Wp P) : P 189 0 = some 190 ∧ OB NT 190 1 := gr_3_0 hp ob_189
theorem ob_190 : OB NT 190 1 := OB_of (by decide +kernel)
theorem gc_190_1 {P : Nat → Nat → Option Nat} (hp : Wp P) : P 190 1 = some 191 ∧ AR NT 191 13 60 := gr_1_1 hp ob_190
theorem gc_190_2 {P : Nat → Nat → Option Nat} (hp : Wp P) : P 190 2 = some 192 ∧ AR NT 192 13 12 := gr_1_2 hp ob_190
theorem gc_190_3 {P : Nat → Nat → Option Nat} (hp : Wp P) : P 190 3 = some 193 ∧ AR NT 193 13 12 := gr_1_3 hp ob_190
theorem gc_190_4 {P : Nat → Nat → Option Nat} (hp : Wp P) : P 190 4 = some 194 ∧ AR NT 194 13 12 := gr_1_4 hp ob_190
theorem ob_195 : OB NT 195 3 := OB_of (by decide +kernel)
theorem gc_195_0 {P : Nat → Nat → Option Nat} (hp : Wp P) : P 195 0 = some 196 ∧ OB NT 196 1 := gr_3_0 hp ob_195
theorem ob_196 : OB NT 196 1 := OB_of (by decide +kernel)
theorem gc_196_1 {P : Nat → Nat → Option Nat} (hp : Wp P) : P 196 1 = some 197 ∧ AR NT 197 13 60 := gr_1_1 hp ob_196
theorem gc_196_2 {P : Nat → Nat → Option Nat} (hp : Wp P) : P 196 2 = some 198 ∧ AR NT 198 13 12 := gr_1_2 hp ob_196
theorem gc_196_3 {P : Nat → Nat → Option Nat} (hp : Wp P) : P 196 3 = some 199 ∧ AR NT 199 13 12 := gr_1_3 hp ob_196
theorem gc_196_4 {P : Nat → Nat → Option Nat} (hp : Wp P) : P 196 4 = some 200 ∧ AR NT 200 13 12 := gr_1_4 hp ob_196
theorem ob_201 : OB NT 201 2 := OB_of (by decide +kernel)
theorem gc_201_3 {P : Nat → Nat → Option Nat} (hp : Wp P) : P 201 3 = some 202 ∧ AR NT 202 13 60 := gr_2_3 hp ob_201
theorem gc_201_4 {P : Nat → Nat → Option Nat} (hp : Wp P) : P 201 4 = some 203 ∧ AR NT 203 13 5 := gr_2_4 hp ob_201
theorem gc_201_5 {P : Nat → Nat → Option Nat} (hp : Wp P) : P 201 5 = some 204 ∧ AR NT 204 13 5 := gr_2_5 hp ob_201
theorem ob_205 : OB NT 205 11 := OB_of (by decide +kernel)
theorem gc_205_1 {P : Nat → Nat → Option Nat} (hp : Wp P) : P 205 1 = some 206 ∧ AR NT 206 13 2051 := gr_11_1 hp ob_205
theorem gc_205_2 {P : Nat → Nat → Option Nat} (hp : Wp P) : P 205 2 = some 207 ∧ AR NT 207 13 1202 := gr_11_2 hp ob_205
theorem gc_205_3 {P : Nat → Nat → Option Nat} (hp : Wp P) : P 205 3 = some 208 ∧ AR NT 208 13 1202 := gr_11_3 hp ob_205
theorem gc_205_4 {P : Nat → Nat → Option Nat} (hp : Wp P) : P 205 4 = some 209 ∧ AR NT 209 13 353 := gr_11_4 hp ob_205
theorem gc_205_5 {P : Nat → Nat → Option Nat} (hp : Wp P) : P 205 5 = some 210 ∧ AR NT 210 13 4236 := gr_11_5 hp ob_205
theorem gc_205_8 {P : Nat → Nat → Option Nat} (hp : Wp P) : P 205 8 = some 211 ∧ AR NT 211 12 400 := gr_11_8 hp ob_205
theorem gc_205_15 {P : Nat → Nat → Option Nat} (hp : Wp P) : P 205 15 = some 212 ∧ AR NT 212 13 5 := gr_11_15 hp ob_205
theorem gc_205_17 {P : Nat → Nat → Option Nat} (hp : Wp P) : P 205 17 = some 213 ∧ AR NT 213 13 400 := gr_11_17 hp ob_205
theorem gc_205_18 {P : Nat → Nat → Option Nat} (hp : Wp P) : P 205 18 = some 214 ∧ AR NT 214 13 6 := gr_11_18 hp ob_205
theorem gc_205_19 {P : Nat → Nat → Option Nat} (hp : Wp P) : P 205 19 = some 215 ∧ AR NT 215 13 6 := gr_11_19 hp ob_205
theorem gc_205_20 {P : Nat → Nat → Option Nat} (hp : Wp P) : P 205 20 = some 216 ∧ AR NT 216 13 4096 := gr_11_20 hp ob_205
theorem gc_205_21 {P : Nat → Nat → Option Nat} (hp : Wp P) : P 205 21 = some 217 ∧ AR NT 217 14 7 := gr_11_21 hp ob_205
