theorem x_X11_118 : XF RX11 118 122 "java/lang/IllegalArgumentException" ["java/lang/RuntimeException", "java/lang/Exception"] := ⟨by decide +kernel, by decide +kernel, w_874, w_23, by decide +kernel, rfl⟩
theorem x_X11_128 : XF RX11 128 132 "java/lang/UnsupportedOperationException" ["java/lang/RuntimeException", "java/lang/Exception"] := ⟨by decide +kernel, by decide +kernel, w_944, w_24, by decide +kernel, rfl⟩
theorem x_X11_158 : XF RX11 158 162 "java/lang/IndexOutOfBoundsException" ["java/lang/RuntimeException", "java/lang/Exception"] := ⟨by decide +kernel, by decide +kernel, w_985, w_25, by decide +kernel, rfl⟩
theorem x_X11_223 : XF RX11 223 227 "java/lang/IllegalStateException" ["java/lang/RuntimeException", "java/lang/Exception"] := ⟨by decide +kernel, by decide +kernel, w_1044, w_27, by decide +kernel, rfl⟩
theorem a_X10_40_5 : AF RX10 40 5 ⟨"BiteYears$Text", "readLine", "()Z"⟩ mX5_readLine 0 := ⟨⟨w_660, w_662, w_663, w_664, w_10, w_665⟩, rfl, nw_661, by decide +kernel, by decide⟩
theorem a_X10_40_6 : AF RX10 40 6 ⟨"BiteYears$Text", "readLine", "()Z"⟩ mX6_readLine 0 := ⟨⟨w_660, w_662, w_818, w_819, w_9, w_820⟩, rfl, nw_661, by decide +kernel, by decide⟩
theorem Wp_up {P : Nat → Nat → Option Nat} {a b : Nat} (hp : Wp P) (h : (LT a).1 = 5 ∨ (LT a).1 = 6) : Wp (up2 P a 0 (some b)) := by
  intro c k hc
  rw [up2_get]
  by_cases q : c = a ∧ k = 0
  · exact absurd ⟨q.1 ▸ h, q.2⟩ hc
  · rw [if_neg q]; exact hp c k hc
theorem rd_ne {α : Type} {f : Nat → Nat → α} {a k : Nat} {x : α} {b j : Nat} (h : b ≠ a ∨ j ≠ k) : up2 f a k x b j = f b j := by
  rw [up2_get, if_neg (fun q => h.elim (fun z => z q.1) (fun z => z q.2))]
theorem rd_eq {α : Type} {f : Nat → Nat → α} {a k : Nat} {x : α} : up2 f a k x a k = x := by rw [up2_get, if_pos ⟨rfl, rfl⟩]
section
variable {g : gX} {μ : mX} {d pc : Nat} {tt : tX} {R : rX} {ls : List (Option Value)} {st : List Value} {t : Nat} {I : Nat → Nat → Int32} {J : Nat → Nat → Int64} {P : Nat → Nat → Option Nat}
theorem M_getIs {idx c k a : Nat} {x : Int32} (hd : decode μ.2.1 pc = .ok (.getfield idx, 3)) (hf : FLI μ.1.cls idx c k) (ho : OB t a c) (hx : I a k = x) (kk : M g μ d tt R (pc + 3) ls (.int x :: st) (t, I, J, P)) : M g μ d tt R pc ls (.ref a :: st) (t, I, J, P) := by
  subst hx
  exact M_getI hd hf ho kk
theorem M_ildcs {a n j : Nat} {i x : Int32} (hd : decode μ.2.1 pc = .ok (.iaload, 1)) (ho : AR t a 13 n) (hi : inB i n = true) (hj : i.toNatClampNeg = j) (hx : I a j = x) (kk : M g μ d tt R (pc + 1) ls (.int x :: st) (t, I, J, P)) : M g μ d tt R pc ls (.int i :: .ref a :: st) (t, I, J, P) := by
  subst hx
  exact M_ildc hd ho hi hj kk
end
