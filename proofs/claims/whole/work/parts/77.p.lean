/-! two hosts -/
section
variable {C C' M M' : HI} {n d e : Nat} {x1 x2 : Int32}
theorem s_hosts (h : GR C M n) : ∃ r C' b M', F_X11_hosts C x1 x2 = some (r, C') ∧ F_X12_hosts M x1 x2 = some (b, M') ∧ Qs ["java/lang/IndexOutOfBoundsException", "java/lang/IllegalArgumentException"] r b M' ∧ (∃ n', GR C' M' n') ∧ fcl C C' ∧ fmo M M' := by
  have hD := h.1.1.D
  have hW := h.1.2.1
  have hn := hW.1.2.1
  have hW0 : DOk n (M0 M 206) := hW.1
  have l7 : C 3 7 = M 206 8 := h.1.1.1.2.2.2.2.2.2.1
  unfold F_X11_hosts F_X12_hosts
  simp only [Option.bind_eq_bind]
  rcases nat_or x1 n (by omega) with ⟨d, hd, rfl⟩ | hx
  · rw [cl_has hD hW.1 hd, m_noDish hW0 hd, Option.bind_some, if_neg (by decide), Option.bind_some, if_pos rfl]
    rcases nat_or x2 n (by omega) with ⟨e, he, rfl⟩ | hx
    · rw [cl_has hD hW.1 he, m_noDish hW0 he, Option.bind_some, if_neg (by decide), Option.bind_some, if_pos rfl, m_thr0, Option.bind_some, if_pos rfl]
      by_cases hde : d = e
      · subst hde
        rw [if_pos rfl, if_pos rfl, m_thr1, Option.bind_some, if_neg (show ¬ (1 : Int32) = 0 by decide), M0_up]
        exact ⟨_, _, _, _, rfl, rfl, ⟨2, rfl, 1, rfl, rfl⟩, ⟨n, h.thr 2⟩, fcl.refl _, fmo_thr _ _⟩
      · have hne : ¬ Int32.ofNat d = Int32.ofNat e := by rw [ofn_eq (by omega) (by omega)]; exact hde
        have hne2 : ¬ Int32.ofNat e = Int32.ofNat d := fun q => hne q.symm
        rw [if_neg hne, if_neg hne, m_thr0, Option.bind_some, if_pos rfl]
        obtain ⟨cA, tA, A, C2, -, -, hA, -, a1, a2, a3, -, a5⟩ := now_sim h hd
        obtain ⟨cB, tB, B, C3, -, -, hB, -, b1, b2, b3, -, b5⟩ := now_sim a2 he
        have hd1 : F_X1_distance C 4 (Int32.ofNat d) (Int32.ofNat e) = some (dst (M 206) d e) := cl_dist hD (by omega) (by omega)
        -- the reference's host
        let s : Int32 := if M 206 8 < dst (M 206) d e then 0 else 2
        have haa : ∀ M1, M1 206 = M 206 → ∃ M2, F_X12_hostHas M1 (Int32.ofNat d) (Int32.ofNat d) = some (A / 2, M2) ∧ ∀ b, b ≠ 213 → M2 b = M1 b := by
          intro M1 hM1
          obtain ⟨M2, q1, q2⟩ := a5 M1 hM1
          refine ⟨M2, ?_, q2⟩
          unfold F_X12_hostHas
          rw [if_pos rfl, q1]; rfl
        have hbb : ∀ M1, M1 206 = M 206 → ∃ M2, F_X12_hostHas M1 (Int32.ofNat e) (Int32.ofNat e) = some (B / 2, M2) ∧ ∀ b, b ≠ 213 → M2 b = M1 b := by
          intro M1 hM1
          obtain ⟨M2, q1, q2⟩ := b5 M1 hM1
          refine ⟨M2, ?_, q2⟩
          unfold F_X12_hostHas
          rw [if_pos rfl, q1]; rfl
        have hab : ∀ M1, M1 206 = M 206 → ∃ M2, F_X12_hostHas M1 (Int32.ofNat d) (Int32.ofNat e) = some (A - s, M2) ∧ ∀ b, b ≠ 213 → M2 b = M1 b := by
          intro M1 hM1
          obtain ⟨M2, q1, q2⟩ := a5 M1 hM1
          have q3 : M2 206 = M 206 := by rw [q2 206 (by omega)]; exact hM1
          refine ⟨M2, ?_, q2⟩
          unfold F_X12_hostHas
          rw [if_neg hne, q1, Option.bind_eq_bind, Option.bind_some]
          dsimp only
          rw [m_farOf (by omega) (by omega), Option.bind_eq_bind, Option.bind_some]
          simp only [q3]
          show (if M 206 8 < dst (M 206) d e then some (A - 0, M2) else some (A - 2, M2)) = some (A - (if M 206 8 < dst (M 206) d e then 0 else 2), M2)
          split <;> rfl
        have hba : ∀ M1, M1 206 = M 206 → ∃ M2, F_X12_hostHas M1 (Int32.ofNat e) (Int32.ofNat d) = some (B - s, M2) ∧ ∀ b, b ≠ 213 → M2 b = M1 b := by
          intro M1 hM1
          obtain ⟨M2, q1, q2⟩ := b5 M1 hM1
          have q3 : M2 206 = M 206 := by rw [q2 206 (by omega)]; exact hM1
          refine ⟨M2, ?_, q2⟩
          unfold F_X12_hostHas
          rw [if_neg hne2, q1, Option.bind_eq_bind, Option.bind_some]
          dsimp only
          rw [m_farOf (by omega) (by omega), Option.bind_eq_bind, Option.bind_some]
          simp only [q3, dst_sym hW.1 (show e < 12 by omega) (show d < 12 by omega)]
          show (if M 206 8 < dst (M 206) d e then some (B - 0, M2) else some (B - 2, M2)) = some (B - (if M 206 8 < dst (M 206) d e then 0 else 2), M2)
          split <;> rfl
        have x12 : Int32.ofNat d + Int32.ofNat e - Int32.ofNat d = Int32.ofNat e := by rw [Int32.add_comm, Int32.add_sub_cancel]
        have x21 : Int32.ofNat d + Int32.ofNat e - Int32.ofNat e = Int32.ofNat d := Int32.add_sub_cancel _ _
        -- a step with four questions
        have two : ∀ {F1 F2 F3 F4 : HI → Option (Int32 × HI)} {u1 u2 u3 u4 : Int32} (K : Int32 → HI → Option (Int32 × HI)) (z0 z1 : Int32), (∀ M1, M1 206 = M 206 → ∃ M2, F1 M1 = some (u1, M2) ∧ ∀ b, b ≠ 213 → M2 b = M1 b) → (∀ M1, M1 206 = M 206 → ∃ M2, F2 M1 = some (u2, M2) ∧ ∀ b, b ≠ 213 → M2 b = M1 b) → (∀ M1, M1 206 = M 206 → ∃ M2, F3 M1 = some (u3, M2) ∧ ∀ b, b ≠ 213 → M2 b = M1 b) → (∀ M1, M1 206 = M 206 → ∃ M2, F4 M1 = some (u4, M2) ∧ ∀ b, b ≠ 213 → M2 b = M1 b) → ∀ M1, M1 206 = M 206 → ∃ M2, ((F1 M1).bind fun r1 => (F2 r1.2).bind fun r2 => if r1.1 < r2.1 then K z0 r2.2 else (F3 r2.2).bind fun r3 => (F4 r3.2).bind fun r4 => if r3.1 < r4.1 then K z0 r4.2 else K z1 r4.2) = K (if u1 < u2 ∨ u3 < u4 then z0 else z1) M2 ∧ ∀ b, b ≠ 213 → M2 b = M1 b := by
          intro F1 F2 F3 F4 u1 u2 u3 u4 K z0 z1 h1 h2 h3 h4 M1 hM1
          obtain ⟨N1, p1, p2⟩ := h1 M1 hM1
          obtain ⟨N2, p3, p4⟩ := h2 N1 (by rw [p2 206 (by omega)]; exact hM1)
          have hN2 : N2 206 = M 206 := by rw [p4 206 (by omega), p2 206 (by omega)]; exact hM1
          obtain ⟨N3, p5, p6⟩ := h3 N2 hN2
          obtain ⟨N4, p7, p8⟩ := h4 N3 (by rw [p6 206 (by omega)]; exact hN2)
          rw [p1, Option.bind_some, p3, Option.bind_some]
          by_cases q : u1 < u2
          · rw [if_pos q, if_pos (Or.inl q)]
            exact ⟨N2, rfl, fun b hb => by rw [p4 b hb, p2 b hb]⟩
          · rw [if_neg q, p5, Option.bind_some, p7, Option.bind_some]
            by_cases q2 : u3 < u4
            · rw [if_pos q2, if_pos (Or.inr q2)]
              exact ⟨N4, rfl, fun b hb => by rw [p8 b hb, p6 b hb, p4 b hb, p2 b hb]⟩
            · rw [if_neg q2, if_neg (fun w => w.elim q q2)]
              exact ⟨N4, rfl, fun b hb => by rw [p8 b hb, p6 b hb, p4 b hb, p2 b hb]⟩
        have st0 : ∀ (acc : Int32) (M1 : HI), M1 206 = M 206 → ∃ M2, L_X12_hosts_59 (Int32.ofNat d) (Int32.ofNat e) acc 0 M1 = L_X12_hosts_59 (Int32.ofNat d) (Int32.ofNat e) (if A / 2 < B - s ∨ A / 2 < B - s then acc ||| 0 else acc ||| (1 <<< ((0 : Int32) &&& 31))) 1 M2 ∧ ∀ b, b ≠ 213 → M2 b = M1 b := by
          intro acc M1 hM1
          rw [L_X12_hosts_59, if_neg (by decide), if_pos (by decide), if_pos (by decide), x12]
          exact two (fun z N => L_X12_hosts_59 (Int32.ofNat d) (Int32.ofNat e) z 1 N) (acc ||| 0) (acc ||| (1 <<< ((0 : Int32) &&& 31))) haa hba haa hba M1 hM1
        have st1 : ∀ (acc : Int32) (M1 : HI), M1 206 = M 206 → ∃ M2, L_X12_hosts_59 (Int32.ofNat d) (Int32.ofNat e) acc 1 M1 = L_X12_hosts_59 (Int32.ofNat d) (Int32.ofNat e) (if A - s < B / 2 ∨ B - s < A / 2 then acc ||| 0 else acc ||| (1 <<< ((1 : Int32) &&& 31))) 2 M2 ∧ ∀ b, b ≠ 213 → M2 b = M1 b := by
          intro acc M1 hM1
          rw [L_X12_hosts_59, if_neg (by decide), if_pos (by decide), if_neg (by decide), x12, x21]
          exact two (fun z N => L_X12_hosts_59 (Int32.ofNat d) (Int32.ofNat e) z 2 N) (acc ||| 0) (acc ||| (1 <<< ((1 : Int32) &&& 31))) hab hbb hba haa M1 hM1
        have st2 : ∀ (acc : Int32) (M1 : HI), M1 206 = M 206 → ∃ M2, L_X12_hosts_59 (Int32.ofNat d) (Int32.ofNat e) acc 2 M1 = L_X12_hosts_59 (Int32.ofNat d) (Int32.ofNat e) (if B - s < A / 2 ∨ A - s < B / 2 then acc ||| 0 else acc ||| (1 <<< ((2 : Int32) &&& 31))) 3 M2 ∧ ∀ b, b ≠ 213 → M2 b = M1 b := by
          intro acc M1 hM1
          rw [L_X12_hosts_59, if_neg (by decide), if_neg (by decide), if_pos (by decide), x12, x21]
          exact two (fun z N => L_X12_hosts_59 (Int32.ofNat d) (Int32.ofNat e) z 3 N) (acc ||| 0) (acc ||| (1 <<< ((2 : Int32) &&& 31))) hba haa hab hbb M1 hM1
        have st3 : ∀ (acc : Int32) (M1 : HI), M1 206 = M 206 → ∃ M2, L_X12_hosts_59 (Int32.ofNat d) (Int32.ofNat e) acc 3 M1 = L_X12_hosts_59 (Int32.ofNat d) (Int32.ofNat e) (if B / 2 < A - s ∨ B / 2 < A - s then acc ||| 0 else acc ||| (1 <<< ((3 : Int32) &&& 31))) 4 M2 ∧ ∀ b, b ≠ 213 → M2 b = M1 b := by
          intro acc M1 hM1
          rw [L_X12_hosts_59, if_neg (by decide), if_neg (by decide), if_neg (by decide), x21]
          exact two (fun z N => L_X12_hosts_59 (Int32.ofNat d) (Int32.ofNat e) z 4 N) (acc ||| 0) (acc ||| (1 <<< ((3 : Int32) &&& 31))) hbb hab hbb hab M1 hM1
        obtain ⟨N0, p0, f0⟩ := st0 0 (M0 M) rfl
        have n0 : N0 206 = M 206 := f0 206 (by omega)
        obtain ⟨N1, p1, f1⟩ := st1 _ N0 n0
        have n1 : N1 206 = M 206 := (f1 206 (by omega)).trans n0
        obtain ⟨N2, p2, f2⟩ := st2 _ N1 n1
        have n2 : N2 206 = M 206 := (f2 206 (by omega)).trans n1
        obtain ⟨N3, p3, f3⟩ := st3 _ N2 n2
        have hfin : ∀ b, b ≠ 213 → N3 b = M0 M b := fun b hb => by rw [f3 b hb, f2 b hb, f1 b hb, f0 b hb]
        have hG : GR C3 N3 n := ((b2.thr 0)).val hfin
        have hfm : fmo M N3 := fun b hb => (hfin b (by omega)).trans (up2_ne _ _ _ (by omega))
        have hth : N3 205 0 = 0 := by rw [hfin 205 (by omega)]; rfl
        rw [p0, p1, p2, p3, L_X12_hosts_59, if_pos (by decide), hd1, Option.bind_some, l7]
        -- both answers
        have fin : ∀ (v b' : Int32), b' = v → ∃ r C' b M', (some (Sum.inl v, C3) : Option ((Int32 ⊕ String) × HI)) = some (r, C') ∧ some (b', N3) = some (b, M') ∧ Qs ["java/lang/IndexOutOfBoundsException", "java/lang/IllegalArgumentException"] r b M' ∧ (∃ n', GR C' M' n') ∧ fcl C C' ∧ fmo M M' := by
          intro v b' hb'
          exact ⟨_, _, _, _, rfl, rfl, ⟨0, by rw [thrn, hth], rfl, hb'.symm⟩, ⟨n, hG⟩, a3.trans b3, hfm⟩
        by_cases hs : M 206 8 < dst (M 206) d e
        · have es : s = 0 := if_pos hs
          rw [if_pos hs, a1, Option.bind_some, b1, Option.bind_some]
          rw [es]
          by_cases c0 : A / 2 < B - 0 <;> by_cases c3 : B / 2 < A - 0 <;> by_cases c1 : A - 0 < B / 2 <;> by_cases c2 : B - 0 < A / 2 <;> simp only [c0, c1, c2, c3, if_true, if_false, or_self, or_true, true_or, or_false, false_or] <;> exact fin _ _ (by decide)
        · have es : s = 2 := if_neg hs
          rw [if_neg hs, a1, Option.bind_some, b1, Option.bind_some]
          rw [es]
          by_cases c0 : A / 2 < B - 2 <;> by_cases c3 : B / 2 < A - 2 <;> by_cases c1 : A - 2 < B / 2 <;> by_cases c2 : B - 2 < A / 2 <;> simp only [c0, c1, c2, c3, if_true, if_false, or_self, or_true, true_or, or_false, false_or] <;> exact fin _ _ (by decide)
    · rw [cl_hasN hD hW.1 hx, m_noDishN hW0 hx, Option.bind_some, if_pos rfl, Option.bind_some, if_neg (by decide), m_thr1, Option.bind_some, if_neg (show ¬ (1 : Int32) = 0 by decide), M0_up]
      exact ⟨_, _, _, _, rfl, rfl, ⟨1, rfl, 0, rfl, rfl⟩, ⟨n, h.thr 1⟩, fcl.refl _, fmo_thr _ _⟩
  · rw [cl_hasN hD hW.1 hx, m_noDishN hW0 hx, Option.bind_some, if_pos rfl, Option.bind_some, if_neg (by decide), m_thr1, Option.bind_some, if_neg (show ¬ (1 : Int32) = 0 by decide), M0_up]
    exact ⟨_, _, _, _, rfl, rfl, ⟨1, rfl, 0, rfl, rfl⟩, ⟨n, h.thr 1⟩, fcl.refl _, fmo_thr _ _⟩
end
