/-! the law's 28 wrappers -/
theorem thr_inl {r : Int32 ⊕ String} {v : Option Value} (h : thr_i r = .inl v) : ∃ w, r = .inl w ∧ v = some (.int w) := by
  cases r with
  | inl w => exact ⟨w, rfl, (Sum.inl.inj h).symm⟩
  | inr E => cases h
theorem thr_inr {r : Int32 ⊕ String} {E : String} (h : thr_i r = .inr E) : r = .inr E := by
  cases r with
  | inl w => cases h
  | inr E => cases h; rfl
theorem hRW (g : gX) (d D : Nat) (hh : List (Nat × Nat × Nat × Nat)) (R : rX) : d + D + 1 ≤ (ZW g (d + (D + 1)) hh R).1.frames ∧ 8 + (40 + 11) + 64 * (d + D) ≤ (ZW g (d + (D + 1)) hh R).1.locals ∧ 0 + 1 ≤ (ZW g (d + (D + 1)) hh R).1.cells ∧ 0 + 6 ≤ (ZW g (d + (D + 1)) hh R).1.slots := by
  refine ⟨Nat.le_refl _, ?_, ?_, ?_⟩
  · show 8 + (40 + 11) + 64 * (d + D) ≤ 64 * (d + (D + 1)); omega
  · show 0 + 1 ≤ NT - NT + 1; rw [Nat.sub_self]; exact Nat.le_refl _
  · simp only [ZW, rm, Nat.sub_self, Nat.zero_add, Nat.mul_one, Nat.le_refl]
/-- what a wrapper gives back: its answer in out[0] and 0, or the number of what was thrown -/
def wres (ns : List String) (J : HJ) (r : Int32 ⊕ String) (k : Int32) (J' : HJ) : Prop := match r with
  | .inl v => k = 0 ∧ J' = up2 J 218 0 v.toInt64
  | .inr E => J' = J ∧ ∃ i, ns[i]? = some E ∧ k = Int32.ofNat (i + 1)
theorem ar_out : AR NT 218 14 1 := AR_of (by decide +kernel)
abbrev hL_life : List (Nat × Nat × Nat × Nat) := [(0, 8, 11, 13), (0, 8, 14, 15)]
theorem W_life {g : gX} {d : Nat} {P : Nat → Nat → Option Nat} {I : HI} {J J9 : HJ} {k9 : Int32} (hp : Wp P) {r : (Int32 ⊕ String) × HI} (h : F_X11_life I = some r) (hw : wres ["java/lang/IllegalArgumentException", "java/lang/UnsupportedOperationException"] J r.1 k9 J9) : Cw g mL_life hL_life (d + 10) [.ref 1, .ref 218] (NT, I, J, P) (some (.int k9)) (NT, r.2, J9, (up2 P 138 0 (some 2))) := by
  refine Cw.of (by decide) (by simp [Value.category]) (Nat.le_of_ble_eq_true rfl) (ls := [some (.ref 1), some (.ref 218), none]) rfl rfl rfl ?_
  refine Y_aload_n (pc := 0) dL_life_0 rfl ?_
  refine Y_iconst (pc := 1) dL_life_1 (v := 0) rfl ?_
  refine Y_aload_n (pc := 2) dL_life_2 rfl ?_
  refine Y_callX (pc := 3) (d := d + 9) (R := (thr_i r.1, (NT, r.2, J, (up2 P 138 0 (some 2))))) dL_life_3 v_L_7 rfl rfl at_10 (Nat.le_of_ble_eq_true rfl) rfl rfl (C_X11_life (d := d) hp h) (hRW g d 9 _ _) (fun v hv => ?_) (fun E hE => ?_)
  · obtain ⟨v1, hv1, rfl⟩ := thr_inl hv
    rw [hv1] at hw
    obtain ⟨rfl, rfl⟩ := hw
    refine Y_i2l (pc := 6) dL_life_6 ?_
    refine Y_lstc (pc := 7) (t := NT) dL_life_7 ar_out (j := 0) rfl rfl ?_
    refine Y_goto (pc := 8) (tgt := 17) dL_life_8 (by decide) ?_
    refine Y_iconst (pc := 17) dL_life_17 (v := 0) rfl ?_
    exact Y_iretW (pc := 18) dL_life_18 rfl ⟨Nat.le_refl _, Nat.le_refl _⟩ rfl
  · have hE1 := thr_inr hE
    rw [hE1] at hw
    obtain ⟨rfl, i9, h8, rfl⟩ := hw
    rcases i9 with _ | i9
    · have h8 : some "java/lang/IllegalArgumentException" = some E := h8
      cases h8
      exact YX_catch [] ⟨0, 8, 11, 13⟩ [⟨0, 8, 14, 15⟩] (fun c args q => q) (fun z hz => absurd hz List.not_mem_nil) rfl (by decide) w_632 nw_876 (YH_n (pc := 11) (pc1 := 12) (pc2 := 13) dL_life_11 dL_life_12 dL_life_13 ⟨rfl, rfl⟩ (by decide) rfl rfl ⟨Nat.le_refl _, Nat.le_refl _⟩ rfl)
    · rcases i9 with _ | i9
      · have h8 : some "java/lang/UnsupportedOperationException" = some E := h8
        cases h8
        exact YX_catch [⟨0, 8, 11, 13⟩] ⟨0, 8, 14, 15⟩ [] (fun c args q => q) (fun z hz => by cases List.mem_singleton.mp hz; exact ⟨by decide, "java/lang/IllegalArgumentException", w_632, by decide⟩) rfl (by decide) w_633 nw_946 (YH_n (pc := 14) (pc1 := 15) (pc2 := 16) dL_life_14 dL_life_15 dL_life_16 ⟨rfl, rfl⟩ (by decide) rfl rfl ⟨Nat.le_refl _, Nat.le_refl _⟩ rfl)
      · have h8 : none = some E := h8
        cases h8
theorem wf_life : WF RL 122 mL_life hL_life 2 := ⟨⟨w_629, w_630, w_0, w_631⟩, ⟨by decide, by decide, by decide +kernel⟩, by decide⟩
abbrev hL_law : List (Nat × Nat × Nat × Nat) := [(0, 8, 11, 13)]
theorem W_law {g : gX} {d : Nat} {P : Nat → Nat → Option Nat} {I : HI} {J J9 : HJ} {k9 : Int32} (hp : Wp P) {r : (Int32 ⊕ String) × HI} (h : F_X11_law I = some r) (hw : wres ["java/lang/IllegalArgumentException"] J r.1 k9 J9) : Cw g mL_law hL_law (d + 12) [.ref 1, .ref 218] (NT, I, J, P) (some (.int k9)) (NT, r.2, J9, (up2 P 146 0 (some 2))) := by
  refine Cw.of (by decide) (by simp [Value.category]) (Nat.le_of_ble_eq_true rfl) (ls := [some (.ref 1), some (.ref 218), none]) rfl rfl rfl ?_
  refine Y_aload_n (pc := 0) dL_law_0 rfl ?_
  refine Y_iconst (pc := 1) dL_law_1 (v := 0) rfl ?_
  refine Y_aload_n (pc := 2) dL_law_2 rfl ?_
  refine Y_callX (pc := 3) (d := d + 11) (R := (thr_i r.1, (NT, r.2, J, (up2 P 146 0 (some 2))))) dL_law_3 v_L_17 rfl rfl at_10 (Nat.le_of_ble_eq_true rfl) rfl rfl (C_X11_law (d := d) hp h) (hRW g d 11 _ _) (fun v hv => ?_) (fun E hE => ?_)
  · obtain ⟨v1, hv1, rfl⟩ := thr_inl hv
    rw [hv1] at hw
    obtain ⟨rfl, rfl⟩ := hw
    refine Y_i2l (pc := 6) dL_law_6 ?_
    refine Y_lstc (pc := 7) (t := NT) dL_law_7 ar_out (j := 0) rfl rfl ?_
    refine Y_goto (pc := 8) (tgt := 14) dL_law_8 (by decide) ?_
    refine Y_iconst (pc := 14) dL_law_14 (v := 0) rfl ?_
    exact Y_iretW (pc := 15) dL_law_15 rfl ⟨Nat.le_refl _, Nat.le_refl _⟩ rfl
  · have hE1 := thr_inr hE
    rw [hE1] at hw
    obtain ⟨rfl, i9, h8, rfl⟩ := hw
    rcases i9 with _ | i9
    · have h8 : some "java/lang/IllegalArgumentException" = some E := h8
      cases h8
      exact YX_catch [] ⟨0, 8, 11, 13⟩ [] (fun c args q => q) (fun z hz => absurd hz List.not_mem_nil) rfl (by decide) w_632 nw_876 (YH_n (pc := 11) (pc1 := 12) (pc2 := 13) dL_law_11 dL_law_12 dL_law_13 ⟨rfl, rfl⟩ (by decide) rfl rfl ⟨Nat.le_refl _, Nat.le_refl _⟩ rfl)
    · have h8 : none = some E := h8
      cases h8
theorem wf_law : WF RL 131 mL_law hL_law 2 := ⟨⟨w_960, w_961, w_0, w_962⟩, ⟨by decide, by decide, by decide +kernel⟩, by decide⟩
abbrev hL_dish : List (Nat × Nat × Nat × Nat) := [(0, 10, 13, 24), (0, 10, 17, 26)]
theorem W_dish {g : gX} {d : Nat} {P : Nat → Nat → Option Nat} {I : HI} {x1 : Int32} {x2 : Int32} {J J9 : HJ} {k9 : Int32} (hp : Wp P) {r : (Int32 ⊕ String) × HI} (h : F_X11_dish I x1 x2 = some r) (hw : wres ["java/lang/IndexOutOfBoundsException", "java/util/NoSuchElementException"] J r.1 k9 J9) : Cw g mL_dish hL_dish (d + 7) [.ref 1, .int x1, .int x2, .ref 218] (NT, I, J, P) (some (.int k9)) (NT, r.2, J9, P) := by
  refine Cw.of (by decide) (by simp [Value.category]) (Nat.le_of_ble_eq_true rfl) (ls := [some (.ref 1), some (.int x1), some (.int x2), some (.ref 218), none]) rfl rfl rfl ?_
  refine Y_aload_n (pc := 0) dL_dish_0 rfl ?_
  refine Y_iconst (pc := 1) dL_dish_1 (v := 0) rfl ?_
  refine Y_aload_n (pc := 2) dL_dish_2 rfl ?_
  refine Y_iload_n (pc := 3) dL_dish_3 rfl ?_
  refine Y_iload_n (pc := 4) dL_dish_4 rfl ?_
  refine Y_callX (pc := 5) (d := d + 6) (R := (thr_i r.1, (NT, r.2, J, P))) dL_dish_5 v_L_20 rfl rfl at_10 (Nat.le_of_ble_eq_true rfl) rfl rfl (C_X11_dish (d := d) hp h) (hRW g d 6 _ _) (fun v hv => ?_) (fun E hE => ?_)
  · obtain ⟨v1, hv1, rfl⟩ := thr_inl hv
    rw [hv1] at hw
    obtain ⟨rfl, rfl⟩ := hw
    refine Y_i2l (pc := 8) dL_dish_8 ?_
    refine Y_lstc (pc := 9) (t := NT) dL_dish_9 ar_out (j := 0) rfl rfl ?_
    refine Y_goto (pc := 10) (tgt := 21) dL_dish_10 (by decide) ?_
    refine Y_iconst (pc := 21) dL_dish_21 (v := 0) rfl ?_
    exact Y_iretW (pc := 22) dL_dish_22 rfl ⟨Nat.le_refl _, Nat.le_refl _⟩ rfl
  · have hE1 := thr_inr hE
    rw [hE1] at hw
    obtain ⟨rfl, i9, h8, rfl⟩ := hw
    rcases i9 with _ | i9
    · have h8 : some "java/lang/IndexOutOfBoundsException" = some E := h8
      cases h8
      exact YX_catch [] ⟨0, 10, 13, 24⟩ [⟨0, 10, 17, 26⟩] (fun c args q => q) (fun z hz => absurd hz List.not_mem_nil) rfl (by decide) w_978 nw_987 (YH_w (pc := 13) (pc1 := 15) (pc2 := 16) dL_dish_13 dL_dish_15 dL_dish_16 ⟨rfl, rfl⟩ (by decide) rfl rfl ⟨Nat.le_refl _, Nat.le_refl _⟩ rfl)
    · rcases i9 with _ | i9
      · have h8 : some "java/util/NoSuchElementException" = some E := h8
        cases h8
        exact YX_catch [⟨0, 10, 13, 24⟩] ⟨0, 10, 17, 26⟩ [] (fun c args q => q) (fun z hz => by cases List.mem_singleton.mp hz; exact ⟨by decide, "java/lang/IndexOutOfBoundsException", w_978, by decide⟩) rfl (by decide) w_979 nw_1003 (YH_w (pc := 17) (pc1 := 19) (pc2 := 20) dL_dish_17 dL_dish_19 dL_dish_20 ⟨rfl, rfl⟩ (by decide) rfl rfl ⟨Nat.le_refl _, Nat.le_refl _⟩ rfl)
      · have h8 : none = some E := h8
        cases h8
theorem wf_dish : WF RL 138 mL_dish hL_dish 4 := ⟨⟨w_975, w_976, w_0, w_977⟩, ⟨by decide, by decide, by decide +kernel⟩, by decide⟩
abbrev hL_far : List (Nat × Nat × Nat × Nat) := [(0, 10, 13, 24)]
theorem W_far {g : gX} {d : Nat} {P : Nat → Nat → Option Nat} {I : HI} {x1 : Int32} {x2 : Int32} {J J9 : HJ} {k9 : Int32} (hp : Wp P) {r : (Int32 ⊕ String)} (h : F_X11_far I x1 x2 = some r) (hw : wres ["java/lang/IndexOutOfBoundsException"] J r k9 J9) : Cw g mL_far hL_far (d + 7) [.ref 1, .int x1, .int x2, .ref 218] (NT, I, J, P) (some (.int k9)) (NT, I, J9, P) := by
  refine Cw.of (by decide) (by simp [Value.category]) (Nat.le_of_ble_eq_true rfl) (ls := [some (.ref 1), some (.int x1), some (.int x2), some (.ref 218), none]) rfl rfl rfl ?_
  refine Y_aload_n (pc := 0) dL_far_0 rfl ?_
  refine Y_iconst (pc := 1) dL_far_1 (v := 0) rfl ?_
  refine Y_aload_n (pc := 2) dL_far_2 rfl ?_
  refine Y_iload_n (pc := 3) dL_far_3 rfl ?_
  refine Y_iload_n (pc := 4) dL_far_4 rfl ?_
  refine Y_callX (pc := 5) (d := d + 6) (R := (thr_i r, (NT, I, J, P))) dL_far_5 v_L_28 rfl rfl at_10 (Nat.le_of_ble_eq_true rfl) rfl rfl (C_X11_far (d := d) hp h) (hRW g d 6 _ _) (fun v hv => ?_) (fun E hE => ?_)
  · obtain ⟨v1, hv1, rfl⟩ := thr_inl hv
    rw [hv1] at hw
    obtain ⟨rfl, rfl⟩ := hw
    refine Y_i2l (pc := 8) dL_far_8 ?_
    refine Y_lstc (pc := 9) (t := NT) dL_far_9 ar_out (j := 0) rfl rfl ?_
    refine Y_goto (pc := 10) (tgt := 17) dL_far_10 (by decide) ?_
    refine Y_iconst (pc := 17) dL_far_17 (v := 0) rfl ?_
    exact Y_iretW (pc := 18) dL_far_18 rfl ⟨Nat.le_refl _, Nat.le_refl _⟩ rfl
  · have hE1 := thr_inr hE
    rw [hE1] at hw
    obtain ⟨rfl, i9, h8, rfl⟩ := hw
    rcases i9 with _ | i9
    · have h8 : some "java/lang/IndexOutOfBoundsException" = some E := h8
      cases h8
      exact YX_catch [] ⟨0, 10, 13, 24⟩ [] (fun c args q => q) (fun z hz => absurd hz List.not_mem_nil) rfl (by decide) w_978 nw_987 (YH_w (pc := 13) (pc1 := 15) (pc2 := 16) dL_far_13 dL_far_15 dL_far_16 ⟨rfl, rfl⟩ (by decide) rfl rfl ⟨Nat.le_refl _, Nat.le_refl _⟩ rfl)
    · have h8 : none = some E := h8
      cases h8
theorem wf_far : WF RL 142 mL_far hL_far 4 := ⟨⟨w_1022, w_1023, w_0, w_1024⟩, ⟨by decide, by decide, by decide +kernel⟩, by decide⟩
abbrev hL_near : List (Nat × Nat × Nat × Nat) := [(0, 9, 12, 24)]
theorem W_near {g : gX} {d : Nat} {P : Nat → Nat → Option Nat} {I : HI} {x1 : Int32} {J J9 : HJ} {k9 : Int32} (hp : Wp P) {r : (Int32 ⊕ String)} (h : F_X11_near I x1 = some r) (hw : wres ["java/lang/IndexOutOfBoundsException"] J r k9 J9) : Cw g mL_near hL_near (d + 7) [.ref 1, .int x1, .ref 218] (NT, I, J, P) (some (.int k9)) (NT, I, J9, P) := by
  refine Cw.of (by decide) (by simp [Value.category]) (Nat.le_of_ble_eq_true rfl) (ls := [some (.ref 1), some (.int x1), some (.ref 218), none]) rfl rfl rfl ?_
  refine Y_aload_n (pc := 0) dL_near_0 rfl ?_
  refine Y_iconst (pc := 1) dL_near_1 (v := 0) rfl ?_
  refine Y_aload_n (pc := 2) dL_near_2 rfl ?_
  refine Y_iload_n (pc := 3) dL_near_3 rfl ?_
  refine Y_callX (pc := 4) (d := d + 6) (R := (thr_i r, (NT, I, J, P))) dL_near_4 v_L_31 rfl rfl at_10 (Nat.le_of_ble_eq_true rfl) rfl rfl (C_X11_near (d := d) hp h) (hRW g d 6 _ _) (fun v hv => ?_) (fun E hE => ?_)
  · obtain ⟨v1, hv1, rfl⟩ := thr_inl hv
    rw [hv1] at hw
    obtain ⟨rfl, rfl⟩ := hw
    refine Y_i2l (pc := 7) dL_near_7 ?_
    refine Y_lstc (pc := 8) (t := NT) dL_near_8 ar_out (j := 0) rfl rfl ?_
    refine Y_goto (pc := 9) (tgt := 15) dL_near_9 (by decide) ?_
    refine Y_iconst (pc := 15) dL_near_15 (v := 0) rfl ?_
    exact Y_iretW (pc := 16) dL_near_16 rfl ⟨Nat.le_refl _, Nat.le_refl _⟩ rfl
  · have hE1 := thr_inr hE
    rw [hE1] at hw
    obtain ⟨rfl, i9, h8, rfl⟩ := hw
    rcases i9 with _ | i9
    · have h8 : some "java/lang/IndexOutOfBoundsException" = some E := h8
      cases h8
      exact YX_catch [] ⟨0, 9, 12, 24⟩ [] (fun c args q => q) (fun z hz => absurd hz List.not_mem_nil) rfl (by decide) w_978 nw_987 (YH_n (pc := 12) (pc1 := 13) (pc2 := 14) dL_near_12 dL_near_13 dL_near_14 ⟨rfl, rfl⟩ (by decide) rfl rfl ⟨Nat.le_refl _, Nat.le_refl _⟩ rfl)
    · have h8 : none = some E := h8
      cases h8
theorem wf_near : WF RL 145 mL_near hL_near 3 := ⟨⟨w_1029, w_1030, w_0, w_1031⟩, ⟨by decide, by decide, by decide +kernel⟩, by decide⟩
abbrev hL_spoon : List (Nat × Nat × Nat × Nat) := [(0, 9, 12, 24), (0, 9, 15, 38)]
theorem W_spoon {g : gX} {d : Nat} {P : Nat → Nat → Option Nat} {I : HI} {x1 : Int32} {J J9 : HJ} {k9 : Int32} (hp : Wp P) {r : (Int32 ⊕ String) × HI} (h : F_X11_spoon I x1 = some r) (hw : wres ["java/lang/IndexOutOfBoundsException", "java/lang/IllegalStateException"] J r.1 k9 J9) : Cw g mL_spoon hL_spoon (d + 7) [.ref 1, .int x1, .ref 218] (NT, I, J, P) (some (.int k9)) (NT, r.2, J9, P) := by
  refine Cw.of (by decide) (by simp [Value.category]) (Nat.le_of_ble_eq_true rfl) (ls := [some (.ref 1), some (.int x1), some (.ref 218), none]) rfl rfl rfl ?_
  refine Y_aload_n (pc := 0) dL_spoon_0 rfl ?_
  refine Y_iconst (pc := 1) dL_spoon_1 (v := 0) rfl ?_
  refine Y_aload_n (pc := 2) dL_spoon_2 rfl ?_
  refine Y_iload_n (pc := 3) dL_spoon_3 rfl ?_
  refine Y_callX (pc := 4) (d := d + 6) (R := (thr_i r.1, (NT, r.2, J, P))) dL_spoon_4 v_L_35 rfl rfl at_10 (Nat.le_of_ble_eq_true rfl) rfl rfl (C_X11_spoon (d := d) hp h) (hRW g d 6 _ _) (fun v hv => ?_) (fun E hE => ?_)
  · obtain ⟨v1, hv1, rfl⟩ := thr_inl hv
    rw [hv1] at hw
    obtain ⟨rfl, rfl⟩ := hw
    refine Y_i2l (pc := 7) dL_spoon_7 ?_
    refine Y_lstc (pc := 8) (t := NT) dL_spoon_8 ar_out (j := 0) rfl rfl ?_
    refine Y_goto (pc := 9) (tgt := 18) dL_spoon_9 (by decide) ?_
    refine Y_iconst (pc := 18) dL_spoon_18 (v := 0) rfl ?_
    exact Y_iretW (pc := 19) dL_spoon_19 rfl ⟨Nat.le_refl _, Nat.le_refl _⟩ rfl
  · have hE1 := thr_inr hE
    rw [hE1] at hw
    obtain ⟨rfl, i9, h8, rfl⟩ := hw
    rcases i9 with _ | i9
    · have h8 : some "java/lang/IndexOutOfBoundsException" = some E := h8
      cases h8
      exact YX_catch [] ⟨0, 9, 12, 24⟩ [⟨0, 9, 15, 38⟩] (fun c args q => q) (fun z hz => absurd hz List.not_mem_nil) rfl (by decide) w_978 nw_987 (YH_n (pc := 12) (pc1 := 13) (pc2 := 14) dL_spoon_12 dL_spoon_13 dL_spoon_14 ⟨rfl, rfl⟩ (by decide) rfl rfl ⟨Nat.le_refl _, Nat.le_refl _⟩ rfl)
    · rcases i9 with _ | i9
      · have h8 : some "java/lang/IllegalStateException" = some E := h8
        cases h8
        exact YX_catch [⟨0, 9, 12, 24⟩] ⟨0, 9, 15, 38⟩ [] (fun c args q => q) (fun z hz => by cases List.mem_singleton.mp hz; exact ⟨by decide, "java/lang/IndexOutOfBoundsException", w_978, by decide⟩) rfl (by decide) w_1039 nw_1046 (YH_n (pc := 15) (pc1 := 16) (pc2 := 17) dL_spoon_15 dL_spoon_16 dL_spoon_17 ⟨rfl, rfl⟩ (by decide) rfl rfl ⟨Nat.le_refl _, Nat.le_refl _⟩ rfl)
      · have h8 : none = some E := h8
        cases h8
theorem wf_spoon : WF RL 153 mL_spoon hL_spoon 3 := ⟨⟨w_1036, w_1037, w_0, w_1038⟩, ⟨by decide, by decide, by decide +kernel⟩, by decide⟩
abbrev hL_had : List (Nat × Nat × Nat × Nat) := [(0, 14, 17, 24), (0, 14, 21, 13)]
theorem W_had {g : gX} {d : Nat} {P : Nat → Nat → Option Nat} {I : HI} {x1 : Int32} {x2 : Int32} {x3 : Int32} {x4 : Int32} {J J9 : HJ} {k9 : Int32} (hp : Wp P) {r : (Int32 ⊕ String) × HI} (h : F_X11_had I x1 x2 x3 x4 = some r) (hw : wres ["java/lang/IndexOutOfBoundsException", "java/lang/IllegalArgumentException"] J r.1 k9 J9) : Cw g mL_had hL_had (d + 7) [.ref 1, .int x1, .int x2, .int x3, .int x4, .ref 218] (NT, I, J, P) (some (.int k9)) (NT, r.2, J9, P) := by
  refine Cw.of (by decide) (by simp [Value.category]) (Nat.le_of_ble_eq_true rfl) (ls := [some (.ref 1), some (.int x1), some (.int x2), some (.int x3), some (.int x4), some (.ref 218), none]) rfl rfl rfl ?_
  refine Y_aload (pc := 0) dL_had_0 rfl ?_
  refine Y_iconst (pc := 2) dL_had_2 (v := 0) rfl ?_
  refine Y_aload_n (pc := 3) dL_had_3 rfl ?_
  refine Y_iload_n (pc := 4) dL_had_4 rfl ?_
  refine Y_iload_n (pc := 5) dL_had_5 rfl ?_
  refine Y_iload_n (pc := 6) dL_had_6 rfl ?_
  refine Y_iload (pc := 7) dL_had_7 rfl ?_
  refine Y_callX (pc := 9) (d := d + 6) (R := (thr_i r.1, (NT, r.2, J, P))) dL_had_9 v_L_40 rfl rfl at_10 (Nat.le_of_ble_eq_true rfl) rfl rfl (C_X11_had (d := d) hp h) (hRW g d 6 _ _) (fun v hv => ?_) (fun E hE => ?_)
  · obtain ⟨v1, hv1, rfl⟩ := thr_inl hv
    rw [hv1] at hw
    obtain ⟨rfl, rfl⟩ := hw
    refine Y_i2l (pc := 12) dL_had_12 ?_
    refine Y_lstc (pc := 13) (t := NT) dL_had_13 ar_out (j := 0) rfl rfl ?_
    refine Y_goto (pc := 14) (tgt := 25) dL_had_14 (by decide) ?_
    refine Y_iconst (pc := 25) dL_had_25 (v := 0) rfl ?_
    exact Y_iretW (pc := 26) dL_had_26 rfl ⟨Nat.le_refl _, Nat.le_refl _⟩ rfl
  · have hE1 := thr_inr hE
    rw [hE1] at hw
    obtain ⟨rfl, i9, h8, rfl⟩ := hw
    rcases i9 with _ | i9
    · have h8 : some "java/lang/IndexOutOfBoundsException" = some E := h8
      cases h8
      exact YX_catch [] ⟨0, 14, 17, 24⟩ [⟨0, 14, 21, 13⟩] (fun c args q => q) (fun z hz => absurd hz List.not_mem_nil) rfl (by decide) w_978 nw_987 (YH_w (pc := 17) (pc1 := 19) (pc2 := 20) dL_had_17 dL_had_19 dL_had_20 ⟨rfl, rfl⟩ (by decide) rfl rfl ⟨Nat.le_refl _, Nat.le_refl _⟩ rfl)
    · rcases i9 with _ | i9
      · have h8 : some "java/lang/IllegalArgumentException" = some E := h8
        cases h8
        exact YX_catch [⟨0, 14, 17, 24⟩] ⟨0, 14, 21, 13⟩ [] (fun c args q => q) (fun z hz => by cases List.mem_singleton.mp hz; exact ⟨by decide, "java/lang/IndexOutOfBoundsException", w_978, by decide⟩) rfl (by decide) w_632 nw_876 (YH_w (pc := 21) (pc1 := 23) (pc2 := 24) dL_had_21 dL_had_23 dL_had_24 ⟨rfl, rfl⟩ (by decide) rfl rfl ⟨Nat.le_refl _, Nat.le_refl _⟩ rfl)
      · have h8 : none = some E := h8
        cases h8
theorem wf_had : WF RL 160 mL_had hL_had 6 := ⟨⟨w_1074, w_1075, w_0, w_1076⟩, ⟨by decide, by decide, by decide +kernel⟩, by decide⟩
abbrev hL_forget : List (Nat × Nat × Nat × Nat) := [(0, 9, 12, 24), (0, 9, 15, 38)]
theorem W_forget {g : gX} {d : Nat} {P : Nat → Nat → Option Nat} {I : HI} {x1 : Int32} {J J9 : HJ} {k9 : Int32} (hp : Wp P) {r : (Int32 ⊕ String) × HI} (h : F_X11_forget I x1 = some r) (hw : wres ["java/lang/IndexOutOfBoundsException", "java/lang/IllegalStateException"] J r.1 k9 J9) : Cw g mL_forget hL_forget (d + 7) [.ref 1, .int x1, .ref 218] (NT, I, J, P) (some (.int k9)) (NT, r.2, J9, P) := by
  refine Cw.of (by decide) (by simp [Value.category]) (Nat.le_of_ble_eq_true rfl) (ls := [some (.ref 1), some (.int x1), some (.ref 218), none]) rfl rfl rfl ?_
  refine Y_aload_n (pc := 0) dL_forget_0 rfl ?_
  refine Y_iconst (pc := 1) dL_forget_1 (v := 0) rfl ?_
  refine Y_aload_n (pc := 2) dL_forget_2 rfl ?_
  refine Y_iload_n (pc := 3) dL_forget_3 rfl ?_
  refine Y_callX (pc := 4) (d := d + 6) (R := (thr_i r.1, (NT, r.2, J, P))) dL_forget_4 v_L_44 rfl rfl at_10 (Nat.le_of_ble_eq_true rfl) rfl rfl (C_X11_forget (d := d) hp h) (hRW g d 6 _ _) (fun v hv => ?_) (fun E hE => ?_)
  · obtain ⟨v1, hv1, rfl⟩ := thr_inl hv
    rw [hv1] at hw
    obtain ⟨rfl, rfl⟩ := hw
    refine Y_i2l (pc := 7) dL_forget_7 ?_
    refine Y_lstc (pc := 8) (t := NT) dL_forget_8 ar_out (j := 0) rfl rfl ?_
    refine Y_goto (pc := 9) (tgt := 18) dL_forget_9 (by decide) ?_
    refine Y_iconst (pc := 18) dL_forget_18 (v := 0) rfl ?_
    exact Y_iretW (pc := 19) dL_forget_19 rfl ⟨Nat.le_refl _, Nat.le_refl _⟩ rfl
  · have hE1 := thr_inr hE
    rw [hE1] at hw
    obtain ⟨rfl, i9, h8, rfl⟩ := hw
    rcases i9 with _ | i9
    · have h8 : some "java/lang/IndexOutOfBoundsException" = some E := h8
      cases h8
      exact YX_catch [] ⟨0, 9, 12, 24⟩ [⟨0, 9, 15, 38⟩] (fun c args q => q) (fun z hz => absurd hz List.not_mem_nil) rfl (by decide) w_978 nw_987 (YH_n (pc := 12) (pc1 := 13) (pc2 := 14) dL_forget_12 dL_forget_13 dL_forget_14 ⟨rfl, rfl⟩ (by decide) rfl rfl ⟨Nat.le_refl _, Nat.le_refl _⟩ rfl)
    · rcases i9 with _ | i9
      · have h8 : some "java/lang/IllegalStateException" = some E := h8
        cases h8
        exact YX_catch [⟨0, 9, 12, 24⟩] ⟨0, 9, 15, 38⟩ [] (fun c args q => q) (fun z hz => by cases List.mem_singleton.mp hz; exact ⟨by decide, "java/lang/IndexOutOfBoundsException", w_978, by decide⟩) rfl (by decide) w_1039 nw_1046 (YH_n (pc := 15) (pc1 := 16) (pc2 := 17) dL_forget_15 dL_forget_16 dL_forget_17 ⟨rfl, rfl⟩ (by decide) rfl rfl ⟨Nat.le_refl _, Nat.le_refl _⟩ rfl)
      · have h8 : none = some E := h8
        cases h8
theorem wf_forget : WF RL 164 mL_forget hL_forget 3 := ⟨⟨w_1087, w_1088, w_0, w_1089⟩, ⟨by decide, by decide, by decide +kernel⟩, by decide⟩
abbrev hL_reach : List (Nat × Nat × Nat × Nat) := [(0, 9, 12, 13)]
theorem W_reach {g : gX} {d : Nat} {P : Nat → Nat → Option Nat} {I : HI} {x1 : Int32} {J J9 : HJ} {k9 : Int32} (hp : Wp P) {r : (Int32 ⊕ String) × HI} (h : F_X11_reach I x1 = some r) (hw : wres ["java/lang/IllegalArgumentException"] J r.1 k9 J9) : Cw g mL_reach hL_reach (d + 7) [.ref 1, .int x1, .ref 218] (NT, I, J, P) (some (.int k9)) (NT, r.2, J9, P) := by
  refine Cw.of (by decide) (by simp [Value.category]) (Nat.le_of_ble_eq_true rfl) (ls := [some (.ref 1), some (.int x1), some (.ref 218), none]) rfl rfl rfl ?_
  refine Y_aload_n (pc := 0) dL_reach_0 rfl ?_
  refine Y_iconst (pc := 1) dL_reach_1 (v := 0) rfl ?_
  refine Y_aload_n (pc := 2) dL_reach_2 rfl ?_
  refine Y_iload_n (pc := 3) dL_reach_3 rfl ?_
  refine Y_callX (pc := 4) (d := d + 6) (R := (thr_i r.1, (NT, r.2, J, P))) dL_reach_4 v_L_47 rfl rfl at_10 (Nat.le_of_ble_eq_true rfl) rfl rfl (C_X11_reach (d := d) hp h) (hRW g d 6 _ _) (fun v hv => ?_) (fun E hE => ?_)
  · obtain ⟨v1, hv1, rfl⟩ := thr_inl hv
    rw [hv1] at hw
    obtain ⟨rfl, rfl⟩ := hw
    refine Y_i2l (pc := 7) dL_reach_7 ?_
    refine Y_lstc (pc := 8) (t := NT) dL_reach_8 ar_out (j := 0) rfl rfl ?_
    refine Y_goto (pc := 9) (tgt := 15) dL_reach_9 (by decide) ?_
    refine Y_iconst (pc := 15) dL_reach_15 (v := 0) rfl ?_
    exact Y_iretW (pc := 16) dL_reach_16 rfl ⟨Nat.le_refl _, Nat.le_refl _⟩ rfl
  · have hE1 := thr_inr hE
    rw [hE1] at hw
    obtain ⟨rfl, i9, h8, rfl⟩ := hw
    rcases i9 with _ | i9
    · have h8 : some "java/lang/IllegalArgumentException" = some E := h8
      cases h8
      exact YX_catch [] ⟨0, 9, 12, 13⟩ [] (fun c args q => q) (fun z hz => absurd hz List.not_mem_nil) rfl (by decide) w_632 nw_876 (YH_n (pc := 12) (pc1 := 13) (pc2 := 14) dL_reach_12 dL_reach_13 dL_reach_14 ⟨rfl, rfl⟩ (by decide) rfl rfl ⟨Nat.le_refl _, Nat.le_refl _⟩ rfl)
    · have h8 : none = some E := h8
      cases h8
theorem wf_reach : WF RL 167 mL_reach hL_reach 3 := ⟨⟨w_1095, w_1096, w_0, w_1097⟩, ⟨by decide, by decide, by decide +kernel⟩, by decide⟩
abbrev hL_house : List (Nat × Nat × Nat × Nat) := [(0, 9, 12, 24)]
theorem W_house {g : gX} {d : Nat} {P : Nat → Nat → Option Nat} {I : HI} {x1 : Int32} {J J9 : HJ} {k9 : Int32} (hp : Wp P) {r : (Int32 ⊕ String) × HI} (h : F_X11_house I x1 = some r) (hw : wres ["java/lang/IndexOutOfBoundsException"] J r.1 k9 J9) : Cw g mL_house hL_house (d + 7) [.ref 1, .int x1, .ref 218] (NT, I, J, P) (some (.int k9)) (NT, r.2, J9, P) := by
  refine Cw.of (by decide) (by simp [Value.category]) (Nat.le_of_ble_eq_true rfl) (ls := [some (.ref 1), some (.int x1), some (.ref 218), none]) rfl rfl rfl ?_
  refine Y_aload_n (pc := 0) dL_house_0 rfl ?_
  refine Y_iconst (pc := 1) dL_house_1 (v := 0) rfl ?_
  refine Y_aload_n (pc := 2) dL_house_2 rfl ?_
  refine Y_iload_n (pc := 3) dL_house_3 rfl ?_
  refine Y_callX (pc := 4) (d := d + 6) (R := (thr_i r.1, (NT, r.2, J, P))) dL_house_4 v_L_50 rfl rfl at_10 (Nat.le_of_ble_eq_true rfl) rfl rfl (C_X11_house (d := d) hp h) (hRW g d 6 _ _) (fun v hv => ?_) (fun E hE => ?_)
  · obtain ⟨v1, hv1, rfl⟩ := thr_inl hv
    rw [hv1] at hw
    obtain ⟨rfl, rfl⟩ := hw
    refine Y_i2l (pc := 7) dL_house_7 ?_
    refine Y_lstc (pc := 8) (t := NT) dL_house_8 ar_out (j := 0) rfl rfl ?_
    refine Y_goto (pc := 9) (tgt := 15) dL_house_9 (by decide) ?_
    refine Y_iconst (pc := 15) dL_house_15 (v := 0) rfl ?_
    exact Y_iretW (pc := 16) dL_house_16 rfl ⟨Nat.le_refl _, Nat.le_refl _⟩ rfl
  · have hE1 := thr_inr hE
    rw [hE1] at hw
    obtain ⟨rfl, i9, h8, rfl⟩ := hw
    rcases i9 with _ | i9
    · have h8 : some "java/lang/IndexOutOfBoundsException" = some E := h8
      cases h8
      exact YX_catch [] ⟨0, 9, 12, 24⟩ [] (fun c args q => q) (fun z hz => absurd hz List.not_mem_nil) rfl (by decide) w_978 nw_987 (YH_n (pc := 12) (pc1 := 13) (pc2 := 14) dL_house_12 dL_house_13 dL_house_14 ⟨rfl, rfl⟩ (by decide) rfl rfl ⟨Nat.le_refl _, Nat.le_refl _⟩ rfl)
    · have h8 : none = some E := h8
      cases h8
theorem wf_house : WF RL 170 mL_house hL_house 3 := ⟨⟨w_1103, w_1104, w_0, w_1105⟩, ⟨by decide, by decide, by decide +kernel⟩, by decide⟩
abbrev hL_evenings : List (Nat × Nat × Nat × Nat) := [(0, 9, 12, 13)]
theorem W_evenings {g : gX} {d : Nat} {P : Nat → Nat → Option Nat} {I : HI} {x1 : Int32} {J J9 : HJ} {k9 : Int32} (hp : Wp P) {r : (Int32 ⊕ String) × HI} (h : F_X11_evenings I x1 = some r) (hw : wres ["java/lang/IllegalArgumentException"] J r.1 k9 J9) : Cw g mL_evenings hL_evenings (d + 7) [.ref 1, .int x1, .ref 218] (NT, I, J, P) (some (.int k9)) (NT, r.2, J9, P) := by
  refine Cw.of (by decide) (by simp [Value.category]) (Nat.le_of_ble_eq_true rfl) (ls := [some (.ref 1), some (.int x1), some (.ref 218), none]) rfl rfl rfl ?_
  refine Y_aload_n (pc := 0) dL_evenings_0 rfl ?_
  refine Y_iconst (pc := 1) dL_evenings_1 (v := 0) rfl ?_
  refine Y_aload_n (pc := 2) dL_evenings_2 rfl ?_
  refine Y_iload_n (pc := 3) dL_evenings_3 rfl ?_
  refine Y_callX (pc := 4) (d := d + 6) (R := (thr_i r.1, (NT, r.2, J, P))) dL_evenings_4 v_L_53 rfl rfl at_10 (Nat.le_of_ble_eq_true rfl) rfl rfl (C_X11_evenings (d := d) hp h) (hRW g d 6 _ _) (fun v hv => ?_) (fun E hE => ?_)
  · obtain ⟨v1, hv1, rfl⟩ := thr_inl hv
    rw [hv1] at hw
    obtain ⟨rfl, rfl⟩ := hw
    refine Y_i2l (pc := 7) dL_evenings_7 ?_
    refine Y_lstc (pc := 8) (t := NT) dL_evenings_8 ar_out (j := 0) rfl rfl ?_
    refine Y_goto (pc := 9) (tgt := 15) dL_evenings_9 (by decide) ?_
    refine Y_iconst (pc := 15) dL_evenings_15 (v := 0) rfl ?_
    exact Y_iretW (pc := 16) dL_evenings_16 rfl ⟨Nat.le_refl _, Nat.le_refl _⟩ rfl
  · have hE1 := thr_inr hE
    rw [hE1] at hw
    obtain ⟨rfl, i9, h8, rfl⟩ := hw
    rcases i9 with _ | i9
    · have h8 : some "java/lang/IllegalArgumentException" = some E := h8
      cases h8
      exact YX_catch [] ⟨0, 9, 12, 13⟩ [] (fun c args q => q) (fun z hz => absurd hz List.not_mem_nil) rfl (by decide) w_632 nw_876 (YH_n (pc := 12) (pc1 := 13) (pc2 := 14) dL_evenings_12 dL_evenings_13 dL_evenings_14 ⟨rfl, rfl⟩ (by decide) rfl rfl ⟨Nat.le_refl _, Nat.le_refl _⟩ rfl)
    · have h8 : none = some E := h8
      cases h8
theorem wf_evenings : WF RL 177 mL_evenings hL_evenings 3 := ⟨⟨w_1111, w_1112, w_0, w_1113⟩, ⟨by decide, by decide, by decide +kernel⟩, by decide⟩
abbrev hL_menu : List (Nat × Nat × Nat × Nat) := [(0, 9, 12, 13), (0, 9, 15, 26)]
theorem W_menu {g : gX} {d : Nat} {P : Nat → Nat → Option Nat} {I : HI} {x1 : Int32} {J J9 : HJ} {k9 : Int32} (hp : Wp P) {r : (Int32 ⊕ String) × HI} (h : F_X11_menu I x1 = some r) (hw : wres ["java/lang/IllegalArgumentException", "java/util/NoSuchElementException"] J r.1 k9 J9) : Cw g mL_menu hL_menu (d + 7) [.ref 1, .int x1, .ref 218] (NT, I, J, P) (some (.int k9)) (NT, r.2, J9, P) := by
  refine Cw.of (by decide) (by simp [Value.category]) (Nat.le_of_ble_eq_true rfl) (ls := [some (.ref 1), some (.int x1), some (.ref 218), none]) rfl rfl rfl ?_
  refine Y_aload_n (pc := 0) dL_menu_0 rfl ?_
  refine Y_iconst (pc := 1) dL_menu_1 (v := 0) rfl ?_
  refine Y_aload_n (pc := 2) dL_menu_2 rfl ?_
  refine Y_iload_n (pc := 3) dL_menu_3 rfl ?_
  refine Y_callX (pc := 4) (d := d + 6) (R := (thr_i r.1, (NT, r.2, J, P))) dL_menu_4 v_L_56 rfl rfl at_10 (Nat.le_of_ble_eq_true rfl) rfl rfl (C_X11_menu (d := d) hp h) (hRW g d 6 _ _) (fun v hv => ?_) (fun E hE => ?_)
  · obtain ⟨v1, hv1, rfl⟩ := thr_inl hv
    rw [hv1] at hw
    obtain ⟨rfl, rfl⟩ := hw
    refine Y_i2l (pc := 7) dL_menu_7 ?_
    refine Y_lstc (pc := 8) (t := NT) dL_menu_8 ar_out (j := 0) rfl rfl ?_
    refine Y_goto (pc := 9) (tgt := 18) dL_menu_9 (by decide) ?_
    refine Y_iconst (pc := 18) dL_menu_18 (v := 0) rfl ?_
    exact Y_iretW (pc := 19) dL_menu_19 rfl ⟨Nat.le_refl _, Nat.le_refl _⟩ rfl
  · have hE1 := thr_inr hE
    rw [hE1] at hw
    obtain ⟨rfl, i9, h8, rfl⟩ := hw
    rcases i9 with _ | i9
    · have h8 : some "java/lang/IllegalArgumentException" = some E := h8
      cases h8
      exact YX_catch [] ⟨0, 9, 12, 13⟩ [⟨0, 9, 15, 26⟩] (fun c args q => q) (fun z hz => absurd hz List.not_mem_nil) rfl (by decide) w_632 nw_876 (YH_n (pc := 12) (pc1 := 13) (pc2 := 14) dL_menu_12 dL_menu_13 dL_menu_14 ⟨rfl, rfl⟩ (by decide) rfl rfl ⟨Nat.le_refl _, Nat.le_refl _⟩ rfl)
    · rcases i9 with _ | i9
      · have h8 : some "java/util/NoSuchElementException" = some E := h8
        cases h8
        exact YX_catch [⟨0, 9, 12, 13⟩] ⟨0, 9, 15, 26⟩ [] (fun c args q => q) (fun z hz => by cases List.mem_singleton.mp hz; exact ⟨by decide, "java/lang/IllegalArgumentException", w_632, by decide⟩) rfl (by decide) w_979 nw_1003 (YH_n (pc := 15) (pc1 := 16) (pc2 := 17) dL_menu_15 dL_menu_16 dL_menu_17 ⟨rfl, rfl⟩ (by decide) rfl rfl ⟨Nat.le_refl _, Nat.le_refl _⟩ rfl)
      · have h8 : none = some E := h8
        cases h8
theorem wf_menu : WF RL 180 mL_menu hL_menu 3 := ⟨⟨w_1137, w_1138, w_0, w_1139⟩, ⟨by decide, by decide, by decide +kernel⟩, by decide⟩
abbrev hL_fewest : List (Nat × Nat × Nat × Nat) := [(0, 10, 13, 13)]
theorem W_fewest {g : gX} {d : Nat} {P : Nat → Nat → Option Nat} {I : HI} {x1 : Int32} {x2 : Int32} {J J9 : HJ} {k9 : Int32} (hp : Wp P) {r : (Int32 ⊕ String)} (h : F_X11_fewest I x1 x2 = some r) (hw : wres ["java/lang/IllegalArgumentException"] J r k9 J9) : Cw g mL_fewest hL_fewest (d + 7) [.ref 1, .int x1, .int x2, .ref 218] (NT, I, J, P) (some (.int k9)) (NT, I, J9, P) := by
  refine Cw.of (by decide) (by simp [Value.category]) (Nat.le_of_ble_eq_true rfl) (ls := [some (.ref 1), some (.int x1), some (.int x2), some (.ref 218), none]) rfl rfl rfl ?_
  refine Y_aload_n (pc := 0) dL_fewest_0 rfl ?_
  refine Y_iconst (pc := 1) dL_fewest_1 (v := 0) rfl ?_
  refine Y_aload_n (pc := 2) dL_fewest_2 rfl ?_
  refine Y_iload_n (pc := 3) dL_fewest_3 rfl ?_
  refine Y_iload_n (pc := 4) dL_fewest_4 rfl ?_
  refine Y_callX (pc := 5) (d := d + 6) (R := (thr_i r, (NT, I, J, P))) dL_fewest_5 v_L_59 rfl rfl at_10 (Nat.le_of_ble_eq_true rfl) rfl rfl (C_X11_fewest (d := d) hp h) (hRW g d 6 _ _) (fun v hv => ?_) (fun E hE => ?_)
  · obtain ⟨v1, hv1, rfl⟩ := thr_inl hv
    rw [hv1] at hw
    obtain ⟨rfl, rfl⟩ := hw
    refine Y_i2l (pc := 8) dL_fewest_8 ?_
    refine Y_lstc (pc := 9) (t := NT) dL_fewest_9 ar_out (j := 0) rfl rfl ?_
    refine Y_goto (pc := 10) (tgt := 17) dL_fewest_10 (by decide) ?_
    refine Y_iconst (pc := 17) dL_fewest_17 (v := 0) rfl ?_
    exact Y_iretW (pc := 18) dL_fewest_18 rfl ⟨Nat.le_refl _, Nat.le_refl _⟩ rfl
  · have hE1 := thr_inr hE
    rw [hE1] at hw
    obtain ⟨rfl, i9, h8, rfl⟩ := hw
    rcases i9 with _ | i9
    · have h8 : some "java/lang/IllegalArgumentException" = some E := h8
      cases h8
      exact YX_catch [] ⟨0, 10, 13, 13⟩ [] (fun c args q => q) (fun z hz => absurd hz List.not_mem_nil) rfl (by decide) w_632 nw_876 (YH_w (pc := 13) (pc1 := 15) (pc2 := 16) dL_fewest_13 dL_fewest_15 dL_fewest_16 ⟨rfl, rfl⟩ (by decide) rfl rfl ⟨Nat.le_refl _, Nat.le_refl _⟩ rfl)
    · have h8 : none = some E := h8
      cases h8
theorem wf_fewest : WF RL 183 mL_fewest hL_fewest 4 := ⟨⟨w_1150, w_1151, w_0, w_1152⟩, ⟨by decide, by decide, by decide +kernel⟩, by decide⟩
abbrev hL_order : List (Nat × Nat × Nat × Nat) := [(0, 10, 13, 13)]
theorem W_order {g : gX} {d : Nat} {P : Nat → Nat → Option Nat} {I : HI} {x1 : Int32} {x2 : Int32} {J J9 : HJ} {k9 : Int32} (hp : Wp P) {r : (Int32 ⊕ String) × HI} (h : F_X11_order I x1 x2 = some r) (hw : wres ["java/lang/IllegalArgumentException"] J r.1 k9 J9) : Cw g mL_order hL_order (d + 19) [.ref 1, .int x1, .int x2, .ref 218] (NT, I, J, P) (some (.int k9)) (NT, r.2, J9, P) := by
  refine Cw.of (by decide) (by simp [Value.category]) (Nat.le_of_ble_eq_true rfl) (ls := [some (.ref 1), some (.int x1), some (.int x2), some (.ref 218), none]) rfl rfl rfl ?_
  refine Y_aload_n (pc := 0) dL_order_0 rfl ?_
  refine Y_iconst (pc := 1) dL_order_1 (v := 0) rfl ?_
  refine Y_aload_n (pc := 2) dL_order_2 rfl ?_
  refine Y_iload_n (pc := 3) dL_order_3 rfl ?_
  refine Y_iload_n (pc := 4) dL_order_4 rfl ?_
  refine Y_callX (pc := 5) (d := d + 18) (R := (thr_i r.1, (NT, r.2, J, P))) dL_order_5 v_L_62 rfl rfl at_10 (Nat.le_of_ble_eq_true rfl) rfl rfl (C_X11_order (d := d) hp h) (hRW g d 18 _ _) (fun v hv => ?_) (fun E hE => ?_)
  · obtain ⟨v1, hv1, rfl⟩ := thr_inl hv
    rw [hv1] at hw
    obtain ⟨rfl, rfl⟩ := hw
    refine Y_i2l (pc := 8) dL_order_8 ?_
    refine Y_lstc (pc := 9) (t := NT) dL_order_9 ar_out (j := 0) rfl rfl ?_
    refine Y_goto (pc := 10) (tgt := 17) dL_order_10 (by decide) ?_
    refine Y_iconst (pc := 17) dL_order_17 (v := 0) rfl ?_
    exact Y_iretW (pc := 18) dL_order_18 rfl ⟨Nat.le_refl _, Nat.le_refl _⟩ rfl
  · have hE1 := thr_inr hE
    rw [hE1] at hw
    obtain ⟨rfl, i9, h8, rfl⟩ := hw
    rcases i9 with _ | i9
    · have h8 : some "java/lang/IllegalArgumentException" = some E := h8
      cases h8
      exact YX_catch [] ⟨0, 10, 13, 13⟩ [] (fun c args q => q) (fun z hz => absurd hz List.not_mem_nil) rfl (by decide) w_632 nw_876 (YH_w (pc := 13) (pc1 := 15) (pc2 := 16) dL_order_13 dL_order_15 dL_order_16 ⟨rfl, rfl⟩ (by decide) rfl rfl ⟨Nat.le_refl _, Nat.le_refl _⟩ rfl)
    · have h8 : none = some E := h8
      cases h8
theorem wf_order : WF RL 186 mL_order hL_order 4 := ⟨⟨w_1166, w_1167, w_0, w_1168⟩, ⟨by decide, by decide, by decide +kernel⟩, by decide⟩
abbrev hL_he : List (Nat × Nat × Nat × Nat) := [(0, 8, 11, 13)]
theorem W_he {g : gX} {d : Nat} {P : Nat → Nat → Option Nat} {I : HI} {J J9 : HJ} {k9 : Int32} (hp : Wp P) {r : (Int32 ⊕ String) × HI} (h : F_X11_he I = some r) (hw : wres ["java/lang/IllegalArgumentException"] J r.1 k9 J9) : Cw g mL_he hL_he (d + 7) [.ref 1, .ref 218] (NT, I, J, P) (some (.int k9)) (NT, r.2, J9, P) := by
  refine Cw.of (by decide) (by simp [Value.category]) (Nat.le_of_ble_eq_true rfl) (ls := [some (.ref 1), some (.ref 218), none]) rfl rfl rfl ?_
  refine Y_aload_n (pc := 0) dL_he_0 rfl ?_
  refine Y_iconst (pc := 1) dL_he_1 (v := 0) rfl ?_
  refine Y_aload_n (pc := 2) dL_he_2 rfl ?_
  refine Y_callX (pc := 3) (d := d + 6) (R := (thr_i r.1, (NT, r.2, J, P))) dL_he_3 v_L_65 rfl rfl at_10 (Nat.le_of_ble_eq_true rfl) rfl rfl (C_X11_he (d := d) hp h) (hRW g d 6 _ _) (fun v hv => ?_) (fun E hE => ?_)
  · obtain ⟨v1, hv1, rfl⟩ := thr_inl hv
    rw [hv1] at hw
    obtain ⟨rfl, rfl⟩ := hw
    refine Y_i2l (pc := 6) dL_he_6 ?_
    refine Y_lstc (pc := 7) (t := NT) dL_he_7 ar_out (j := 0) rfl rfl ?_
    refine Y_goto (pc := 8) (tgt := 14) dL_he_8 (by decide) ?_
    refine Y_iconst (pc := 14) dL_he_14 (v := 0) rfl ?_
    exact Y_iretW (pc := 15) dL_he_15 rfl ⟨Nat.le_refl _, Nat.le_refl _⟩ rfl
  · have hE1 := thr_inr hE
    rw [hE1] at hw
    obtain ⟨rfl, i9, h8, rfl⟩ := hw
    rcases i9 with _ | i9
    · have h8 : some "java/lang/IllegalArgumentException" = some E := h8
      cases h8
      exact YX_catch [] ⟨0, 8, 11, 13⟩ [] (fun c args q => q) (fun z hz => absurd hz List.not_mem_nil) rfl (by decide) w_632 nw_876 (YH_n (pc := 11) (pc1 := 12) (pc2 := 13) dL_he_11 dL_he_12 dL_he_13 ⟨rfl, rfl⟩ (by decide) rfl rfl ⟨Nat.le_refl _, Nat.le_refl _⟩ rfl)
    · have h8 : none = some E := h8
      cases h8
theorem wf_he : WF RL 189 mL_he hL_he 2 := ⟨⟨w_1193, w_1194, w_0, w_1195⟩, ⟨by decide, by decide, by decide +kernel⟩, by decide⟩
abbrev hL_unknown : List (Nat × Nat × Nat × Nat) := [(0, 8, 11, 13)]
theorem W_unknown {g : gX} {d : Nat} {P : Nat → Nat → Option Nat} {I : HI} {J J9 : HJ} {k9 : Int32} (hp : Wp P) {r : (Int32 ⊕ String) × HI} (h : F_X11_unknown I = some r) (hw : wres ["java/lang/IllegalArgumentException"] J r.1 k9 J9) : Cw g mL_unknown hL_unknown (d + 7) [.ref 1, .ref 218] (NT, I, J, P) (some (.int k9)) (NT, r.2, J9, P) := by
  refine Cw.of (by decide) (by simp [Value.category]) (Nat.le_of_ble_eq_true rfl) (ls := [some (.ref 1), some (.ref 218), none]) rfl rfl rfl ?_
  refine Y_aload_n (pc := 0) dL_unknown_0 rfl ?_
  refine Y_iconst (pc := 1) dL_unknown_1 (v := 0) rfl ?_
  refine Y_aload_n (pc := 2) dL_unknown_2 rfl ?_
  refine Y_callX (pc := 3) (d := d + 6) (R := (thr_i r.1, (NT, r.2, J, P))) dL_unknown_3 v_L_68 rfl rfl at_10 (Nat.le_of_ble_eq_true rfl) rfl rfl (C_X11_unknown (d := d) hp h) (hRW g d 6 _ _) (fun v hv => ?_) (fun E hE => ?_)
  · obtain ⟨v1, hv1, rfl⟩ := thr_inl hv
    rw [hv1] at hw
    obtain ⟨rfl, rfl⟩ := hw
    refine Y_i2l (pc := 6) dL_unknown_6 ?_
    refine Y_lstc (pc := 7) (t := NT) dL_unknown_7 ar_out (j := 0) rfl rfl ?_
    refine Y_goto (pc := 8) (tgt := 14) dL_unknown_8 (by decide) ?_
    refine Y_iconst (pc := 14) dL_unknown_14 (v := 0) rfl ?_
    exact Y_iretW (pc := 15) dL_unknown_15 rfl ⟨Nat.le_refl _, Nat.le_refl _⟩ rfl
  · have hE1 := thr_inr hE
    rw [hE1] at hw
    obtain ⟨rfl, i9, h8, rfl⟩ := hw
    rcases i9 with _ | i9
    · have h8 : some "java/lang/IllegalArgumentException" = some E := h8
      cases h8
      exact YX_catch [] ⟨0, 8, 11, 13⟩ [] (fun c args q => q) (fun z hz => absurd hz List.not_mem_nil) rfl (by decide) w_632 nw_876 (YH_n (pc := 11) (pc1 := 12) (pc2 := 13) dL_unknown_11 dL_unknown_12 dL_unknown_13 ⟨rfl, rfl⟩ (by decide) rfl rfl ⟨Nat.le_refl _, Nat.le_refl _⟩ rfl)
    · have h8 : none = some E := h8
      cases h8
theorem wf_unknown : WF RL 192 mL_unknown hL_unknown 2 := ⟨⟨w_1213, w_1214, w_0, w_1215⟩, ⟨by decide, by decide, by decide +kernel⟩, by decide⟩
abbrev hL_serve : List (Nat × Nat × Nat × Nat) := [(0, 8, 11, 13)]
theorem W_serve {g : gX} {d : Nat} {P : Nat → Nat → Option Nat} {I : HI} {J J9 : HJ} {k9 : Int32} (hp : Wp P) {r : (Int32 ⊕ String) × HI} (h : F_X11_serve I = some r) (hw : wres ["java/lang/IllegalArgumentException"] J r.1 k9 J9) : Cw g mL_serve hL_serve (d + 7) [.ref 1, .ref 218] (NT, I, J, P) (some (.int k9)) (NT, r.2, J9, P) := by
  refine Cw.of (by decide) (by simp [Value.category]) (Nat.le_of_ble_eq_true rfl) (ls := [some (.ref 1), some (.ref 218), none]) rfl rfl rfl ?_
  refine Y_aload_n (pc := 0) dL_serve_0 rfl ?_
  refine Y_iconst (pc := 1) dL_serve_1 (v := 0) rfl ?_
  refine Y_aload_n (pc := 2) dL_serve_2 rfl ?_
  refine Y_callX (pc := 3) (d := d + 6) (R := (thr_i r.1, (NT, r.2, J, P))) dL_serve_3 v_L_71 rfl rfl at_10 (Nat.le_of_ble_eq_true rfl) rfl rfl (C_X11_serve (d := d) hp h) (hRW g d 6 _ _) (fun v hv => ?_) (fun E hE => ?_)
  · obtain ⟨v1, hv1, rfl⟩ := thr_inl hv
    rw [hv1] at hw
    obtain ⟨rfl, rfl⟩ := hw
    refine Y_i2l (pc := 6) dL_serve_6 ?_
    refine Y_lstc (pc := 7) (t := NT) dL_serve_7 ar_out (j := 0) rfl rfl ?_
    refine Y_goto (pc := 8) (tgt := 14) dL_serve_8 (by decide) ?_
    refine Y_iconst (pc := 14) dL_serve_14 (v := 0) rfl ?_
    exact Y_iretW (pc := 15) dL_serve_15 rfl ⟨Nat.le_refl _, Nat.le_refl _⟩ rfl
  · have hE1 := thr_inr hE
    rw [hE1] at hw
    obtain ⟨rfl, i9, h8, rfl⟩ := hw
    rcases i9 with _ | i9
    · have h8 : some "java/lang/IllegalArgumentException" = some E := h8
      cases h8
      exact YX_catch [] ⟨0, 8, 11, 13⟩ [] (fun c args q => q) (fun z hz => absurd hz List.not_mem_nil) rfl (by decide) w_632 nw_876 (YH_n (pc := 11) (pc1 := 12) (pc2 := 13) dL_serve_11 dL_serve_12 dL_serve_13 ⟨rfl, rfl⟩ (by decide) rfl rfl ⟨Nat.le_refl _, Nat.le_refl _⟩ rfl)
    · have h8 : none = some E := h8
      cases h8
theorem wf_serve : WF RL 195 mL_serve hL_serve 2 := ⟨⟨w_1229, w_1230, w_0, w_1231⟩, ⟨by decide, by decide, by decide +kernel⟩, by decide⟩
abbrev hL_jars : List (Nat × Nat × Nat × Nat) := [(0, 9, 12, 13)]
theorem W_jars {g : gX} {d : Nat} {P : Nat → Nat → Option Nat} {I : HI} {x1 : Int32} {J J9 : HJ} {k9 : Int32} (hp : Wp P) {r : (Int32 ⊕ String) × HI} (h : F_X11_jars I x1 = some r) (hw : wres ["java/lang/IllegalArgumentException"] J r.1 k9 J9) : Cw g mL_jars hL_jars (d + 19) [.ref 1, .int x1, .ref 218] (NT, I, J, P) (some (.int k9)) (NT, r.2, J9, P) := by
  refine Cw.of (by decide) (by simp [Value.category]) (Nat.le_of_ble_eq_true rfl) (ls := [some (.ref 1), some (.int x1), some (.ref 218), none]) rfl rfl rfl ?_
  refine Y_aload_n (pc := 0) dL_jars_0 rfl ?_
  refine Y_iconst (pc := 1) dL_jars_1 (v := 0) rfl ?_
  refine Y_aload_n (pc := 2) dL_jars_2 rfl ?_
  refine Y_iload_n (pc := 3) dL_jars_3 rfl ?_
  refine Y_callX (pc := 4) (d := d + 18) (R := (thr_i r.1, (NT, r.2, J, P))) dL_jars_4 v_L_74 rfl rfl at_10 (Nat.le_of_ble_eq_true rfl) rfl rfl (C_X11_jars (d := d) hp h) (hRW g d 18 _ _) (fun v hv => ?_) (fun E hE => ?_)
  · obtain ⟨v1, hv1, rfl⟩ := thr_inl hv
    rw [hv1] at hw
    obtain ⟨rfl, rfl⟩ := hw
    refine Y_i2l (pc := 7) dL_jars_7 ?_
    refine Y_lstc (pc := 8) (t := NT) dL_jars_8 ar_out (j := 0) rfl rfl ?_
    refine Y_goto (pc := 9) (tgt := 15) dL_jars_9 (by decide) ?_
    refine Y_iconst (pc := 15) dL_jars_15 (v := 0) rfl ?_
    exact Y_iretW (pc := 16) dL_jars_16 rfl ⟨Nat.le_refl _, Nat.le_refl _⟩ rfl
  · have hE1 := thr_inr hE
    rw [hE1] at hw
    obtain ⟨rfl, i9, h8, rfl⟩ := hw
    rcases i9 with _ | i9
    · have h8 : some "java/lang/IllegalArgumentException" = some E := h8
      cases h8
      exact YX_catch [] ⟨0, 9, 12, 13⟩ [] (fun c args q => q) (fun z hz => absurd hz List.not_mem_nil) rfl (by decide) w_632 nw_876 (YH_n (pc := 12) (pc1 := 13) (pc2 := 14) dL_jars_12 dL_jars_13 dL_jars_14 ⟨rfl, rfl⟩ (by decide) rfl rfl ⟨Nat.le_refl _, Nat.le_refl _⟩ rfl)
    · have h8 : none = some E := h8
      cases h8
theorem wf_jars : WF RL 198 mL_jars hL_jars 3 := ⟨⟨w_1240, w_1241, w_0, w_1242⟩, ⟨by decide, by decide, by decide +kernel⟩, by decide⟩
abbrev hL_kitchen : List (Nat × Nat × Nat × Nat) := [(0, 9, 12, 24)]
theorem W_kitchen {g : gX} {d : Nat} {P : Nat → Nat → Option Nat} {I : HI} {x1 : Int32} {J J9 : HJ} {k9 : Int32} (hp : Wp P) {r : (Int32 ⊕ String)} (h : F_X11_kitchen I x1 = some r) (hw : wres ["java/lang/IndexOutOfBoundsException"] J r k9 J9) : Cw g mL_kitchen hL_kitchen (d + 7) [.ref 1, .int x1, .ref 218] (NT, I, J, P) (some (.int k9)) (NT, I, J9, P) := by
  refine Cw.of (by decide) (by simp [Value.category]) (Nat.le_of_ble_eq_true rfl) (ls := [some (.ref 1), some (.int x1), some (.ref 218), none]) rfl rfl rfl ?_
  refine Y_aload_n (pc := 0) dL_kitchen_0 rfl ?_
  refine Y_iconst (pc := 1) dL_kitchen_1 (v := 0) rfl ?_
  refine Y_aload_n (pc := 2) dL_kitchen_2 rfl ?_
  refine Y_iload_n (pc := 3) dL_kitchen_3 rfl ?_
  refine Y_callX (pc := 4) (d := d + 6) (R := (thr_i r, (NT, I, J, P))) dL_kitchen_4 v_L_77 rfl rfl at_10 (Nat.le_of_ble_eq_true rfl) rfl rfl (C_X11_kitchen (d := d) hp h) (hRW g d 6 _ _) (fun v hv => ?_) (fun E hE => ?_)
  · obtain ⟨v1, hv1, rfl⟩ := thr_inl hv
    rw [hv1] at hw
    obtain ⟨rfl, rfl⟩ := hw
    refine Y_i2l (pc := 7) dL_kitchen_7 ?_
    refine Y_lstc (pc := 8) (t := NT) dL_kitchen_8 ar_out (j := 0) rfl rfl ?_
    refine Y_goto (pc := 9) (tgt := 15) dL_kitchen_9 (by decide) ?_
    refine Y_iconst (pc := 15) dL_kitchen_15 (v := 0) rfl ?_
    exact Y_iretW (pc := 16) dL_kitchen_16 rfl ⟨Nat.le_refl _, Nat.le_refl _⟩ rfl
  · have hE1 := thr_inr hE
    rw [hE1] at hw
    obtain ⟨rfl, i9, h8, rfl⟩ := hw
    rcases i9 with _ | i9
    · have h8 : some "java/lang/IndexOutOfBoundsException" = some E := h8
      cases h8
      exact YX_catch [] ⟨0, 9, 12, 24⟩ [] (fun c args q => q) (fun z hz => absurd hz List.not_mem_nil) rfl (by decide) w_978 nw_987 (YH_n (pc := 12) (pc1 := 13) (pc2 := 14) dL_kitchen_12 dL_kitchen_13 dL_kitchen_14 ⟨rfl, rfl⟩ (by decide) rfl rfl ⟨Nat.le_refl _, Nat.le_refl _⟩ rfl)
    · have h8 : none = some E := h8
      cases h8
theorem wf_kitchen : WF RL 201 mL_kitchen hL_kitchen 3 := ⟨⟨w_1269, w_1270, w_0, w_1271⟩, ⟨by decide, by decide, by decide +kernel⟩, by decide⟩
abbrev hL_hosts : List (Nat × Nat × Nat × Nat) := [(0, 10, 13, 24), (0, 10, 17, 13)]
theorem W_hosts {g : gX} {d : Nat} {P : Nat → Nat → Option Nat} {I : HI} {x1 : Int32} {x2 : Int32} {J J9 : HJ} {k9 : Int32} (hp : Wp P) {r : (Int32 ⊕ String) × HI} (h : F_X11_hosts I x1 x2 = some r) (hw : wres ["java/lang/IndexOutOfBoundsException", "java/lang/IllegalArgumentException"] J r.1 k9 J9) : Cw g mL_hosts hL_hosts (d + 7) [.ref 1, .int x1, .int x2, .ref 218] (NT, I, J, P) (some (.int k9)) (NT, r.2, J9, P) := by
  refine Cw.of (by decide) (by simp [Value.category]) (Nat.le_of_ble_eq_true rfl) (ls := [some (.ref 1), some (.int x1), some (.int x2), some (.ref 218), none]) rfl rfl rfl ?_
  refine Y_aload_n (pc := 0) dL_hosts_0 rfl ?_
  refine Y_iconst (pc := 1) dL_hosts_1 (v := 0) rfl ?_
  refine Y_aload_n (pc := 2) dL_hosts_2 rfl ?_
  refine Y_iload_n (pc := 3) dL_hosts_3 rfl ?_
  refine Y_iload_n (pc := 4) dL_hosts_4 rfl ?_
  refine Y_callX (pc := 5) (d := d + 6) (R := (thr_i r.1, (NT, r.2, J, P))) dL_hosts_5 v_L_80 rfl rfl at_10 (Nat.le_of_ble_eq_true rfl) rfl rfl (C_X11_hosts (d := d) hp h) (hRW g d 6 _ _) (fun v hv => ?_) (fun E hE => ?_)
  · obtain ⟨v1, hv1, rfl⟩ := thr_inl hv
    rw [hv1] at hw
    obtain ⟨rfl, rfl⟩ := hw
    refine Y_i2l (pc := 8) dL_hosts_8 ?_
    refine Y_lstc (pc := 9) (t := NT) dL_hosts_9 ar_out (j := 0) rfl rfl ?_
    refine Y_goto (pc := 10) (tgt := 21) dL_hosts_10 (by decide) ?_
    refine Y_iconst (pc := 21) dL_hosts_21 (v := 0) rfl ?_
    exact Y_iretW (pc := 22) dL_hosts_22 rfl ⟨Nat.le_refl _, Nat.le_refl _⟩ rfl
  · have hE1 := thr_inr hE
    rw [hE1] at hw
    obtain ⟨rfl, i9, h8, rfl⟩ := hw
    rcases i9 with _ | i9
    · have h8 : some "java/lang/IndexOutOfBoundsException" = some E := h8
      cases h8
      exact YX_catch [] ⟨0, 10, 13, 24⟩ [⟨0, 10, 17, 13⟩] (fun c args q => q) (fun z hz => absurd hz List.not_mem_nil) rfl (by decide) w_978 nw_987 (YH_w (pc := 13) (pc1 := 15) (pc2 := 16) dL_hosts_13 dL_hosts_15 dL_hosts_16 ⟨rfl, rfl⟩ (by decide) rfl rfl ⟨Nat.le_refl _, Nat.le_refl _⟩ rfl)
    · rcases i9 with _ | i9
      · have h8 : some "java/lang/IllegalArgumentException" = some E := h8
        cases h8
        exact YX_catch [⟨0, 10, 13, 24⟩] ⟨0, 10, 17, 13⟩ [] (fun c args q => q) (fun z hz => by cases List.mem_singleton.mp hz; exact ⟨by decide, "java/lang/IndexOutOfBoundsException", w_978, by decide⟩) rfl (by decide) w_632 nw_876 (YH_w (pc := 17) (pc1 := 19) (pc2 := 20) dL_hosts_17 dL_hosts_19 dL_hosts_20 ⟨rfl, rfl⟩ (by decide) rfl rfl ⟨Nat.le_refl _, Nat.le_refl _⟩ rfl)
      · have h8 : none = some E := h8
        cases h8
theorem wf_hosts : WF RL 224 mL_hosts hL_hosts 4 := ⟨⟨w_1277, w_1278, w_0, w_1279⟩, ⟨by decide, by decide, by decide +kernel⟩, by decide⟩
abbrev hL_breaks : List (Nat × Nat × Nat × Nat) := [(0, 9, 12, 24)]
theorem W_breaks {g : gX} {d : Nat} {P : Nat → Nat → Option Nat} {I : HI} {x1 : Int32} {J J9 : HJ} {k9 : Int32} (hp : Wp P) {r : (Int32 ⊕ String) × HI} (h : F_X11_breaks I x1 = some r) (hw : wres ["java/lang/IndexOutOfBoundsException"] J r.1 k9 J9) : Cw g mL_breaks hL_breaks (d + 7) [.ref 1, .int x1, .ref 218] (NT, I, J, P) (some (.int k9)) (NT, r.2, J9, P) := by
  refine Cw.of (by decide) (by simp [Value.category]) (Nat.le_of_ble_eq_true rfl) (ls := [some (.ref 1), some (.int x1), some (.ref 218), none]) rfl rfl rfl ?_
  refine Y_aload_n (pc := 0) dL_breaks_0 rfl ?_
  refine Y_iconst (pc := 1) dL_breaks_1 (v := 0) rfl ?_
  refine Y_aload_n (pc := 2) dL_breaks_2 rfl ?_
  refine Y_iload_n (pc := 3) dL_breaks_3 rfl ?_
  refine Y_callX (pc := 4) (d := d + 6) (R := (thr_i r.1, (NT, r.2, J, P))) dL_breaks_4 v_L_83 rfl rfl at_10 (Nat.le_of_ble_eq_true rfl) rfl rfl (C_X11_breaks (d := d) hp h) (hRW g d 6 _ _) (fun v hv => ?_) (fun E hE => ?_)
  · obtain ⟨v1, hv1, rfl⟩ := thr_inl hv
    rw [hv1] at hw
    obtain ⟨rfl, rfl⟩ := hw
    refine Y_i2l (pc := 7) dL_breaks_7 ?_
    refine Y_lstc (pc := 8) (t := NT) dL_breaks_8 ar_out (j := 0) rfl rfl ?_
    refine Y_goto (pc := 9) (tgt := 15) dL_breaks_9 (by decide) ?_
    refine Y_iconst (pc := 15) dL_breaks_15 (v := 0) rfl ?_
    exact Y_iretW (pc := 16) dL_breaks_16 rfl ⟨Nat.le_refl _, Nat.le_refl _⟩ rfl
  · have hE1 := thr_inr hE
    rw [hE1] at hw
    obtain ⟨rfl, i9, h8, rfl⟩ := hw
    rcases i9 with _ | i9
    · have h8 : some "java/lang/IndexOutOfBoundsException" = some E := h8
      cases h8
      exact YX_catch [] ⟨0, 9, 12, 24⟩ [] (fun c args q => q) (fun z hz => absurd hz List.not_mem_nil) rfl (by decide) w_978 nw_987 (YH_n (pc := 12) (pc1 := 13) (pc2 := 14) dL_breaks_12 dL_breaks_13 dL_breaks_14 ⟨rfl, rfl⟩ (by decide) rfl rfl ⟨Nat.le_refl _, Nat.le_refl _⟩ rfl)
    · have h8 : none = some E := h8
      cases h8
theorem wf_breaks : WF RL 227 mL_breaks hL_breaks 3 := ⟨⟨w_1285, w_1286, w_0, w_1287⟩, ⟨by decide, by decide, by decide +kernel⟩, by decide⟩
abbrev hL_company : List (Nat × Nat × Nat × Nat) := [(0, 9, 12, 13)]
theorem W_company {g : gX} {d : Nat} {P : Nat → Nat → Option Nat} {I : HI} {x1 : Int32} {J J9 : HJ} {k9 : Int32} (hp : Wp P) {r : (Int32 ⊕ String)} (h : F_X11_company I x1 = some r) (hw : wres ["java/lang/IllegalArgumentException"] J r k9 J9) : Cw g mL_company hL_company (d + 7) [.ref 1, .int x1, .ref 218] (NT, I, J, P) (some (.int k9)) (NT, I, J9, P) := by
  refine Cw.of (by decide) (by simp [Value.category]) (Nat.le_of_ble_eq_true rfl) (ls := [some (.ref 1), some (.int x1), some (.ref 218), none]) rfl rfl rfl ?_
  refine Y_aload_n (pc := 0) dL_company_0 rfl ?_
  refine Y_iconst (pc := 1) dL_company_1 (v := 0) rfl ?_
  refine Y_aload_n (pc := 2) dL_company_2 rfl ?_
  refine Y_iload_n (pc := 3) dL_company_3 rfl ?_
  refine Y_callX (pc := 4) (d := d + 6) (R := (thr_i r, (NT, I, J, P))) dL_company_4 v_L_86 rfl rfl at_10 (Nat.le_of_ble_eq_true rfl) rfl rfl (C_X11_company (d := d) hp h) (hRW g d 6 _ _) (fun v hv => ?_) (fun E hE => ?_)
  · obtain ⟨v1, hv1, rfl⟩ := thr_inl hv
    rw [hv1] at hw
    obtain ⟨rfl, rfl⟩ := hw
    refine Y_i2l (pc := 7) dL_company_7 ?_
    refine Y_lstc (pc := 8) (t := NT) dL_company_8 ar_out (j := 0) rfl rfl ?_
    refine Y_goto (pc := 9) (tgt := 15) dL_company_9 (by decide) ?_
    refine Y_iconst (pc := 15) dL_company_15 (v := 0) rfl ?_
    exact Y_iretW (pc := 16) dL_company_16 rfl ⟨Nat.le_refl _, Nat.le_refl _⟩ rfl
  · have hE1 := thr_inr hE
    rw [hE1] at hw
    obtain ⟨rfl, i9, h8, rfl⟩ := hw
    rcases i9 with _ | i9
    · have h8 : some "java/lang/IllegalArgumentException" = some E := h8
      cases h8
      exact YX_catch [] ⟨0, 9, 12, 13⟩ [] (fun c args q => q) (fun z hz => absurd hz List.not_mem_nil) rfl (by decide) w_632 nw_876 (YH_n (pc := 12) (pc1 := 13) (pc2 := 14) dL_company_12 dL_company_13 dL_company_14 ⟨rfl, rfl⟩ (by decide) rfl rfl ⟨Nat.le_refl _, Nat.le_refl _⟩ rfl)
    · have h8 : none = some E := h8
      cases h8
theorem wf_company : WF RL 242 mL_company hL_company 3 := ⟨⟨w_1292, w_1293, w_0, w_1294⟩, ⟨by decide, by decide, by decide +kernel⟩, by decide⟩
abbrev hL_odds : List (Nat × Nat × Nat × Nat) := [(0, 10, 13, 13)]
theorem W_odds {g : gX} {d : Nat} {P : Nat → Nat → Option Nat} {I : HI} {x1 : Int32} {x2 : Int32} {J J9 : HJ} {k9 : Int32} (hp : Wp P) {r : (Int32 ⊕ String)} (h : F_X11_odds I x1 x2 = some r) (hw : wres ["java/lang/IllegalArgumentException"] J r k9 J9) : Cw g mL_odds hL_odds (d + 18) [.ref 1, .int x1, .int x2, .ref 218] (NT, I, J, P) (some (.int k9)) (NT, I, J9, P) := by
  refine Cw.of (by decide) (by simp [Value.category]) (Nat.le_of_ble_eq_true rfl) (ls := [some (.ref 1), some (.int x1), some (.int x2), some (.ref 218), none]) rfl rfl rfl ?_
  refine Y_aload_n (pc := 0) dL_odds_0 rfl ?_
  refine Y_iconst (pc := 1) dL_odds_1 (v := 0) rfl ?_
  refine Y_aload_n (pc := 2) dL_odds_2 rfl ?_
  refine Y_iload_n (pc := 3) dL_odds_3 rfl ?_
  refine Y_iload_n (pc := 4) dL_odds_4 rfl ?_
  refine Y_callX (pc := 5) (d := d + 17) (R := (thr_i r, (NT, I, J, P))) dL_odds_5 v_L_89 rfl rfl at_10 (Nat.le_of_ble_eq_true rfl) rfl rfl (C_X11_odds (d := d) hp h) (hRW g d 17 _ _) (fun v hv => ?_) (fun E hE => ?_)
  · obtain ⟨v1, hv1, rfl⟩ := thr_inl hv
    rw [hv1] at hw
    obtain ⟨rfl, rfl⟩ := hw
    refine Y_i2l (pc := 8) dL_odds_8 ?_
    refine Y_lstc (pc := 9) (t := NT) dL_odds_9 ar_out (j := 0) rfl rfl ?_
    refine Y_goto (pc := 10) (tgt := 17) dL_odds_10 (by decide) ?_
    refine Y_iconst (pc := 17) dL_odds_17 (v := 0) rfl ?_
    exact Y_iretW (pc := 18) dL_odds_18 rfl ⟨Nat.le_refl _, Nat.le_refl _⟩ rfl
  · have hE1 := thr_inr hE
    rw [hE1] at hw
    obtain ⟨rfl, i9, h8, rfl⟩ := hw
    rcases i9 with _ | i9
    · have h8 : some "java/lang/IllegalArgumentException" = some E := h8
      cases h8
      exact YX_catch [] ⟨0, 10, 13, 13⟩ [] (fun c args q => q) (fun z hz => absurd hz List.not_mem_nil) rfl (by decide) w_632 nw_876 (YH_w (pc := 13) (pc1 := 15) (pc2 := 16) dL_odds_13 dL_odds_15 dL_odds_16 ⟨rfl, rfl⟩ (by decide) rfl rfl ⟨Nat.le_refl _, Nat.le_refl _⟩ rfl)
    · have h8 : none = some E := h8
      cases h8
theorem wf_odds : WF RL 245 mL_odds hL_odds 4 := ⟨⟨w_1300, w_1301, w_0, w_1302⟩, ⟨by decide, by decide, by decide +kernel⟩, by decide⟩
abbrev hL_share : List (Nat × Nat × Nat × Nat) := [(0, 9, 12, 24)]
theorem W_share {g : gX} {d : Nat} {P : Nat → Nat → Option Nat} {I : HI} {x1 : Int32} {J J9 : HJ} {k9 : Int32} (hp : Wp P) {r : (Int32 ⊕ String)} (h : F_X11_share I x1 = some r) (hw : wres ["java/lang/IndexOutOfBoundsException"] J r k9 J9) : Cw g mL_share hL_share (d + 7) [.ref 1, .int x1, .ref 218] (NT, I, J, P) (some (.int k9)) (NT, I, J9, P) := by
  refine Cw.of (by decide) (by simp [Value.category]) (Nat.le_of_ble_eq_true rfl) (ls := [some (.ref 1), some (.int x1), some (.ref 218), none]) rfl rfl rfl ?_
  refine Y_aload_n (pc := 0) dL_share_0 rfl ?_
  refine Y_iconst (pc := 1) dL_share_1 (v := 0) rfl ?_
  refine Y_aload_n (pc := 2) dL_share_2 rfl ?_
  refine Y_iload_n (pc := 3) dL_share_3 rfl ?_
  refine Y_callX (pc := 4) (d := d + 6) (R := (thr_i r, (NT, I, J, P))) dL_share_4 v_L_92 rfl rfl at_10 (Nat.le_of_ble_eq_true rfl) rfl rfl (C_X11_share (d := d) hp h) (hRW g d 6 _ _) (fun v hv => ?_) (fun E hE => ?_)
  · obtain ⟨v1, hv1, rfl⟩ := thr_inl hv
    rw [hv1] at hw
    obtain ⟨rfl, rfl⟩ := hw
    refine Y_i2l (pc := 7) dL_share_7 ?_
    refine Y_lstc (pc := 8) (t := NT) dL_share_8 ar_out (j := 0) rfl rfl ?_
    refine Y_goto (pc := 9) (tgt := 15) dL_share_9 (by decide) ?_
    refine Y_iconst (pc := 15) dL_share_15 (v := 0) rfl ?_
    exact Y_iretW (pc := 16) dL_share_16 rfl ⟨Nat.le_refl _, Nat.le_refl _⟩ rfl
  · have hE1 := thr_inr hE
    rw [hE1] at hw
    obtain ⟨rfl, i9, h8, rfl⟩ := hw
    rcases i9 with _ | i9
    · have h8 : some "java/lang/IndexOutOfBoundsException" = some E := h8
      cases h8
      exact YX_catch [] ⟨0, 9, 12, 24⟩ [] (fun c args q => q) (fun z hz => absurd hz List.not_mem_nil) rfl (by decide) w_978 nw_987 (YH_n (pc := 12) (pc1 := 13) (pc2 := 14) dL_share_12 dL_share_13 dL_share_14 ⟨rfl, rfl⟩ (by decide) rfl rfl ⟨Nat.le_refl _, Nat.le_refl _⟩ rfl)
    · have h8 : none = some E := h8
      cases h8
theorem wf_share : WF RL 248 mL_share hL_share 3 := ⟨⟨w_1312, w_1313, w_0, w_1314⟩, ⟨by decide, by decide, by decide +kernel⟩, by decide⟩
abbrev hL_trial : List (Nat × Nat × Nat × Nat) := [(0, 10, 13, 13)]
theorem W_trial {g : gX} {d : Nat} {P : Nat → Nat → Option Nat} {I : HI} {x1 : Int32} {x2 : Int32} {J J9 : HJ} {k9 : Int32} (hp : Wp P) {r : (Int32 ⊕ String) × HI} (h : F_X11_trial I x1 x2 = some r) (hw : wres ["java/lang/IllegalArgumentException"] J r.1 k9 J9) : Cw g mL_trial hL_trial (d + 8) [.ref 1, .int x1, .int x2, .ref 218] (NT, I, J, P) (some (.int k9)) (NT, r.2, J9, P) := by
  refine Cw.of (by decide) (by simp [Value.category]) (Nat.le_of_ble_eq_true rfl) (ls := [some (.ref 1), some (.int x1), some (.int x2), some (.ref 218), none]) rfl rfl rfl ?_
  refine Y_aload_n (pc := 0) dL_trial_0 rfl ?_
  refine Y_iconst (pc := 1) dL_trial_1 (v := 0) rfl ?_
  refine Y_aload_n (pc := 2) dL_trial_2 rfl ?_
  refine Y_iload_n (pc := 3) dL_trial_3 rfl ?_
  refine Y_iload_n (pc := 4) dL_trial_4 rfl ?_
  refine Y_callX (pc := 5) (d := d + 7) (R := (thr_i r.1, (NT, r.2, J, P))) dL_trial_5 v_L_95 rfl rfl at_10 (Nat.le_of_ble_eq_true rfl) rfl rfl (C_X11_trial (d := d) hp h) (hRW g d 7 _ _) (fun v hv => ?_) (fun E hE => ?_)
  · obtain ⟨v1, hv1, rfl⟩ := thr_inl hv
    rw [hv1] at hw
    obtain ⟨rfl, rfl⟩ := hw
    refine Y_i2l (pc := 8) dL_trial_8 ?_
    refine Y_lstc (pc := 9) (t := NT) dL_trial_9 ar_out (j := 0) rfl rfl ?_
    refine Y_goto (pc := 10) (tgt := 17) dL_trial_10 (by decide) ?_
    refine Y_iconst (pc := 17) dL_trial_17 (v := 0) rfl ?_
    exact Y_iretW (pc := 18) dL_trial_18 rfl ⟨Nat.le_refl _, Nat.le_refl _⟩ rfl
  · have hE1 := thr_inr hE
    rw [hE1] at hw
    obtain ⟨rfl, i9, h8, rfl⟩ := hw
    rcases i9 with _ | i9
    · have h8 : some "java/lang/IllegalArgumentException" = some E := h8
      cases h8
      exact YX_catch [] ⟨0, 10, 13, 13⟩ [] (fun c args q => q) (fun z hz => absurd hz List.not_mem_nil) rfl (by decide) w_632 nw_876 (YH_w (pc := 13) (pc1 := 15) (pc2 := 16) dL_trial_13 dL_trial_15 dL_trial_16 ⟨rfl, rfl⟩ (by decide) rfl rfl ⟨Nat.le_refl _, Nat.le_refl _⟩ rfl)
    · have h8 : none = some E := h8
      cases h8
theorem wf_trial : WF RL 251 mL_trial hL_trial 4 := ⟨⟨w_1319, w_1320, w_0, w_1321⟩, ⟨by decide, by decide, by decide +kernel⟩, by decide⟩
abbrev hL_span : List (Nat × Nat × Nat × Nat) := [(0, 10, 13, 13)]
theorem W_span {g : gX} {d : Nat} {P : Nat → Nat → Option Nat} {I : HI} {x1 : Int32} {x2 : Int32} {J J9 : HJ} {k9 : Int32} (hp : Wp P) {r : (Int32 ⊕ String) × HI} (h : F_X11_span I x1 x2 = some r) (hw : wres ["java/lang/IllegalArgumentException"] J r.1 k9 J9) : Cw g mL_span hL_span (d + 8) [.ref 1, .int x1, .int x2, .ref 218] (NT, I, J, P) (some (.int k9)) (NT, r.2, J9, P) := by
  refine Cw.of (by decide) (by simp [Value.category]) (Nat.le_of_ble_eq_true rfl) (ls := [some (.ref 1), some (.int x1), some (.int x2), some (.ref 218), none]) rfl rfl rfl ?_
  refine Y_aload_n (pc := 0) dL_span_0 rfl ?_
  refine Y_iconst (pc := 1) dL_span_1 (v := 0) rfl ?_
  refine Y_aload_n (pc := 2) dL_span_2 rfl ?_
  refine Y_iload_n (pc := 3) dL_span_3 rfl ?_
  refine Y_iload_n (pc := 4) dL_span_4 rfl ?_
  refine Y_callX (pc := 5) (d := d + 7) (R := (thr_i r.1, (NT, r.2, J, P))) dL_span_5 v_L_99 rfl rfl at_10 (Nat.le_of_ble_eq_true rfl) rfl rfl (C_X11_span (d := d) hp h) (hRW g d 7 _ _) (fun v hv => ?_) (fun E hE => ?_)
  · obtain ⟨v1, hv1, rfl⟩ := thr_inl hv
    rw [hv1] at hw
    obtain ⟨rfl, rfl⟩ := hw
    refine Y_i2l (pc := 8) dL_span_8 ?_
    refine Y_lstc (pc := 9) (t := NT) dL_span_9 ar_out (j := 0) rfl rfl ?_
    refine Y_goto (pc := 10) (tgt := 17) dL_span_10 (by decide) ?_
    refine Y_iconst (pc := 17) dL_span_17 (v := 0) rfl ?_
    exact Y_iretW (pc := 18) dL_span_18 rfl ⟨Nat.le_refl _, Nat.le_refl _⟩ rfl
  · have hE1 := thr_inr hE
    rw [hE1] at hw
    obtain ⟨rfl, i9, h8, rfl⟩ := hw
    rcases i9 with _ | i9
    · have h8 : some "java/lang/IllegalArgumentException" = some E := h8
      cases h8
      exact YX_catch [] ⟨0, 10, 13, 13⟩ [] (fun c args q => q) (fun z hz => absurd hz List.not_mem_nil) rfl (by decide) w_632 nw_876 (YH_w (pc := 13) (pc1 := 15) (pc2 := 16) dL_span_13 dL_span_15 dL_span_16 ⟨rfl, rfl⟩ (by decide) rfl rfl ⟨Nat.le_refl _, Nat.le_refl _⟩ rfl)
    · have h8 : none = some E := h8
      cases h8
theorem wf_span : WF RL 255 mL_span hL_span 4 := ⟨⟨w_1330, w_1331, w_0, w_1332⟩, ⟨by decide, by decide, by decide +kernel⟩, by decide⟩
abbrev hL_led : List (Nat × Nat × Nat × Nat) := [(0, 10, 13, 24)]
theorem W_led {g : gX} {d : Nat} {P : Nat → Nat → Option Nat} {I : HI} {x1 : Int32} {x2 : Int32} {J J9 : HJ} {k9 : Int32} (hp : Wp P) {r : (Int32 ⊕ String)} (h : F_X11_led I x1 x2 = some r) (hw : wres ["java/lang/IndexOutOfBoundsException"] J r k9 J9) : Cw g mL_led hL_led (d + 7) [.ref 1, .int x1, .int x2, .ref 218] (NT, I, J, P) (some (.int k9)) (NT, I, J9, P) := by
  refine Cw.of (by decide) (by simp [Value.category]) (Nat.le_of_ble_eq_true rfl) (ls := [some (.ref 1), some (.int x1), some (.int x2), some (.ref 218), none]) rfl rfl rfl ?_
  refine Y_aload_n (pc := 0) dL_led_0 rfl ?_
  refine Y_iconst (pc := 1) dL_led_1 (v := 0) rfl ?_
  refine Y_aload_n (pc := 2) dL_led_2 rfl ?_
  refine Y_iload_n (pc := 3) dL_led_3 rfl ?_
  refine Y_iload_n (pc := 4) dL_led_4 rfl ?_
  refine Y_callX (pc := 5) (d := d + 6) (R := (thr_i r, (NT, I, J, P))) dL_led_5 v_L_102 rfl rfl at_10 (Nat.le_of_ble_eq_true rfl) rfl rfl (C_X11_led (d := d) hp h) (hRW g d 6 _ _) (fun v hv => ?_) (fun E hE => ?_)
  · obtain ⟨v1, hv1, rfl⟩ := thr_inl hv
    rw [hv1] at hw
    obtain ⟨rfl, rfl⟩ := hw
    refine Y_i2l (pc := 8) dL_led_8 ?_
    refine Y_lstc (pc := 9) (t := NT) dL_led_9 ar_out (j := 0) rfl rfl ?_
    refine Y_goto (pc := 10) (tgt := 17) dL_led_10 (by decide) ?_
    refine Y_iconst (pc := 17) dL_led_17 (v := 0) rfl ?_
    exact Y_iretW (pc := 18) dL_led_18 rfl ⟨Nat.le_refl _, Nat.le_refl _⟩ rfl
  · have hE1 := thr_inr hE
    rw [hE1] at hw
    obtain ⟨rfl, i9, h8, rfl⟩ := hw
    rcases i9 with _ | i9
    · have h8 : some "java/lang/IndexOutOfBoundsException" = some E := h8
      cases h8
      exact YX_catch [] ⟨0, 10, 13, 24⟩ [] (fun c args q => q) (fun z hz => absurd hz List.not_mem_nil) rfl (by decide) w_978 nw_987 (YH_w (pc := 13) (pc1 := 15) (pc2 := 16) dL_led_13 dL_led_15 dL_led_16 ⟨rfl, rfl⟩ (by decide) rfl rfl ⟨Nat.le_refl _, Nat.le_refl _⟩ rfl)
    · have h8 : none = some E := h8
      cases h8
theorem wf_led : WF RL 258 mL_led hL_led 4 := ⟨⟨w_1338, w_1339, w_0, w_1340⟩, ⟨by decide, by decide, by decide +kernel⟩, by decide⟩
abbrev hL_log : List (Nat × Nat × Nat × Nat) := [(0, 10, 13, 26)]
theorem W_log {g : gX} {d : Nat} {P : Nat → Nat → Option Nat} {I : HI} {x1 : Int32} {x2 : Int32} {J J9 : HJ} {k9 : Int32} (hp : Wp P) {r : (Int32 ⊕ String)} (h : F_X11_log I x1 x2 = some r) (hw : wres ["java/util/NoSuchElementException"] J r k9 J9) : Cw g mL_log hL_log (d + 7) [.ref 1, .int x1, .int x2, .ref 218] (NT, I, J, P) (some (.int k9)) (NT, I, J9, P) := by
  refine Cw.of (by decide) (by simp [Value.category]) (Nat.le_of_ble_eq_true rfl) (ls := [some (.ref 1), some (.int x1), some (.int x2), some (.ref 218), none]) rfl rfl rfl ?_
  refine Y_aload_n (pc := 0) dL_log_0 rfl ?_
  refine Y_iconst (pc := 1) dL_log_1 (v := 0) rfl ?_
  refine Y_aload_n (pc := 2) dL_log_2 rfl ?_
  refine Y_iload_n (pc := 3) dL_log_3 rfl ?_
  refine Y_iload_n (pc := 4) dL_log_4 rfl ?_
  refine Y_callX (pc := 5) (d := d + 6) (R := (thr_i r, (NT, I, J, P))) dL_log_5 v_L_105 rfl rfl at_10 (Nat.le_of_ble_eq_true rfl) rfl rfl (C_X11_log (d := d) hp h) (hRW g d 6 _ _) (fun v hv => ?_) (fun E hE => ?_)
  · obtain ⟨v1, hv1, rfl⟩ := thr_inl hv
    rw [hv1] at hw
    obtain ⟨rfl, rfl⟩ := hw
    refine Y_i2l (pc := 8) dL_log_8 ?_
    refine Y_lstc (pc := 9) (t := NT) dL_log_9 ar_out (j := 0) rfl rfl ?_
    refine Y_goto (pc := 10) (tgt := 17) dL_log_10 (by decide) ?_
    refine Y_iconst (pc := 17) dL_log_17 (v := 0) rfl ?_
    exact Y_iretW (pc := 18) dL_log_18 rfl ⟨Nat.le_refl _, Nat.le_refl _⟩ rfl
  · have hE1 := thr_inr hE
    rw [hE1] at hw
    obtain ⟨rfl, i9, h8, rfl⟩ := hw
    rcases i9 with _ | i9
    · have h8 : some "java/util/NoSuchElementException" = some E := h8
      cases h8
      exact YX_catch [] ⟨0, 10, 13, 26⟩ [] (fun c args q => q) (fun z hz => absurd hz List.not_mem_nil) rfl (by decide) w_979 nw_1003 (YH_w (pc := 13) (pc1 := 15) (pc2 := 16) dL_log_13 dL_log_15 dL_log_16 ⟨rfl, rfl⟩ (by decide) rfl rfl ⟨Nat.le_refl _, Nat.le_refl _⟩ rfl)
    · have h8 : none = some E := h8
      cases h8
theorem wf_log : WF RL 261 mL_log hL_log 4 := ⟨⟨w_1357, w_1358, w_0, w_1359⟩, ⟨by decide, by decide, by decide +kernel⟩, by decide⟩
