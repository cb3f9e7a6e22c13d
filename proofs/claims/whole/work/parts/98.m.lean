/-! every call -/
section
theorem Gd.thr {I : HI} (h : Gd I) (k : Int32) : Gd (up2 I 205 0 k) := by
  obtain ⟨n, g⟩ := h
  exact ⟨n, (g.thr k).onC (fmo_thr _ _)⟩
theorem t_feed (I : HI) (x1 x2 x3 x4 x5 : Int32) (h : Gd I) : St_feed Gd I x1 x2 x3 x4 x5 := by
  obtain ⟨r, I1, b, I2, e1, e2, q1, g⟩ := conv (F1 := fun C => F_X11_feed C x1 x2 x3 x4 x5) (F2 := fun M => F_X12_feed M x1 x2 x3 x4 x5) (Q := fun r b _ => r = b) h (fun C M n hG => s_feed hG)
  subst q1
  exact ⟨r, I1, I2, e1, e2, g⟩
theorem t_end (I : HI) (x1 : Int32) (h : Gd I) : St_end Gd I x1 := by
  obtain ⟨r, I1, b, I2, e1, e2, q1, g⟩ := conv (F1 := fun C => F_X11_end C x1) (F2 := fun M => F_X12_end M x1) (Q := fun r b _ => r = b) h (fun C M n hG => s_end hG)
  subst q1
  exact ⟨r, I1, I2, e1, e2, g⟩
theorem t_life (I : HI) (h : Gd I) : St_life Gd I := by
  obtain ⟨r, I1, b, I2, e1, e2, ⟨k, q1, q2⟩, g⟩ := conv (F1 := fun C => F_X11_life C) (F2 := fun M => F_X12_life M) h (fun C M n hG => s_life hG)
  exact ⟨r, I1, b, I2, k, e1, e2, q1, q2, g⟩
theorem t_law (I : HI) (h : Gd I) : St_law Gd I := by
  obtain ⟨r, I1, b, I2, e1, e2, ⟨k, q1, q2⟩, g⟩ := conv (F1 := fun C => F_X11_law C) (F2 := fun M => F_X12_law M) h (fun C M n hG => s_law hG)
  exact ⟨r, I1, b, I2, k, e1, e2, q1, q2, g⟩
theorem t_fault (I : HI) (h : Gd I) : St_fault Gd I := by
  obtain ⟨n, hG⟩ := h
  refine ⟨I 1 2, up2 I 205 0 0, rfl, ?_, Gd.thr ⟨n, hG⟩ 0⟩
  unfold F_X12_fault
  rw [hG.2.2.2.2]
theorem t_dish (I : HI) (x1 x2 : Int32) (h : Gd I) : St_dish Gd I x1 x2 := by
  obtain ⟨r, I1, b, I2, e1, e2, ⟨k, q1, q2⟩, g⟩ := conv (F1 := fun C => F_X11_dish C x1 x2) (F2 := fun M => F_X12_dish M x1 x2) h (fun C M n hG => s_dish hG)
  exact ⟨r, I1, b, I2, k, e1, e2, q1, q2, g⟩
theorem t_far (I : HI) (x1 x2 : Int32) (h : Gd I) : St_far Gd I x1 x2 := by
  obtain ⟨n, hG⟩ := id h
  obtain ⟨r, b, k, e1, e2, e3⟩ := q_far (x1 := x1) (x2 := x2) hG.1.1 hG.1.2.1
  exact ⟨r, b, _, k, e1, e2, rfl, e3, h.thr k⟩
theorem t_near (I : HI) (x1 : Int32) (h : Gd I) : St_near Gd I x1 := by
  obtain ⟨n, hG⟩ := id h
  obtain ⟨r, b, k, e1, e2, e3⟩ := q_near (x1 := x1) hG.1.1 hG.1.2.1
  exact ⟨r, b, _, k, e1, e2, rfl, e3, h.thr k⟩
theorem t_left (I : HI) (h : Gd I) : St_left Gd I := by
  obtain ⟨n, hG⟩ := id h
  obtain ⟨r, e1, e2⟩ := q_left  hG.1.1 hG.1.2.1
  exact ⟨r, _, e1, e2, h.thr 0⟩
theorem t_spoon (I : HI) (x1 : Int32) (h : Gd I) : St_spoon Gd I x1 := by
  obtain ⟨r, I1, b, I2, e1, e2, ⟨k, q1, q2⟩, g⟩ := conv (F1 := fun C => F_X11_spoon C x1) (F2 := fun M => F_X12_spoon M x1) h (fun C M n hG => s_spoon hG)
  exact ⟨r, I1, b, I2, k, e1, e2, q1, q2, g⟩
theorem t_crust (I : HI) (h : Gd I) : St_crust Gd I := by
  obtain ⟨r, I1, b, I2, e1, e2, q1, g⟩ := conv (F1 := fun C => F_X11_crust C) (F2 := fun M => F_X12_crust M) (Q := fun r b _ => r = b) h (fun C M n hG => s_crust hG)
  subst q1
  exact ⟨r, I1, I2, e1, e2, g⟩
theorem t_had (I : HI) (x1 x2 x3 x4 : Int32) (h : Gd I) : St_had Gd I x1 x2 x3 x4 := by
  obtain ⟨r, I1, b, I2, e1, e2, ⟨k, q1, q2⟩, g⟩ := conv (F1 := fun C => F_X11_had C x1 x2 x3 x4) (F2 := fun M => F_X12_had M x1 x2 x3 x4) h (fun C M n hG => s_had hG)
  exact ⟨r, I1, b, I2, k, e1, e2, q1, q2, g⟩
theorem t_forget (I : HI) (x1 : Int32) (h : Gd I) : St_forget Gd I x1 := by
  obtain ⟨r, I1, b, I2, e1, e2, ⟨k, q1, q2⟩, g⟩ := conv (F1 := fun C => F_X11_forget C x1) (F2 := fun M => F_X12_forget M x1) h (fun C M n hG => s_forget hG)
  exact ⟨r, I1, b, I2, k, e1, e2, q1, q2, g⟩
theorem t_reach (I : HI) (x1 : Int32) (h : Gd I) : St_reach Gd I x1 := by
  obtain ⟨r, I1, b, I2, e1, e2, ⟨k, q1, q2⟩, g⟩ := conv (F1 := fun C => F_X11_reach C x1) (F2 := fun M => F_X12_reach M x1) h (fun C M n hG => s_reach hG)
  exact ⟨r, I1, b, I2, k, e1, e2, q1, q2, g⟩
theorem t_house (I : HI) (x1 : Int32) (h : Gd I) : St_house Gd I x1 := by
  obtain ⟨r, I1, b, I2, e1, e2, ⟨k, q1, q2⟩, g⟩ := conv (F1 := fun C => F_X11_house C x1) (F2 := fun M => F_X12_house M x1) h (fun C M n hG => s_house hG)
  exact ⟨r, I1, b, I2, k, e1, e2, q1, q2, g⟩
theorem t_look (I : HI) (h : Gd I) : St_look Gd I := by
  obtain ⟨r, I1, b, I2, e1, e2, q1, g⟩ := conv (F1 := fun C => F_X11_look C) (F2 := fun M => F_X12_look M) (Q := fun r b _ => r = b) h (fun C M n hG => s_look hG)
  subst q1
  exact ⟨r, I1, I2, e1, e2, g⟩
theorem t_evenings (I : HI) (x1 : Int32) (h : Gd I) : St_evenings Gd I x1 := by
  obtain ⟨r, I1, b, I2, e1, e2, ⟨k, q1, q2⟩, g⟩ := conv (F1 := fun C => F_X11_evenings C x1) (F2 := fun M => F_X12_evenings M x1) h (fun C M n hG => s_evenings hG)
  exact ⟨r, I1, b, I2, k, e1, e2, q1, q2, g⟩
theorem t_menu (I : HI) (x1 : Int32) (h : Gd I) : St_menu Gd I x1 := by
  obtain ⟨r, I1, b, I2, e1, e2, ⟨k, q1, q2⟩, g⟩ := conv (F1 := fun C => F_X11_menu C x1) (F2 := fun M => F_X12_menu M x1) h (fun C M n hG => s_menu hG)
  exact ⟨r, I1, b, I2, k, e1, e2, q1, q2, g⟩
theorem t_fewest (I : HI) (x1 x2 : Int32) (h : Gd I) : St_fewest Gd I x1 x2 := by
  obtain ⟨n, hG⟩ := id h
  obtain ⟨r, b, k, e1, e2, e3⟩ := q_fewest (x1 := x1) (x2 := x2) hG.1.1 hG.1.2.1
  exact ⟨r, b, _, k, e1, e2, rfl, e3, h.thr k⟩
theorem t_order (I : HI) (x1 x2 : Int32) (h : Gd I) : St_order Gd I x1 x2 := by
  obtain ⟨r, I1, b, I2, e1, e2, ⟨k, q1, q2⟩, g⟩ := conv (F1 := fun C => F_X11_order C x1 x2) (F2 := fun M => F_X12_order M x1 x2) h (fun C M n hG => s_order hG)
  exact ⟨r, I1, b, I2, k, e1, e2, q1, q2, g⟩
theorem t_he (I : HI) (h : Gd I) : St_he Gd I := by
  obtain ⟨r, I1, b, I2, e1, e2, ⟨k, q1, q2⟩, g⟩ := conv (F1 := fun C => F_X11_he C) (F2 := fun M => F_X12_he M) h (fun C M n hG => s_he hG)
  exact ⟨r, I1, b, I2, k, e1, e2, q1, q2, g⟩
theorem t_unknown (I : HI) (h : Gd I) : St_unknown Gd I := by
  obtain ⟨r, I1, b, I2, e1, e2, ⟨k, q1, q2⟩, g⟩ := conv (F1 := fun C => F_X11_unknown C) (F2 := fun M => F_X12_unknown M) h (fun C M n hG => s_unknown hG)
  exact ⟨r, I1, b, I2, k, e1, e2, q1, q2, g⟩
theorem t_serve (I : HI) (h : Gd I) : St_serve Gd I := by
  obtain ⟨r, I1, b, I2, e1, e2, ⟨k, q1, q2⟩, g⟩ := conv (F1 := fun C => F_X11_serve C) (F2 := fun M => F_X12_serve M) h (fun C M n hG => s_serve hG)
  exact ⟨r, I1, b, I2, k, e1, e2, q1, q2, g⟩
theorem t_jars (I : HI) (x1 : Int32) (h : Gd I) : St_jars Gd I x1 := by
  obtain ⟨r, I1, b, I2, e1, e2, ⟨k, q1, q2⟩, g⟩ := conv (F1 := fun C => F_X11_jars C x1) (F2 := fun M => F_X12_jars M x1) h (fun C M n hG => s_jars hG)
  exact ⟨r, I1, b, I2, k, e1, e2, q1, q2, g⟩
theorem t_kitchen (I : HI) (x1 : Int32) (h : Gd I) : St_kitchen Gd I x1 := by
  obtain ⟨n, hG⟩ := id h
  obtain ⟨r, b, k, e1, e2, e3⟩ := q_kitchen (x1 := x1) hG.1.1 hG.1.2.1
  exact ⟨r, b, _, k, e1, e2, rfl, e3, h.thr k⟩
theorem t_dated (I : HI) (x1 : Int32) (h : Gd I) : St_dated Gd I x1 := by
  obtain ⟨n, hG⟩ := id h
  obtain ⟨r, e1, e2⟩ := q_dated (x1 := x1) hG.1.1 hG.1.2.1
  exact ⟨r, _, e1, e2, h.thr 0⟩
theorem t_gap (I : HI) (h : Gd I) : St_gap Gd I := by
  obtain ⟨n, hG⟩ := id h
  obtain ⟨r, e1, e2⟩ := q_gap  hG.1.1 hG.1.2.1
  exact ⟨r, _, e1, e2, h.thr 0⟩
theorem t_lover (I : HI) (h : Gd I) : St_lover Gd I := by
  obtain ⟨n, hG⟩ := id h
  obtain ⟨r, e1, e2⟩ := q_lover  hG.1.1 hG.1.2.1
  exact ⟨r, _, e1, e2, h.thr 0⟩
theorem t_oldest (I : HI) (h : Gd I) : St_oldest Gd I := by
  obtain ⟨n, hG⟩ := id h
  obtain ⟨r, e1, e2⟩ := q_oldest  hG.1.1 hG.1.2.1
  exact ⟨r, _, e1, e2, h.thr 0⟩
theorem t_sad (I : HI) (h : Gd I) : St_sad Gd I := by
  obtain ⟨r, I1, b, I2, e1, e2, q1, g⟩ := conv (F1 := fun C => F_X11_sad C) (F2 := fun M => F_X12_sad M) (Q := fun r b _ => r = b) h (fun C M n hG => s_sad hG)
  subst q1
  exact ⟨r, I1, I2, e1, e2, g⟩
theorem t_hosts (I : HI) (x1 x2 : Int32) (h : Gd I) : St_hosts Gd I x1 x2 := by
  obtain ⟨r, I1, b, I2, e1, e2, ⟨k, q1, q2⟩, g⟩ := conv (F1 := fun C => F_X11_hosts C x1 x2) (F2 := fun M => F_X12_hosts M x1 x2) h (fun C M n hG => s_hosts hG)
  exact ⟨r, I1, b, I2, k, e1, e2, q1, q2, g⟩
theorem t_breaks (I : HI) (x1 : Int32) (h : Gd I) : St_breaks Gd I x1 := by
  obtain ⟨r, I1, b, I2, e1, e2, ⟨k, q1, q2⟩, g⟩ := conv (F1 := fun C => F_X11_breaks C x1) (F2 := fun M => F_X12_breaks M x1) h (fun C M n hG => s_breaks hG)
  exact ⟨r, I1, b, I2, k, e1, e2, q1, q2, g⟩
theorem t_twins (I : HI) (h : Gd I) : St_twins Gd I := by
  obtain ⟨n, hG⟩ := id h
  obtain ⟨r, e1, e2⟩ := q_twins  hG.1.1 hG.1.2.1
  exact ⟨r, _, e1, e2, h.thr 0⟩
theorem t_next (I : HI) (h : Gd I) : St_next Gd I := by
  obtain ⟨n, hG⟩ := id h
  obtain ⟨r, e1, e2⟩ := q_next  hG.1.1 hG.1.2.1
  exact ⟨r, _, e1, e2, h.thr 0⟩
theorem t_warlike (I : HI) (h : Gd I) : St_warlike Gd I := by
  obtain ⟨n, hG⟩ := id h
  obtain ⟨r, e1, e2⟩ := q_warlike  hG.1.1 hG.1.2.1
  exact ⟨r, _, e1, e2, h.thr 0⟩
theorem t_company (I : HI) (x1 : Int32) (h : Gd I) : St_company Gd I x1 := by
  obtain ⟨n, hG⟩ := id h
  obtain ⟨r, b, k, e1, e2, e3⟩ := q_company (x1 := x1) hG.1.1 hG.1.2.1
  exact ⟨r, b, _, k, e1, e2, rfl, e3, h.thr k⟩
theorem t_odds (I : HI) (x1 x2 : Int32) (h : Gd I) : St_odds Gd I x1 x2 := by
  intro J
  obtain ⟨n, hG⟩ := id h
  obtain ⟨r, b, J2, k, e1, e2, e3, e4⟩ := q_odds (x1 := x1) (x2 := x2) hG J
  exact ⟨r, b, _, J2, k, e1, e2, e3, rfl, e4, h.thr k⟩
theorem t_share (I : HI) (x1 : Int32) (h : Gd I) : St_share Gd I x1 := by
  obtain ⟨n, hG⟩ := id h
  obtain ⟨r, b, k, e1, e2, e3⟩ := q_share (x1 := x1) hG.1.1 hG.1.2.1
  exact ⟨r, b, _, k, e1, e2, rfl, e3, h.thr k⟩
theorem t_trial (I : HI) (x1 x2 : Int32) (h : Gd I) (hx : x2 = 0 ∨ x2 = 1) : St_trial Gd I x1 x2 := by
  obtain ⟨r, I1, b, I2, e1, e2, ⟨k, q1, q2⟩, g⟩ := conv (F1 := fun C => F_X11_trial C x1 x2) (F2 := fun M => F_X12_trial M x1 x2) h (fun C M n hG => s_trial hG)
  exact ⟨r, I1, b, I2, k, e1, e2, q1, q2, g⟩
theorem t_span (I : HI) (x1 x2 : Int32) (h : Gd I) (hx : x2 = 0 ∨ x2 = 1) : St_span Gd I x1 x2 := by
  obtain ⟨r, I1, b, I2, e1, e2, ⟨k, q1, q2⟩, g⟩ := conv (F1 := fun C => F_X11_span C x1 x2) (F2 := fun M => F_X12_span M x1 x2) h (fun C M n hG => s_span hG)
  exact ⟨r, I1, b, I2, k, e1, e2, q1, q2, g⟩
theorem t_led (I : HI) (x1 x2 : Int32) (h : Gd I) (hx : x2 = 0 ∨ x2 = 1) : St_led Gd I x1 x2 := by
  obtain ⟨n, hG⟩ := id h
  obtain ⟨r, b, k, e1, e2, e3⟩ := q_led (x1 := x1) (x2 := x2) hG hx
  exact ⟨r, b, _, k, e1, e2, rfl, e3, h.thr k⟩
theorem t_log (I : HI) (x1 x2 : Int32) (h : Gd I) : St_log Gd I x1 x2 := by
  obtain ⟨n, hG⟩ := id h
  obtain ⟨r, b, k, e1, e2, e3⟩ := q_log (x1 := x1) (x2 := x2) hG
  exact ⟨r, b, _, k, e1, e2, rfl, e3, h.thr k⟩
theorem t_seed (I : HI) (x1 : Int32) (h : Gd I) : St_seed Gd I x1 := by
  obtain ⟨r, I1, b, I2, e1, e2, q1, g⟩ := conv (F1 := fun C => F_X11_seed C x1) (F2 := fun M => F_X12_seed M x1) (Q := fun r b _ => r = b) h (fun C M n hG => s_seed hG)
  subst q1
  exact ⟨r, I1, I2, e1, e2, g⟩
theorem t_undo (I : HI) (h : Gd I) : St_undo Gd I := by
  obtain ⟨r, I1, b, I2, e1, e2, q1, g⟩ := conv (F1 := fun C => F_X11_undo C) (F2 := fun M => F_X12_undo M) (Q := fun r b _ => r = b) h (fun C M n hG => s_undo hG)
  subst q1
  exact ⟨r, I1, I2, e1, e2, g⟩
theorem t_image (I : HI) (h : Gd I) : St_image Gd I := by
  obtain ⟨n, hG⟩ := h
  obtain ⟨C', M', e1, e2, e4, e5, e6⟩ := s_image hG
  obtain ⟨C2, M2, q1, q2, ⟨n', q4⟩, q5, q6⟩ := s_image (hG.onM e5)
  rw [e1] at q1
  cases q1
  exact ⟨C', M2, e1, q2, n', q4.onC q6⟩
theorem t_back (I : HI) (h : Gd I) : St_back Gd I := by
  obtain ⟨r, I1, b, I2, e1, e2, q1, g⟩ := conv (F1 := fun C => F_X11_back C) (F2 := fun M => F_X12_back M) (Q := fun r b _ => r = b) h (fun C M n hG => s_back hG)
  subst q1
  exact ⟨r, I1, I2, e1, e2, g⟩
theorem t_count (I : HI) (x1 : Int32) (h : Gd I) : St_count Gd I x1 := by
  obtain ⟨n, hG⟩ := id h
  obtain ⟨r, e1, e2⟩ := q_count (x1 := x1) hG
  exact ⟨r, _, e1, e2, h.thr 0⟩
theorem st_all : Steps Gd := ⟨t_feed, t_end, t_life, t_law, t_fault, t_dish, t_far, t_near, t_left, t_spoon, t_crust, t_had, t_forget, t_reach, t_house, t_look, t_evenings, t_menu, t_fewest, t_order, t_he, t_unknown, t_serve, t_jars, t_kitchen, t_dated, t_gap, t_lover, t_oldest, t_sad, t_hosts, t_breaks, t_twins, t_next, t_warlike, t_company, t_odds, t_share, t_trial, t_span, t_led, t_log, t_seed, t_undo, t_image, t_back, t_count⟩
theorem gd0 : Gd I0 := by
  refine ⟨0, ⟨?_, ?_, ?_, ?_⟩, ?_, ?_, ?_, ?_⟩
  · unfold LR DR; decide +kernel
  · refine ⟨?_, ?_, ?_, ?_, ?_, ?_, ?_, ?_, ?_, ?_, ?_, ?_, ?_, 0, by omega, by decide +kernel⟩
    · unfold DOk rg; decide +kernel
    all_goals (unfold rg; decide +kernel)
  · exact ⟨0, 0, by omega, by omega, by decide +kernel, by decide +kernel, by decide +kernel, fun g w hg _ => absurd hg (Nat.not_lt_zero _)⟩
  · exact Or.inr ⟨by decide +kernel, by decide +kernel⟩
  · exact ActR.none I0 I0 (by decide +kernel) ⟨0, by omega, by decide +kernel⟩ (by decide +kernel)
  · exact Or.inl ⟨by decide +kernel, by decide +kernel⟩
  · exact ⟨0, by omega, by decide +kernel, by decide +kernel, fun i hi => absurd hi (Nat.not_lt_zero _)⟩
  · decide +kernel
end
