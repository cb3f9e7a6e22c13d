theorem t_J0_335 : TF RJ0 335 mJ0_coder_7d493 0 := ⟨⟨w_681, w_682, w_683, w_16, w_684⟩, ⟨rfl, by decide, by decide, by decide +kernel⟩, by decide⟩
theorem t_J0_492 : TF RJ0 492 mJ0_isLatin1_aae02 0 := ⟨⟨w_691, w_692, w_693, w_16, w_694⟩, ⟨rfl, by decide, by decide, by decide +kernel⟩, by decide⟩
theorem t_X10_52 : TF RX10 52 mJ0_length_8abf5 0 := ⟨⟨w_677, w_678, w_679, w_16, w_680⟩, ⟨rfl, by decide, by decide, by decide +kernel⟩, by decide⟩
theorem t_X10_57 : TF RX10 57 mJ0_charAt_5068e 1 := ⟨⟨w_687, w_688, w_689, w_16, w_690⟩, ⟨rfl, by decide, by decide, by decide +kernel⟩, by decide⟩
theorem t_X12_97 : TF RX12 97 mJ0_length_8abf5 0 := ⟨⟨w_1505, w_678, w_679, w_16, w_680⟩, ⟨rfl, by decide, by decide, by decide +kernel⟩, by decide⟩
theorem t_X12_102 : TF RX12 102 mJ0_charAt_5068e 1 := ⟨⟨w_1506, w_688, w_689, w_16, w_690⟩, ⟨rfl, by decide, by decide, by decide +kernel⟩, by decide⟩
theorem s_J0_495 : SF RJ0 495 mJ1_charAt_3b067 2 := ⟨⟨w_695, w_696, w_17, w_697⟩, ⟨by decide, by decide, by decide +kernel⟩, by decide⟩
theorem s_J1_9 : SF RJ1 9 mJ0_checkIndex_df160 2 := ⟨⟨w_698, w_699, w_16, w_700⟩, ⟨by decide, by decide, by decide +kernel⟩, by decide⟩
theorem s_J0_1059 : SF RJ0 1059 mJ3_checkIndex_8e157 3 := ⟨⟨w_703, w_704, w_18, w_705⟩, ⟨by decide, by decide, by decide +kernel⟩, by decide⟩
theorem str_X11_120 : strL.getD 0 ("", 0, "") = (RX11, 120, "the text of the life is wrong") := rfl
theorem str_X11_130 : strL.getD 1 ("", 0, "") = (RX11, 130, "there are twelve texts of the life") := rfl
theorem str_X11_140 : strL.getD 2 ("", 0, "") = (RX11, 140, "the text of the law is wrong") := rfl
theorem str_X11_160 : strL.getD 3 ("", 0, "") = (RX11, 160, "no such dish") := rfl
theorem str_X11_165 : strL.getD 4 ("", 0, "") = (RX11, 165, "nothing such is known of a dish") := rfl
theorem str_X11_225 : strL.getD 5 ("", 0, "") = (RX11, 225, "she takes no spoon any more") := rfl
theorem str_X11_258 : strL.getD 6 ("", 0, "") = (RX11, 258, "no such dish, or no such place") := rfl
theorem str_X11_260 : strL.getD 7 ("", 0, "") = (RX11, 260, "no such day, or no such company") := rfl
theorem str_X11_268 : strL.getD 8 ("", 0, "") = (RX11, 268, "the dish is new") := rfl
theorem str_X11_270 : strL.getD 9 ("", 0, "") = (RX11, 270, "no such reach") := rfl
theorem str_X11_272 : strL.getD 10 ("", 0, "") = (RX11, 272, "no such place") := rfl
theorem str_X11_283 : strL.getD 11 ("", 0, "") = (RX11, 283, "no such number of evenings") := rfl
theorem str_X11_302 : strL.getD 12 ("", 0, "") = (RX11, 302, "the tape is no menu") := rfl
theorem str_X11_304 : strL.getD 13 ("", 0, "") = (RX11, 304, "nothing such is known of a menu") := rfl
theorem str_X11_306 : strL.getD 14 ("", 0, "") = (RX11, 306, "no such ages") := rfl
theorem str_X11_316 : strL.getD 15 ("", 0, "") = (RX11, 316, "more than six dishes") := rfl
theorem str_X11_331 : strL.getD 16 ("", 0, "") = (RX11, 331, "the tape is no row of ages and places") := rfl
theorem str_X11_336 : strL.getD 17 ("", 0, "") = (RX11, 336, "the tape is no row of looks") := rfl
theorem str_X11_355 : strL.getD 18 ("", 0, "") = (RX11, 355, "the tape is no row of jars") := rfl
theorem str_X11_371 : strL.getD 19 ("", 0, "") = (RX11, 371, "both dishes are one") := rfl
theorem str_X11_379 : strL.getD 20 ("", 0, "") = (RX11, 379, "no such company") := rfl
theorem str_X11_381 : strL.getD 21 ("", 0, "") = (RX11, 381, "no such number of looks or slips") := rfl
theorem str_X11_408 : strL.getD 22 ("", 0, "") = (RX11, 408, "nothing such stands in the log") := rfl
theorem str_X5_37 : strL.getD 23 ("", 0, "") = (RX5, 37, "if") := rfl
theorem str_X5_54 : strL.getD 24 ("", 0, "") = (RX5, 54, "grief") := rfl
theorem str_X5_56 : strL.getD 25 ("", 0, "") = (RX5, 56, "joy") := rfl
theorem str_X5_58 : strL.getD 26 ("", 0, "") = (RX5, 58, "pay") := rfl
theorem str_X5_82 : strL.getD 27 ("", 0, "") = (RX5, 82, "not") := rfl
theorem str_X5_88 : strL.getD 28 ("", 0, "") = (RX5, 88, "and") := rfl
theorem str_X5_90 : strL.getD 29 ("", 0, "") = (RX5, 90, "or") := rfl
theorem str_X5_98 : strL.getD 30 ("", 0, "") = (RX5, 98, "new") := rfl
theorem str_X5_102 : strL.getD 31 ("", 0, "") = (RX5, 102, "war") := rfl
theorem str_X5_104 : strL.getD 32 ("", 0, "") = (RX5, 104, "alone") := rfl
theorem str_X5_115 : strL.getD 33 ("", 0, "") = (RX5, 115, "dish") := rfl
theorem str_X5_117 : strL.getD 34 ("", 0, "") = (RX5, 117, "day") := rfl
theorem str_X5_119 : strL.getD 35 ("", 0, "") = (RX5, 119, "place") := rfl
theorem str_X5_121 : strL.getD 36 ("", 0, "") = (RX5, 121, "company") := rfl
theorem str_X5_123 : strL.getD 37 ("", 0, "") = (RX5, 123, "sorrow") := rfl
theorem str_X5_125 : strL.getD 38 ("", 0, "") = (RX5, 125, "spoons") := rfl
theorem str_X6_18 : strL.getD 39 ("", 0, "") = (RX6, 18, "dish") := rfl
theorem str_X6_38 : strL.getD 40 ("", 0, "") = (RX6, 38, "war") := rfl
theorem str_X6_43 : strL.getD 41 ("", 0, "") = (RX6, 43, "today") := rfl
theorem str_X6_54 : strL.getD 42 ("", 0, "") = (RX6, 54, "reach") := rfl
theorem str_X6_58 : strL.getD 43 ("", 0, "") = (RX6, 58, "slip") := rfl
theorem str_X6_62 : strL.getD 44 ("", 0, "") = (RX6, 62, "house") := rfl
theorem str_X6_66 : strL.getD 45 ("", 0, "") = (RX6, 66, "wage") := rfl
theorem str_X6_70 : strL.getD 46 ("", 0, "") = (RX6, 70, "to") := rfl
theorem str_X6_93 : strL.getD 47 ("", 0, "") = (RX6, 93, "first") := rfl
theorem str_X6_102 : strL.getD 48 ("", 0, "") = (RX6, 102, "at") := rfl
theorem str_X6_103 : strL.getD 49 ("", 0, "") = (RX6, 103, "with") := rfl
theorem str_X12_116 : strL.getD 50 ("", 0, "") = (RX12, 116, "first") := rfl
theorem str_X12_121 : strL.getD 51 ("", 0, "") = (RX12, 121, "at") := rfl
theorem str_X12_126 : strL.getD 52 ("", 0, "") = (RX12, 126, "with") := rfl
theorem str_X12_138 : strL.getD 53 ("", 0, "") = (RX12, 138, "to") := rfl
theorem str_X12_140 : strL.getD 54 ("", 0, "") = (RX12, 140, "dish") := rfl
theorem str_X12_146 : strL.getD 55 ("", 0, "") = (RX12, 146, "today") := rfl
theorem str_X12_151 : strL.getD 56 ("", 0, "") = (RX12, 151, "war") := rfl
theorem str_X12_156 : strL.getD 57 ("", 0, "") = (RX12, 156, "reach") := rfl
theorem str_X12_158 : strL.getD 58 ("", 0, "") = (RX12, 158, "slip") := rfl
theorem str_X12_160 : strL.getD 59 ("", 0, "") = (RX12, 160, "house") := rfl
theorem str_X12_162 : strL.getD 60 ("", 0, "") = (RX12, 162, "wage") := rfl
theorem str_X12_167 : strL.getD 61 ("", 0, "") = (RX12, 167, "day") := rfl
theorem str_X12_169 : strL.getD 62 ("", 0, "") = (RX12, 169, "place") := rfl
theorem str_X12_171 : strL.getD 63 ("", 0, "") = (RX12, 171, "company") := rfl
theorem str_X12_173 : strL.getD 64 ("", 0, "") = (RX12, 173, "sorrow") := rfl
theorem str_X12_175 : strL.getD 65 ("", 0, "") = (RX12, 175, "spoons") := rfl
theorem str_X12_190 : strL.getD 66 ("", 0, "") = (RX12, 190, "new") := rfl
theorem str_X12_192 : strL.getD 67 ("", 0, "") = (RX12, 192, "alone") := rfl
theorem str_X12_200 : strL.getD 68 ("", 0, "") = (RX12, 200, "not") := rfl
theorem str_X12_211 : strL.getD 69 ("", 0, "") = (RX12, 211, "and") := rfl
theorem str_X12_216 : strL.getD 70 ("", 0, "") = (RX12, 216, "or") := rfl
theorem str_X12_218 : strL.getD 71 ("", 0, "") = (RX12, 218, "grief") := rfl
theorem str_X12_220 : strL.getD 72 ("", 0, "") = (RX12, 220, "joy") := rfl
theorem str_X12_222 : strL.getD 73 ("", 0, "") = (RX12, 222, "pay") := rfl
theorem str_X12_224 : strL.getD 74 ("", 0, "") = (RX12, 224, "if") := rfl

section
variable {g : gX} {d j : Nat} {S : hS}
theorem C_coder (hj : j < NS) : Cm g mJ0_coder_7d493 d [.ref (100000 + j)] S (some (.int 0)) S := by
  refine Cm.ofF (by decide +kernel) (by simp [Value.category]) (Nat.le_of_ble_eq_true rfl) (Nat.le_refl _) (ls := [some (.ref (100000 + j))]) rfl ?_
  refine M_getCS (pc := 0) dJ0_coder_7d493_0 w_685 ?_
  refine M_if_eq (pc := 3) (tgt := 13) dJ0_coder_7d493_3 (by decide) (fun q => absurd q (by decide)) (fun _ => ?_)
  refine M_aload_n (pc := 6) dJ0_coder_7d493_6 rfl ?_
  refine M_getSC (pc := 7) dJ0_coder_7d493_7 hj w_1985 ?_
  refine M_goto (pc := 10) (tgt := 14) dJ0_coder_7d493_10 (by decide) ?_
  exact M_iret (pc := 14) dJ0_coder_7d493_14 rfl rfl rfl rfl
theorem C_slen (hj : j < NS) : Cm g mJ0_length_8abf5 (d + 1) [.ref (100000 + j)] S (some (.int (slen j))) S := by
  refine Cm.ofF (by decide +kernel) (by simp [Value.category]) (Nat.le_of_ble_eq_true rfl) (Nat.le_refl _) (ls := [some (.ref (100000 + j))]) rfl ?_
  refine M_aload_n (pc := 0) dJ0_length_8abf5_0 rfl ?_
  refine M_getSV (pc := 1) dJ0_length_8abf5_1 hj w_1984 ?_
  refine M_tlen (pc := 4) dJ0_length_8abf5_4 hj rfl ?_
  refine M_aload_n (pc := 5) dJ0_length_8abf5_5 rfl ?_
  refine M_callT (pc := 6) dJ0_length_8abf5_6 t_J0_335 hj rfl rfl (Nat.le_of_ble_eq_true rfl) (C_coder hj) (Nat.le_refl _) ?_
  refine M_ishr (pc := 9) dJ0_length_8abf5_9 ?_
  rw [sb_shr0]
  exact M_iret (pc := 10) dJ0_length_8abf5_10 rfl rfl rfl rfl
theorem C_isLatin1 (hj : j < NS) : Cm g mJ0_isLatin1_aae02 d [.ref (100000 + j)] S (some (.int 1)) S := by
  refine Cm.ofF (by decide +kernel) (by simp [Value.category]) (Nat.le_of_ble_eq_true rfl) (Nat.le_refl _) (ls := [some (.ref (100000 + j))]) rfl ?_
  refine M_getCS (pc := 0) dJ0_isLatin1_aae02_0 w_685 ?_
  refine M_if_eq (pc := 3) (tgt := 17) dJ0_isLatin1_aae02_3 (by decide) (fun q => absurd q (by decide)) (fun _ => ?_)
  refine M_aload_n (pc := 6) dJ0_isLatin1_aae02_6 rfl ?_
  refine M_getSC (pc := 7) dJ0_isLatin1_aae02_7 hj w_1985 ?_
  refine M_if_ne (pc := 10) (tgt := 17) dJ0_isLatin1_aae02_10 (by decide) (fun q => absurd rfl q) (fun _ => ?_)
  refine M_iconst (pc := 13) (v := 1) dJ0_isLatin1_aae02_13 (by decide) ?_
  refine M_goto (pc := 14) (tgt := 18) dJ0_isLatin1_aae02_14 (by decide) ?_
  exact M_iret (pc := 18) dJ0_isLatin1_aae02_18 rfl rfl rfl rfl
theorem C_chk3 {i n : Int32} (h1 : ¬ i < 0) (h2 : i < n) : Cm g mJ3_checkIndex_8e157 d [.int i, .int n, .null] S (some (.int i)) S := by
  refine Cm.ofF (by decide +kernel) (by simp [Value.category]) (Nat.le_of_ble_eq_true rfl) (Nat.le_refl _) (ls := [some (.int i), some (.int n), some .null]) rfl ?_
  refine M_iload_n (pc := 0) dJ3_checkIndex_8e157_0 rfl ?_
  refine M_if_lt (pc := 1) (tgt := 9) dJ3_checkIndex_8e157_1 (by decide) (fun q => absurd q h1) (fun _ => ?_)
  refine M_iload_n (pc := 4) dJ3_checkIndex_8e157_4 rfl ?_
  refine M_iload_n (pc := 5) dJ3_checkIndex_8e157_5 rfl ?_
  refine M_icmp_lt (pc := 6) (tgt := 16) dJ3_checkIndex_8e157_6 (by decide) (fun _ => ?_) (fun q => absurd h2 q)
  refine M_iload_n (pc := 16) dJ3_checkIndex_8e157_16 rfl ?_
  exact M_iret (pc := 17) dJ3_checkIndex_8e157_17 rfl rfl rfl rfl
theorem C_chk0 {i n : Int32} (h1 : ¬ i < 0) (h2 : i < n) : Cm g mJ0_checkIndex_df160 (d + 1) [.int i, .int n] S none S := by
  refine Cm.ofF (by decide +kernel) (by simp [Value.category]) (Nat.le_of_ble_eq_true rfl) (Nat.le_refl _) (ls := [some (.int i), some (.int n)]) rfl ?_
  refine M_iload_n (pc := 0) dJ0_checkIndex_df160_0 rfl ?_
  refine M_iload_n (pc := 1) dJ0_checkIndex_df160_1 rfl ?_
  refine M_getSF (pc := 2) dJ0_checkIndex_df160_2 w_701 ?_
  refine M_callSi (pc := 5) (As := [.int i, .int n, .null]) dJ0_checkIndex_df160_5 s_J0_1059 rfl rfl (Nat.le_of_ble_eq_true rfl) (C_chk3 h1 h2) (Nat.le_refl _) ?_
  refine M_pop (pc := 8) dJ0_checkIndex_df160_8 rfl ?_
  exact M_vret (pc := 9) dJ0_checkIndex_df160_9 rfl rfl rfl
theorem sch_ok {i v : Int32} (hj : j < NS) (h : sch j i = some v) : ¬ i < 0 ∧ i < slen j ∧ ((v &&& 255).toUInt32 % 65536).toInt32 = v ∧ narrow .char (.int v) = .int v := by
  obtain ⟨h1, h2⟩ := ald_some h
  have h3 := inB_lt h1
  have h4 : ¬ i < 0 := fun q => (inB_in h1) (Or.inl q)
  have hl : lenL.getD j 0 < 60 := by
    have : ((List.range NS).all fun j => decide (lenL.getD j 0 < 60)) = true := by decide +kernel
    exact of_decide_eq_true (List.all_eq_true.mp this j (List.mem_range.mpr hj))
  have hb : ∀ k, k < lenL.getD j 0 → ∃ n : Nat, n < 128 ∧ (bytL.getD j []).getD k 0 = nI n := by
    have : ((List.range NS).all fun j => (List.range (lenL.getD j 0)).all fun k => decide ((bytL.getD j []).getD k 0 = nI ((bytL.getD j []).getD k 0).toNatClampNeg ∧ ((bytL.getD j []).getD k 0).toNatClampNeg < 128)) = true := by decide +kernel
    intro k hk
    have q := of_decide_eq_true (List.all_eq_true.mp (List.all_eq_true.mp this j (List.mem_range.mpr hj)) k (List.mem_range.mpr hk))
    exact ⟨_, q.2, q.1⟩
  obtain ⟨n, hn, e⟩ := hb _ h3
  have ev : v = nI n := by rw [← h2]; exact e
  obtain ⟨k, hk, ek⟩ := nI_of h4
  refine ⟨h4, ?_, ?_, ?_⟩
  · rw [ek] at h3 ⊢
    rw [nI_clamp hk] at h3
    exact nI_lt h3 (by omega)
  · rw [ev]
    have : ∀ n, n < 128 → ((nI n &&& 255).toUInt32 % 65536).toInt32 = nI n := by decide +kernel
    exact this n hn
  · rw [ev]
    exact (pk_charN (by omega)).1
theorem C_lchar {i v : Int32} (hj : j < NS) (h : sch j i = some v) : Cm g mJ1_charAt_3b067 (d + 2) [.ref (200000 + j), .int i] S (some (.int v)) S := by
  obtain ⟨q1, q2, q3, q4⟩ := sch_ok hj h
  refine Cm.ofF (by decide +kernel) (by simp [Value.category]) (Nat.le_of_ble_eq_true rfl) (Nat.le_refl _) (ls := [some (.ref (200000 + j)), some (.int i)]) rfl ?_
  refine M_iload_n (pc := 0) dJ1_charAt_3b067_0 rfl ?_
  refine M_aload_n (pc := 1) dJ1_charAt_3b067_1 rfl ?_
  refine M_tlen (pc := 2) dJ1_charAt_3b067_2 hj rfl ?_
  refine M_callSv (pc := 3) (As := [.int i, .int (slen j)]) dJ1_charAt_3b067_3 s_J1_9 rfl rfl (Nat.le_of_ble_eq_true rfl) (C_chk0 q1 q2) (Nat.le_refl _) ?_
  refine M_aload_n (pc := 6) dJ1_charAt_3b067_6 rfl ?_
  refine M_iload_n (pc := 7) dJ1_charAt_3b067_7 rfl ?_
  refine M_tbld (pc := 8) dJ1_charAt_3b067_8 hj h ?_
  refine M_sipush (pc := 9) (v := 255) dJ1_charAt_3b067_9 (by decide) ?_
  refine M_iand (pc := 12) dJ1_charAt_3b067_12 ?_
  refine M_i2c (pc := 13) dJ1_charAt_3b067_13 ?_
  rw [q3]
  exact M_iret (pc := 14) dJ1_charAt_3b067_14 rfl q4 rfl rfl
theorem C_sch {i v : Int32} (hj : j < NS) (h : sch j i = some v) : Cm g mJ0_charAt_5068e (d + 3) [.ref (100000 + j), .int i] S (some (.int v)) S := by
  obtain ⟨q1, q2, q3, q4⟩ := sch_ok hj h
  refine Cm.ofF (by decide +kernel) (by simp [Value.category]) (Nat.le_of_ble_eq_true rfl) (Nat.le_refl _) (ls := [some (.ref (100000 + j)), some (.int i)]) rfl ?_
  refine M_aload_n (pc := 0) dJ0_charAt_5068e_0 rfl ?_
  refine M_callT (pc := 1) dJ0_charAt_5068e_1 t_J0_492 hj rfl rfl (Nat.le_of_ble_eq_true rfl) (C_isLatin1 (d := d + 2) hj) (Nat.le_refl _) ?_
  refine M_if_eq (pc := 4) (tgt := 16) dJ0_charAt_5068e_4 (by decide) (fun q => absurd q (by decide)) (fun _ => ?_)
  refine M_aload_n (pc := 7) dJ0_charAt_5068e_7 rfl ?_
  refine M_getSV (pc := 8) dJ0_charAt_5068e_8 hj w_1984 ?_
  refine M_iload_n (pc := 11) dJ0_charAt_5068e_11 rfl ?_
  refine M_callSi (pc := 12) (As := [.ref (200000 + j), .int i]) dJ0_charAt_5068e_12 s_J0_495 rfl rfl (Nat.le_of_ble_eq_true rfl) (C_lchar hj h) (Nat.le_refl _) ?_
  exact M_iret (pc := 15) dJ0_charAt_5068e_15 rfl q4 rfl rfl
end
