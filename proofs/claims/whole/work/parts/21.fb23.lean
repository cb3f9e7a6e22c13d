def F_X11_count (I : HI) (x1 : Int32) : Option (Int32) :=
  if x1 = (0 : Int32) then some (I 4 0) else if x1 = (1 : Int32) then some (I 3 1) else if x1 = (2 : Int32) then some (I 9 0) else if x1 = (3 : Int32) then some (I 3 2) else if x1 = (4 : Int32) then some (I 3 3) else if x1 = (5 : Int32) then some (I 3 4) else if x1 = (6 : Int32) then some (I 3 5) else if x1 = (7 : Int32) then some (I 3 6) else if x1 = (8 : Int32) then some (I 3 7) else if x1 = (9 : Int32) then some (I 3 8) else if x1 = (10 : Int32) then some (I 3 9) else if x1 = (11 : Int32) then some (I 3 10) else if x1 = (12 : Int32) then some (I 3 11) else if x1 = (13 : Int32) then some (I 3 12) else if x1 = (14 : Int32) then some (I 3 13) else if x1 = (15 : Int32) then some (I 15 0) else if x1 = (16 : Int32) then some (I 17 0) else some (-1 : Int32)
set_option maxRecDepth 4000 in
set_option maxHeartbeats 4000000 in
theorem C_X11_count {g : gX} {d : Nat} {P : Nat → Nat → Option Nat} {I : HI} {x1 : Int32} {J : HJ} (hp : Wp P) {r : Int32} (h : F_X11_count I x1 = some r) : Cm g mX11_count (d + 0) [.ref 1, .int x1] (NT, I, J, P) (some (.int r)) (NT, I, J, P) := by
  unfold F_X11_count at h
  refine Cm.of (by decide) (by simp [Value.category]) (Nat.le_of_ble_eq_true rfl) (Nat.le_refl _) (ls := [some (.ref 1), some (.int x1)]) rfl ?_
  refine M_iload_n (pc := 0) dX11_count_0 rfl ?_
  by_cases hc1 : x1 = (0 : Int32)
  · have h := (if_pos hc1).symm.trans h
    refine M_tableIn (pc := 1) (x := x1) (tgt := 84) dX11_count_1 (by rw [hc1]; decide) (by rw [hc1]; decide) (by rw [hc1]; rfl) (by decide) ?_
    refine M_aload_n (pc := 84) dX11_count_84 rfl ?_
    refine M_getR (pc := 85) dX11_count_85 f_X11_23 at_10 (gc_1_3 hp).1 ?_
    refine M_getR (pc := 88) dX11_count_88 f_X11_148 (gc_1_3 hp).2 (gc_3_0 hp).1 ?_
    refine M_getI (pc := 91) dX11_count_91 f_X11_211 (gc_3_0 hp).2 ?_
    obtain rfl := Option.some.inj h
    exact M_iret (pc := 94) dX11_count_94 rfl rfl rfl rfl
  have h := (if_neg hc1).symm.trans h
  by_cases hc2 : x1 = (1 : Int32)
  · have h := (if_pos hc2).symm.trans h
    refine M_tableIn (pc := 1) (x := x1) (tgt := 95) dX11_count_1 (by rw [hc2]; decide) (by rw [hc2]; decide) (by rw [hc2]; rfl) (by decide) ?_
    refine M_aload_n (pc := 95) dX11_count_95 rfl ?_
    refine M_getR (pc := 96) dX11_count_96 f_X11_23 at_10 (gc_1_3 hp).1 ?_
    refine M_getI (pc := 99) dX11_count_99 f_X11_125 (gc_1_3 hp).2 ?_
    obtain rfl := Option.some.inj h
    exact M_iret (pc := 102) dX11_count_102 rfl rfl rfl rfl
  have h := (if_neg hc2).symm.trans h
  by_cases hc3 : x1 = (2 : Int32)
  · have h := (if_pos hc3).symm.trans h
    refine M_tableIn (pc := 1) (x := x1) (tgt := 103) dX11_count_1 (by rw [hc3]; decide) (by rw [hc3]; decide) (by rw [hc3]; rfl) (by decide) ?_
    refine M_aload_n (pc := 103) dX11_count_103 rfl ?_
    refine M_getR (pc := 104) dX11_count_104 f_X11_30 at_10 (gc_1_4 hp).1 ?_
    refine M_getI (pc := 107) dX11_count_107 f_X11_145 (gc_1_4 hp).2 ?_
    obtain rfl := Option.some.inj h
    exact M_iret (pc := 110) dX11_count_110 rfl rfl rfl rfl
  have h := (if_neg hc3).symm.trans h
  by_cases hc4 : x1 = (3 : Int32)
  · have h := (if_pos hc4).symm.trans h
    refine M_tableIn (pc := 1) (x := x1) (tgt := 111) dX11_count_1 (by rw [hc4]; decide) (by rw [hc4]; decide) (by rw [hc4]; rfl) (by decide) ?_
    refine M_aload_n (pc := 111) dX11_count_111 rfl ?_
    refine M_getR (pc := 112) dX11_count_112 f_X11_23 at_10 (gc_1_3 hp).1 ?_
    refine M_getI (pc := 115) dX11_count_115 f_X11_252 (gc_1_3 hp).2 ?_
    obtain rfl := Option.some.inj h
    exact M_iret (pc := 118) dX11_count_118 rfl rfl rfl rfl
  have h := (if_neg hc4).symm.trans h
  by_cases hc5 : x1 = (4 : Int32)
  · have h := (if_pos hc5).symm.trans h
    refine M_tableIn (pc := 1) (x := x1) (tgt := 119) dX11_count_1 (by rw [hc5]; decide) (by rw [hc5]; decide) (by rw [hc5]; rfl) (by decide) ?_
    refine M_aload_n (pc := 119) dX11_count_119 rfl ?_
    refine M_getR (pc := 120) dX11_count_120 f_X11_23 at_10 (gc_1_3 hp).1 ?_
    refine M_getI (pc := 123) dX11_count_123 f_X11_242 (gc_1_3 hp).2 ?_
    obtain rfl := Option.some.inj h
    exact M_iret (pc := 126) dX11_count_126 rfl rfl rfl rfl
  have h := (if_neg hc5).symm.trans h
  by_cases hc6 : x1 = (5 : Int32)
  · have h := (if_pos hc6).symm.trans h
    refine M_tableIn (pc := 1) (x := x1) (tgt := 127) dX11_count_1 (by rw [hc6]; decide) (by rw [hc6]; decide) (by rw [hc6]; rfl) (by decide) ?_
    refine M_aload_n (pc := 127) dX11_count_127 rfl ?_
    refine M_getR (pc := 128) dX11_count_128 f_X11_23 at_10 (gc_1_3 hp).1 ?_
    refine M_getI (pc := 131) dX11_count_131 f_X11_220 (gc_1_3 hp).2 ?_
    obtain rfl := Option.some.inj h
    exact M_iret (pc := 134) dX11_count_134 rfl rfl rfl rfl
  have h := (if_neg hc6).symm.trans h
  by_cases hc7 : x1 = (6 : Int32)
  · have h := (if_pos hc7).symm.trans h
    refine M_tableIn (pc := 1) (x := x1) (tgt := 135) dX11_count_1 (by rw [hc7]; decide) (by rw [hc7]; decide) (by rw [hc7]; rfl) (by decide) ?_
    refine M_aload_n (pc := 135) dX11_count_135 rfl ?_
    refine M_getR (pc := 136) dX11_count_136 f_X11_23 at_10 (gc_1_3 hp).1 ?_
    refine M_getI (pc := 139) dX11_count_139 f_X11_420 (gc_1_3 hp).2 ?_
    obtain rfl := Option.some.inj h
    exact M_iret (pc := 142) dX11_count_142 rfl rfl rfl rfl
  have h := (if_neg hc7).symm.trans h
  by_cases hc8 : x1 = (7 : Int32)
  · have h := (if_pos hc8).symm.trans h
    refine M_tableIn (pc := 1) (x := x1) (tgt := 143) dX11_count_1 (by rw [hc8]; decide) (by rw [hc8]; decide) (by rw [hc8]; rfl) (by decide) ?_
    refine M_aload_n (pc := 143) dX11_count_143 rfl ?_
    refine M_getR (pc := 144) dX11_count_144 f_X11_23 at_10 (gc_1_3 hp).1 ?_
    refine M_getI (pc := 147) dX11_count_147 f_X11_236 (gc_1_3 hp).2 ?_
    obtain rfl := Option.some.inj h
    exact M_iret (pc := 150) dX11_count_150 rfl rfl rfl rfl
  have h := (if_neg hc8).symm.trans h
  by_cases hc9 : x1 = (8 : Int32)
  · have h := (if_pos hc9).symm.trans h
    refine M_tableIn (pc := 1) (x := x1) (tgt := 151) dX11_count_1 (by rw [hc9]; decide) (by rw [hc9]; decide) (by rw [hc9]; rfl) (by decide) ?_
    refine M_aload_n (pc := 151) dX11_count_151 rfl ?_
    refine M_getR (pc := 152) dX11_count_152 f_X11_23 at_10 (gc_1_3 hp).1 ?_
    refine M_getI (pc := 155) dX11_count_155 f_X11_180 (gc_1_3 hp).2 ?_
    obtain rfl := Option.some.inj h
    exact M_iret (pc := 158) dX11_count_158 rfl rfl rfl rfl
  have h := (if_neg hc9).symm.trans h
  by_cases hc10 : x1 = (9 : Int32)
  · have h := (if_pos hc10).symm.trans h
    refine M_tableIn (pc := 1) (x := x1) (tgt := 159) dX11_count_1 (by rw [hc10]; decide) (by rw [hc10]; decide) (by rw [hc10]; rfl) (by decide) ?_
    refine M_aload_n (pc := 159) dX11_count_159 rfl ?_
    refine M_getR (pc := 160) dX11_count_160 f_X11_23 at_10 (gc_1_3 hp).1 ?_
    refine M_getI (pc := 163) dX11_count_163 f_X11_373 (gc_1_3 hp).2 ?_
    obtain rfl := Option.some.inj h
    exact M_iret (pc := 166) dX11_count_166 rfl rfl rfl rfl
  have h := (if_neg hc10).symm.trans h
  by_cases hc11 : x1 = (10 : Int32)
  · have h := (if_pos hc11).symm.trans h
    refine M_tableIn (pc := 1) (x := x1) (tgt := 167) dX11_count_1 (by rw [hc11]; decide) (by rw [hc11]; decide) (by rw [hc11]; rfl) (by decide) ?_
    refine M_aload_n (pc := 167) dX11_count_167 rfl ?_
    refine M_getR (pc := 168) dX11_count_168 f_X11_23 at_10 (gc_1_3 hp).1 ?_
    refine M_getI (pc := 171) dX11_count_171 f_X11_376 (gc_1_3 hp).2 ?_
    obtain rfl := Option.some.inj h
    exact M_iret (pc := 174) dX11_count_174 rfl rfl rfl rfl
  have h := (if_neg hc11).symm.trans h
  by_cases hc12 : x1 = (11 : Int32)
  · have h := (if_pos hc12).symm.trans h
    refine M_tableIn (pc := 1) (x := x1) (tgt := 175) dX11_count_1 (by rw [hc12]; decide) (by rw [hc12]; decide) (by rw [hc12]; rfl) (by decide) ?_
    refine M_aload_n (pc := 175) dX11_count_175 rfl ?_
    refine M_getR (pc := 176) dX11_count_176 f_X11_23 at_10 (gc_1_3 hp).1 ?_
    refine M_getI (pc := 179) dX11_count_179 f_X11_280 (gc_1_3 hp).2 ?_
    obtain rfl := Option.some.inj h
    exact M_iret (pc := 182) dX11_count_182 rfl rfl rfl rfl
  have h := (if_neg hc12).symm.trans h
  by_cases hc13 : x1 = (12 : Int32)
  · have h := (if_pos hc13).symm.trans h
    refine M_tableIn (pc := 1) (x := x1) (tgt := 183) dX11_count_1 (by rw [hc13]; decide) (by rw [hc13]; decide) (by rw [hc13]; rfl) (by decide) ?_
    refine M_aload_n (pc := 183) dX11_count_183 rfl ?_
    refine M_getR (pc := 184) dX11_count_184 f_X11_23 at_10 (gc_1_3 hp).1 ?_
    refine M_getI (pc := 187) dX11_count_187 f_X11_274 (gc_1_3 hp).2 ?_
    obtain rfl := Option.some.inj h
    exact M_iret (pc := 190) dX11_count_190 rfl rfl rfl rfl
  have h := (if_neg hc13).symm.trans h
  by_cases hc14 : x1 = (13 : Int32)
  · have h := (if_pos hc14).symm.trans h
    refine M_tableIn (pc := 1) (x := x1) (tgt := 191) dX11_count_1 (by rw [hc14]; decide) (by rw [hc14]; decide) (by rw [hc14]; rfl) (by decide) ?_
    refine M_aload_n (pc := 191) dX11_count_191 rfl ?_
    refine M_getR (pc := 192) dX11_count_192 f_X11_23 at_10 (gc_1_3 hp).1 ?_
    refine M_getI (pc := 195) dX11_count_195 f_X11_423 (gc_1_3 hp).2 ?_
    obtain rfl := Option.some.inj h
    exact M_iret (pc := 198) dX11_count_198 rfl rfl rfl rfl
  have h := (if_neg hc14).symm.trans h
  by_cases hc15 : x1 = (14 : Int32)
  · have h := (if_pos hc15).symm.trans h
    refine M_tableIn (pc := 1) (x := x1) (tgt := 199) dX11_count_1 (by rw [hc15]; decide) (by rw [hc15]; decide) (by rw [hc15]; rfl) (by decide) ?_
    refine M_aload_n (pc := 199) dX11_count_199 rfl ?_
    refine M_getR (pc := 200) dX11_count_200 f_X11_23 at_10 (gc_1_3 hp).1 ?_
    refine M_getI (pc := 203) dX11_count_203 f_X11_396 (gc_1_3 hp).2 ?_
    obtain rfl := Option.some.inj h
    exact M_iret (pc := 206) dX11_count_206 rfl rfl rfl rfl
  have h := (if_neg hc15).symm.trans h
  by_cases hc16 : x1 = (15 : Int32)
  · have h := (if_pos hc16).symm.trans h
    refine M_tableIn (pc := 1) (x := x1) (tgt := 207) dX11_count_1 (by rw [hc16]; decide) (by rw [hc16]; decide) (by rw [hc16]; rfl) (by decide) ?_
    refine M_aload_n (pc := 207) dX11_count_207 rfl ?_
    refine M_getR (pc := 208) dX11_count_208 f_X11_37 at_10 (gc_1_5 hp).1 ?_
    refine M_getI (pc := 211) dX11_count_211 f_X11_426 (gc_1_5 hp).2 ?_
    obtain rfl := Option.some.inj h
    exact M_iret (pc := 214) dX11_count_214 rfl rfl rfl rfl
  have h := (if_neg hc16).symm.trans h
  by_cases hc17 : x1 = (16 : Int32)
  · have h := (if_pos hc17).symm.trans h
    refine M_tableIn (pc := 1) (x := x1) (tgt := 215) dX11_count_1 (by rw [hc17]; decide) (by rw [hc17]; decide) (by rw [hc17]; rfl) (by decide) ?_
    refine M_aload_n (pc := 215) dX11_count_215 rfl ?_
    refine M_getR (pc := 216) dX11_count_216 f_X11_44 at_10 (gc_1_6 hp).1 ?_
    refine M_getI (pc := 219) dX11_count_219 f_X11_429 (gc_1_6 hp).2 ?_
    obtain rfl := Option.some.inj h
    exact M_iret (pc := 222) dX11_count_222 rfl rfl rfl rfl
  have h := (if_neg hc17).symm.trans h
  refine M_tableOut (pc := 1) (x := x1) (tgt := 223) dX11_count_1 (sw_out 17 (by decide) (fun j hj => match j, hj with
    | 0, _ => sw_ne hc1 (by decide)
    | 1, _ => sw_ne hc2 (by decide)
    | 2, _ => sw_ne hc3 (by decide)
    | 3, _ => sw_ne hc4 (by decide)
    | 4, _ => sw_ne hc5 (by decide)
    | 5, _ => sw_ne hc6 (by decide)
    | 6, _ => sw_ne hc7 (by decide)
    | 7, _ => sw_ne hc8 (by decide)
    | 8, _ => sw_ne hc9 (by decide)
    | 9, _ => sw_ne hc10 (by decide)
    | 10, _ => sw_ne hc11 (by decide)
    | 11, _ => sw_ne hc12 (by decide)
    | 12, _ => sw_ne hc13 (by decide)
    | 13, _ => sw_ne hc14 (by decide)
    | 14, _ => sw_ne hc15 (by decide)
    | 15, _ => sw_ne hc16 (by decide)
    | 16, _ => sw_ne hc17 (by decide)
    | j + 17, hj => absurd hj (by omega))) (by decide) ?_
  refine M_iconst (pc := 223) (v := -1) dX11_count_223 (by decide) ?_
  obtain rfl := Option.some.inj h
  exact M_iret (pc := 224) dX11_count_224 rfl rfl rfl rfl
