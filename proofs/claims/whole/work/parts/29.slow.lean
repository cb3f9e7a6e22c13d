def F_X11_hosts (I : HI) (x1 : Int32) (x2 : Int32) : Option ((Int32 ⊕ String) × HI) :=
  (F_X1_has I 4 x1) >>= fun r1 => if r1 = 0 then some ((Sum.inr "java/lang/IndexOutOfBoundsException"), I) else (F_X1_has I 4 x2) >>= fun r4 => if r4 = 0 then some ((Sum.inr "java/lang/IndexOutOfBoundsException"), I) else if x1 = x2 then some ((Sum.inr "java/lang/IllegalArgumentException"), I) else (F_X1_distance I 4 x1 x2) >>= fun r8 => if (I 3 7) < r8 then (F_X11_paysNow I x1) >>= fun r11 => (F_X11_paysNow r11.2 x2) >>= fun r13 => if (r11.1 / (2 : Int32)) < (r13.1 - (0 : Int32)) then if (r13.1 / (2 : Int32)) < (r11.1 - (0 : Int32)) then if (r11.1 - (0 : Int32)) < (r13.1 / (2 : Int32)) then some ((Sum.inl (((0 : Int32) ||| (0 : Int32)) ||| (0 : Int32))), r13.2) else if (r13.1 - (0 : Int32)) < (r11.1 / (2 : Int32)) then some ((Sum.inl (((0 : Int32) ||| (0 : Int32)) ||| (0 : Int32))), r13.2) else some ((Sum.inl (((0 : Int32) ||| (6 : Int32)) ||| (0 : Int32))), r13.2) else if (r11.1 - (0 : Int32)) < (r13.1 / (2 : Int32)) then some ((Sum.inl (((0 : Int32) ||| (0 : Int32)) ||| (8 : Int32))), r13.2) else if (r13.1 - (0 : Int32)) < (r11.1 / (2 : Int32)) then some ((Sum.inl (((0 : Int32) ||| (0 : Int32)) ||| (8 : Int32))), r13.2) else some ((Sum.inl (((0 : Int32) ||| (6 : Int32)) ||| (8 : Int32))), r13.2) else if (r13.1 / (2 : Int32)) < (r11.1 - (0 : Int32)) then if (r11.1 - (0 : Int32)) < (r13.1 / (2 : Int32)) then some ((Sum.inl (((1 : Int32) ||| (0 : Int32)) ||| (0 : Int32))), r13.2) else if (r13.1 - (0 : Int32)) < (r11.1 / (2 : Int32)) then some ((Sum.inl (((1 : Int32) ||| (0 : Int32)) ||| (0 : Int32))), r13.2) else some ((Sum.inl (((1 : Int32) ||| (6 : Int32)) ||| (0 : Int32))), r13.2) else if (r11.1 - (0 : Int32)) < (r13.1 / (2 : Int32)) then some ((Sum.inl (((1 : Int32) ||| (0 : Int32)) ||| (8 : Int32))), r13.2) else if (r13.1 - (0 : Int32)) < (r11.1 / (2 : Int32)) then some ((Sum.inl (((1 : Int32) ||| (0 : Int32)) ||| (8 : Int32))), r13.2) else some ((Sum.inl (((1 : Int32) ||| (6 : Int32)) ||| (8 : Int32))), r13.2) else (F_X11_paysNow I x1) >>= fun r62 => (F_X11_paysNow r62.2 x2) >>= fun r64 => if (r62.1 / (2 : Int32)) < (r64.1 - (2 : Int32)) then if (r64.1 / (2 : Int32)) < (r62.1 - (2 : Int32)) then if (r62.1 - (2 : Int32)) < (r64.1 / (2 : Int32)) then some ((Sum.inl (((0 : Int32) ||| (0 : Int32)) ||| (0 : Int32))), r64.2) else if (r64.1 - (2 : Int32)) < (r62.1 / (2 : Int32)) then some ((Sum.inl (((0 : Int32) ||| (0 : Int32)) ||| (0 : Int32))), r64.2) else some ((Sum.inl (((0 : Int32) ||| (6 : Int32)) ||| (0 : Int32))), r64.2) else if (r62.1 - (2 : Int32)) < (r64.1 / (2 : Int32)) then some ((Sum.inl (((0 : Int32) ||| (0 : Int32)) ||| (8 : Int32))), r64.2) else if (r64.1 - (2 : Int32)) < (r62.1 / (2 : Int32)) then some ((Sum.inl (((0 : Int32) ||| (0 : Int32)) ||| (8 : Int32))), r64.2) else some ((Sum.inl (((0 : Int32) ||| (6 : Int32)) ||| (8 : Int32))), r64.2) else if (r64.1 / (2 : Int32)) < (r62.1 - (2 : Int32)) then if (r62.1 - (2 : Int32)) < (r64.1 / (2 : Int32)) then some ((Sum.inl (((1 : Int32) ||| (0 : Int32)) ||| (0 : Int32))), r64.2) else if (r64.1 - (2 : Int32)) < (r62.1 / (2 : Int32)) then some ((Sum.inl (((1 : Int32) ||| (0 : Int32)) ||| (0 : Int32))), r64.2) else some ((Sum.inl (((1 : Int32) ||| (6 : Int32)) ||| (0 : Int32))), r64.2) else if (r62.1 - (2 : Int32)) < (r64.1 / (2 : Int32)) then some ((Sum.inl (((1 : Int32) ||| (0 : Int32)) ||| (8 : Int32))), r64.2) else if (r64.1 - (2 : Int32)) < (r62.1 / (2 : Int32)) then some ((Sum.inl (((1 : Int32) ||| (0 : Int32)) ||| (8 : Int32))), r64.2) else some ((Sum.inl (((1 : Int32) ||| (6 : Int32)) ||| (8 : Int32))), r64.2)
set_option maxRecDepth 4000 in
set_option maxHeartbeats 4000000 in
theorem C_X11_hosts {g : gX} {d : Nat} {P : Nat → Nat → Option Nat} {I : HI} {x1 : Int32} {x2 : Int32} {J : HJ} (hp : Wp P) {r : (Int32 ⊕ String) × HI} (h : F_X11_hosts I x1 x2 = some r) : Cx g mX11_hosts (d + 6) [.ref 1, .int x1, .int x2] (NT, I, J, P) ((thr_i r.1), (NT, r.2, J, P)) := by
  unfold F_X11_hosts at h
  refine Cx.of (by decide) (by simp [Value.category]) (Nat.le_of_ble_eq_true rfl) (Nat.le_refl _) (ls := [some (.ref 1), some (.int x1), some (.int x2), none, none, none, none, none, none]) rfl ?_
  refine M_aload_n (pc := 0) dX11_hosts_0 rfl ?_
  refine M_getR (pc := 1) dX11_hosts_1 f_X11_23 at_10 (gc_1_3 hp).1 ?_
  refine M_getR (pc := 4) dX11_hosts_4 f_X11_148 (gc_1_3 hp).2 (gc_3_0 hp).1 ?_
  refine M_iload_n (pc := 7) dX11_hosts_7 rfl ?_
  obtain ⟨r1, hr2, h⟩ := bnd h
  refine M_callVi (pc := 8) dX11_hosts_8 v_X11_152 rfl rfl (gc_3_0 hp).2 (Nat.le_of_ble_eq_true rfl) (C_X1_has (d := d + 5) hp (gc_3_0 hp).2 hr2) (Nat.le_refl _) ?_
  refine M_if_eq (pc := 11) (tgt := 28) dX11_hosts_11 (by decide) (fun hc3 => ?_) (fun hc3 => ?_)
  · have h := (if_pos hc3).symm.trans h
    obtain rfl := Option.some.inj h
    exact M_throw (pc := 28) dX11_hosts_28 dX11_hosts_31 dX11_hosts_32 dX11_hosts_34 dX11_hosts_37 ⟨rfl, rfl, rfl, rfl⟩ x_X11_158 (j := 3) (by decide) str_X11_160 rfl rfl
  · have h := (if_neg hc3).symm.trans h
    refine M_aload_n (pc := 14) dX11_hosts_14 rfl ?_
    refine M_getR (pc := 15) dX11_hosts_15 f_X11_23 at_10 (gc_1_3 hp).1 ?_
    refine M_getR (pc := 18) dX11_hosts_18 f_X11_148 (gc_1_3 hp).2 (gc_3_0 hp).1 ?_
    refine M_iload_n (pc := 21) dX11_hosts_21 rfl ?_
    obtain ⟨r4, hr5, h⟩ := bnd h
    refine M_callVi (pc := 22) dX11_hosts_22 v_X11_152 rfl rfl (gc_3_0 hp).2 (Nat.le_of_ble_eq_true rfl) (C_X1_has (d := d + 5) hp (gc_3_0 hp).2 hr5) (Nat.le_refl _) ?_
    refine M_if_ne (pc := 25) (tgt := 38) dX11_hosts_25 (by decide) (fun hc6 => ?_) (fun hc6 => ?_)
    · have h := (if_neg hc6).symm.trans h
      refine M_iload_n (pc := 38) dX11_hosts_38 rfl ?_
      refine M_iload_n (pc := 39) dX11_hosts_39 rfl ?_
      refine M_icmp_ne (pc := 40) (tgt := 54) dX11_hosts_40 (by decide) (fun hc7 => ?_) (fun hc7 => ?_)
      · have h := (if_neg hc7).symm.trans h
        refine M_aload_n (pc := 54) dX11_hosts_54 rfl ?_
        refine M_getR (pc := 55) dX11_hosts_55 f_X11_23 at_10 (gc_1_3 hp).1 ?_
        refine M_getR (pc := 58) dX11_hosts_58 f_X11_148 (gc_1_3 hp).2 (gc_3_0 hp).1 ?_
        refine M_iload_n (pc := 61) dX11_hosts_61 rfl ?_
        refine M_iload_n (pc := 62) dX11_hosts_62 rfl ?_
        obtain ⟨r8, hr9, h⟩ := bnd h
        refine M_callVi (pc := 63) dX11_hosts_63 v_X11_208 rfl rfl (gc_3_0 hp).2 (Nat.le_of_ble_eq_true rfl) (C_X1_distance (d := d + 5) hp (gc_3_0 hp).2 hr9) (Nat.le_refl _) ?_
        refine M_aload_n (pc := 66) dX11_hosts_66 rfl ?_
        refine M_getR (pc := 67) dX11_hosts_67 f_X11_23 at_10 (gc_1_3 hp).1 ?_
        refine M_getI (pc := 70) dX11_hosts_70 f_X11_180 (gc_1_3 hp).2 ?_
        refine M_icmp_gt (pc := 73) (tgt := 80) dX11_hosts_73 (by decide) (fun hc10 => ?_) (fun hc10 => ?_)
        · have h := (if_pos hc10).symm.trans h
          refine M_iconst (pc := 80) (v := 0) dX11_hosts_80 (by decide) ?_
          refine M_istore_n (pc := 81) (ls' := [some (.ref 1), some (.int x1), some (.int x2), some (.int (0 : Int32)), none, none, none, none, none]) dX11_hosts_81 (by decide) rfl ?_
          refine M_aload_n (pc := 82) dX11_hosts_82 rfl ?_
          refine M_iload_n (pc := 83) dX11_hosts_83 rfl ?_
          obtain ⟨r11, hr12, h⟩ := bnd h
          refine M_callVi (pc := 84) dX11_hosts_84 v_X11_191 rfl rfl at_10 (Nat.le_of_ble_eq_true rfl) (C_X11_paysNow (d := d + 1) hp hr12) (Nat.le_refl _) ?_
          refine M_istore (pc := 87) (ls' := [some (.ref 1), some (.int x1), some (.int x2), some (.int (0 : Int32)), some (.int r11.1), none, none, none, none]) dX11_hosts_87 (by decide) rfl ?_
          refine M_aload_n (pc := 89) dX11_hosts_89 rfl ?_
          refine M_iload_n (pc := 90) dX11_hosts_90 rfl ?_
          obtain ⟨r13, hr14, h⟩ := bnd h
          refine M_callVi (pc := 91) dX11_hosts_91 v_X11_191 rfl rfl at_10 (Nat.le_of_ble_eq_true rfl) (C_X11_paysNow (d := d + 1) hp hr14) (Nat.le_refl _) ?_
          refine M_istore (pc := 94) (ls' := [some (.ref 1), some (.int x1), some (.int x2), some (.int (0 : Int32)), some (.int r11.1), some (.int r13.1), none, none, none]) dX11_hosts_94 (by decide) rfl ?_
          refine M_iload (pc := 96) dX11_hosts_96 rfl ?_
          refine M_iconst (pc := 98) (v := 2) dX11_hosts_98 (by decide) ?_
          refine M_idiv (pc := 99) dX11_hosts_99 (by decide) ?_
          refine M_iload (pc := 100) dX11_hosts_100 rfl ?_
          refine M_iload_n (pc := 102) dX11_hosts_102 rfl ?_
          refine M_isub (pc := 103) dX11_hosts_103 ?_
          refine M_icmp_lt (pc := 104) (tgt := 111) dX11_hosts_104 (by decide) (fun hc15 => ?_) (fun hc15 => ?_)
          · have h := (if_pos hc15).symm.trans h
            refine M_iconst (pc := 111) (v := 0) dX11_hosts_111 (by decide) ?_
            refine M_istore (pc := 112) (ls' := [some (.ref 1), some (.int x1), some (.int x2), some (.int (0 : Int32)), some (.int r11.1), some (.int r13.1), some (.int (0 : Int32)), none, none]) dX11_hosts_112 (by decide) rfl ?_
            refine M_iload (pc := 114) dX11_hosts_114 rfl ?_
            refine M_iconst (pc := 116) (v := 2) dX11_hosts_116 (by decide) ?_
            refine M_idiv (pc := 117) dX11_hosts_117 (by decide) ?_
            refine M_iload (pc := 118) dX11_hosts_118 rfl ?_
            refine M_iload_n (pc := 120) dX11_hosts_120 rfl ?_
            refine M_isub (pc := 121) dX11_hosts_121 ?_
            refine M_icmp_lt (pc := 122) (tgt := 129) dX11_hosts_122 (by decide) (fun hc16 => ?_) (fun hc16 => ?_)
            · have h := (if_pos hc16).symm.trans h
              refine M_iconst (pc := 129) (v := 0) dX11_hosts_129 (by decide) ?_
              refine M_istore (pc := 130) (ls' := [some (.ref 1), some (.int x1), some (.int x2), some (.int (0 : Int32)), some (.int r11.1), some (.int r13.1), some (.int (0 : Int32)), some (.int (0 : Int32)), none]) dX11_hosts_130 (by decide) rfl ?_
              refine M_iload (pc := 132) dX11_hosts_132 rfl ?_
              refine M_iload_n (pc := 134) dX11_hosts_134 rfl ?_
              refine M_isub (pc := 135) dX11_hosts_135 ?_
              refine M_iload (pc := 136) dX11_hosts_136 rfl ?_
              refine M_iconst (pc := 138) (v := 2) dX11_hosts_138 (by decide) ?_
              refine M_idiv (pc := 139) dX11_hosts_139 (by decide) ?_
              refine M_icmp_lt (pc := 140) (tgt := 158) dX11_hosts_140 (by decide) (fun hc17 => ?_) (fun hc17 => ?_)
              · have h := (if_pos hc17).symm.trans h
                refine M_iconst (pc := 158) (v := 0) dX11_hosts_158 (by decide) ?_
                refine M_istore (pc := 159) (ls' := [some (.ref 1), some (.int x1), some (.int x2), some (.int (0 : Int32)), some (.int r11.1), some (.int r13.1), some (.int (0 : Int32)), some (.int (0 : Int32)), some (.int (0 : Int32))]) dX11_hosts_159 (by decide) rfl ?_
                refine M_iload (pc := 161) dX11_hosts_161 rfl ?_
                refine M_if_eq (pc := 163) (tgt := 170) dX11_hosts_163 (by decide) (fun hc18 => ?_) (fun hc18 => absurd hc18 (by decide))
                refine M_iconst (pc := 170) (v := 0) dX11_hosts_170 (by decide) ?_
                refine M_iload (pc := 171) dX11_hosts_171 rfl ?_
                refine M_if_eq (pc := 173) (tgt := 181) dX11_hosts_173 (by decide) (fun hc19 => ?_) (fun hc19 => absurd hc19 (by decide))
                refine M_iconst (pc := 181) (v := 0) dX11_hosts_181 (by decide) ?_
                refine M_ior (pc := 182) dX11_hosts_182 ?_
                refine M_iload (pc := 183) dX11_hosts_183 rfl ?_
                refine M_if_eq (pc := 185) (tgt := 193) dX11_hosts_185 (by decide) (fun hc20 => ?_) (fun hc20 => absurd hc20 (by decide))
                refine M_iconst (pc := 193) (v := 0) dX11_hosts_193 (by decide) ?_
                refine M_ior (pc := 194) dX11_hosts_194 ?_
                obtain rfl := Option.some.inj h
                exact M_iret (pc := 195) dX11_hosts_195 rfl rfl rfl rfl
              · have h := (if_neg hc17).symm.trans h
                refine M_iload (pc := 143) dX11_hosts_143 rfl ?_
                refine M_iload_n (pc := 145) dX11_hosts_145 rfl ?_
                refine M_isub (pc := 146) dX11_hosts_146 ?_
                refine M_iload (pc := 147) dX11_hosts_147 rfl ?_
                refine M_iconst (pc := 149) (v := 2) dX11_hosts_149 (by decide) ?_
                refine M_idiv (pc := 150) dX11_hosts_150 (by decide) ?_
                refine M_icmp_lt (pc := 151) (tgt := 158) dX11_hosts_151 (by decide) (fun hc21 => ?_) (fun hc21 => ?_)
                · have h := (if_pos hc21).symm.trans h
                  refine M_iconst (pc := 158) (v := 0) dX11_hosts_158 (by decide) ?_
                  refine M_istore (pc := 159) (ls' := [some (.ref 1), some (.int x1), some (.int x2), some (.int (0 : Int32)), some (.int r11.1), some (.int r13.1), some (.int (0 : Int32)), some (.int (0 : Int32)), some (.int (0 : Int32))]) dX11_hosts_159 (by decide) rfl ?_
                  refine M_iload (pc := 161) dX11_hosts_161 rfl ?_
                  refine M_if_eq (pc := 163) (tgt := 170) dX11_hosts_163 (by decide) (fun hc22 => ?_) (fun hc22 => absurd hc22 (by decide))
                  refine M_iconst (pc := 170) (v := 0) dX11_hosts_170 (by decide) ?_
                  refine M_iload (pc := 171) dX11_hosts_171 rfl ?_
                  refine M_if_eq (pc := 173) (tgt := 181) dX11_hosts_173 (by decide) (fun hc23 => ?_) (fun hc23 => absurd hc23 (by decide))
                  refine M_iconst (pc := 181) (v := 0) dX11_hosts_181 (by decide) ?_
                  refine M_ior (pc := 182) dX11_hosts_182 ?_
                  refine M_iload (pc := 183) dX11_hosts_183 rfl ?_
                  refine M_if_eq (pc := 185) (tgt := 193) dX11_hosts_185 (by decide) (fun hc24 => ?_) (fun hc24 => absurd hc24 (by decide))
                  refine M_iconst (pc := 193) (v := 0) dX11_hosts_193 (by decide) ?_
                  refine M_ior (pc := 194) dX11_hosts_194 ?_
                  obtain rfl := Option.some.inj h
                  exact M_iret (pc := 195) dX11_hosts_195 rfl rfl rfl rfl
                · have h := (if_neg hc21).symm.trans h
                  refine M_iconst (pc := 154) (v := 1) dX11_hosts_154 (by decide) ?_
                  refine M_goto (pc := 155) (tgt := 159) dX11_hosts_155 (by decide) ?_
                  refine M_istore (pc := 159) (ls' := [some (.ref 1), some (.int x1), some (.int x2), some (.int (0 : Int32)), some (.int r11.1), some (.int r13.1), some (.int (0 : Int32)), some (.int (0 : Int32)), some (.int (1 : Int32))]) dX11_hosts_159 (by decide) rfl ?_
                  refine M_iload (pc := 161) dX11_hosts_161 rfl ?_
                  refine M_if_eq (pc := 163) (tgt := 170) dX11_hosts_163 (by decide) (fun hc25 => ?_) (fun hc25 => absurd hc25 (by decide))
                  refine M_iconst (pc := 170) (v := 0) dX11_hosts_170 (by decide) ?_
                  refine M_iload (pc := 171) dX11_hosts_171 rfl ?_
                  refine M_if_eq (pc := 173) (tgt := 181) dX11_hosts_173 (by decide) (fun hc26 => absurd hc26 (by decide)) (fun hc26 => ?_)
                  refine M_bipush (pc := 176) (v := 6) dX11_hosts_176 (by decide) ?_
                  refine M_goto (pc := 178) (tgt := 182) dX11_hosts_178 (by decide) ?_
                  refine M_ior (pc := 182) dX11_hosts_182 ?_
                  refine M_iload (pc := 183) dX11_hosts_183 rfl ?_
                  refine M_if_eq (pc := 185) (tgt := 193) dX11_hosts_185 (by decide) (fun hc27 => ?_) (fun hc27 => absurd hc27 (by decide))
                  refine M_iconst (pc := 193) (v := 0) dX11_hosts_193 (by decide) ?_
                  refine M_ior (pc := 194) dX11_hosts_194 ?_
                  obtain rfl := Option.some.inj h
                  exact M_iret (pc := 195) dX11_hosts_195 rfl rfl rfl rfl
            · have h := (if_neg hc16).symm.trans h
              refine M_iconst (pc := 125) (v := 1) dX11_hosts_125 (by decide) ?_
              refine M_goto (pc := 126) (tgt := 130) dX11_hosts_126 (by decide) ?_
              refine M_istore (pc := 130) (ls' := [some (.ref 1), some (.int x1), some (.int x2), some (.int (0 : Int32)), some (.int r11.1), some (.int r13.1), some (.int (0 : Int32)), some (.int (1 : Int32)), none]) dX11_hosts_130 (by decide) rfl ?_
              refine M_iload (pc := 132) dX11_hosts_132 rfl ?_
              refine M_iload_n (pc := 134) dX11_hosts_134 rfl ?_
              refine M_isub (pc := 135) dX11_hosts_135 ?_
              refine M_iload (pc := 136) dX11_hosts_136 rfl ?_
              refine M_iconst (pc := 138) (v := 2) dX11_hosts_138 (by decide) ?_
              refine M_idiv (pc := 139) dX11_hosts_139 (by decide) ?_
              refine M_icmp_lt (pc := 140) (tgt := 158) dX11_hosts_140 (by decide) (fun hc28 => ?_) (fun hc28 => ?_)
              · have h := (if_pos hc28).symm.trans h
                refine M_iconst (pc := 158) (v := 0) dX11_hosts_158 (by decide) ?_
                refine M_istore (pc := 159) (ls' := [some (.ref 1), some (.int x1), some (.int x2), some (.int (0 : Int32)), some (.int r11.1), some (.int r13.1), some (.int (0 : Int32)), some (.int (1 : Int32)), some (.int (0 : Int32))]) dX11_hosts_159 (by decide) rfl ?_
                refine M_iload (pc := 161) dX11_hosts_161 rfl ?_
                refine M_if_eq (pc := 163) (tgt := 170) dX11_hosts_163 (by decide) (fun hc29 => ?_) (fun hc29 => absurd hc29 (by decide))
                refine M_iconst (pc := 170) (v := 0) dX11_hosts_170 (by decide) ?_
                refine M_iload (pc := 171) dX11_hosts_171 rfl ?_
                refine M_if_eq (pc := 173) (tgt := 181) dX11_hosts_173 (by decide) (fun hc30 => ?_) (fun hc30 => absurd hc30 (by decide))
                refine M_iconst (pc := 181) (v := 0) dX11_hosts_181 (by decide) ?_
                refine M_ior (pc := 182) dX11_hosts_182 ?_
                refine M_iload (pc := 183) dX11_hosts_183 rfl ?_
                refine M_if_eq (pc := 185) (tgt := 193) dX11_hosts_185 (by decide) (fun hc31 => absurd hc31 (by decide)) (fun hc31 => ?_)
                refine M_bipush (pc := 188) (v := 8) dX11_hosts_188 (by decide) ?_
                refine M_goto (pc := 190) (tgt := 194) dX11_hosts_190 (by decide) ?_
                refine M_ior (pc := 194) dX11_hosts_194 ?_
                obtain rfl := Option.some.inj h
                exact M_iret (pc := 195) dX11_hosts_195 rfl rfl rfl rfl
              · have h := (if_neg hc28).symm.trans h
                refine M_iload (pc := 143) dX11_hosts_143 rfl ?_
                refine M_iload_n (pc := 145) dX11_hosts_145 rfl ?_
                refine M_isub (pc := 146) dX11_hosts_146 ?_
                refine M_iload (pc := 147) dX11_hosts_147 rfl ?_
                refine M_iconst (pc := 149) (v := 2) dX11_hosts_149 (by decide) ?_
                refine M_idiv (pc := 150) dX11_hosts_150 (by decide) ?_
                refine M_icmp_lt (pc := 151) (tgt := 158) dX11_hosts_151 (by decide) (fun hc32 => ?_) (fun hc32 => ?_)
                · have h := (if_pos hc32).symm.trans h
                  refine M_iconst (pc := 158) (v := 0) dX11_hosts_158 (by decide) ?_
                  refine M_istore (pc := 159) (ls' := [some (.ref 1), some (.int x1), some (.int x2), some (.int (0 : Int32)), some (.int r11.1), some (.int r13.1), some (.int (0 : Int32)), some (.int (1 : Int32)), some (.int (0 : Int32))]) dX11_hosts_159 (by decide) rfl ?_
                  refine M_iload (pc := 161) dX11_hosts_161 rfl ?_
                  refine M_if_eq (pc := 163) (tgt := 170) dX11_hosts_163 (by decide) (fun hc33 => ?_) (fun hc33 => absurd hc33 (by decide))
                  refine M_iconst (pc := 170) (v := 0) dX11_hosts_170 (by decide) ?_
                  refine M_iload (pc := 171) dX11_hosts_171 rfl ?_
                  refine M_if_eq (pc := 173) (tgt := 181) dX11_hosts_173 (by decide) (fun hc34 => ?_) (fun hc34 => absurd hc34 (by decide))
                  refine M_iconst (pc := 181) (v := 0) dX11_hosts_181 (by decide) ?_
                  refine M_ior (pc := 182) dX11_hosts_182 ?_
                  refine M_iload (pc := 183) dX11_hosts_183 rfl ?_
                  refine M_if_eq (pc := 185) (tgt := 193) dX11_hosts_185 (by decide) (fun hc35 => absurd hc35 (by decide)) (fun hc35 => ?_)
                  refine M_bipush (pc := 188) (v := 8) dX11_hosts_188 (by decide) ?_
                  refine M_goto (pc := 190) (tgt := 194) dX11_hosts_190 (by decide) ?_
                  refine M_ior (pc := 194) dX11_hosts_194 ?_
                  obtain rfl := Option.some.inj h
                  exact M_iret (pc := 195) dX11_hosts_195 rfl rfl rfl rfl
                · have h := (if_neg hc32).symm.trans h
                  refine M_iconst (pc := 154) (v := 1) dX11_hosts_154 (by decide) ?_
                  refine M_goto (pc := 155) (tgt := 159) dX11_hosts_155 (by decide) ?_
                  refine M_istore (pc := 159) (ls' := [some (.ref 1), some (.int x1), some (.int x2), some (.int (0 : Int32)), some (.int r11.1), some (.int r13.1), some (.int (0 : Int32)), some (.int (1 : Int32)), some (.int (1 : Int32))]) dX11_hosts_159 (by decide) rfl ?_
                  refine M_iload (pc := 161) dX11_hosts_161 rfl ?_
                  refine M_if_eq (pc := 163) (tgt := 170) dX11_hosts_163 (by decide) (fun hc36 => ?_) (fun hc36 => absurd hc36 (by decide))
                  refine M_iconst (pc := 170) (v := 0) dX11_hosts_170 (by decide) ?_
                  refine M_iload (pc := 171) dX11_hosts_171 rfl ?_
                  refine M_if_eq (pc := 173) (tgt := 181) dX11_hosts_173 (by decide) (fun hc37 => absurd hc37 (by decide)) (fun hc37 => ?_)
                  refine M_bipush (pc := 176) (v := 6) dX11_hosts_176 (by decide) ?_
                  refine M_goto (pc := 178) (tgt := 182) dX11_hosts_178 (by decide) ?_
                  refine M_ior (pc := 182) dX11_hosts_182 ?_
                  refine M_iload (pc := 183) dX11_hosts_183 rfl ?_
                  refine M_if_eq (pc := 185) (tgt := 193) dX11_hosts_185 (by decide) (fun hc38 => absurd hc38 (by decide)) (fun hc38 => ?_)
                  refine M_bipush (pc := 188) (v := 8) dX11_hosts_188 (by decide) ?_
                  refine M_goto (pc := 190) (tgt := 194) dX11_hosts_190 (by decide) ?_
                  refine M_ior (pc := 194) dX11_hosts_194 ?_
                  obtain rfl := Option.some.inj h
                  exact M_iret (pc := 195) dX11_hosts_195 rfl rfl rfl rfl
          · have h := (if_neg hc15).symm.trans h
            refine M_iconst (pc := 107) (v := 1) dX11_hosts_107 (by decide) ?_
            refine M_goto (pc := 108) (tgt := 112) dX11_hosts_108 (by decide) ?_
            refine M_istore (pc := 112) (ls' := [some (.ref 1), some (.int x1), some (.int x2), some (.int (0 : Int32)), some (.int r11.1), some (.int r13.1), some (.int (1 : Int32)), none, none]) dX11_hosts_112 (by decide) rfl ?_
            refine M_iload (pc := 114) dX11_hosts_114 rfl ?_
            refine M_iconst (pc := 116) (v := 2) dX11_hosts_116 (by decide) ?_
            refine M_idiv (pc := 117) dX11_hosts_117 (by decide) ?_
            refine M_iload (pc := 118) dX11_hosts_118 rfl ?_
            refine M_iload_n (pc := 120) dX11_hosts_120 rfl ?_
            refine M_isub (pc := 121) dX11_hosts_121 ?_
            refine M_icmp_lt (pc := 122) (tgt := 129) dX11_hosts_122 (by decide) (fun hc39 => ?_) (fun hc39 => ?_)
            · have h := (if_pos hc39).symm.trans h
              refine M_iconst (pc := 129) (v := 0) dX11_hosts_129 (by decide) ?_
              refine M_istore (pc := 130) (ls' := [some (.ref 1), some (.int x1), some (.int x2), some (.int (0 : Int32)), some (.int r11.1), some (.int r13.1), some (.int (1 : Int32)), some (.int (0 : Int32)), none]) dX11_hosts_130 (by decide) rfl ?_
              refine M_iload (pc := 132) dX11_hosts_132 rfl ?_
              refine M_iload_n (pc := 134) dX11_hosts_134 rfl ?_
              refine M_isub (pc := 135) dX11_hosts_135 ?_
              refine M_iload (pc := 136) dX11_hosts_136 rfl ?_
              refine M_iconst (pc := 138) (v := 2) dX11_hosts_138 (by decide) ?_
              refine M_idiv (pc := 139) dX11_hosts_139 (by decide) ?_
              refine M_icmp_lt (pc := 140) (tgt := 158) dX11_hosts_140 (by decide) (fun hc40 => ?_) (fun hc40 => ?_)
              · have h := (if_pos hc40).symm.trans h
                refine M_iconst (pc := 158) (v := 0) dX11_hosts_158 (by decide) ?_
                refine M_istore (pc := 159) (ls' := [some (.ref 1), some (.int x1), some (.int x2), some (.int (0 : Int32)), some (.int r11.1), some (.int r13.1), some (.int (1 : Int32)), some (.int (0 : Int32)), some (.int (0 : Int32))]) dX11_hosts_159 (by decide) rfl ?_
                refine M_iload (pc := 161) dX11_hosts_161 rfl ?_
                refine M_if_eq (pc := 163) (tgt := 170) dX11_hosts_163 (by decide) (fun hc41 => absurd hc41 (by decide)) (fun hc41 => ?_)
                refine M_iconst (pc := 166) (v := 1) dX11_hosts_166 (by decide) ?_
                refine M_goto (pc := 167) (tgt := 171) dX11_hosts_167 (by decide) ?_
                refine M_iload (pc := 171) dX11_hosts_171 rfl ?_
                refine M_if_eq (pc := 173) (tgt := 181) dX11_hosts_173 (by decide) (fun hc42 => ?_) (fun hc42 => absurd hc42 (by decide))
                refine M_iconst (pc := 181) (v := 0) dX11_hosts_181 (by decide) ?_
                refine M_ior (pc := 182) dX11_hosts_182 ?_
                refine M_iload (pc := 183) dX11_hosts_183 rfl ?_
                refine M_if_eq (pc := 185) (tgt := 193) dX11_hosts_185 (by decide) (fun hc43 => ?_) (fun hc43 => absurd hc43 (by decide))
                refine M_iconst (pc := 193) (v := 0) dX11_hosts_193 (by decide) ?_
                refine M_ior (pc := 194) dX11_hosts_194 ?_
                obtain rfl := Option.some.inj h
                exact M_iret (pc := 195) dX11_hosts_195 rfl rfl rfl rfl
              · have h := (if_neg hc40).symm.trans h
                refine M_iload (pc := 143) dX11_hosts_143 rfl ?_
                refine M_iload_n (pc := 145) dX11_hosts_145 rfl ?_
                refine M_isub (pc := 146) dX11_hosts_146 ?_
                refine M_iload (pc := 147) dX11_hosts_147 rfl ?_
                refine M_iconst (pc := 149) (v := 2) dX11_hosts_149 (by decide) ?_
                refine M_idiv (pc := 150) dX11_hosts_150 (by decide) ?_
                refine M_icmp_lt (pc := 151) (tgt := 158) dX11_hosts_151 (by decide) (fun hc44 => ?_) (fun hc44 => ?_)
                · have h := (if_pos hc44).symm.trans h
                  refine M_iconst (pc := 158) (v := 0) dX11_hosts_158 (by decide) ?_
                  refine M_istore (pc := 159) (ls' := [some (.ref 1), some (.int x1), some (.int x2), some (.int (0 : Int32)), some (.int r11.1), some (.int r13.1), some (.int (1 : Int32)), some (.int (0 : Int32)), some (.int (0 : Int32))]) dX11_hosts_159 (by decide) rfl ?_
                  refine M_iload (pc := 161) dX11_hosts_161 rfl ?_
                  refine M_if_eq (pc := 163) (tgt := 170) dX11_hosts_163 (by decide) (fun hc45 => absurd hc45 (by decide)) (fun hc45 => ?_)
                  refine M_iconst (pc := 166) (v := 1) dX11_hosts_166 (by decide) ?_
                  refine M_goto (pc := 167) (tgt := 171) dX11_hosts_167 (by decide) ?_
                  refine M_iload (pc := 171) dX11_hosts_171 rfl ?_
                  refine M_if_eq (pc := 173) (tgt := 181) dX11_hosts_173 (by decide) (fun hc46 => ?_) (fun hc46 => absurd hc46 (by decide))
                  refine M_iconst (pc := 181) (v := 0) dX11_hosts_181 (by decide) ?_
                  refine M_ior (pc := 182) dX11_hosts_182 ?_
                  refine M_iload (pc := 183) dX11_hosts_183 rfl ?_
                  refine M_if_eq (pc := 185) (tgt := 193) dX11_hosts_185 (by decide) (fun hc47 => ?_) (fun hc47 => absurd hc47 (by decide))
                  refine M_iconst (pc := 193) (v := 0) dX11_hosts_193 (by decide) ?_
                  refine M_ior (pc := 194) dX11_hosts_194 ?_
                  obtain rfl := Option.some.inj h
                  exact M_iret (pc := 195) dX11_hosts_195 rfl rfl rfl rfl
                · have h := (if_neg hc44).symm.trans h
                  refine M_iconst (pc := 154) (v := 1) dX11_hosts_154 (by decide) ?_
                  refine M_goto (pc := 155) (tgt := 159) dX11_hosts_155 (by decide) ?_
                  refine M_istore (pc := 159) (ls' := [some (.ref 1), some (.int x1), some (.int x2), some (.int (0 : Int32)), some (.int r11.1), some (.int r13.1), some (.int (1 : Int32)), some (.int (0 : Int32)), some (.int (1 : Int32))]) dX11_hosts_159 (by decide) rfl ?_
                  refine M_iload (pc := 161) dX11_hosts_161 rfl ?_
                  refine M_if_eq (pc := 163) (tgt := 170) dX11_hosts_163 (by decide) (fun hc48 => absurd hc48 (by decide)) (fun hc48 => ?_)
                  refine M_iconst (pc := 166) (v := 1) dX11_hosts_166 (by decide) ?_
                  refine M_goto (pc := 167) (tgt := 171) dX11_hosts_167 (by decide) ?_
                  refine M_iload (pc := 171) dX11_hosts_171 rfl ?_
                  refine M_if_eq (pc := 173) (tgt := 181) dX11_hosts_173 (by decide) (fun hc49 => absurd hc49 (by decide)) (fun hc49 => ?_)
                  refine M_bipush (pc := 176) (v := 6) dX11_hosts_176 (by decide) ?_
                  refine M_goto (pc := 178) (tgt := 182) dX11_hosts_178 (by decide) ?_
                  refine M_ior (pc := 182) dX11_hosts_182 ?_
                  refine M_iload (pc := 183) dX11_hosts_183 rfl ?_
                  refine M_if_eq (pc := 185) (tgt := 193) dX11_hosts_185 (by decide) (fun hc50 => ?_) (fun hc50 => absurd hc50 (by decide))
                  refine M_iconst (pc := 193) (v := 0) dX11_hosts_193 (by decide) ?_
                  refine M_ior (pc := 194) dX11_hosts_194 ?_
                  obtain rfl := Option.some.inj h
                  exact M_iret (pc := 195) dX11_hosts_195 rfl rfl rfl rfl
            · have h := (if_neg hc39).symm.trans h
              refine M_iconst (pc := 125) (v := 1) dX11_hosts_125 (by decide) ?_
              refine M_goto (pc := 126) (tgt := 130) dX11_hosts_126 (by decide) ?_
              refine M_istore (pc := 130) (ls' := [some (.ref 1), some (.int x1), some (.int x2), some (.int (0 : Int32)), some (.int r11.1), some (.int r13.1), some (.int (1 : Int32)), some (.int (1 : Int32)), none]) dX11_hosts_130 (by decide) rfl ?_
              refine M_iload (pc := 132) dX11_hosts_132 rfl ?_
              refine M_iload_n (pc := 134) dX11_hosts_134 rfl ?_
              refine M_isub (pc := 135) dX11_hosts_135 ?_
              refine M_iload (pc := 136) dX11_hosts_136 rfl ?_
              refine M_iconst (pc := 138) (v := 2) dX11_hosts_138 (by decide) ?_
              refine M_idiv (pc := 139) dX11_hosts_139 (by decide) ?_
              refine M_icmp_lt (pc := 140) (tgt := 158) dX11_hosts_140 (by decide) (fun hc51 => ?_) (fun hc51 => ?_)
              · have h := (if_pos hc51).symm.trans h
                refine M_iconst (pc := 158) (v := 0) dX11_hosts_158 (by decide) ?_
                refine M_istore (pc := 159) (ls' := [some (.ref 1), some (.int x1), some (.int x2), some (.int (0 : Int32)), some (.int r11.1), some (.int r13.1), some (.int (1 : Int32)), some (.int (1 : Int32)), some (.int (0 : Int32))]) dX11_hosts_159 (by decide) rfl ?_
                refine M_iload (pc := 161) dX11_hosts_161 rfl ?_
                refine M_if_eq (pc := 163) (tgt := 170) dX11_hosts_163 (by decide) (fun hc52 => absurd hc52 (by decide)) (fun hc52 => ?_)
                refine M_iconst (pc := 166) (v := 1) dX11_hosts_166 (by decide) ?_
                refine M_goto (pc := 167) (tgt := 171) dX11_hosts_167 (by decide) ?_
                refine M_iload (pc := 171) dX11_hosts_171 rfl ?_
                refine M_if_eq (pc := 173) (tgt := 181) dX11_hosts_173 (by decide) (fun hc53 => ?_) (fun hc53 => absurd hc53 (by decide))
                refine M_iconst (pc := 181) (v := 0) dX11_hosts_181 (by decide) ?_
                refine M_ior (pc := 182) dX11_hosts_182 ?_
                refine M_iload (pc := 183) dX11_hosts_183 rfl ?_
                refine M_if_eq (pc := 185) (tgt := 193) dX11_hosts_185 (by decide) (fun hc54 => absurd hc54 (by decide)) (fun hc54 => ?_)
                refine M_bipush (pc := 188) (v := 8) dX11_hosts_188 (by decide) ?_
                refine M_goto (pc := 190) (tgt := 194) dX11_hosts_190 (by decide) ?_
                refine M_ior (pc := 194) dX11_hosts_194 ?_
                obtain rfl := Option.some.inj h
                exact M_iret (pc := 195) dX11_hosts_195 rfl rfl rfl rfl
              · have h := (if_neg hc51).symm.trans h
                refine M_iload (pc := 143) dX11_hosts_143 rfl ?_
                refine M_iload_n (pc := 145) dX11_hosts_145 rfl ?_
                refine M_isub (pc := 146) dX11_hosts_146 ?_
                refine M_iload (pc := 147) dX11_hosts_147 rfl ?_
                refine M_iconst (pc := 149) (v := 2) dX11_hosts_149 (by decide) ?_
                refine M_idiv (pc := 150) dX11_hosts_150 (by decide) ?_
                refine M_icmp_lt (pc := 151) (tgt := 158) dX11_hosts_151 (by decide) (fun hc55 => ?_) (fun hc55 => ?_)
                · have h := (if_pos hc55).symm.trans h
                  refine M_iconst (pc := 158) (v := 0) dX11_hosts_158 (by decide) ?_
                  refine M_istore (pc := 159) (ls' := [some (.ref 1), some (.int x1), some (.int x2), some (.int (0 : Int32)), some (.int r11.1), some (.int r13.1), some (.int (1 : Int32)), some (.int (1 : Int32)), some (.int (0 : Int32))]) dX11_hosts_159 (by decide) rfl ?_
                  refine M_iload (pc := 161) dX11_hosts_161 rfl ?_
                  refine M_if_eq (pc := 163) (tgt := 170) dX11_hosts_163 (by decide) (fun hc56 => absurd hc56 (by decide)) (fun hc56 => ?_)
                  refine M_iconst (pc := 166) (v := 1) dX11_hosts_166 (by decide) ?_
                  refine M_goto (pc := 167) (tgt := 171) dX11_hosts_167 (by decide) ?_
                  refine M_iload (pc := 171) dX11_hosts_171 rfl ?_
                  refine M_if_eq (pc := 173) (tgt := 181) dX11_hosts_173 (by decide) (fun hc57 => ?_) (fun hc57 => absurd hc57 (by decide))
                  refine M_iconst (pc := 181) (v := 0) dX11_hosts_181 (by decide) ?_
                  refine M_ior (pc := 182) dX11_hosts_182 ?_
                  refine M_iload (pc := 183) dX11_hosts_183 rfl ?_
                  refine M_if_eq (pc := 185) (tgt := 193) dX11_hosts_185 (by decide) (fun hc58 => absurd hc58 (by decide)) (fun hc58 => ?_)
                  refine M_bipush (pc := 188) (v := 8) dX11_hosts_188 (by decide) ?_
                  refine M_goto (pc := 190) (tgt := 194) dX11_hosts_190 (by decide) ?_
                  refine M_ior (pc := 194) dX11_hosts_194 ?_
                  obtain rfl := Option.some.inj h
                  exact M_iret (pc := 195) dX11_hosts_195 rfl rfl rfl rfl
                · have h := (if_neg hc55).symm.trans h
                  refine M_iconst (pc := 154) (v := 1) dX11_hosts_154 (by decide) ?_
                  refine M_goto (pc := 155) (tgt := 159) dX11_hosts_155 (by decide) ?_
                  refine M_istore (pc := 159) (ls' := [some (.ref 1), some (.int x1), some (.int x2), some (.int (0 : Int32)), some (.int r11.1), some (.int r13.1), some (.int (1 : Int32)), some (.int (1 : Int32)), some (.int (1 : Int32))]) dX11_hosts_159 (by decide) rfl ?_
                  refine M_iload (pc := 161) dX11_hosts_161 rfl ?_
                  refine M_if_eq (pc := 163) (tgt := 170) dX11_hosts_163 (by decide) (fun hc59 => absurd hc59 (by decide)) (fun hc59 => ?_)
                  refine M_iconst (pc := 166) (v := 1) dX11_hosts_166 (by decide) ?_
                  refine M_goto (pc := 167) (tgt := 171) dX11_hosts_167 (by decide) ?_
                  refine M_iload (pc := 171) dX11_hosts_171 rfl ?_
                  refine M_if_eq (pc := 173) (tgt := 181) dX11_hosts_173 (by decide) (fun hc60 => absurd hc60 (by decide)) (fun hc60 => ?_)
                  refine M_bipush (pc := 176) (v := 6) dX11_hosts_176 (by decide) ?_
                  refine M_goto (pc := 178) (tgt := 182) dX11_hosts_178 (by decide) ?_
                  refine M_ior (pc := 182) dX11_hosts_182 ?_
                  refine M_iload (pc := 183) dX11_hosts_183 rfl ?_
                  refine M_if_eq (pc := 185) (tgt := 193) dX11_hosts_185 (by decide) (fun hc61 => absurd hc61 (by decide)) (fun hc61 => ?_)
                  refine M_bipush (pc := 188) (v := 8) dX11_hosts_188 (by decide) ?_
                  refine M_goto (pc := 190) (tgt := 194) dX11_hosts_190 (by decide) ?_
                  refine M_ior (pc := 194) dX11_hosts_194 ?_
                  obtain rfl := Option.some.inj h
                  exact M_iret (pc := 195) dX11_hosts_195 rfl rfl rfl rfl
        · have h := (if_neg hc10).symm.trans h
          refine M_iconst (pc := 76) (v := 2) dX11_hosts_76 (by decide) ?_
          refine M_goto (pc := 77) (tgt := 81) dX11_hosts_77 (by decide) ?_
          refine M_istore_n (pc := 81) (ls' := [some (.ref 1), some (.int x1), some (.int x2), some (.int (2 : Int32)), none, none, none, none, none]) dX11_hosts_81 (by decide) rfl ?_
          refine M_aload_n (pc := 82) dX11_hosts_82 rfl ?_
          refine M_iload_n (pc := 83) dX11_hosts_83 rfl ?_
          obtain ⟨r62, hr63, h⟩ := bnd h
          refine M_callVi (pc := 84) dX11_hosts_84 v_X11_191 rfl rfl at_10 (Nat.le_of_ble_eq_true rfl) (C_X11_paysNow (d := d + 1) hp hr63) (Nat.le_refl _) ?_
          refine M_istore (pc := 87) (ls' := [some (.ref 1), some (.int x1), some (.int x2), some (.int (2 : Int32)), some (.int r62.1), none, none, none, none]) dX11_hosts_87 (by decide) rfl ?_
          refine M_aload_n (pc := 89) dX11_hosts_89 rfl ?_
          refine M_iload_n (pc := 90) dX11_hosts_90 rfl ?_
          obtain ⟨r64, hr65, h⟩ := bnd h
          refine M_callVi (pc := 91) dX11_hosts_91 v_X11_191 rfl rfl at_10 (Nat.le_of_ble_eq_true rfl) (C_X11_paysNow (d := d + 1) hp hr65) (Nat.le_refl _) ?_
          refine M_istore (pc := 94) (ls' := [some (.ref 1), some (.int x1), some (.int x2), some (.int (2 : Int32)), some (.int r62.1), some (.int r64.1), none, none, none]) dX11_hosts_94 (by decide) rfl ?_
          refine M_iload (pc := 96) dX11_hosts_96 rfl ?_
          refine M_iconst (pc := 98) (v := 2) dX11_hosts_98 (by decide) ?_
          refine M_idiv (pc := 99) dX11_hosts_99 (by decide) ?_
          refine M_iload (pc := 100) dX11_hosts_100 rfl ?_
          refine M_iload_n (pc := 102) dX11_hosts_102 rfl ?_
          refine M_isub (pc := 103) dX11_hosts_103 ?_
          refine M_icmp_lt (pc := 104) (tgt := 111) dX11_hosts_104 (by decide) (fun hc66 => ?_) (fun hc66 => ?_)
          · have h := (if_pos hc66).symm.trans h
            refine M_iconst (pc := 111) (v := 0) dX11_hosts_111 (by decide) ?_
            refine M_istore (pc := 112) (ls' := [some (.ref 1), some (.int x1), some (.int x2), some (.int (2 : Int32)), some (.int r62.1), some (.int r64.1), some (.int (0 : Int32)), none, none]) dX11_hosts_112 (by decide) rfl ?_
            refine M_iload (pc := 114) dX11_hosts_114 rfl ?_
            refine M_iconst (pc := 116) (v := 2) dX11_hosts_116 (by decide) ?_
            refine M_idiv (pc := 117) dX11_hosts_117 (by decide) ?_
            refine M_iload (pc := 118) dX11_hosts_118 rfl ?_
            refine M_iload_n (pc := 120) dX11_hosts_120 rfl ?_
            refine M_isub (pc := 121) dX11_hosts_121 ?_
            refine M_icmp_lt (pc := 122) (tgt := 129) dX11_hosts_122 (by decide) (fun hc67 => ?_) (fun hc67 => ?_)
            · have h := (if_pos hc67).symm.trans h
              refine M_iconst (pc := 129) (v := 0) dX11_hosts_129 (by decide) ?_
              refine M_istore (pc := 130) (ls' := [some (.ref 1), some (.int x1), some (.int x2), some (.int (2 : Int32)), some (.int r62.1), some (.int r64.1), some (.int (0 : Int32)), some (.int (0 : Int32)), none]) dX11_hosts_130 (by decide) rfl ?_
              refine M_iload (pc := 132) dX11_hosts_132 rfl ?_
              refine M_iload_n (pc := 134) dX11_hosts_134 rfl ?_
              refine M_isub (pc := 135) dX11_hosts_135 ?_
              refine M_iload (pc := 136) dX11_hosts_136 rfl ?_
              refine M_iconst (pc := 138) (v := 2) dX11_hosts_138 (by decide) ?_
              refine M_idiv (pc := 139) dX11_hosts_139 (by decide) ?_
              refine M_icmp_lt (pc := 140) (tgt := 158) dX11_hosts_140 (by decide) (fun hc68 => ?_) (fun hc68 => ?_)
              · have h := (if_pos hc68).symm.trans h
                refine M_iconst (pc := 158) (v := 0) dX11_hosts_158 (by decide) ?_
                refine M_istore (pc := 159) (ls' := [some (.ref 1), some (.int x1), some (.int x2), some (.int (2 : Int32)), some (.int r62.1), some (.int r64.1), some (.int (0 : Int32)), some (.int (0 : Int32)), some (.int (0 : Int32))]) dX11_hosts_159 (by decide) rfl ?_
                refine M_iload (pc := 161) dX11_hosts_161 rfl ?_
                refine M_if_eq (pc := 163) (tgt := 170) dX11_hosts_163 (by decide) (fun hc69 => ?_) (fun hc69 => absurd hc69 (by decide))
                refine M_iconst (pc := 170) (v := 0) dX11_hosts_170 (by decide) ?_
                refine M_iload (pc := 171) dX11_hosts_171 rfl ?_
                refine M_if_eq (pc := 173) (tgt := 181) dX11_hosts_173 (by decide) (fun hc70 => ?_) (fun hc70 => absurd hc70 (by decide))
                refine M_iconst (pc := 181) (v := 0) dX11_hosts_181 (by decide) ?_
                refine M_ior (pc := 182) dX11_hosts_182 ?_
                refine M_iload (pc := 183) dX11_hosts_183 rfl ?_
                refine M_if_eq (pc := 185) (tgt := 193) dX11_hosts_185 (by decide) (fun hc71 => ?_) (fun hc71 => absurd hc71 (by decide))
                refine M_iconst (pc := 193) (v := 0) dX11_hosts_193 (by decide) ?_
                refine M_ior (pc := 194) dX11_hosts_194 ?_
                obtain rfl := Option.some.inj h
                exact M_iret (pc := 195) dX11_hosts_195 rfl rfl rfl rfl
              · have h := (if_neg hc68).symm.trans h
                refine M_iload (pc := 143) dX11_hosts_143 rfl ?_
                refine M_iload_n (pc := 145) dX11_hosts_145 rfl ?_
                refine M_isub (pc := 146) dX11_hosts_146 ?_
                refine M_iload (pc := 147) dX11_hosts_147 rfl ?_
                refine M_iconst (pc := 149) (v := 2) dX11_hosts_149 (by decide) ?_
                refine M_idiv (pc := 150) dX11_hosts_150 (by decide) ?_
                refine M_icmp_lt (pc := 151) (tgt := 158) dX11_hosts_151 (by decide) (fun hc72 => ?_) (fun hc72 => ?_)
                · have h := (if_pos hc72).symm.trans h
                  refine M_iconst (pc := 158) (v := 0) dX11_hosts_158 (by decide) ?_
                  refine M_istore (pc := 159) (ls' := [some (.ref 1), some (.int x1), some (.int x2), some (.int (2 : Int32)), some (.int r62.1), some (.int r64.1), some (.int (0 : Int32)), some (.int (0 : Int32)), some (.int (0 : Int32))]) dX11_hosts_159 (by decide) rfl ?_
                  refine M_iload (pc := 161) dX11_hosts_161 rfl ?_
                  refine M_if_eq (pc := 163) (tgt := 170) dX11_hosts_163 (by decide) (fun hc73 => ?_) (fun hc73 => absurd hc73 (by decide))
                  refine M_iconst (pc := 170) (v := 0) dX11_hosts_170 (by decide) ?_
                  refine M_iload (pc := 171) dX11_hosts_171 rfl ?_
                  refine M_if_eq (pc := 173) (tgt := 181) dX11_hosts_173 (by decide) (fun hc74 => ?_) (fun hc74 => absurd hc74 (by decide))
                  refine M_iconst (pc := 181) (v := 0) dX11_hosts_181 (by decide) ?_
                  refine M_ior (pc := 182) dX11_hosts_182 ?_
                  refine M_iload (pc := 183) dX11_hosts_183 rfl ?_
                  refine M_if_eq (pc := 185) (tgt := 193) dX11_hosts_185 (by decide) (fun hc75 => ?_) (fun hc75 => absurd hc75 (by decide))
                  refine M_iconst (pc := 193) (v := 0) dX11_hosts_193 (by decide) ?_
                  refine M_ior (pc := 194) dX11_hosts_194 ?_
                  obtain rfl := Option.some.inj h
                  exact M_iret (pc := 195) dX11_hosts_195 rfl rfl rfl rfl
                · have h := (if_neg hc72).symm.trans h
                  refine M_iconst (pc := 154) (v := 1) dX11_hosts_154 (by decide) ?_
                  refine M_goto (pc := 155) (tgt := 159) dX11_hosts_155 (by decide) ?_
                  refine M_istore (pc := 159) (ls' := [some (.ref 1), some (.int x1), some (.int x2), some (.int (2 : Int32)), some (.int r62.1), some (.int r64.1), some (.int (0 : Int32)), some (.int (0 : Int32)), some (.int (1 : Int32))]) dX11_hosts_159 (by decide) rfl ?_
                  refine M_iload (pc := 161) dX11_hosts_161 rfl ?_
                  refine M_if_eq (pc := 163) (tgt := 170) dX11_hosts_163 (by decide) (fun hc76 => ?_) (fun hc76 => absurd hc76 (by decide))
                  refine M_iconst (pc := 170) (v := 0) dX11_hosts_170 (by decide) ?_
                  refine M_iload (pc := 171) dX11_hosts_171 rfl ?_
                  refine M_if_eq (pc := 173) (tgt := 181) dX11_hosts_173 (by decide) (fun hc77 => absurd hc77 (by decide)) (fun hc77 => ?_)
                  refine M_bipush (pc := 176) (v := 6) dX11_hosts_176 (by decide) ?_
                  refine M_goto (pc := 178) (tgt := 182) dX11_hosts_178 (by decide) ?_
                  refine M_ior (pc := 182) dX11_hosts_182 ?_
                  refine M_iload (pc := 183) dX11_hosts_183 rfl ?_
                  refine M_if_eq (pc := 185) (tgt := 193) dX11_hosts_185 (by decide) (fun hc78 => ?_) (fun hc78 => absurd hc78 (by decide))
                  refine M_iconst (pc := 193) (v := 0) dX11_hosts_193 (by decide) ?_
                  refine M_ior (pc := 194) dX11_hosts_194 ?_
                  obtain rfl := Option.some.inj h
                  exact M_iret (pc := 195) dX11_hosts_195 rfl rfl rfl rfl
            · have h := (if_neg hc67).symm.trans h
              refine M_iconst (pc := 125) (v := 1) dX11_hosts_125 (by decide) ?_
              refine M_goto (pc := 126) (tgt := 130) dX11_hosts_126 (by decide) ?_
              refine M_istore (pc := 130) (ls' := [some (.ref 1), some (.int x1), some (.int x2), some (.int (2 : Int32)), some (.int r62.1), some (.int r64.1), some (.int (0 : Int32)), some (.int (1 : Int32)), none]) dX11_hosts_130 (by decide) rfl ?_
              refine M_iload (pc := 132) dX11_hosts_132 rfl ?_
              refine M_iload_n (pc := 134) dX11_hosts_134 rfl ?_
              refine M_isub (pc := 135) dX11_hosts_135 ?_
              refine M_iload (pc := 136) dX11_hosts_136 rfl ?_
              refine M_iconst (pc := 138) (v := 2) dX11_hosts_138 (by decide) ?_
              refine M_idiv (pc := 139) dX11_hosts_139 (by decide) ?_
              refine M_icmp_lt (pc := 140) (tgt := 158) dX11_hosts_140 (by decide) (fun hc79 => ?_) (fun hc79 => ?_)
              · have h := (if_pos hc79).symm.trans h
                refine M_iconst (pc := 158) (v := 0) dX11_hosts_158 (by decide) ?_
                refine M_istore (pc := 159) (ls' := [some (.ref 1), some (.int x1), some (.int x2), some (.int (2 : Int32)), some (.int r62.1), some (.int r64.1), some (.int (0 : Int32)), some (.int (1 : Int32)), some (.int (0 : Int32))]) dX11_hosts_159 (by decide) rfl ?_
                refine M_iload (pc := 161) dX11_hosts_161 rfl ?_
                refine M_if_eq (pc := 163) (tgt := 170) dX11_hosts_163 (by decide) (fun hc80 => ?_) (fun hc80 => absurd hc80 (by decide))
                refine M_iconst (pc := 170) (v := 0) dX11_hosts_170 (by decide) ?_
                refine M_iload (pc := 171) dX11_hosts_171 rfl ?_
                refine M_if_eq (pc := 173) (tgt := 181) dX11_hosts_173 (by decide) (fun hc81 => ?_) (fun hc81 => absurd hc81 (by decide))
                refine M_iconst (pc := 181) (v := 0) dX11_hosts_181 (by decide) ?_
                refine M_ior (pc := 182) dX11_hosts_182 ?_
                refine M_iload (pc := 183) dX11_hosts_183 rfl ?_
                refine M_if_eq (pc := 185) (tgt := 193) dX11_hosts_185 (by decide) (fun hc82 => absurd hc82 (by decide)) (fun hc82 => ?_)
                refine M_bipush (pc := 188) (v := 8) dX11_hosts_188 (by decide) ?_
                refine M_goto (pc := 190) (tgt := 194) dX11_hosts_190 (by decide) ?_
                refine M_ior (pc := 194) dX11_hosts_194 ?_
                obtain rfl := Option.some.inj h
                exact M_iret (pc := 195) dX11_hosts_195 rfl rfl rfl rfl
              · have h := (if_neg hc79).symm.trans h
                refine M_iload (pc := 143) dX11_hosts_143 rfl ?_
                refine M_iload_n (pc := 145) dX11_hosts_145 rfl ?_
                refine M_isub (pc := 146) dX11_hosts_146 ?_
                refine M_iload (pc := 147) dX11_hosts_147 rfl ?_
                refine M_iconst (pc := 149) (v := 2) dX11_hosts_149 (by decide) ?_
                refine M_idiv (pc := 150) dX11_hosts_150 (by decide) ?_
                refine M_icmp_lt (pc := 151) (tgt := 158) dX11_hosts_151 (by decide) (fun hc83 => ?_) (fun hc83 => ?_)
                · have h := (if_pos hc83).symm.trans h
                  refine M_iconst (pc := 158) (v := 0) dX11_hosts_158 (by decide) ?_
                  refine M_istore (pc := 159) (ls' := [some (.ref 1), some (.int x1), some (.int x2), some (.int (2 : Int32)), some (.int r62.1), some (.int r64.1), some (.int (0 : Int32)), some (.int (1 : Int32)), some (.int (0 : Int32))]) dX11_hosts_159 (by decide) rfl ?_
                  refine M_iload (pc := 161) dX11_hosts_161 rfl ?_
                  refine M_if_eq (pc := 163) (tgt := 170) dX11_hosts_163 (by decide) (fun hc84 => ?_) (fun hc84 => absurd hc84 (by decide))
                  refine M_iconst (pc := 170) (v := 0) dX11_hosts_170 (by decide) ?_
                  refine M_iload (pc := 171) dX11_hosts_171 rfl ?_
                  refine M_if_eq (pc := 173) (tgt := 181) dX11_hosts_173 (by decide) (fun hc85 => ?_) (fun hc85 => absurd hc85 (by decide))
                  refine M_iconst (pc := 181) (v := 0) dX11_hosts_181 (by decide) ?_
                  refine M_ior (pc := 182) dX11_hosts_182 ?_
                  refine M_iload (pc := 183) dX11_hosts_183 rfl ?_
                  refine M_if_eq (pc := 185) (tgt := 193) dX11_hosts_185 (by decide) (fun hc86 => absurd hc86 (by decide)) (fun hc86 => ?_)
                  refine M_bipush (pc := 188) (v := 8) dX11_hosts_188 (by decide) ?_
                  refine M_goto (pc := 190) (tgt := 194) dX11_hosts_190 (by decide) ?_
                  refine M_ior (pc := 194) dX11_hosts_194 ?_
                  obtain rfl := Option.some.inj h
                  exact M_iret (pc := 195) dX11_hosts_195 rfl rfl rfl rfl
                · have h := (if_neg hc83).symm.trans h
                  refine M_iconst (pc := 154) (v := 1) dX11_hosts_154 (by decide) ?_
                  refine M_goto (pc := 155) (tgt := 159) dX11_hosts_155 (by decide) ?_
                  refine M_istore (pc := 159) (ls' := [some (.ref 1), some (.int x1), some (.int x2), some (.int (2 : Int32)), some (.int r62.1), some (.int r64.1), some (.int (0 : Int32)), some (.int (1 : Int32)), some (.int (1 : Int32))]) dX11_hosts_159 (by decide) rfl ?_
                  refine M_iload (pc := 161) dX11_hosts_161 rfl ?_
                  refine M_if_eq (pc := 163) (tgt := 170) dX11_hosts_163 (by decide) (fun hc87 => ?_) (fun hc87 => absurd hc87 (by decide))
                  refine M_iconst (pc := 170) (v := 0) dX11_hosts_170 (by decide) ?_
                  refine M_iload (pc := 171) dX11_hosts_171 rfl ?_
                  refine M_if_eq (pc := 173) (tgt := 181) dX11_hosts_173 (by decide) (fun hc88 => absurd hc88 (by decide)) (fun hc88 => ?_)
                  refine M_bipush (pc := 176) (v := 6) dX11_hosts_176 (by decide) ?_
                  refine M_goto (pc := 178) (tgt := 182) dX11_hosts_178 (by decide) ?_
                  refine M_ior (pc := 182) dX11_hosts_182 ?_
                  refine M_iload (pc := 183) dX11_hosts_183 rfl ?_
                  refine M_if_eq (pc := 185) (tgt := 193) dX11_hosts_185 (by decide) (fun hc89 => absurd hc89 (by decide)) (fun hc89 => ?_)
                  refine M_bipush (pc := 188) (v := 8) dX11_hosts_188 (by decide) ?_
                  refine M_goto (pc := 190) (tgt := 194) dX11_hosts_190 (by decide) ?_
                  refine M_ior (pc := 194) dX11_hosts_194 ?_
                  obtain rfl := Option.some.inj h
                  exact M_iret (pc := 195) dX11_hosts_195 rfl rfl rfl rfl
          · have h := (if_neg hc66).symm.trans h
            refine M_iconst (pc := 107) (v := 1) dX11_hosts_107 (by decide) ?_
            refine M_goto (pc := 108) (tgt := 112) dX11_hosts_108 (by decide) ?_
            refine M_istore (pc := 112) (ls' := [some (.ref 1), some (.int x1), some (.int x2), some (.int (2 : Int32)), some (.int r62.1), some (.int r64.1), some (.int (1 : Int32)), none, none]) dX11_hosts_112 (by decide) rfl ?_
            refine M_iload (pc := 114) dX11_hosts_114 rfl ?_
            refine M_iconst (pc := 116) (v := 2) dX11_hosts_116 (by decide) ?_
            refine M_idiv (pc := 117) dX11_hosts_117 (by decide) ?_
            refine M_iload (pc := 118) dX11_hosts_118 rfl ?_
            refine M_iload_n (pc := 120) dX11_hosts_120 rfl ?_
            refine M_isub (pc := 121) dX11_hosts_121 ?_
            refine M_icmp_lt (pc := 122) (tgt := 129) dX11_hosts_122 (by decide) (fun hc90 => ?_) (fun hc90 => ?_)
            · have h := (if_pos hc90).symm.trans h
              refine M_iconst (pc := 129) (v := 0) dX11_hosts_129 (by decide) ?_
              refine M_istore (pc := 130) (ls' := [some (.ref 1), some (.int x1), some (.int x2), some (.int (2 : Int32)), some (.int r62.1), some (.int r64.1), some (.int (1 : Int32)), some (.int (0 : Int32)), none]) dX11_hosts_130 (by decide) rfl ?_
              refine M_iload (pc := 132) dX11_hosts_132 rfl ?_
              refine M_iload_n (pc := 134) dX11_hosts_134 rfl ?_
              refine M_isub (pc := 135) dX11_hosts_135 ?_
              refine M_iload (pc := 136) dX11_hosts_136 rfl ?_
              refine M_iconst (pc := 138) (v := 2) dX11_hosts_138 (by decide) ?_
              refine M_idiv (pc := 139) dX11_hosts_139 (by decide) ?_
              refine M_icmp_lt (pc := 140) (tgt := 158) dX11_hosts_140 (by decide) (fun hc91 => ?_) (fun hc91 => ?_)
              · have h := (if_pos hc91).symm.trans h
                refine M_iconst (pc := 158) (v := 0) dX11_hosts_158 (by decide) ?_
                refine M_istore (pc := 159) (ls' := [some (.ref 1), some (.int x1), some (.int x2), some (.int (2 : Int32)), some (.int r62.1), some (.int r64.1), some (.int (1 : Int32)), some (.int (0 : Int32)), some (.int (0 : Int32))]) dX11_hosts_159 (by decide) rfl ?_
                refine M_iload (pc := 161) dX11_hosts_161 rfl ?_
                refine M_if_eq (pc := 163) (tgt := 170) dX11_hosts_163 (by decide) (fun hc92 => absurd hc92 (by decide)) (fun hc92 => ?_)
                refine M_iconst (pc := 166) (v := 1) dX11_hosts_166 (by decide) ?_
                refine M_goto (pc := 167) (tgt := 171) dX11_hosts_167 (by decide) ?_
                refine M_iload (pc := 171) dX11_hosts_171 rfl ?_
                refine M_if_eq (pc := 173) (tgt := 181) dX11_hosts_173 (by decide) (fun hc93 => ?_) (fun hc93 => absurd hc93 (by decide))
                refine M_iconst (pc := 181) (v := 0) dX11_hosts_181 (by decide) ?_
                refine M_ior (pc := 182) dX11_hosts_182 ?_
                refine M_iload (pc := 183) dX11_hosts_183 rfl ?_
                refine M_if_eq (pc := 185) (tgt := 193) dX11_hosts_185 (by decide) (fun hc94 => ?_) (fun hc94 => absurd hc94 (by decide))
                refine M_iconst (pc := 193) (v := 0) dX11_hosts_193 (by decide) ?_
                refine M_ior (pc := 194) dX11_hosts_194 ?_
                obtain rfl := Option.some.inj h
                exact M_iret (pc := 195) dX11_hosts_195 rfl rfl rfl rfl
              · have h := (if_neg hc91).symm.trans h
                refine M_iload (pc := 143) dX11_hosts_143 rfl ?_
                refine M_iload_n (pc := 145) dX11_hosts_145 rfl ?_
                refine M_isub (pc := 146) dX11_hosts_146 ?_
                refine M_iload (pc := 147) dX11_hosts_147 rfl ?_
                refine M_iconst (pc := 149) (v := 2) dX11_hosts_149 (by decide) ?_
                refine M_idiv (pc := 150) dX11_hosts_150 (by decide) ?_
                refine M_icmp_lt (pc := 151) (tgt := 158) dX11_hosts_151 (by decide) (fun hc95 => ?_) (fun hc95 => ?_)
                · have h := (if_pos hc95).symm.trans h
                  refine M_iconst (pc := 158) (v := 0) dX11_hosts_158 (by decide) ?_
                  refine M_istore (pc := 159) (ls' := [some (.ref 1), some (.int x1), some (.int x2), some (.int (2 : Int32)), some (.int r62.1), some (.int r64.1), some (.int (1 : Int32)), some (.int (0 : Int32)), some (.int (0 : Int32))]) dX11_hosts_159 (by decide) rfl ?_
                  refine M_iload (pc := 161) dX11_hosts_161 rfl ?_
                  refine M_if_eq (pc := 163) (tgt := 170) dX11_hosts_163 (by decide) (fun hc96 => absurd hc96 (by decide)) (fun hc96 => ?_)
                  refine M_iconst (pc := 166) (v := 1) dX11_hosts_166 (by decide) ?_
                  refine M_goto (pc := 167) (tgt := 171) dX11_hosts_167 (by decide) ?_
                  refine M_iload (pc := 171) dX11_hosts_171 rfl ?_
                  refine M_if_eq (pc := 173) (tgt := 181) dX11_hosts_173 (by decide) (fun hc97 => ?_) (fun hc97 => absurd hc97 (by decide))
                  refine M_iconst (pc := 181) (v := 0) dX11_hosts_181 (by decide) ?_
                  refine M_ior (pc := 182) dX11_hosts_182 ?_
                  refine M_iload (pc := 183) dX11_hosts_183 rfl ?_
                  refine M_if_eq (pc := 185) (tgt := 193) dX11_hosts_185 (by decide) (fun hc98 => ?_) (fun hc98 => absurd hc98 (by decide))
                  refine M_iconst (pc := 193) (v := 0) dX11_hosts_193 (by decide) ?_
                  refine M_ior (pc := 194) dX11_hosts_194 ?_
                  obtain rfl := Option.some.inj h
                  exact M_iret (pc := 195) dX11_hosts_195 rfl rfl rfl rfl
                · have h := (if_neg hc95).symm.trans h
                  refine M_iconst (pc := 154) (v := 1) dX11_hosts_154 (by decide) ?_
                  refine M_goto (pc := 155) (tgt := 159) dX11_hosts_155 (by decide) ?_
                  refine M_istore (pc := 159) (ls' := [some (.ref 1), some (.int x1), some (.int x2), some (.int (2 : Int32)), some (.int r62.1), some (.int r64.1), some (.int (1 : Int32)), some (.int (0 : Int32)), some (.int (1 : Int32))]) dX11_hosts_159 (by decide) rfl ?_
                  refine M_iload (pc := 161) dX11_hosts_161 rfl ?_
                  refine M_if_eq (pc := 163) (tgt := 170) dX11_hosts_163 (by decide) (fun hc99 => absurd hc99 (by decide)) (fun hc99 => ?_)
                  refine M_iconst (pc := 166) (v := 1) dX11_hosts_166 (by decide) ?_
                  refine M_goto (pc := 167) (tgt := 171) dX11_hosts_167 (by decide) ?_
                  refine M_iload (pc := 171) dX11_hosts_171 rfl ?_
                  refine M_if_eq (pc := 173) (tgt := 181) dX11_hosts_173 (by decide) (fun hc100 => absurd hc100 (by decide)) (fun hc100 => ?_)
                  refine M_bipush (pc := 176) (v := 6) dX11_hosts_176 (by decide) ?_
                  refine M_goto (pc := 178) (tgt := 182) dX11_hosts_178 (by decide) ?_
                  refine M_ior (pc := 182) dX11_hosts_182 ?_
                  refine M_iload (pc := 183) dX11_hosts_183 rfl ?_
                  refine M_if_eq (pc := 185) (tgt := 193) dX11_hosts_185 (by decide) (fun hc101 => ?_) (fun hc101 => absurd hc101 (by decide))
                  refine M_iconst (pc := 193) (v := 0) dX11_hosts_193 (by decide) ?_
                  refine M_ior (pc := 194) dX11_hosts_194 ?_
                  obtain rfl := Option.some.inj h
                  exact M_iret (pc := 195) dX11_hosts_195 rfl rfl rfl rfl
            · have h := (if_neg hc90).symm.trans h
              refine M_iconst (pc := 125) (v := 1) dX11_hosts_125 (by decide) ?_
              refine M_goto (pc := 126) (tgt := 130) dX11_hosts_126 (by decide) ?_
              refine M_istore (pc := 130) (ls' := [some (.ref 1), some (.int x1), some (.int x2), some (.int (2 : Int32)), some (.int r62.1), some (.int r64.1), some (.int (1 : Int32)), some (.int (1 : Int32)), none]) dX11_hosts_130 (by decide) rfl ?_
              refine M_iload (pc := 132) dX11_hosts_132 rfl ?_
              refine M_iload_n (pc := 134) dX11_hosts_134 rfl ?_
              refine M_isub (pc := 135) dX11_hosts_135 ?_
              refine M_iload (pc := 136) dX11_hosts_136 rfl ?_
              refine M_iconst (pc := 138) (v := 2) dX11_hosts_138 (by decide) ?_
              refine M_idiv (pc := 139) dX11_hosts_139 (by decide) ?_
              refine M_icmp_lt (pc := 140) (tgt := 158) dX11_hosts_140 (by decide) (fun hc102 => ?_) (fun hc102 => ?_)
              · have h := (if_pos hc102).symm.trans h
                refine M_iconst (pc := 158) (v := 0) dX11_hosts_158 (by decide) ?_
                refine M_istore (pc := 159) (ls' := [some (.ref 1), some (.int x1), some (.int x2), some (.int (2 : Int32)), some (.int r62.1), some (.int r64.1), some (.int (1 : Int32)), some (.int (1 : Int32)), some (.int (0 : Int32))]) dX11_hosts_159 (by decide) rfl ?_
                refine M_iload (pc := 161) dX11_hosts_161 rfl ?_
                refine M_if_eq (pc := 163) (tgt := 170) dX11_hosts_163 (by decide) (fun hc103 => absurd hc103 (by decide)) (fun hc103 => ?_)
                refine M_iconst (pc := 166) (v := 1) dX11_hosts_166 (by decide) ?_
                refine M_goto (pc := 167) (tgt := 171) dX11_hosts_167 (by decide) ?_
                refine M_iload (pc := 171) dX11_hosts_171 rfl ?_
                refine M_if_eq (pc := 173) (tgt := 181) dX11_hosts_173 (by decide) (fun hc104 => ?_) (fun hc104 => absurd hc104 (by decide))
                refine M_iconst (pc := 181) (v := 0) dX11_hosts_181 (by decide) ?_
                refine M_ior (pc := 182) dX11_hosts_182 ?_
                refine M_iload (pc := 183) dX11_hosts_183 rfl ?_
                refine M_if_eq (pc := 185) (tgt := 193) dX11_hosts_185 (by decide) (fun hc105 => absurd hc105 (by decide)) (fun hc105 => ?_)
                refine M_bipush (pc := 188) (v := 8) dX11_hosts_188 (by decide) ?_
                refine M_goto (pc := 190) (tgt := 194) dX11_hosts_190 (by decide) ?_
                refine M_ior (pc := 194) dX11_hosts_194 ?_
                obtain rfl := Option.some.inj h
                exact M_iret (pc := 195) dX11_hosts_195 rfl rfl rfl rfl
              · have h := (if_neg hc102).symm.trans h
                refine M_iload (pc := 143) dX11_hosts_143 rfl ?_
                refine M_iload_n (pc := 145) dX11_hosts_145 rfl ?_
                refine M_isub (pc := 146) dX11_hosts_146 ?_
                refine M_iload (pc := 147) dX11_hosts_147 rfl ?_
                refine M_iconst (pc := 149) (v := 2) dX11_hosts_149 (by decide) ?_
                refine M_idiv (pc := 150) dX11_hosts_150 (by decide) ?_
                refine M_icmp_lt (pc := 151) (tgt := 158) dX11_hosts_151 (by decide) (fun hc106 => ?_) (fun hc106 => ?_)
                · have h := (if_pos hc106).symm.trans h
                  refine M_iconst (pc := 158) (v := 0) dX11_hosts_158 (by decide) ?_
                  refine M_istore (pc := 159) (ls' := [some (.ref 1), some (.int x1), some (.int x2), some (.int (2 : Int32)), some (.int r62.1), some (.int r64.1), some (.int (1 : Int32)), some (.int (1 : Int32)), some (.int (0 : Int32))]) dX11_hosts_159 (by decide) rfl ?_
                  refine M_iload (pc := 161) dX11_hosts_161 rfl ?_
                  refine M_if_eq (pc := 163) (tgt := 170) dX11_hosts_163 (by decide) (fun hc107 => absurd hc107 (by decide)) (fun hc107 => ?_)
                  refine M_iconst (pc := 166) (v := 1) dX11_hosts_166 (by decide) ?_
                  refine M_goto (pc := 167) (tgt := 171) dX11_hosts_167 (by decide) ?_
                  refine M_iload (pc := 171) dX11_hosts_171 rfl ?_
                  refine M_if_eq (pc := 173) (tgt := 181) dX11_hosts_173 (by decide) (fun hc108 => ?_) (fun hc108 => absurd hc108 (by decide))
                  refine M_iconst (pc := 181) (v := 0) dX11_hosts_181 (by decide) ?_
                  refine M_ior (pc := 182) dX11_hosts_182 ?_
                  refine M_iload (pc := 183) dX11_hosts_183 rfl ?_
                  refine M_if_eq (pc := 185) (tgt := 193) dX11_hosts_185 (by decide) (fun hc109 => absurd hc109 (by decide)) (fun hc109 => ?_)
                  refine M_bipush (pc := 188) (v := 8) dX11_hosts_188 (by decide) ?_
                  refine M_goto (pc := 190) (tgt := 194) dX11_hosts_190 (by decide) ?_
                  refine M_ior (pc := 194) dX11_hosts_194 ?_
                  obtain rfl := Option.some.inj h
                  exact M_iret (pc := 195) dX11_hosts_195 rfl rfl rfl rfl
                · have h := (if_neg hc106).symm.trans h
                  refine M_iconst (pc := 154) (v := 1) dX11_hosts_154 (by decide) ?_
                  refine M_goto (pc := 155) (tgt := 159) dX11_hosts_155 (by decide) ?_
                  refine M_istore (pc := 159) (ls' := [some (.ref 1), some (.int x1), some (.int x2), some (.int (2 : Int32)), some (.int r62.1), some (.int r64.1), some (.int (1 : Int32)), some (.int (1 : Int32)), some (.int (1 : Int32))]) dX11_hosts_159 (by decide) rfl ?_
                  refine M_iload (pc := 161) dX11_hosts_161 rfl ?_
                  refine M_if_eq (pc := 163) (tgt := 170) dX11_hosts_163 (by decide) (fun hc110 => absurd hc110 (by decide)) (fun hc110 => ?_)
                  refine M_iconst (pc := 166) (v := 1) dX11_hosts_166 (by decide) ?_
                  refine M_goto (pc := 167) (tgt := 171) dX11_hosts_167 (by decide) ?_
                  refine M_iload (pc := 171) dX11_hosts_171 rfl ?_
                  refine M_if_eq (pc := 173) (tgt := 181) dX11_hosts_173 (by decide) (fun hc111 => absurd hc111 (by decide)) (fun hc111 => ?_)
                  refine M_bipush (pc := 176) (v := 6) dX11_hosts_176 (by decide) ?_
                  refine M_goto (pc := 178) (tgt := 182) dX11_hosts_178 (by decide) ?_
                  refine M_ior (pc := 182) dX11_hosts_182 ?_
                  refine M_iload (pc := 183) dX11_hosts_183 rfl ?_
                  refine M_if_eq (pc := 185) (tgt := 193) dX11_hosts_185 (by decide) (fun hc112 => absurd hc112 (by decide)) (fun hc112 => ?_)
                  refine M_bipush (pc := 188) (v := 8) dX11_hosts_188 (by decide) ?_
                  refine M_goto (pc := 190) (tgt := 194) dX11_hosts_190 (by decide) ?_
                  refine M_ior (pc := 194) dX11_hosts_194 ?_
                  obtain rfl := Option.some.inj h
                  exact M_iret (pc := 195) dX11_hosts_195 rfl rfl rfl rfl
      · have h := (if_pos hc7).symm.trans h
        obtain rfl := Option.some.inj h
        exact M_throwW (pc := 43) dX11_hosts_43 dX11_hosts_46 dX11_hosts_47 dX11_hosts_50 dX11_hosts_53 ⟨rfl, rfl, rfl, rfl⟩ x_X11_118 (j := 19) (by decide) str_X11_371 rfl rfl
    · have h := (if_pos hc6).symm.trans h
      obtain rfl := Option.some.inj h
      exact M_throw (pc := 28) dX11_hosts_28 dX11_hosts_31 dX11_hosts_32 dX11_hosts_34 dX11_hosts_37 ⟨rfl, rfl, rfl, rfl⟩ x_X11_158 (j := 3) (by decide) str_X11_160 rfl rfl
