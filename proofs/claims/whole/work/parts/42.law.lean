/-! THE CLAIM OUT OF ONE WALK OF THE LAW'S BODY. Your part is whole_start (and what it stands on); all else here is the same for every law, but numbers. -/
def R_law : String := "BiteYearsLaw"
def lw_P (b : Addr) (xs : List Int32) (args : Array Value) (s : State) : Prop := args = #[.ref b] ∧ s.IntsAt b xs ∧ xs.length ≤ 3072 ∧ (Jvm.Cond.and given_1 narrow_1).before args s = true
def lw_Q (_ : Array Value) (s : State) (o : Outcome) (t : State) : Prop := o = .returned (some (.int 1)) ∧ Framed s o t [] 601024 7293034
def lw_Z (below : List Frame) (a : Array Value) (s : State) : State → Prop := fun t => ∃ o, t.status = .running ∧ Ended t below o ∧ lw_Q a s o t
/-- the law's own end, with 1 on the stack, nothing written that was there before, its room as the claim has it -/
theorem lw_ret {p : Program} {l : Launch} {e : Env} {s : State} {m : MethodId} {below : List Frame} {meth : Method} {c : Code} {b : Nat} (hx : p.tables.exec = Jvm.exec) (hb : c.code = code) (hr : meth.sig.returnType = ret) (hlocks : meth.locks = false) {pc : Nat} {H : Heap} {ls : Array Slot} (hdg : decode code pc = .ok (.ireturn, 1)) : W p l e room_1 s m #[Value.ref b] below meth c H [] 601024 7293034 (lw_Z below #[Value.ref b] s) (F0 m pc ls [.int 1]) := by
  intro T hT X
  obtain ⟨fs, hret, hrun, hended, hW, hframe⟩ := X.leave (v := some (.int 1)) (hlocks := hlocks) (fun h => by rw [hr] at h; cases h)
  have hmeth' : T.vm.method? m = some meth := X.method'
  refine ⟨T.setFrames fs, ?_, .returned (some (.int 1)), hrun, hended, rfl, ⟨_, rfl⟩, hW, hframe⟩
  jvm_step X.here [X.here.top, hx, hb, hdg, hmeth', hr, ret, narrow_b1]
  (try refine ⟨rfl, ?_⟩); (try refine ⟨rfl, ?_⟩)
  first | (intro acts; rw [hret _ acts rfl rfl rfl]) | rw [hret _ _ rfl rfl rfl]
  exact Steps.refl _
/-- what holds at the law's entry: the machine, the code, the tables' words (any of lw_tbl by 'hts w (by decide +kernel)'), the script of L ints xs at the cell b, what the Statement gives of the start (any of its parts by flat_of_before) -/
def lw_At (p : Program) (s : State) (m : MethodId) (meth : Method) (c : Code) (b L : Nat) (xs : Nat → Int32) : Prop :=
  p.tables.exec = Jvm.exec ∧ c.code = code ∧ meth.sig.returnType = ret ∧ c.maxLocals = 7 ∧ s.vm.findClass R_law = some m.cls ∧ (∀ w ∈ lw_tbl, w.before #[Value.ref b] s = true) ∧ va_X b L xs s s.heap ∧ b < s.heap.size ∧ meth.locks = false ∧ (Jvm.Cond.and given_1 narrow_1).before #[Value.ref b] s = true
abbrev mL_law_ : mX := (yL_law_, cL_law_, 7, some .boolean)
def ZL (g : gX) : zX := (room_1, 1, fun _ args => args = #[.ref (gb g)], fun below args s A t => (∀ q, A q → s.heap.size ≤ q) → lw_Z below args s t)
abbrev lsL (i : Int32) (a b : Option Value) : List (Option Value) := [some (.ref 0), some (.ref 1), some (.ref 205), some (.ref 218), some (.int i), a, b]
theorem same_out {ns : List String} {J : HJ} {r : Int32 ⊕ String} {k b : Int32} (h : same ns r k b) (hn : ns.length ≤ 2) : ∃ J9, wres ns J r k J9 ∧ (k = 0 → J9 218 0 = b.toInt64) := by
  cases r with
  | inl v =>
    obtain ⟨rfl, rfl⟩ := h
    exact ⟨_, ⟨rfl, rfl⟩, fun _ => by rw [up2_get, if_pos ⟨rfl, rfl⟩]⟩
  | inr E =>
    obtain ⟨i, h1, rfl⟩ := h
    refine ⟨J, ⟨rfl, i, h1, rfl⟩, fun h2 => ?_⟩
    have hi : i < ns.length := (List.getElem?_eq_some_iff.mp h1).1
    have hi2 : i = 0 ∨ i = 1 := by omega
    rcases hi2 with rfl | rfl
    · exact absurd h2 (by decide)
    · exact absurd h2 (by decide)
theorem vp01 : vp_in 0 1 := by
  rintro (h | h)
  · exact absurd h (by decide)
  · exact absurd h (by decide)
theorem cmp_same {x y : Int64} (h : x = y) : lg_cmp x y = 0 := by subst h; unfold lg_cmp; simp
section
variable {g : gX} {nc ns : Nat} {J : HJ} {P : Nat → Nat → Option Nat} {I : HI} {i : Int32} {G : HI → Prop}
/-- the six ints of a call lie in the script -/
def inS (g : gX) (i : Int32) : Prop := ∀ j : Int32, 0 ≤ j → j ≤ 5 → vp_in (i + j) (gL g)
def KL (g : gX) (G : HI → Prop) (nc ns : Nat) (i : Int32) : Prop := ∀ (I2 : HI) (J2 : HJ) (P2 : Nat → Nat → Option Nat) (a b : Option Value), G I2 → Wp P2 → Y g mL_law_ (ZL g) (nc + 1) (ns + 6) 2309 (lsL i a b) [] (NT, I2, J2, P2)
def rL (nc ns : Nat) : Prop := nc + 1 ≤ 601024 ∧ ns + 6 ≤ 7293034
theorem rL.at (d : Nat) (h : rL nc ns) (hd : d ≤ 120) : d + 1 ≤ (ZL g).1.frames ∧ 8 + (40 + 11) + 64 * d ≤ (ZL g).1.locals ∧ nc + 1 ≤ (ZL g).1.cells ∧ ns + 6 ≤ (ZL g).1.slots := by
  refine ⟨?_, ?_, h.1, h.2⟩
  · show d + 1 ≤ 2048; omega
  · show 8 + (40 + 11) + 64 * d ≤ 84000; omega
theorem rL.at0 (d : Nat) (h : rL nc ns) (hd : d ≤ 120) : d + 1 ≤ (ZL g).1.frames ∧ 8 + (40 + 11) + 64 * d ≤ (ZL g).1.locals ∧ nc ≤ (ZL g).1.cells ∧ ns ≤ (ZL g).1.slots := by
  have := h.at (g := g) d hd
  exact ⟨this.1, this.2.1, by omega, by omega⟩
theorem rL.at1 (d : Nat) (h : rL nc ns) (hd : d ≤ 120) : d + 1 ≤ (ZL g).1.frames ∧ 8 + (40 + 11) + 64 * d ≤ (ZL g).1.locals ∧ nc + 1 ≤ (ZL g).1.cells ∧ ns + 6 ≤ (ZL g).1.slots := h.at d hd
theorem odds_aux {x1 x2 : Int32} {r : Int32 ⊕ String} (h : St_odds G I x1 x2) (h1 : F_X11_odds I x1 x2 = some r) : ∃ J9 k0, wres ["java/lang/IllegalArgumentException"] J r k0 J9 ∧ ∃ b I2 J2, F_X12_odds I J9 x1 x2 = some (b, I2, J2) ∧ J2 218 0 = J9 218 0 ∧ F_X12_thrown I2 = some k0 ∧ (k0 = 0 → J9 218 0 = b.toInt64) ∧ G I2 := by
  cases r with
  | inl v =>
    obtain ⟨r, b, I2, J2, k0, h1b, h2, hJ, h3, h4, hG⟩ := h (up2 J 218 0 v.toInt64)
    cases h1.symm.trans h1b
    obtain ⟨rfl, rfl⟩ := h4
    exact ⟨_, 0, ⟨rfl, rfl⟩, _, _, _, h2, hJ, h3, fun _ => by rw [up2_get, if_pos ⟨rfl, rfl⟩], hG⟩
  | inr E =>
    obtain ⟨r, b, I2, J2, k0, h1b, h2, hJ, h3, h4, hG⟩ := h J
    cases h1.symm.trans h1b
    obtain ⟨J9, hw, hk⟩ := same_out (J := J) h4 (by decide)
    obtain ⟨rfl, hw2⟩ := hw
    exact ⟨_, k0, ⟨rfl, hw2⟩, _, _, _, h2, hJ, h3, hk, hG⟩
theorem LC_feed (hi : inS g i) (hr9 : rL nc ns) (hp : Wp P) (h : St_feed G I (gxs g (i + 1).toNatClampNeg) (gxs g (i + 2).toNatClampNeg) (gxs g (i + 3).toNatClampNeg) (gxs g (i + 4).toNatClampNeg) (gxs g (i + 5).toNatClampNeg)) (k : KL g G nc ns i) : Y g mL_law_ (ZL g) nc ns 244 (lsL i none none) [] (NT, I, J, P) := by
  obtain ⟨r, I1, I2, h1, h2, hG⟩ := h
  refine Y_aload_n (pc := 244) dL_law__244 rfl ?_
  refine Y_aload_n (pc := 245) dL_law__245 rfl ?_
  refine Y_iload (pc := 246) dL_law__246 rfl ?_
  refine Y_iconst (pc := 248) dL_law__248 (v := 1) rfl ?_
  refine Y_iadd (pc := 249) dL_law__249 ?_
  refine Y_sld (pc := 250) dL_law__250 (hi _ (by decide) (by decide)) ?_
  refine Y_aload_n (pc := 251) dL_law__251 rfl ?_
  refine Y_iload (pc := 252) dL_law__252 rfl ?_
  refine Y_iconst (pc := 254) dL_law__254 (v := 2) rfl ?_
  refine Y_iadd (pc := 255) dL_law__255 ?_
  refine Y_sld (pc := 256) dL_law__256 (hi _ (by decide) (by decide)) ?_
  refine Y_aload_n (pc := 257) dL_law__257 rfl ?_
  refine Y_iload (pc := 258) dL_law__258 rfl ?_
  refine Y_iconst (pc := 260) dL_law__260 (v := 3) rfl ?_
  refine Y_iadd (pc := 261) dL_law__261 ?_
  refine Y_sld (pc := 262) dL_law__262 (hi _ (by decide) (by decide)) ?_
  refine Y_aload_n (pc := 263) dL_law__263 rfl ?_
  refine Y_iload (pc := 264) dL_law__264 rfl ?_
  refine Y_iconst (pc := 266) dL_law__266 (v := 4) rfl ?_
  refine Y_iadd (pc := 267) dL_law__267 ?_
  refine Y_sld (pc := 268) dL_law__268 (hi _ (by decide) (by decide)) ?_
  refine Y_aload_n (pc := 269) dL_law__269 rfl ?_
  refine Y_iload (pc := 270) dL_law__270 rfl ?_
  refine Y_iconst (pc := 272) dL_law__272 (v := 5) rfl ?_
  refine Y_iadd (pc := 273) dL_law__273 ?_
  refine Y_sld (pc := 274) dL_law__274 (hi _ (by decide) (by decide)) ?_
  refine Y_callVi (pc := 275) (d := 1) dL_law__275 v_L_112 rfl rfl at_10 (Nat.le_of_ble_eq_true rfl) rfl rfl (C_X11_feed (d := 0) hp h1) (hr9.at0 _ (by decide)) ?_
  refine Y_aload_n (pc := 278) dL_law__278 rfl ?_
  refine Y_aload_n (pc := 279) dL_law__279 rfl ?_
  refine Y_iload (pc := 280) dL_law__280 rfl ?_
  refine Y_iconst (pc := 282) dL_law__282 (v := 1) rfl ?_
  refine Y_iadd (pc := 283) dL_law__283 ?_
  refine Y_sld (pc := 284) dL_law__284 (hi _ (by decide) (by decide)) ?_
  refine Y_aload_n (pc := 285) dL_law__285 rfl ?_
  refine Y_iload (pc := 286) dL_law__286 rfl ?_
  refine Y_iconst (pc := 288) dL_law__288 (v := 2) rfl ?_
  refine Y_iadd (pc := 289) dL_law__289 ?_
  refine Y_sld (pc := 290) dL_law__290 (hi _ (by decide) (by decide)) ?_
  refine Y_aload_n (pc := 291) dL_law__291 rfl ?_
  refine Y_iload (pc := 292) dL_law__292 rfl ?_
  refine Y_iconst (pc := 294) dL_law__294 (v := 3) rfl ?_
  refine Y_iadd (pc := 295) dL_law__295 ?_
  refine Y_sld (pc := 296) dL_law__296 (hi _ (by decide) (by decide)) ?_
  refine Y_aload_n (pc := 297) dL_law__297 rfl ?_
  refine Y_iload (pc := 298) dL_law__298 rfl ?_
  refine Y_iconst (pc := 300) dL_law__300 (v := 4) rfl ?_
  refine Y_iadd (pc := 301) dL_law__301 ?_
  refine Y_sld (pc := 302) dL_law__302 (hi _ (by decide) (by decide)) ?_
  refine Y_aload_n (pc := 303) dL_law__303 rfl ?_
  refine Y_iload (pc := 304) dL_law__304 rfl ?_
  refine Y_iconst (pc := 306) dL_law__306 (v := 5) rfl ?_
  refine Y_iadd (pc := 307) dL_law__307 ?_
  refine Y_sld (pc := 308) dL_law__308 (hi _ (by decide) (by decide)) ?_
  refine Y_callVi (pc := 309) (d := 0) dL_law__309 v_L_116 rfl rfl at_11 (Nat.le_of_ble_eq_true rfl) rfl rfl (C_X12_feed (d := 0) hp h2) (hr9.at0 _ (by decide)) ?_
  refine Y_icmp_eq (pc := 312) (tgt := 2309) dL_law__312 (by decide) (fun _ => ?_) (fun q => absurd rfl q)
  exact Y_widen (Nat.le_succ _) (Nat.le_add_right _ 6) (k _ _ _ _ _ hG hp)
theorem LC_end (hi : inS g i) (hr9 : rL nc ns) (hp : Wp P) (h : St_end G I (gxs g (i + 1).toNatClampNeg)) (k : KL g G nc ns i) : Y g mL_law_ (ZL g) nc ns 317 (lsL i none none) [] (NT, I, J, P) := by
  obtain ⟨r, I1, I2, h1, h2, hG⟩ := h
  refine Y_aload_n (pc := 317) dL_law__317 rfl ?_
  refine Y_aload_n (pc := 318) dL_law__318 rfl ?_
  refine Y_iload (pc := 319) dL_law__319 rfl ?_
  refine Y_iconst (pc := 321) dL_law__321 (v := 1) rfl ?_
  refine Y_iadd (pc := 322) dL_law__322 ?_
  refine Y_sld (pc := 323) dL_law__323 (hi _ (by decide) (by decide)) ?_
  refine Y_callVi (pc := 324) (d := 0) dL_law__324 v_L_117 rfl rfl at_10 (Nat.le_of_ble_eq_true rfl) rfl rfl (C_X11_end (d := 0) hp h1) (hr9.at0 _ (by decide)) ?_
  refine Y_aload_n (pc := 327) dL_law__327 rfl ?_
  refine Y_aload_n (pc := 328) dL_law__328 rfl ?_
  refine Y_iload (pc := 329) dL_law__329 rfl ?_
  refine Y_iconst (pc := 331) dL_law__331 (v := 1) rfl ?_
  refine Y_iadd (pc := 332) dL_law__332 ?_
  refine Y_sld (pc := 333) dL_law__333 (hi _ (by decide) (by decide)) ?_
  refine Y_callVi (pc := 334) (d := 0) dL_law__334 v_L_121 rfl rfl at_11 (Nat.le_of_ble_eq_true rfl) rfl rfl (C_X12_end (d := 0) hp h2) (hr9.at0 _ (by decide)) ?_
  refine Y_icmp_eq (pc := 337) (tgt := 2309) dL_law__337 (by decide) (fun _ => ?_) (fun q => absurd rfl q)
  exact Y_widen (Nat.le_succ _) (Nat.le_add_right _ 6) (k _ _ _ _ _ hG hp)
theorem LC_life (hi : inS g i) (hr9 : rL nc ns) (hp : Wp P) (h : St_life G I) (k : KL g G nc ns i) : Y g mL_law_ (ZL g) nc ns 342 (lsL i none none) [] (NT, I, J, P) := by
  obtain ⟨r, I1, b, I2, k0, h1, h2, h3, h4, hG⟩ := h
  obtain ⟨J9, hw, hk⟩ := same_out (J := J) h4 (by decide)
  refine Y_aload_n (pc := 342) dL_law__342 rfl ?_
  refine Y_aload_n (pc := 343) dL_law__343 rfl ?_
  refine Y_callW (pc := 344) (d := 10) dL_law__344 wf_life rfl rfl (Nat.le_of_ble_eq_true rfl) (W_life (d := 0) hp h1 hw) (hr9.at _ (by decide)) ?_
  have rw9 : ∀ (d : Nat) (_ : d ≤ 120), d + 1 ≤ (ZL g).1.frames ∧ 8 + (40 + 11) + 64 * d ≤ (ZL g).1.locals ∧ nc + 1 ≤ (ZL g).1.cells ∧ ns + 6 ≤ (ZL g).1.slots := fun d hd => hr9.at1 d hd
  have hp2 : Wp (up2 P 138 0 (some 2)) := Wp_up hp (by decide +kernel)
  refine Y_istore (pc := 347) dL_law__347 (by decide) rfl ?_
  refine Y_aload_n (pc := 349) dL_law__349 rfl ?_
  refine Y_callVi (pc := 350) (d := 110) dL_law__350 v_L_127 rfl rfl at_11 (Nat.le_of_ble_eq_true rfl) rfl rfl (C_X12_life (d := 0) hp2 h2) (rw9 _ (by decide)) ?_
  refine Y_istore (pc := 353) dL_law__353 (by decide) rfl ?_
  refine Y_aload_n (pc := 355) dL_law__355 rfl ?_
  refine Y_callVi (pc := 356) (d := 0) dL_law__356 v_L_128 rfl rfl at_11 (Nat.le_of_ble_eq_true rfl) rfl rfl (C_X12_thrown (d := 0) hp2 h3) (rw9 _ (by decide)) ?_
  refine Y_iload (pc := 359) dL_law__359 rfl ?_
  refine Y_icmp_eq (pc := 361) (tgt := 366) dL_law__361 (by decide) (fun _ => ?_) (fun q => absurd rfl q)
  refine Y_iload (pc := 366) dL_law__366 rfl ?_
  refine Y_if_ne (pc := 368) (tgt := 383) dL_law__368 (by decide) (fun hk0 => ?_) (fun hk0 => ?_)
  · exact Y_goto (pc := 383) (tgt := 2309) dL_law__383 (by decide) (k _ _ _ _ _ hG hp2)
  · skip
    refine Y_aload_n (pc := 371) dL_law__371 rfl ?_
    refine Y_iconst (pc := 372) dL_law__372 (v := 0) rfl ?_
    refine Y_lald (pc := 373) (t := NT) dL_law__373 ar_out vp01 ?_
    refine Y_iload (pc := 374) dL_law__374 rfl ?_
    refine Y_i2l (pc := 376) dL_law__376 ?_
    refine Y_lcmp (pc := 377) dL_law__377 ?_
    refine Y_if_eq (pc := 378) (tgt := 383) dL_law__378 (by decide) (fun _ => ?_) (fun q => absurd (cmp_same (hk hk0)) q)
    exact Y_goto (pc := 383) (tgt := 2309) dL_law__383 (by decide) (k _ _ _ _ _ hG hp2)
theorem LC_law (hi : inS g i) (hr9 : rL nc ns) (hp : Wp P) (h : St_law G I) (k : KL g G nc ns i) : Y g mL_law_ (ZL g) nc ns 386 (lsL i none none) [] (NT, I, J, P) := by
  obtain ⟨r, I1, b, I2, k0, h1, h2, h3, h4, hG⟩ := h
  obtain ⟨J9, hw, hk⟩ := same_out (J := J) h4 (by decide)
  refine Y_aload_n (pc := 386) dL_law__386 rfl ?_
  refine Y_aload_n (pc := 387) dL_law__387 rfl ?_
  refine Y_callW (pc := 388) (d := 12) dL_law__388 wf_law rfl rfl (Nat.le_of_ble_eq_true rfl) (W_law (d := 0) hp h1 hw) (hr9.at _ (by decide)) ?_
  have rw9 : ∀ (d : Nat) (_ : d ≤ 120), d + 1 ≤ (ZL g).1.frames ∧ 8 + (40 + 11) + 64 * d ≤ (ZL g).1.locals ∧ nc + 1 ≤ (ZL g).1.cells ∧ ns + 6 ≤ (ZL g).1.slots := fun d hd => hr9.at1 d hd
  have hp2 : Wp (up2 P 146 0 (some 2)) := Wp_up hp (by decide +kernel)
  refine Y_istore (pc := 391) dL_law__391 (by decide) rfl ?_
  refine Y_aload_n (pc := 393) dL_law__393 rfl ?_
  refine Y_callVi (pc := 394) (d := 110) dL_law__394 v_L_133 rfl rfl at_11 (Nat.le_of_ble_eq_true rfl) rfl rfl (C_X12_law (d := 0) hp2 h2) (rw9 _ (by decide)) ?_
  refine Y_istore (pc := 397) dL_law__397 (by decide) rfl ?_
  refine Y_aload_n (pc := 399) dL_law__399 rfl ?_
  refine Y_callVi (pc := 400) (d := 0) dL_law__400 v_L_128 rfl rfl at_11 (Nat.le_of_ble_eq_true rfl) rfl rfl (C_X12_thrown (d := 0) hp2 h3) (rw9 _ (by decide)) ?_
  refine Y_iload (pc := 403) dL_law__403 rfl ?_
  refine Y_icmp_eq (pc := 405) (tgt := 410) dL_law__405 (by decide) (fun _ => ?_) (fun q => absurd rfl q)
  refine Y_iload (pc := 410) dL_law__410 rfl ?_
  refine Y_if_ne (pc := 412) (tgt := 427) dL_law__412 (by decide) (fun hk0 => ?_) (fun hk0 => ?_)
  · exact Y_goto (pc := 427) (tgt := 2309) dL_law__427 (by decide) (k _ _ _ _ _ hG hp2)
  · skip
    refine Y_aload_n (pc := 415) dL_law__415 rfl ?_
    refine Y_iconst (pc := 416) dL_law__416 (v := 0) rfl ?_
    refine Y_lald (pc := 417) (t := NT) dL_law__417 ar_out vp01 ?_
    refine Y_iload (pc := 418) dL_law__418 rfl ?_
    refine Y_i2l (pc := 420) dL_law__420 ?_
    refine Y_lcmp (pc := 421) dL_law__421 ?_
    refine Y_if_eq (pc := 422) (tgt := 427) dL_law__422 (by decide) (fun _ => ?_) (fun q => absurd (cmp_same (hk hk0)) q)
    exact Y_goto (pc := 427) (tgt := 2309) dL_law__427 (by decide) (k _ _ _ _ _ hG hp2)
theorem LC_fault (hi : inS g i) (hr9 : rL nc ns) (hp : Wp P) (h : St_fault G I) (k : KL g G nc ns i) : Y g mL_law_ (ZL g) nc ns 430 (lsL i none none) [] (NT, I, J, P) := by
  obtain ⟨r, I2, h1, h2, hG⟩ := h
  refine Y_aload_n (pc := 430) dL_law__430 rfl ?_
  refine Y_callVi (pc := 431) (d := 0) dL_law__431 v_L_134 rfl rfl at_10 (Nat.le_of_ble_eq_true rfl) rfl rfl (C_X11_fault (d := 0) hp h1) (hr9.at0 _ (by decide)) ?_
  refine Y_aload_n (pc := 434) dL_law__434 rfl ?_
  refine Y_callVi (pc := 435) (d := 0) dL_law__435 v_L_137 rfl rfl at_11 (Nat.le_of_ble_eq_true rfl) rfl rfl (C_X12_fault (d := 0) hp h2) (hr9.at0 _ (by decide)) ?_
  refine Y_icmp_eq (pc := 438) (tgt := 2309) dL_law__438 (by decide) (fun _ => ?_) (fun q => absurd rfl q)
  exact Y_widen (Nat.le_succ _) (Nat.le_add_right _ 6) (k _ _ _ _ _ hG hp)
theorem LC_dish (hi : inS g i) (hr9 : rL nc ns) (hp : Wp P) (h : St_dish G I (gxs g (i + 1).toNatClampNeg) (gxs g (i + 2).toNatClampNeg)) (k : KL g G nc ns i) : Y g mL_law_ (ZL g) nc ns 443 (lsL i none none) [] (NT, I, J, P) := by
  obtain ⟨r, I1, b, I2, k0, h1, h2, h3, h4, hG⟩ := h
  obtain ⟨J9, hw, hk⟩ := same_out (J := J) h4 (by decide)
  refine Y_aload_n (pc := 443) dL_law__443 rfl ?_
  refine Y_aload_n (pc := 444) dL_law__444 rfl ?_
  refine Y_iload (pc := 445) dL_law__445 rfl ?_
  refine Y_iconst (pc := 447) dL_law__447 (v := 1) rfl ?_
  refine Y_iadd (pc := 448) dL_law__448 ?_
  refine Y_sld (pc := 449) dL_law__449 (hi _ (by decide) (by decide)) ?_
  refine Y_aload_n (pc := 450) dL_law__450 rfl ?_
  refine Y_iload (pc := 451) dL_law__451 rfl ?_
  refine Y_iconst (pc := 453) dL_law__453 (v := 2) rfl ?_
  refine Y_iadd (pc := 454) dL_law__454 ?_
  refine Y_sld (pc := 455) dL_law__455 (hi _ (by decide) (by decide)) ?_
  refine Y_aload_n (pc := 456) dL_law__456 rfl ?_
  refine Y_callW (pc := 457) (d := 7) dL_law__457 wf_dish rfl rfl (Nat.le_of_ble_eq_true rfl) (W_dish (d := 0) hp h1 hw) (hr9.at _ (by decide)) ?_
  have rw9 : ∀ (d : Nat) (_ : d ≤ 120), d + 1 ≤ (ZL g).1.frames ∧ 8 + (40 + 11) + 64 * d ≤ (ZL g).1.locals ∧ nc + 1 ≤ (ZL g).1.cells ∧ ns + 6 ≤ (ZL g).1.slots := fun d hd => hr9.at1 d hd
  refine Y_istore (pc := 460) dL_law__460 (by decide) rfl ?_
  refine Y_aload_n (pc := 462) dL_law__462 rfl ?_
  refine Y_aload_n (pc := 463) dL_law__463 rfl ?_
  refine Y_iload (pc := 464) dL_law__464 rfl ?_
  refine Y_iconst (pc := 466) dL_law__466 (v := 1) rfl ?_
  refine Y_iadd (pc := 467) dL_law__467 ?_
  refine Y_sld (pc := 468) dL_law__468 (hi _ (by decide) (by decide)) ?_
  refine Y_aload_n (pc := 469) dL_law__469 rfl ?_
  refine Y_iload (pc := 470) dL_law__470 rfl ?_
  refine Y_iconst (pc := 472) dL_law__472 (v := 2) rfl ?_
  refine Y_iadd (pc := 473) dL_law__473 ?_
  refine Y_sld (pc := 474) dL_law__474 (hi _ (by decide) (by decide)) ?_
  refine Y_callVi (pc := 475) (d := 8) dL_law__475 v_L_141 rfl rfl at_11 (Nat.le_of_ble_eq_true rfl) rfl rfl (C_X12_dish (d := 0) hp h2) (rw9 _ (by decide)) ?_
  refine Y_istore (pc := 478) dL_law__478 (by decide) rfl ?_
  refine Y_aload_n (pc := 480) dL_law__480 rfl ?_
  refine Y_callVi (pc := 481) (d := 0) dL_law__481 v_L_128 rfl rfl at_11 (Nat.le_of_ble_eq_true rfl) rfl rfl (C_X12_thrown (d := 0) hp h3) (rw9 _ (by decide)) ?_
  refine Y_iload (pc := 484) dL_law__484 rfl ?_
  refine Y_icmp_eq (pc := 486) (tgt := 491) dL_law__486 (by decide) (fun _ => ?_) (fun q => absurd rfl q)
  refine Y_iload (pc := 491) dL_law__491 rfl ?_
  refine Y_if_ne (pc := 493) (tgt := 508) dL_law__493 (by decide) (fun hk0 => ?_) (fun hk0 => ?_)
  · exact Y_goto (pc := 508) (tgt := 2309) dL_law__508 (by decide) (k _ _ _ _ _ hG hp)
  · skip
    refine Y_aload_n (pc := 496) dL_law__496 rfl ?_
    refine Y_iconst (pc := 497) dL_law__497 (v := 0) rfl ?_
    refine Y_lald (pc := 498) (t := NT) dL_law__498 ar_out vp01 ?_
    refine Y_iload (pc := 499) dL_law__499 rfl ?_
    refine Y_i2l (pc := 501) dL_law__501 ?_
    refine Y_lcmp (pc := 502) dL_law__502 ?_
    refine Y_if_eq (pc := 503) (tgt := 508) dL_law__503 (by decide) (fun _ => ?_) (fun q => absurd (cmp_same (hk hk0)) q)
    exact Y_goto (pc := 508) (tgt := 2309) dL_law__508 (by decide) (k _ _ _ _ _ hG hp)
theorem LC_far (hi : inS g i) (hr9 : rL nc ns) (hp : Wp P) (h : St_far G I (gxs g (i + 1).toNatClampNeg) (gxs g (i + 2).toNatClampNeg)) (k : KL g G nc ns i) : Y g mL_law_ (ZL g) nc ns 511 (lsL i none none) [] (NT, I, J, P) := by
  obtain ⟨r, b, I2, k0, h1, h2, h3, h4, hG⟩ := h
  obtain ⟨J9, hw, hk⟩ := same_out (J := J) h4 (by decide)
  refine Y_aload_n (pc := 511) dL_law__511 rfl ?_
  refine Y_aload_n (pc := 512) dL_law__512 rfl ?_
  refine Y_iload (pc := 513) dL_law__513 rfl ?_
  refine Y_iconst (pc := 515) dL_law__515 (v := 1) rfl ?_
  refine Y_iadd (pc := 516) dL_law__516 ?_
  refine Y_sld (pc := 517) dL_law__517 (hi _ (by decide) (by decide)) ?_
  refine Y_aload_n (pc := 518) dL_law__518 rfl ?_
  refine Y_iload (pc := 519) dL_law__519 rfl ?_
  refine Y_iconst (pc := 521) dL_law__521 (v := 2) rfl ?_
  refine Y_iadd (pc := 522) dL_law__522 ?_
  refine Y_sld (pc := 523) dL_law__523 (hi _ (by decide) (by decide)) ?_
  refine Y_aload_n (pc := 524) dL_law__524 rfl ?_
  refine Y_callW (pc := 525) (d := 7) dL_law__525 wf_far rfl rfl (Nat.le_of_ble_eq_true rfl) (W_far (d := 0) hp h1 hw) (hr9.at _ (by decide)) ?_
  have rw9 : ∀ (d : Nat) (_ : d ≤ 120), d + 1 ≤ (ZL g).1.frames ∧ 8 + (40 + 11) + 64 * d ≤ (ZL g).1.locals ∧ nc + 1 ≤ (ZL g).1.cells ∧ ns + 6 ≤ (ZL g).1.slots := fun d hd => hr9.at1 d hd
  refine Y_istore (pc := 528) dL_law__528 (by decide) rfl ?_
  refine Y_aload_n (pc := 530) dL_law__530 rfl ?_
  refine Y_aload_n (pc := 531) dL_law__531 rfl ?_
  refine Y_iload (pc := 532) dL_law__532 rfl ?_
  refine Y_iconst (pc := 534) dL_law__534 (v := 1) rfl ?_
  refine Y_iadd (pc := 535) dL_law__535 ?_
  refine Y_sld (pc := 536) dL_law__536 (hi _ (by decide) (by decide)) ?_
  refine Y_aload_n (pc := 537) dL_law__537 rfl ?_
  refine Y_iload (pc := 538) dL_law__538 rfl ?_
  refine Y_iconst (pc := 540) dL_law__540 (v := 2) rfl ?_
  refine Y_iadd (pc := 541) dL_law__541 ?_
  refine Y_sld (pc := 542) dL_law__542 (hi _ (by decide) (by decide)) ?_
  refine Y_callVi (pc := 543) (d := 3) dL_law__543 v_L_144 rfl rfl at_11 (Nat.le_of_ble_eq_true rfl) rfl rfl (C_X12_far (d := 0) hp h2) (rw9 _ (by decide)) ?_
  refine Y_istore (pc := 546) dL_law__546 (by decide) rfl ?_
  refine Y_aload_n (pc := 548) dL_law__548 rfl ?_
  refine Y_callVi (pc := 549) (d := 0) dL_law__549 v_L_128 rfl rfl at_11 (Nat.le_of_ble_eq_true rfl) rfl rfl (C_X12_thrown (d := 0) hp h3) (rw9 _ (by decide)) ?_
  refine Y_iload (pc := 552) dL_law__552 rfl ?_
  refine Y_icmp_eq (pc := 554) (tgt := 559) dL_law__554 (by decide) (fun _ => ?_) (fun q => absurd rfl q)
  refine Y_iload (pc := 559) dL_law__559 rfl ?_
  refine Y_if_ne (pc := 561) (tgt := 576) dL_law__561 (by decide) (fun hk0 => ?_) (fun hk0 => ?_)
  · exact Y_goto (pc := 576) (tgt := 2309) dL_law__576 (by decide) (k _ _ _ _ _ hG hp)
  · skip
    refine Y_aload_n (pc := 564) dL_law__564 rfl ?_
    refine Y_iconst (pc := 565) dL_law__565 (v := 0) rfl ?_
    refine Y_lald (pc := 566) (t := NT) dL_law__566 ar_out vp01 ?_
    refine Y_iload (pc := 567) dL_law__567 rfl ?_
    refine Y_i2l (pc := 569) dL_law__569 ?_
    refine Y_lcmp (pc := 570) dL_law__570 ?_
    refine Y_if_eq (pc := 571) (tgt := 576) dL_law__571 (by decide) (fun _ => ?_) (fun q => absurd (cmp_same (hk hk0)) q)
    exact Y_goto (pc := 576) (tgt := 2309) dL_law__576 (by decide) (k _ _ _ _ _ hG hp)
theorem LC_near (hi : inS g i) (hr9 : rL nc ns) (hp : Wp P) (h : St_near G I (gxs g (i + 1).toNatClampNeg)) (k : KL g G nc ns i) : Y g mL_law_ (ZL g) nc ns 579 (lsL i none none) [] (NT, I, J, P) := by
  obtain ⟨r, b, I2, k0, h1, h2, h3, h4, hG⟩ := h
  obtain ⟨J9, hw, hk⟩ := same_out (J := J) h4 (by decide)
  refine Y_aload_n (pc := 579) dL_law__579 rfl ?_
  refine Y_aload_n (pc := 580) dL_law__580 rfl ?_
  refine Y_iload (pc := 581) dL_law__581 rfl ?_
  refine Y_iconst (pc := 583) dL_law__583 (v := 1) rfl ?_
  refine Y_iadd (pc := 584) dL_law__584 ?_
  refine Y_sld (pc := 585) dL_law__585 (hi _ (by decide) (by decide)) ?_
  refine Y_aload_n (pc := 586) dL_law__586 rfl ?_
  refine Y_callW (pc := 587) (d := 7) dL_law__587 wf_near rfl rfl (Nat.le_of_ble_eq_true rfl) (W_near (d := 0) hp h1 hw) (hr9.at _ (by decide)) ?_
  have rw9 : ∀ (d : Nat) (_ : d ≤ 120), d + 1 ≤ (ZL g).1.frames ∧ 8 + (40 + 11) + 64 * d ≤ (ZL g).1.locals ∧ nc + 1 ≤ (ZL g).1.cells ∧ ns + 6 ≤ (ZL g).1.slots := fun d hd => hr9.at1 d hd
  refine Y_istore (pc := 590) dL_law__590 (by decide) rfl ?_
  refine Y_aload_n (pc := 592) dL_law__592 rfl ?_
  refine Y_aload_n (pc := 593) dL_law__593 rfl ?_
  refine Y_iload (pc := 594) dL_law__594 rfl ?_
  refine Y_iconst (pc := 596) dL_law__596 (v := 1) rfl ?_
  refine Y_iadd (pc := 597) dL_law__597 ?_
  refine Y_sld (pc := 598) dL_law__598 (hi _ (by decide) (by decide)) ?_
  refine Y_callVi (pc := 599) (d := 3) dL_law__599 v_L_148 rfl rfl at_11 (Nat.le_of_ble_eq_true rfl) rfl rfl (C_X12_near (d := 0) hp h2) (rw9 _ (by decide)) ?_
  refine Y_istore (pc := 602) dL_law__602 (by decide) rfl ?_
  refine Y_aload_n (pc := 604) dL_law__604 rfl ?_
  refine Y_callVi (pc := 605) (d := 0) dL_law__605 v_L_128 rfl rfl at_11 (Nat.le_of_ble_eq_true rfl) rfl rfl (C_X12_thrown (d := 0) hp h3) (rw9 _ (by decide)) ?_
  refine Y_iload (pc := 608) dL_law__608 rfl ?_
  refine Y_icmp_eq (pc := 610) (tgt := 615) dL_law__610 (by decide) (fun _ => ?_) (fun q => absurd rfl q)
  refine Y_iload (pc := 615) dL_law__615 rfl ?_
  refine Y_if_ne (pc := 617) (tgt := 632) dL_law__617 (by decide) (fun hk0 => ?_) (fun hk0 => ?_)
  · exact Y_goto (pc := 632) (tgt := 2309) dL_law__632 (by decide) (k _ _ _ _ _ hG hp)
  · skip
    refine Y_aload_n (pc := 620) dL_law__620 rfl ?_
    refine Y_iconst (pc := 621) dL_law__621 (v := 0) rfl ?_
    refine Y_lald (pc := 622) (t := NT) dL_law__622 ar_out vp01 ?_
    refine Y_iload (pc := 623) dL_law__623 rfl ?_
    refine Y_i2l (pc := 625) dL_law__625 ?_
    refine Y_lcmp (pc := 626) dL_law__626 ?_
    refine Y_if_eq (pc := 627) (tgt := 632) dL_law__627 (by decide) (fun _ => ?_) (fun q => absurd (cmp_same (hk hk0)) q)
    exact Y_goto (pc := 632) (tgt := 2309) dL_law__632 (by decide) (k _ _ _ _ _ hG hp)
theorem LC_left (hi : inS g i) (hr9 : rL nc ns) (hp : Wp P) (h : St_left G I) (k : KL g G nc ns i) : Y g mL_law_ (ZL g) nc ns 635 (lsL i none none) [] (NT, I, J, P) := by
  obtain ⟨r, I2, h1, h2, hG⟩ := h
  refine Y_aload_n (pc := 635) dL_law__635 rfl ?_
  refine Y_callVi (pc := 636) (d := 2) dL_law__636 v_L_149 rfl rfl at_10 (Nat.le_of_ble_eq_true rfl) rfl rfl (C_X11_left (d := 0) hp h1) (hr9.at0 _ (by decide)) ?_
  refine Y_aload_n (pc := 639) dL_law__639 rfl ?_
  refine Y_callVi (pc := 640) (d := 4) dL_law__640 v_L_152 rfl rfl at_11 (Nat.le_of_ble_eq_true rfl) rfl rfl (C_X12_left (d := 0) hp h2) (hr9.at0 _ (by decide)) ?_
  refine Y_icmp_eq (pc := 643) (tgt := 2309) dL_law__643 (by decide) (fun _ => ?_) (fun q => absurd rfl q)
  exact Y_widen (Nat.le_succ _) (Nat.le_add_right _ 6) (k _ _ _ _ _ hG hp)
theorem LC_spoon (hi : inS g i) (hr9 : rL nc ns) (hp : Wp P) (h : St_spoon G I (gxs g (i + 1).toNatClampNeg)) (k : KL g G nc ns i) : Y g mL_law_ (ZL g) nc ns 648 (lsL i none none) [] (NT, I, J, P) := by
  obtain ⟨r, I1, b, I2, k0, h1, h2, h3, h4, hG⟩ := h
  obtain ⟨J9, hw, hk⟩ := same_out (J := J) h4 (by decide)
  refine Y_aload_n (pc := 648) dL_law__648 rfl ?_
  refine Y_aload_n (pc := 649) dL_law__649 rfl ?_
  refine Y_iload (pc := 650) dL_law__650 rfl ?_
  refine Y_iconst (pc := 652) dL_law__652 (v := 1) rfl ?_
  refine Y_iadd (pc := 653) dL_law__653 ?_
  refine Y_sld (pc := 654) dL_law__654 (hi _ (by decide) (by decide)) ?_
  refine Y_aload_n (pc := 655) dL_law__655 rfl ?_
  refine Y_callW (pc := 656) (d := 7) dL_law__656 wf_spoon rfl rfl (Nat.le_of_ble_eq_true rfl) (W_spoon (d := 0) hp h1 hw) (hr9.at _ (by decide)) ?_
  have rw9 : ∀ (d : Nat) (_ : d ≤ 120), d + 1 ≤ (ZL g).1.frames ∧ 8 + (40 + 11) + 64 * d ≤ (ZL g).1.locals ∧ nc + 1 ≤ (ZL g).1.cells ∧ ns + 6 ≤ (ZL g).1.slots := fun d hd => hr9.at1 d hd
  refine Y_istore (pc := 659) dL_law__659 (by decide) rfl ?_
  refine Y_aload_n (pc := 661) dL_law__661 rfl ?_
  refine Y_aload_n (pc := 662) dL_law__662 rfl ?_
  refine Y_iload (pc := 663) dL_law__663 rfl ?_
  refine Y_iconst (pc := 665) dL_law__665 (v := 1) rfl ?_
  refine Y_iadd (pc := 666) dL_law__666 ?_
  refine Y_sld (pc := 667) dL_law__667 (hi _ (by decide) (by decide)) ?_
  refine Y_callVi (pc := 668) (d := 9) dL_law__668 v_L_155 rfl rfl at_11 (Nat.le_of_ble_eq_true rfl) rfl rfl (C_X12_spoon (d := 0) hp h2) (rw9 _ (by decide)) ?_
  refine Y_istore (pc := 671) dL_law__671 (by decide) rfl ?_
  refine Y_aload_n (pc := 673) dL_law__673 rfl ?_
  refine Y_callVi (pc := 674) (d := 0) dL_law__674 v_L_128 rfl rfl at_11 (Nat.le_of_ble_eq_true rfl) rfl rfl (C_X12_thrown (d := 0) hp h3) (rw9 _ (by decide)) ?_
  refine Y_iload (pc := 677) dL_law__677 rfl ?_
  refine Y_icmp_eq (pc := 679) (tgt := 684) dL_law__679 (by decide) (fun _ => ?_) (fun q => absurd rfl q)
  refine Y_iload (pc := 684) dL_law__684 rfl ?_
  refine Y_if_ne (pc := 686) (tgt := 701) dL_law__686 (by decide) (fun hk0 => ?_) (fun hk0 => ?_)
  · exact Y_goto (pc := 701) (tgt := 2309) dL_law__701 (by decide) (k _ _ _ _ _ hG hp)
  · skip
    refine Y_aload_n (pc := 689) dL_law__689 rfl ?_
    refine Y_iconst (pc := 690) dL_law__690 (v := 0) rfl ?_
    refine Y_lald (pc := 691) (t := NT) dL_law__691 ar_out vp01 ?_
    refine Y_iload (pc := 692) dL_law__692 rfl ?_
    refine Y_i2l (pc := 694) dL_law__694 ?_
    refine Y_lcmp (pc := 695) dL_law__695 ?_
    refine Y_if_eq (pc := 696) (tgt := 701) dL_law__696 (by decide) (fun _ => ?_) (fun q => absurd (cmp_same (hk hk0)) q)
    exact Y_goto (pc := 701) (tgt := 2309) dL_law__701 (by decide) (k _ _ _ _ _ hG hp)
theorem LC_crust (hi : inS g i) (hr9 : rL nc ns) (hp : Wp P) (h : St_crust G I) (k : KL g G nc ns i) : Y g mL_law_ (ZL g) nc ns 704 (lsL i none none) [] (NT, I, J, P) := by
  obtain ⟨r, I1, I2, h1, h2, hG⟩ := h
  refine Y_aload_n (pc := 704) dL_law__704 rfl ?_
  refine Y_callVi (pc := 705) (d := 4) dL_law__705 v_L_156 rfl rfl at_10 (Nat.le_of_ble_eq_true rfl) rfl rfl (C_X11_crust (d := 0) hp h1) (hr9.at0 _ (by decide)) ?_
  refine Y_aload_n (pc := 708) dL_law__708 rfl ?_
  refine Y_callVi (pc := 709) (d := 2) dL_law__709 v_L_159 rfl rfl at_11 (Nat.le_of_ble_eq_true rfl) rfl rfl (C_X12_crust (d := 0) hp h2) (hr9.at0 _ (by decide)) ?_
  refine Y_icmp_eq (pc := 712) (tgt := 2309) dL_law__712 (by decide) (fun _ => ?_) (fun q => absurd rfl q)
  exact Y_widen (Nat.le_succ _) (Nat.le_add_right _ 6) (k _ _ _ _ _ hG hp)
theorem LC_had (hi : inS g i) (hr9 : rL nc ns) (hp : Wp P) (h : St_had G I (gxs g (i + 1).toNatClampNeg) (gxs g (i + 2).toNatClampNeg) (gxs g (i + 3).toNatClampNeg) (gxs g (i + 4).toNatClampNeg)) (k : KL g G nc ns i) : Y g mL_law_ (ZL g) nc ns 717 (lsL i none none) [] (NT, I, J, P) := by
  obtain ⟨r, I1, b, I2, k0, h1, h2, h3, h4, hG⟩ := h
  obtain ⟨J9, hw, hk⟩ := same_out (J := J) h4 (by decide)
  refine Y_aload_n (pc := 717) dL_law__717 rfl ?_
  refine Y_aload_n (pc := 718) dL_law__718 rfl ?_
  refine Y_iload (pc := 719) dL_law__719 rfl ?_
  refine Y_iconst (pc := 721) dL_law__721 (v := 1) rfl ?_
  refine Y_iadd (pc := 722) dL_law__722 ?_
  refine Y_sld (pc := 723) dL_law__723 (hi _ (by decide) (by decide)) ?_
  refine Y_aload_n (pc := 724) dL_law__724 rfl ?_
  refine Y_iload (pc := 725) dL_law__725 rfl ?_
  refine Y_iconst (pc := 727) dL_law__727 (v := 2) rfl ?_
  refine Y_iadd (pc := 728) dL_law__728 ?_
  refine Y_sld (pc := 729) dL_law__729 (hi _ (by decide) (by decide)) ?_
  refine Y_aload_n (pc := 730) dL_law__730 rfl ?_
  refine Y_iload (pc := 731) dL_law__731 rfl ?_
  refine Y_iconst (pc := 733) dL_law__733 (v := 3) rfl ?_
  refine Y_iadd (pc := 734) dL_law__734 ?_
  refine Y_sld (pc := 735) dL_law__735 (hi _ (by decide) (by decide)) ?_
  refine Y_aload_n (pc := 736) dL_law__736 rfl ?_
  refine Y_iload (pc := 737) dL_law__737 rfl ?_
  refine Y_iconst (pc := 739) dL_law__739 (v := 4) rfl ?_
  refine Y_iadd (pc := 740) dL_law__740 ?_
  refine Y_sld (pc := 741) dL_law__741 (hi _ (by decide) (by decide)) ?_
  refine Y_aload_n (pc := 742) dL_law__742 rfl ?_
  refine Y_callW (pc := 743) (d := 7) dL_law__743 wf_had rfl rfl (Nat.le_of_ble_eq_true rfl) (W_had (d := 0) hp h1 hw) (hr9.at _ (by decide)) ?_
  have rw9 : ∀ (d : Nat) (_ : d ≤ 120), d + 1 ≤ (ZL g).1.frames ∧ 8 + (40 + 11) + 64 * d ≤ (ZL g).1.locals ∧ nc + 1 ≤ (ZL g).1.cells ∧ ns + 6 ≤ (ZL g).1.slots := fun d hd => hr9.at1 d hd
  refine Y_istore (pc := 746) dL_law__746 (by decide) rfl ?_
  refine Y_aload_n (pc := 748) dL_law__748 rfl ?_
  refine Y_aload_n (pc := 749) dL_law__749 rfl ?_
  refine Y_iload (pc := 750) dL_law__750 rfl ?_
  refine Y_iconst (pc := 752) dL_law__752 (v := 1) rfl ?_
  refine Y_iadd (pc := 753) dL_law__753 ?_
  refine Y_sld (pc := 754) dL_law__754 (hi _ (by decide) (by decide)) ?_
  refine Y_aload_n (pc := 755) dL_law__755 rfl ?_
  refine Y_iload (pc := 756) dL_law__756 rfl ?_
  refine Y_iconst (pc := 758) dL_law__758 (v := 2) rfl ?_
  refine Y_iadd (pc := 759) dL_law__759 ?_
  refine Y_sld (pc := 760) dL_law__760 (hi _ (by decide) (by decide)) ?_
  refine Y_aload_n (pc := 761) dL_law__761 rfl ?_
  refine Y_iload (pc := 762) dL_law__762 rfl ?_
  refine Y_iconst (pc := 764) dL_law__764 (v := 3) rfl ?_
  refine Y_iadd (pc := 765) dL_law__765 ?_
  refine Y_sld (pc := 766) dL_law__766 (hi _ (by decide) (by decide)) ?_
  refine Y_aload_n (pc := 767) dL_law__767 rfl ?_
  refine Y_iload (pc := 768) dL_law__768 rfl ?_
  refine Y_iconst (pc := 770) dL_law__770 (v := 4) rfl ?_
  refine Y_iadd (pc := 771) dL_law__771 ?_
  refine Y_sld (pc := 772) dL_law__772 (hi _ (by decide) (by decide)) ?_
  refine Y_callVi (pc := 773) (d := 2) dL_law__773 v_L_163 rfl rfl at_11 (Nat.le_of_ble_eq_true rfl) rfl rfl (C_X12_had (d := 0) hp h2) (rw9 _ (by decide)) ?_
  refine Y_istore (pc := 776) dL_law__776 (by decide) rfl ?_
  refine Y_aload_n (pc := 778) dL_law__778 rfl ?_
  refine Y_callVi (pc := 779) (d := 0) dL_law__779 v_L_128 rfl rfl at_11 (Nat.le_of_ble_eq_true rfl) rfl rfl (C_X12_thrown (d := 0) hp h3) (rw9 _ (by decide)) ?_
  refine Y_iload (pc := 782) dL_law__782 rfl ?_
  refine Y_icmp_eq (pc := 784) (tgt := 789) dL_law__784 (by decide) (fun _ => ?_) (fun q => absurd rfl q)
  refine Y_iload (pc := 789) dL_law__789 rfl ?_
  refine Y_if_ne (pc := 791) (tgt := 806) dL_law__791 (by decide) (fun hk0 => ?_) (fun hk0 => ?_)
  · exact Y_goto (pc := 806) (tgt := 2309) dL_law__806 (by decide) (k _ _ _ _ _ hG hp)
  · skip
    refine Y_aload_n (pc := 794) dL_law__794 rfl ?_
    refine Y_iconst (pc := 795) dL_law__795 (v := 0) rfl ?_
    refine Y_lald (pc := 796) (t := NT) dL_law__796 ar_out vp01 ?_
    refine Y_iload (pc := 797) dL_law__797 rfl ?_
    refine Y_i2l (pc := 799) dL_law__799 ?_
    refine Y_lcmp (pc := 800) dL_law__800 ?_
    refine Y_if_eq (pc := 801) (tgt := 806) dL_law__801 (by decide) (fun _ => ?_) (fun q => absurd (cmp_same (hk hk0)) q)
    exact Y_goto (pc := 806) (tgt := 2309) dL_law__806 (by decide) (k _ _ _ _ _ hG hp)
theorem LC_forget (hi : inS g i) (hr9 : rL nc ns) (hp : Wp P) (h : St_forget G I (gxs g (i + 1).toNatClampNeg)) (k : KL g G nc ns i) : Y g mL_law_ (ZL g) nc ns 809 (lsL i none none) [] (NT, I, J, P) := by
  obtain ⟨r, I1, b, I2, k0, h1, h2, h3, h4, hG⟩ := h
  obtain ⟨J9, hw, hk⟩ := same_out (J := J) h4 (by decide)
  refine Y_aload_n (pc := 809) dL_law__809 rfl ?_
  refine Y_aload_n (pc := 810) dL_law__810 rfl ?_
  refine Y_iload (pc := 811) dL_law__811 rfl ?_
  refine Y_iconst (pc := 813) dL_law__813 (v := 1) rfl ?_
  refine Y_iadd (pc := 814) dL_law__814 ?_
  refine Y_sld (pc := 815) dL_law__815 (hi _ (by decide) (by decide)) ?_
  refine Y_aload_n (pc := 816) dL_law__816 rfl ?_
  refine Y_callW (pc := 817) (d := 7) dL_law__817 wf_forget rfl rfl (Nat.le_of_ble_eq_true rfl) (W_forget (d := 0) hp h1 hw) (hr9.at _ (by decide)) ?_
  have rw9 : ∀ (d : Nat) (_ : d ≤ 120), d + 1 ≤ (ZL g).1.frames ∧ 8 + (40 + 11) + 64 * d ≤ (ZL g).1.locals ∧ nc + 1 ≤ (ZL g).1.cells ∧ ns + 6 ≤ (ZL g).1.slots := fun d hd => hr9.at1 d hd
  refine Y_istore (pc := 820) dL_law__820 (by decide) rfl ?_
  refine Y_aload_n (pc := 822) dL_law__822 rfl ?_
  refine Y_aload_n (pc := 823) dL_law__823 rfl ?_
  refine Y_iload (pc := 824) dL_law__824 rfl ?_
  refine Y_iconst (pc := 826) dL_law__826 (v := 1) rfl ?_
  refine Y_iadd (pc := 827) dL_law__827 ?_
  refine Y_sld (pc := 828) dL_law__828 (hi _ (by decide) (by decide)) ?_
  refine Y_callVi (pc := 829) (d := 3) dL_law__829 v_L_166 rfl rfl at_11 (Nat.le_of_ble_eq_true rfl) rfl rfl (C_X12_forget (d := 0) hp h2) (rw9 _ (by decide)) ?_
  refine Y_istore (pc := 832) dL_law__832 (by decide) rfl ?_
  refine Y_aload_n (pc := 834) dL_law__834 rfl ?_
  refine Y_callVi (pc := 835) (d := 0) dL_law__835 v_L_128 rfl rfl at_11 (Nat.le_of_ble_eq_true rfl) rfl rfl (C_X12_thrown (d := 0) hp h3) (rw9 _ (by decide)) ?_
  refine Y_iload (pc := 838) dL_law__838 rfl ?_
  refine Y_icmp_eq (pc := 840) (tgt := 845) dL_law__840 (by decide) (fun _ => ?_) (fun q => absurd rfl q)
  refine Y_iload (pc := 845) dL_law__845 rfl ?_
  refine Y_if_ne (pc := 847) (tgt := 862) dL_law__847 (by decide) (fun hk0 => ?_) (fun hk0 => ?_)
  · exact Y_goto (pc := 862) (tgt := 2309) dL_law__862 (by decide) (k _ _ _ _ _ hG hp)
  · skip
    refine Y_aload_n (pc := 850) dL_law__850 rfl ?_
    refine Y_iconst (pc := 851) dL_law__851 (v := 0) rfl ?_
    refine Y_lald (pc := 852) (t := NT) dL_law__852 ar_out vp01 ?_
    refine Y_iload (pc := 853) dL_law__853 rfl ?_
    refine Y_i2l (pc := 855) dL_law__855 ?_
    refine Y_lcmp (pc := 856) dL_law__856 ?_
    refine Y_if_eq (pc := 857) (tgt := 862) dL_law__857 (by decide) (fun _ => ?_) (fun q => absurd (cmp_same (hk hk0)) q)
    exact Y_goto (pc := 862) (tgt := 2309) dL_law__862 (by decide) (k _ _ _ _ _ hG hp)
theorem LC_reach (hi : inS g i) (hr9 : rL nc ns) (hp : Wp P) (h : St_reach G I (gxs g (i + 1).toNatClampNeg)) (k : KL g G nc ns i) : Y g mL_law_ (ZL g) nc ns 865 (lsL i none none) [] (NT, I, J, P) := by
  obtain ⟨r, I1, b, I2, k0, h1, h2, h3, h4, hG⟩ := h
  obtain ⟨J9, hw, hk⟩ := same_out (J := J) h4 (by decide)
  refine Y_aload_n (pc := 865) dL_law__865 rfl ?_
  refine Y_aload_n (pc := 866) dL_law__866 rfl ?_
  refine Y_iload (pc := 867) dL_law__867 rfl ?_
  refine Y_iconst (pc := 869) dL_law__869 (v := 1) rfl ?_
  refine Y_iadd (pc := 870) dL_law__870 ?_
  refine Y_sld (pc := 871) dL_law__871 (hi _ (by decide) (by decide)) ?_
  refine Y_aload_n (pc := 872) dL_law__872 rfl ?_
  refine Y_callW (pc := 873) (d := 7) dL_law__873 wf_reach rfl rfl (Nat.le_of_ble_eq_true rfl) (W_reach (d := 0) hp h1 hw) (hr9.at _ (by decide)) ?_
  have rw9 : ∀ (d : Nat) (_ : d ≤ 120), d + 1 ≤ (ZL g).1.frames ∧ 8 + (40 + 11) + 64 * d ≤ (ZL g).1.locals ∧ nc + 1 ≤ (ZL g).1.cells ∧ ns + 6 ≤ (ZL g).1.slots := fun d hd => hr9.at1 d hd
  refine Y_istore (pc := 876) dL_law__876 (by decide) rfl ?_
  refine Y_aload_n (pc := 878) dL_law__878 rfl ?_
  refine Y_aload_n (pc := 879) dL_law__879 rfl ?_
  refine Y_iload (pc := 880) dL_law__880 rfl ?_
  refine Y_iconst (pc := 882) dL_law__882 (v := 1) rfl ?_
  refine Y_iadd (pc := 883) dL_law__883 ?_
  refine Y_sld (pc := 884) dL_law__884 (hi _ (by decide) (by decide)) ?_
  refine Y_callVi (pc := 885) (d := 1) dL_law__885 v_L_169 rfl rfl at_11 (Nat.le_of_ble_eq_true rfl) rfl rfl (C_X12_reach (d := 0) hp h2) (rw9 _ (by decide)) ?_
  refine Y_istore (pc := 888) dL_law__888 (by decide) rfl ?_
  refine Y_aload_n (pc := 890) dL_law__890 rfl ?_
  refine Y_callVi (pc := 891) (d := 0) dL_law__891 v_L_128 rfl rfl at_11 (Nat.le_of_ble_eq_true rfl) rfl rfl (C_X12_thrown (d := 0) hp h3) (rw9 _ (by decide)) ?_
  refine Y_iload (pc := 894) dL_law__894 rfl ?_
  refine Y_icmp_eq (pc := 896) (tgt := 901) dL_law__896 (by decide) (fun _ => ?_) (fun q => absurd rfl q)
  refine Y_iload (pc := 901) dL_law__901 rfl ?_
  refine Y_if_ne (pc := 903) (tgt := 918) dL_law__903 (by decide) (fun hk0 => ?_) (fun hk0 => ?_)
  · exact Y_goto (pc := 918) (tgt := 2309) dL_law__918 (by decide) (k _ _ _ _ _ hG hp)
  · skip
    refine Y_aload_n (pc := 906) dL_law__906 rfl ?_
    refine Y_iconst (pc := 907) dL_law__907 (v := 0) rfl ?_
    refine Y_lald (pc := 908) (t := NT) dL_law__908 ar_out vp01 ?_
    refine Y_iload (pc := 909) dL_law__909 rfl ?_
    refine Y_i2l (pc := 911) dL_law__911 ?_
    refine Y_lcmp (pc := 912) dL_law__912 ?_
    refine Y_if_eq (pc := 913) (tgt := 918) dL_law__913 (by decide) (fun _ => ?_) (fun q => absurd (cmp_same (hk hk0)) q)
    exact Y_goto (pc := 918) (tgt := 2309) dL_law__918 (by decide) (k _ _ _ _ _ hG hp)
theorem LC_house (hi : inS g i) (hr9 : rL nc ns) (hp : Wp P) (h : St_house G I (gxs g (i + 1).toNatClampNeg)) (k : KL g G nc ns i) : Y g mL_law_ (ZL g) nc ns 921 (lsL i none none) [] (NT, I, J, P) := by
  obtain ⟨r, I1, b, I2, k0, h1, h2, h3, h4, hG⟩ := h
  obtain ⟨J9, hw, hk⟩ := same_out (J := J) h4 (by decide)
  refine Y_aload_n (pc := 921) dL_law__921 rfl ?_
  refine Y_aload_n (pc := 922) dL_law__922 rfl ?_
  refine Y_iload (pc := 923) dL_law__923 rfl ?_
  refine Y_iconst (pc := 925) dL_law__925 (v := 1) rfl ?_
  refine Y_iadd (pc := 926) dL_law__926 ?_
  refine Y_sld (pc := 927) dL_law__927 (hi _ (by decide) (by decide)) ?_
  refine Y_aload_n (pc := 928) dL_law__928 rfl ?_
  refine Y_callW (pc := 929) (d := 7) dL_law__929 wf_house rfl rfl (Nat.le_of_ble_eq_true rfl) (W_house (d := 0) hp h1 hw) (hr9.at _ (by decide)) ?_
  have rw9 : ∀ (d : Nat) (_ : d ≤ 120), d + 1 ≤ (ZL g).1.frames ∧ 8 + (40 + 11) + 64 * d ≤ (ZL g).1.locals ∧ nc + 1 ≤ (ZL g).1.cells ∧ ns + 6 ≤ (ZL g).1.slots := fun d hd => hr9.at1 d hd
  refine Y_istore (pc := 932) dL_law__932 (by decide) rfl ?_
  refine Y_aload_n (pc := 934) dL_law__934 rfl ?_
  refine Y_aload_n (pc := 935) dL_law__935 rfl ?_
  refine Y_iload (pc := 936) dL_law__936 rfl ?_
  refine Y_iconst (pc := 938) dL_law__938 (v := 1) rfl ?_
  refine Y_iadd (pc := 939) dL_law__939 ?_
  refine Y_sld (pc := 940) dL_law__940 (hi _ (by decide) (by decide)) ?_
  refine Y_callVi (pc := 941) (d := 2) dL_law__941 v_L_172 rfl rfl at_11 (Nat.le_of_ble_eq_true rfl) rfl rfl (C_X12_house (d := 0) hp h2) (rw9 _ (by decide)) ?_
  refine Y_istore (pc := 944) dL_law__944 (by decide) rfl ?_
  refine Y_aload_n (pc := 946) dL_law__946 rfl ?_
  refine Y_callVi (pc := 947) (d := 0) dL_law__947 v_L_128 rfl rfl at_11 (Nat.le_of_ble_eq_true rfl) rfl rfl (C_X12_thrown (d := 0) hp h3) (rw9 _ (by decide)) ?_
  refine Y_iload (pc := 950) dL_law__950 rfl ?_
  refine Y_icmp_eq (pc := 952) (tgt := 957) dL_law__952 (by decide) (fun _ => ?_) (fun q => absurd rfl q)
  refine Y_iload (pc := 957) dL_law__957 rfl ?_
  refine Y_if_ne (pc := 959) (tgt := 974) dL_law__959 (by decide) (fun hk0 => ?_) (fun hk0 => ?_)
  · exact Y_goto (pc := 974) (tgt := 2309) dL_law__974 (by decide) (k _ _ _ _ _ hG hp)
  · skip
    refine Y_aload_n (pc := 962) dL_law__962 rfl ?_
    refine Y_iconst (pc := 963) dL_law__963 (v := 0) rfl ?_
    refine Y_lald (pc := 964) (t := NT) dL_law__964 ar_out vp01 ?_
    refine Y_iload (pc := 965) dL_law__965 rfl ?_
    refine Y_i2l (pc := 967) dL_law__967 ?_
    refine Y_lcmp (pc := 968) dL_law__968 ?_
    refine Y_if_eq (pc := 969) (tgt := 974) dL_law__969 (by decide) (fun _ => ?_) (fun q => absurd (cmp_same (hk hk0)) q)
    exact Y_goto (pc := 974) (tgt := 2309) dL_law__974 (by decide) (k _ _ _ _ _ hG hp)
theorem LC_look (hi : inS g i) (hr9 : rL nc ns) (hp : Wp P) (h : St_look G I) (k : KL g G nc ns i) : Y g mL_law_ (ZL g) nc ns 977 (lsL i none none) [] (NT, I, J, P) := by
  obtain ⟨r, I1, I2, h1, h2, hG⟩ := h
  refine Y_aload_n (pc := 977) dL_law__977 rfl ?_
  refine Y_callVi (pc := 978) (d := 4) dL_law__978 v_L_173 rfl rfl at_10 (Nat.le_of_ble_eq_true rfl) rfl rfl (C_X11_look (d := 0) hp h1) (hr9.at0 _ (by decide)) ?_
  refine Y_aload_n (pc := 981) dL_law__981 rfl ?_
  refine Y_callVi (pc := 982) (d := 1) dL_law__982 v_L_176 rfl rfl at_11 (Nat.le_of_ble_eq_true rfl) rfl rfl (C_X12_look (d := 0) hp h2) (hr9.at0 _ (by decide)) ?_
  refine Y_icmp_eq (pc := 985) (tgt := 2309) dL_law__985 (by decide) (fun _ => ?_) (fun q => absurd rfl q)
  exact Y_widen (Nat.le_succ _) (Nat.le_add_right _ 6) (k _ _ _ _ _ hG hp)
theorem LC_evenings (hi : inS g i) (hr9 : rL nc ns) (hp : Wp P) (h : St_evenings G I (gxs g (i + 1).toNatClampNeg)) (k : KL g G nc ns i) : Y g mL_law_ (ZL g) nc ns 990 (lsL i none none) [] (NT, I, J, P) := by
  obtain ⟨r, I1, b, I2, k0, h1, h2, h3, h4, hG⟩ := h
  obtain ⟨J9, hw, hk⟩ := same_out (J := J) h4 (by decide)
  refine Y_aload_n (pc := 990) dL_law__990 rfl ?_
  refine Y_aload_n (pc := 991) dL_law__991 rfl ?_
  refine Y_iload (pc := 992) dL_law__992 rfl ?_
  refine Y_iconst (pc := 994) dL_law__994 (v := 1) rfl ?_
  refine Y_iadd (pc := 995) dL_law__995 ?_
  refine Y_sld (pc := 996) dL_law__996 (hi _ (by decide) (by decide)) ?_
  refine Y_aload_n (pc := 997) dL_law__997 rfl ?_
  refine Y_callW (pc := 998) (d := 7) dL_law__998 wf_evenings rfl rfl (Nat.le_of_ble_eq_true rfl) (W_evenings (d := 0) hp h1 hw) (hr9.at _ (by decide)) ?_
  have rw9 : ∀ (d : Nat) (_ : d ≤ 120), d + 1 ≤ (ZL g).1.frames ∧ 8 + (40 + 11) + 64 * d ≤ (ZL g).1.locals ∧ nc + 1 ≤ (ZL g).1.cells ∧ ns + 6 ≤ (ZL g).1.slots := fun d hd => hr9.at1 d hd
  refine Y_istore (pc := 1001) dL_law__1001 (by decide) rfl ?_
  refine Y_aload_n (pc := 1003) dL_law__1003 rfl ?_
  refine Y_aload_n (pc := 1004) dL_law__1004 rfl ?_
  refine Y_iload (pc := 1005) dL_law__1005 rfl ?_
  refine Y_iconst (pc := 1007) dL_law__1007 (v := 1) rfl ?_
  refine Y_iadd (pc := 1008) dL_law__1008 ?_
  refine Y_sld (pc := 1009) dL_law__1009 (hi _ (by decide) (by decide)) ?_
  refine Y_callVi (pc := 1010) (d := 11) dL_law__1010 v_L_179 rfl rfl at_11 (Nat.le_of_ble_eq_true rfl) rfl rfl (C_X12_evenings (d := 0) hp h2) (rw9 _ (by decide)) ?_
  refine Y_istore (pc := 1013) dL_law__1013 (by decide) rfl ?_
  refine Y_aload_n (pc := 1015) dL_law__1015 rfl ?_
  refine Y_callVi (pc := 1016) (d := 0) dL_law__1016 v_L_128 rfl rfl at_11 (Nat.le_of_ble_eq_true rfl) rfl rfl (C_X12_thrown (d := 0) hp h3) (rw9 _ (by decide)) ?_
  refine Y_iload (pc := 1019) dL_law__1019 rfl ?_
  refine Y_icmp_eq (pc := 1021) (tgt := 1026) dL_law__1021 (by decide) (fun _ => ?_) (fun q => absurd rfl q)
  refine Y_iload (pc := 1026) dL_law__1026 rfl ?_
  refine Y_if_ne (pc := 1028) (tgt := 1043) dL_law__1028 (by decide) (fun hk0 => ?_) (fun hk0 => ?_)
  · exact Y_goto (pc := 1043) (tgt := 2309) dL_law__1043 (by decide) (k _ _ _ _ _ hG hp)
  · skip
    refine Y_aload_n (pc := 1031) dL_law__1031 rfl ?_
    refine Y_iconst (pc := 1032) dL_law__1032 (v := 0) rfl ?_
    refine Y_lald (pc := 1033) (t := NT) dL_law__1033 ar_out vp01 ?_
    refine Y_iload (pc := 1034) dL_law__1034 rfl ?_
    refine Y_i2l (pc := 1036) dL_law__1036 ?_
    refine Y_lcmp (pc := 1037) dL_law__1037 ?_
    refine Y_if_eq (pc := 1038) (tgt := 1043) dL_law__1038 (by decide) (fun _ => ?_) (fun q => absurd (cmp_same (hk hk0)) q)
    exact Y_goto (pc := 1043) (tgt := 2309) dL_law__1043 (by decide) (k _ _ _ _ _ hG hp)
theorem LC_menu (hi : inS g i) (hr9 : rL nc ns) (hp : Wp P) (h : St_menu G I (gxs g (i + 1).toNatClampNeg)) (k : KL g G nc ns i) : Y g mL_law_ (ZL g) nc ns 1046 (lsL i none none) [] (NT, I, J, P) := by
  obtain ⟨r, I1, b, I2, k0, h1, h2, h3, h4, hG⟩ := h
  obtain ⟨J9, hw, hk⟩ := same_out (J := J) h4 (by decide)
  refine Y_aload_n (pc := 1046) dL_law__1046 rfl ?_
  refine Y_aload_n (pc := 1047) dL_law__1047 rfl ?_
  refine Y_iload (pc := 1048) dL_law__1048 rfl ?_
  refine Y_iconst (pc := 1050) dL_law__1050 (v := 1) rfl ?_
  refine Y_iadd (pc := 1051) dL_law__1051 ?_
  refine Y_sld (pc := 1052) dL_law__1052 (hi _ (by decide) (by decide)) ?_
  refine Y_aload_n (pc := 1053) dL_law__1053 rfl ?_
  refine Y_callW (pc := 1054) (d := 7) dL_law__1054 wf_menu rfl rfl (Nat.le_of_ble_eq_true rfl) (W_menu (d := 0) hp h1 hw) (hr9.at _ (by decide)) ?_
  have rw9 : ∀ (d : Nat) (_ : d ≤ 120), d + 1 ≤ (ZL g).1.frames ∧ 8 + (40 + 11) + 64 * d ≤ (ZL g).1.locals ∧ nc + 1 ≤ (ZL g).1.cells ∧ ns + 6 ≤ (ZL g).1.slots := fun d hd => hr9.at1 d hd
  refine Y_istore (pc := 1057) dL_law__1057 (by decide) rfl ?_
  refine Y_aload_n (pc := 1059) dL_law__1059 rfl ?_
  refine Y_aload_n (pc := 1060) dL_law__1060 rfl ?_
  refine Y_iload (pc := 1061) dL_law__1061 rfl ?_
  refine Y_iconst (pc := 1063) dL_law__1063 (v := 1) rfl ?_
  refine Y_iadd (pc := 1064) dL_law__1064 ?_
  refine Y_sld (pc := 1065) dL_law__1065 (hi _ (by decide) (by decide)) ?_
  refine Y_callVi (pc := 1066) (d := 9) dL_law__1066 v_L_182 rfl rfl at_11 (Nat.le_of_ble_eq_true rfl) rfl rfl (C_X12_menu (d := 0) hp h2) (rw9 _ (by decide)) ?_
  refine Y_istore (pc := 1069) dL_law__1069 (by decide) rfl ?_
  refine Y_aload_n (pc := 1071) dL_law__1071 rfl ?_
  refine Y_callVi (pc := 1072) (d := 0) dL_law__1072 v_L_128 rfl rfl at_11 (Nat.le_of_ble_eq_true rfl) rfl rfl (C_X12_thrown (d := 0) hp h3) (rw9 _ (by decide)) ?_
  refine Y_iload (pc := 1075) dL_law__1075 rfl ?_
  refine Y_icmp_eq (pc := 1077) (tgt := 1082) dL_law__1077 (by decide) (fun _ => ?_) (fun q => absurd rfl q)
  refine Y_iload (pc := 1082) dL_law__1082 rfl ?_
  refine Y_if_ne (pc := 1084) (tgt := 1099) dL_law__1084 (by decide) (fun hk0 => ?_) (fun hk0 => ?_)
  · exact Y_goto (pc := 1099) (tgt := 2309) dL_law__1099 (by decide) (k _ _ _ _ _ hG hp)
  · skip
    refine Y_aload_n (pc := 1087) dL_law__1087 rfl ?_
    refine Y_iconst (pc := 1088) dL_law__1088 (v := 0) rfl ?_
    refine Y_lald (pc := 1089) (t := NT) dL_law__1089 ar_out vp01 ?_
    refine Y_iload (pc := 1090) dL_law__1090 rfl ?_
    refine Y_i2l (pc := 1092) dL_law__1092 ?_
    refine Y_lcmp (pc := 1093) dL_law__1093 ?_
    refine Y_if_eq (pc := 1094) (tgt := 1099) dL_law__1094 (by decide) (fun _ => ?_) (fun q => absurd (cmp_same (hk hk0)) q)
    exact Y_goto (pc := 1099) (tgt := 2309) dL_law__1099 (by decide) (k _ _ _ _ _ hG hp)
theorem LC_fewest (hi : inS g i) (hr9 : rL nc ns) (hp : Wp P) (h : St_fewest G I (gxs g (i + 1).toNatClampNeg) (gxs g (i + 2).toNatClampNeg)) (k : KL g G nc ns i) : Y g mL_law_ (ZL g) nc ns 1102 (lsL i none none) [] (NT, I, J, P) := by
  obtain ⟨r, b, I2, k0, h1, h2, h3, h4, hG⟩ := h
  obtain ⟨J9, hw, hk⟩ := same_out (J := J) h4 (by decide)
  refine Y_aload_n (pc := 1102) dL_law__1102 rfl ?_
  refine Y_aload_n (pc := 1103) dL_law__1103 rfl ?_
  refine Y_iload (pc := 1104) dL_law__1104 rfl ?_
  refine Y_iconst (pc := 1106) dL_law__1106 (v := 1) rfl ?_
  refine Y_iadd (pc := 1107) dL_law__1107 ?_
  refine Y_sld (pc := 1108) dL_law__1108 (hi _ (by decide) (by decide)) ?_
  refine Y_aload_n (pc := 1109) dL_law__1109 rfl ?_
  refine Y_iload (pc := 1110) dL_law__1110 rfl ?_
  refine Y_iconst (pc := 1112) dL_law__1112 (v := 2) rfl ?_
  refine Y_iadd (pc := 1113) dL_law__1113 ?_
  refine Y_sld (pc := 1114) dL_law__1114 (hi _ (by decide) (by decide)) ?_
  refine Y_aload_n (pc := 1115) dL_law__1115 rfl ?_
  refine Y_callW (pc := 1116) (d := 7) dL_law__1116 wf_fewest rfl rfl (Nat.le_of_ble_eq_true rfl) (W_fewest (d := 0) hp h1 hw) (hr9.at _ (by decide)) ?_
  have rw9 : ∀ (d : Nat) (_ : d ≤ 120), d + 1 ≤ (ZL g).1.frames ∧ 8 + (40 + 11) + 64 * d ≤ (ZL g).1.locals ∧ nc + 1 ≤ (ZL g).1.cells ∧ ns + 6 ≤ (ZL g).1.slots := fun d hd => hr9.at1 d hd
  refine Y_istore (pc := 1119) dL_law__1119 (by decide) rfl ?_
  refine Y_aload_n (pc := 1121) dL_law__1121 rfl ?_
  refine Y_aload_n (pc := 1122) dL_law__1122 rfl ?_
  refine Y_iload (pc := 1123) dL_law__1123 rfl ?_
  refine Y_iconst (pc := 1125) dL_law__1125 (v := 1) rfl ?_
  refine Y_iadd (pc := 1126) dL_law__1126 ?_
  refine Y_sld (pc := 1127) dL_law__1127 (hi _ (by decide) (by decide)) ?_
  refine Y_aload_n (pc := 1128) dL_law__1128 rfl ?_
  refine Y_iload (pc := 1129) dL_law__1129 rfl ?_
  refine Y_iconst (pc := 1131) dL_law__1131 (v := 2) rfl ?_
  refine Y_iadd (pc := 1132) dL_law__1132 ?_
  refine Y_sld (pc := 1133) dL_law__1133 (hi _ (by decide) (by decide)) ?_
  refine Y_callVi (pc := 1134) (d := 4) dL_law__1134 v_L_185 rfl rfl at_11 (Nat.le_of_ble_eq_true rfl) rfl rfl (C_X12_fewest (d := 0) hp h2) (rw9 _ (by decide)) ?_
  refine Y_istore (pc := 1137) dL_law__1137 (by decide) rfl ?_
  refine Y_aload_n (pc := 1139) dL_law__1139 rfl ?_
  refine Y_callVi (pc := 1140) (d := 0) dL_law__1140 v_L_128 rfl rfl at_11 (Nat.le_of_ble_eq_true rfl) rfl rfl (C_X12_thrown (d := 0) hp h3) (rw9 _ (by decide)) ?_
  refine Y_iload (pc := 1143) dL_law__1143 rfl ?_
  refine Y_icmp_eq (pc := 1145) (tgt := 1150) dL_law__1145 (by decide) (fun _ => ?_) (fun q => absurd rfl q)
  refine Y_iload (pc := 1150) dL_law__1150 rfl ?_
  refine Y_if_ne (pc := 1152) (tgt := 1167) dL_law__1152 (by decide) (fun hk0 => ?_) (fun hk0 => ?_)
  · exact Y_goto (pc := 1167) (tgt := 2309) dL_law__1167 (by decide) (k _ _ _ _ _ hG hp)
  · skip
    refine Y_aload_n (pc := 1155) dL_law__1155 rfl ?_
    refine Y_iconst (pc := 1156) dL_law__1156 (v := 0) rfl ?_
    refine Y_lald (pc := 1157) (t := NT) dL_law__1157 ar_out vp01 ?_
    refine Y_iload (pc := 1158) dL_law__1158 rfl ?_
    refine Y_i2l (pc := 1160) dL_law__1160 ?_
    refine Y_lcmp (pc := 1161) dL_law__1161 ?_
    refine Y_if_eq (pc := 1162) (tgt := 1167) dL_law__1162 (by decide) (fun _ => ?_) (fun q => absurd (cmp_same (hk hk0)) q)
    exact Y_goto (pc := 1167) (tgt := 2309) dL_law__1167 (by decide) (k _ _ _ _ _ hG hp)
theorem LC_order (hi : inS g i) (hr9 : rL nc ns) (hp : Wp P) (h : St_order G I (gxs g (i + 1).toNatClampNeg) (gxs g (i + 2).toNatClampNeg)) (k : KL g G nc ns i) : Y g mL_law_ (ZL g) nc ns 1170 (lsL i none none) [] (NT, I, J, P) := by
  obtain ⟨r, I1, b, I2, k0, h1, h2, h3, h4, hG⟩ := h
  obtain ⟨J9, hw, hk⟩ := same_out (J := J) h4 (by decide)
  refine Y_aload_n (pc := 1170) dL_law__1170 rfl ?_
  refine Y_aload_n (pc := 1171) dL_law__1171 rfl ?_
  refine Y_iload (pc := 1172) dL_law__1172 rfl ?_
  refine Y_iconst (pc := 1174) dL_law__1174 (v := 1) rfl ?_
  refine Y_iadd (pc := 1175) dL_law__1175 ?_
  refine Y_sld (pc := 1176) dL_law__1176 (hi _ (by decide) (by decide)) ?_
  refine Y_aload_n (pc := 1177) dL_law__1177 rfl ?_
  refine Y_iload (pc := 1178) dL_law__1178 rfl ?_
  refine Y_iconst (pc := 1180) dL_law__1180 (v := 2) rfl ?_
  refine Y_iadd (pc := 1181) dL_law__1181 ?_
  refine Y_sld (pc := 1182) dL_law__1182 (hi _ (by decide) (by decide)) ?_
  refine Y_aload_n (pc := 1183) dL_law__1183 rfl ?_
  refine Y_callW (pc := 1184) (d := 19) dL_law__1184 wf_order rfl rfl (Nat.le_of_ble_eq_true rfl) (W_order (d := 0) hp h1 hw) (hr9.at _ (by decide)) ?_
  have rw9 : ∀ (d : Nat) (_ : d ≤ 120), d + 1 ≤ (ZL g).1.frames ∧ 8 + (40 + 11) + 64 * d ≤ (ZL g).1.locals ∧ nc + 1 ≤ (ZL g).1.cells ∧ ns + 6 ≤ (ZL g).1.slots := fun d hd => hr9.at1 d hd
  refine Y_istore (pc := 1187) dL_law__1187 (by decide) rfl ?_
  refine Y_aload_n (pc := 1189) dL_law__1189 rfl ?_
  refine Y_aload_n (pc := 1190) dL_law__1190 rfl ?_
  refine Y_iload (pc := 1191) dL_law__1191 rfl ?_
  refine Y_iconst (pc := 1193) dL_law__1193 (v := 1) rfl ?_
  refine Y_iadd (pc := 1194) dL_law__1194 ?_
  refine Y_sld (pc := 1195) dL_law__1195 (hi _ (by decide) (by decide)) ?_
  refine Y_aload_n (pc := 1196) dL_law__1196 rfl ?_
  refine Y_iload (pc := 1197) dL_law__1197 rfl ?_
  refine Y_iconst (pc := 1199) dL_law__1199 (v := 2) rfl ?_
  refine Y_iadd (pc := 1200) dL_law__1200 ?_
  refine Y_sld (pc := 1201) dL_law__1201 (hi _ (by decide) (by decide)) ?_
  refine Y_callVi (pc := 1202) (d := 10) dL_law__1202 v_L_188 rfl rfl at_11 (Nat.le_of_ble_eq_true rfl) rfl rfl (C_X12_order (d := 0) hp h2) (rw9 _ (by decide)) ?_
  refine Y_istore (pc := 1205) dL_law__1205 (by decide) rfl ?_
  refine Y_aload_n (pc := 1207) dL_law__1207 rfl ?_
  refine Y_callVi (pc := 1208) (d := 0) dL_law__1208 v_L_128 rfl rfl at_11 (Nat.le_of_ble_eq_true rfl) rfl rfl (C_X12_thrown (d := 0) hp h3) (rw9 _ (by decide)) ?_
  refine Y_iload (pc := 1211) dL_law__1211 rfl ?_
  refine Y_icmp_eq (pc := 1213) (tgt := 1218) dL_law__1213 (by decide) (fun _ => ?_) (fun q => absurd rfl q)
  refine Y_iload (pc := 1218) dL_law__1218 rfl ?_
  refine Y_if_ne (pc := 1220) (tgt := 1235) dL_law__1220 (by decide) (fun hk0 => ?_) (fun hk0 => ?_)
  · exact Y_goto (pc := 1235) (tgt := 2309) dL_law__1235 (by decide) (k _ _ _ _ _ hG hp)
  · skip
    refine Y_aload_n (pc := 1223) dL_law__1223 rfl ?_
    refine Y_iconst (pc := 1224) dL_law__1224 (v := 0) rfl ?_
    refine Y_lald (pc := 1225) (t := NT) dL_law__1225 ar_out vp01 ?_
    refine Y_iload (pc := 1226) dL_law__1226 rfl ?_
    refine Y_i2l (pc := 1228) dL_law__1228 ?_
    refine Y_lcmp (pc := 1229) dL_law__1229 ?_
    refine Y_if_eq (pc := 1230) (tgt := 1235) dL_law__1230 (by decide) (fun _ => ?_) (fun q => absurd (cmp_same (hk hk0)) q)
    exact Y_goto (pc := 1235) (tgt := 2309) dL_law__1235 (by decide) (k _ _ _ _ _ hG hp)
theorem LC_he (hi : inS g i) (hr9 : rL nc ns) (hp : Wp P) (h : St_he G I) (k : KL g G nc ns i) : Y g mL_law_ (ZL g) nc ns 1238 (lsL i none none) [] (NT, I, J, P) := by
  obtain ⟨r, I1, b, I2, k0, h1, h2, h3, h4, hG⟩ := h
  obtain ⟨J9, hw, hk⟩ := same_out (J := J) h4 (by decide)
  refine Y_aload_n (pc := 1238) dL_law__1238 rfl ?_
  refine Y_aload_n (pc := 1239) dL_law__1239 rfl ?_
  refine Y_callW (pc := 1240) (d := 7) dL_law__1240 wf_he rfl rfl (Nat.le_of_ble_eq_true rfl) (W_he (d := 0) hp h1 hw) (hr9.at _ (by decide)) ?_
  have rw9 : ∀ (d : Nat) (_ : d ≤ 120), d + 1 ≤ (ZL g).1.frames ∧ 8 + (40 + 11) + 64 * d ≤ (ZL g).1.locals ∧ nc + 1 ≤ (ZL g).1.cells ∧ ns + 6 ≤ (ZL g).1.slots := fun d hd => hr9.at1 d hd
  refine Y_istore (pc := 1243) dL_law__1243 (by decide) rfl ?_
  refine Y_aload_n (pc := 1245) dL_law__1245 rfl ?_
  refine Y_callVi (pc := 1246) (d := 4) dL_law__1246 v_L_191 rfl rfl at_11 (Nat.le_of_ble_eq_true rfl) rfl rfl (C_X12_he (d := 0) hp h2) (rw9 _ (by decide)) ?_
  refine Y_istore (pc := 1249) dL_law__1249 (by decide) rfl ?_
  refine Y_aload_n (pc := 1251) dL_law__1251 rfl ?_
  refine Y_callVi (pc := 1252) (d := 0) dL_law__1252 v_L_128 rfl rfl at_11 (Nat.le_of_ble_eq_true rfl) rfl rfl (C_X12_thrown (d := 0) hp h3) (rw9 _ (by decide)) ?_
  refine Y_iload (pc := 1255) dL_law__1255 rfl ?_
  refine Y_icmp_eq (pc := 1257) (tgt := 1262) dL_law__1257 (by decide) (fun _ => ?_) (fun q => absurd rfl q)
  refine Y_iload (pc := 1262) dL_law__1262 rfl ?_
  refine Y_if_ne (pc := 1264) (tgt := 1279) dL_law__1264 (by decide) (fun hk0 => ?_) (fun hk0 => ?_)
  · exact Y_goto (pc := 1279) (tgt := 2309) dL_law__1279 (by decide) (k _ _ _ _ _ hG hp)
  · skip
    refine Y_aload_n (pc := 1267) dL_law__1267 rfl ?_
    refine Y_iconst (pc := 1268) dL_law__1268 (v := 0) rfl ?_
    refine Y_lald (pc := 1269) (t := NT) dL_law__1269 ar_out vp01 ?_
    refine Y_iload (pc := 1270) dL_law__1270 rfl ?_
    refine Y_i2l (pc := 1272) dL_law__1272 ?_
    refine Y_lcmp (pc := 1273) dL_law__1273 ?_
    refine Y_if_eq (pc := 1274) (tgt := 1279) dL_law__1274 (by decide) (fun _ => ?_) (fun q => absurd (cmp_same (hk hk0)) q)
    exact Y_goto (pc := 1279) (tgt := 2309) dL_law__1279 (by decide) (k _ _ _ _ _ hG hp)
theorem LC_unknown (hi : inS g i) (hr9 : rL nc ns) (hp : Wp P) (h : St_unknown G I) (k : KL g G nc ns i) : Y g mL_law_ (ZL g) nc ns 1282 (lsL i none none) [] (NT, I, J, P) := by
  obtain ⟨r, I1, b, I2, k0, h1, h2, h3, h4, hG⟩ := h
  obtain ⟨J9, hw, hk⟩ := same_out (J := J) h4 (by decide)
  refine Y_aload_n (pc := 1282) dL_law__1282 rfl ?_
  refine Y_aload_n (pc := 1283) dL_law__1283 rfl ?_
  refine Y_callW (pc := 1284) (d := 7) dL_law__1284 wf_unknown rfl rfl (Nat.le_of_ble_eq_true rfl) (W_unknown (d := 0) hp h1 hw) (hr9.at _ (by decide)) ?_
  have rw9 : ∀ (d : Nat) (_ : d ≤ 120), d + 1 ≤ (ZL g).1.frames ∧ 8 + (40 + 11) + 64 * d ≤ (ZL g).1.locals ∧ nc + 1 ≤ (ZL g).1.cells ∧ ns + 6 ≤ (ZL g).1.slots := fun d hd => hr9.at1 d hd
  refine Y_istore (pc := 1287) dL_law__1287 (by decide) rfl ?_
  refine Y_aload_n (pc := 1289) dL_law__1289 rfl ?_
  refine Y_callVi (pc := 1290) (d := 5) dL_law__1290 v_L_194 rfl rfl at_11 (Nat.le_of_ble_eq_true rfl) rfl rfl (C_X12_unknown (d := 0) hp h2) (rw9 _ (by decide)) ?_
  refine Y_istore (pc := 1293) dL_law__1293 (by decide) rfl ?_
  refine Y_aload_n (pc := 1295) dL_law__1295 rfl ?_
  refine Y_callVi (pc := 1296) (d := 0) dL_law__1296 v_L_128 rfl rfl at_11 (Nat.le_of_ble_eq_true rfl) rfl rfl (C_X12_thrown (d := 0) hp h3) (rw9 _ (by decide)) ?_
  refine Y_iload (pc := 1299) dL_law__1299 rfl ?_
  refine Y_icmp_eq (pc := 1301) (tgt := 1306) dL_law__1301 (by decide) (fun _ => ?_) (fun q => absurd rfl q)
  refine Y_iload (pc := 1306) dL_law__1306 rfl ?_
  refine Y_if_ne (pc := 1308) (tgt := 1323) dL_law__1308 (by decide) (fun hk0 => ?_) (fun hk0 => ?_)
  · exact Y_goto (pc := 1323) (tgt := 2309) dL_law__1323 (by decide) (k _ _ _ _ _ hG hp)
  · skip
    refine Y_aload_n (pc := 1311) dL_law__1311 rfl ?_
    refine Y_iconst (pc := 1312) dL_law__1312 (v := 0) rfl ?_
    refine Y_lald (pc := 1313) (t := NT) dL_law__1313 ar_out vp01 ?_
    refine Y_iload (pc := 1314) dL_law__1314 rfl ?_
    refine Y_i2l (pc := 1316) dL_law__1316 ?_
    refine Y_lcmp (pc := 1317) dL_law__1317 ?_
    refine Y_if_eq (pc := 1318) (tgt := 1323) dL_law__1318 (by decide) (fun _ => ?_) (fun q => absurd (cmp_same (hk hk0)) q)
    exact Y_goto (pc := 1323) (tgt := 2309) dL_law__1323 (by decide) (k _ _ _ _ _ hG hp)
theorem LC_serve (hi : inS g i) (hr9 : rL nc ns) (hp : Wp P) (h : St_serve G I) (k : KL g G nc ns i) : Y g mL_law_ (ZL g) nc ns 1326 (lsL i none none) [] (NT, I, J, P) := by
  obtain ⟨r, I1, b, I2, k0, h1, h2, h3, h4, hG⟩ := h
  obtain ⟨J9, hw, hk⟩ := same_out (J := J) h4 (by decide)
  refine Y_aload_n (pc := 1326) dL_law__1326 rfl ?_
  refine Y_aload_n (pc := 1327) dL_law__1327 rfl ?_
  refine Y_callW (pc := 1328) (d := 7) dL_law__1328 wf_serve rfl rfl (Nat.le_of_ble_eq_true rfl) (W_serve (d := 0) hp h1 hw) (hr9.at _ (by decide)) ?_
  have rw9 : ∀ (d : Nat) (_ : d ≤ 120), d + 1 ≤ (ZL g).1.frames ∧ 8 + (40 + 11) + 64 * d ≤ (ZL g).1.locals ∧ nc + 1 ≤ (ZL g).1.cells ∧ ns + 6 ≤ (ZL g).1.slots := fun d hd => hr9.at1 d hd
  refine Y_istore (pc := 1331) dL_law__1331 (by decide) rfl ?_
  refine Y_aload_n (pc := 1333) dL_law__1333 rfl ?_
  refine Y_callVi (pc := 1334) (d := 5) dL_law__1334 v_L_197 rfl rfl at_11 (Nat.le_of_ble_eq_true rfl) rfl rfl (C_X12_serve (d := 0) hp h2) (rw9 _ (by decide)) ?_
  refine Y_istore (pc := 1337) dL_law__1337 (by decide) rfl ?_
  refine Y_aload_n (pc := 1339) dL_law__1339 rfl ?_
  refine Y_callVi (pc := 1340) (d := 0) dL_law__1340 v_L_128 rfl rfl at_11 (Nat.le_of_ble_eq_true rfl) rfl rfl (C_X12_thrown (d := 0) hp h3) (rw9 _ (by decide)) ?_
  refine Y_iload (pc := 1343) dL_law__1343 rfl ?_
  refine Y_icmp_eq (pc := 1345) (tgt := 1350) dL_law__1345 (by decide) (fun _ => ?_) (fun q => absurd rfl q)
  refine Y_iload (pc := 1350) dL_law__1350 rfl ?_
  refine Y_if_ne (pc := 1352) (tgt := 1367) dL_law__1352 (by decide) (fun hk0 => ?_) (fun hk0 => ?_)
  · exact Y_goto (pc := 1367) (tgt := 2309) dL_law__1367 (by decide) (k _ _ _ _ _ hG hp)
  · skip
    refine Y_aload_n (pc := 1355) dL_law__1355 rfl ?_
    refine Y_iconst (pc := 1356) dL_law__1356 (v := 0) rfl ?_
    refine Y_lald (pc := 1357) (t := NT) dL_law__1357 ar_out vp01 ?_
    refine Y_iload (pc := 1358) dL_law__1358 rfl ?_
    refine Y_i2l (pc := 1360) dL_law__1360 ?_
    refine Y_lcmp (pc := 1361) dL_law__1361 ?_
    refine Y_if_eq (pc := 1362) (tgt := 1367) dL_law__1362 (by decide) (fun _ => ?_) (fun q => absurd (cmp_same (hk hk0)) q)
    exact Y_goto (pc := 1367) (tgt := 2309) dL_law__1367 (by decide) (k _ _ _ _ _ hG hp)
theorem LC_jars (hi : inS g i) (hr9 : rL nc ns) (hp : Wp P) (h : St_jars G I (gxs g (i + 1).toNatClampNeg)) (k : KL g G nc ns i) : Y g mL_law_ (ZL g) nc ns 1370 (lsL i none none) [] (NT, I, J, P) := by
  obtain ⟨r, I1, b, I2, k0, h1, h2, h3, h4, hG⟩ := h
  obtain ⟨J9, hw, hk⟩ := same_out (J := J) h4 (by decide)
  refine Y_aload_n (pc := 1370) dL_law__1370 rfl ?_
  refine Y_aload_n (pc := 1371) dL_law__1371 rfl ?_
  refine Y_iload (pc := 1372) dL_law__1372 rfl ?_
  refine Y_iconst (pc := 1374) dL_law__1374 (v := 1) rfl ?_
  refine Y_iadd (pc := 1375) dL_law__1375 ?_
  refine Y_sld (pc := 1376) dL_law__1376 (hi _ (by decide) (by decide)) ?_
  refine Y_aload_n (pc := 1377) dL_law__1377 rfl ?_
  refine Y_callW (pc := 1378) (d := 19) dL_law__1378 wf_jars rfl rfl (Nat.le_of_ble_eq_true rfl) (W_jars (d := 0) hp h1 hw) (hr9.at _ (by decide)) ?_
  have rw9 : ∀ (d : Nat) (_ : d ≤ 120), d + 1 ≤ (ZL g).1.frames ∧ 8 + (40 + 11) + 64 * d ≤ (ZL g).1.locals ∧ nc + 1 ≤ (ZL g).1.cells ∧ ns + 6 ≤ (ZL g).1.slots := fun d hd => hr9.at1 d hd
  refine Y_istore (pc := 1381) dL_law__1381 (by decide) rfl ?_
  refine Y_aload_n (pc := 1383) dL_law__1383 rfl ?_
  refine Y_aload_n (pc := 1384) dL_law__1384 rfl ?_
  refine Y_iload (pc := 1385) dL_law__1385 rfl ?_
  refine Y_iconst (pc := 1387) dL_law__1387 (v := 1) rfl ?_
  refine Y_iadd (pc := 1388) dL_law__1388 ?_
  refine Y_sld (pc := 1389) dL_law__1389 (hi _ (by decide) (by decide)) ?_
  refine Y_callVi (pc := 1390) (d := 5) dL_law__1390 v_L_200 rfl rfl at_11 (Nat.le_of_ble_eq_true rfl) rfl rfl (C_X12_jars (d := 0) hp h2) (rw9 _ (by decide)) ?_
  refine Y_istore (pc := 1393) dL_law__1393 (by decide) rfl ?_
  refine Y_aload_n (pc := 1395) dL_law__1395 rfl ?_
  refine Y_callVi (pc := 1396) (d := 0) dL_law__1396 v_L_128 rfl rfl at_11 (Nat.le_of_ble_eq_true rfl) rfl rfl (C_X12_thrown (d := 0) hp h3) (rw9 _ (by decide)) ?_
  refine Y_iload (pc := 1399) dL_law__1399 rfl ?_
  refine Y_icmp_eq (pc := 1401) (tgt := 1406) dL_law__1401 (by decide) (fun _ => ?_) (fun q => absurd rfl q)
  refine Y_iload (pc := 1406) dL_law__1406 rfl ?_
  refine Y_if_ne (pc := 1408) (tgt := 1423) dL_law__1408 (by decide) (fun hk0 => ?_) (fun hk0 => ?_)
  · exact Y_goto (pc := 1423) (tgt := 2309) dL_law__1423 (by decide) (k _ _ _ _ _ hG hp)
  · skip
    refine Y_aload_n (pc := 1411) dL_law__1411 rfl ?_
    refine Y_iconst (pc := 1412) dL_law__1412 (v := 0) rfl ?_
    refine Y_lald (pc := 1413) (t := NT) dL_law__1413 ar_out vp01 ?_
    refine Y_iload (pc := 1414) dL_law__1414 rfl ?_
    refine Y_i2l (pc := 1416) dL_law__1416 ?_
    refine Y_lcmp (pc := 1417) dL_law__1417 ?_
    refine Y_if_eq (pc := 1418) (tgt := 1423) dL_law__1418 (by decide) (fun _ => ?_) (fun q => absurd (cmp_same (hk hk0)) q)
    exact Y_goto (pc := 1423) (tgt := 2309) dL_law__1423 (by decide) (k _ _ _ _ _ hG hp)
theorem LC_kitchen (hi : inS g i) (hr9 : rL nc ns) (hp : Wp P) (h : St_kitchen G I (gxs g (i + 1).toNatClampNeg)) (k : KL g G nc ns i) : Y g mL_law_ (ZL g) nc ns 1426 (lsL i none none) [] (NT, I, J, P) := by
  obtain ⟨r, b, I2, k0, h1, h2, h3, h4, hG⟩ := h
  obtain ⟨J9, hw, hk⟩ := same_out (J := J) h4 (by decide)
  refine Y_aload_n (pc := 1426) dL_law__1426 rfl ?_
  refine Y_aload_n (pc := 1427) dL_law__1427 rfl ?_
  refine Y_iload (pc := 1428) dL_law__1428 rfl ?_
  refine Y_iconst (pc := 1430) dL_law__1430 (v := 1) rfl ?_
  refine Y_iadd (pc := 1431) dL_law__1431 ?_
  refine Y_sld (pc := 1432) dL_law__1432 (hi _ (by decide) (by decide)) ?_
  refine Y_aload_n (pc := 1433) dL_law__1433 rfl ?_
  refine Y_callW (pc := 1434) (d := 7) dL_law__1434 wf_kitchen rfl rfl (Nat.le_of_ble_eq_true rfl) (W_kitchen (d := 0) hp h1 hw) (hr9.at _ (by decide)) ?_
  have rw9 : ∀ (d : Nat) (_ : d ≤ 120), d + 1 ≤ (ZL g).1.frames ∧ 8 + (40 + 11) + 64 * d ≤ (ZL g).1.locals ∧ nc + 1 ≤ (ZL g).1.cells ∧ ns + 6 ≤ (ZL g).1.slots := fun d hd => hr9.at1 d hd
  refine Y_istore (pc := 1437) dL_law__1437 (by decide) rfl ?_
  refine Y_aload_n (pc := 1439) dL_law__1439 rfl ?_
  refine Y_aload_n (pc := 1440) dL_law__1440 rfl ?_
  refine Y_iload (pc := 1441) dL_law__1441 rfl ?_
  refine Y_iconst (pc := 1443) dL_law__1443 (v := 1) rfl ?_
  refine Y_iadd (pc := 1444) dL_law__1444 ?_
  refine Y_sld (pc := 1445) dL_law__1445 (hi _ (by decide) (by decide)) ?_
  refine Y_callVi (pc := 1446) (d := 4) dL_law__1446 v_L_203 rfl rfl at_11 (Nat.le_of_ble_eq_true rfl) rfl rfl (C_X12_kitchen (d := 0) hp h2) (rw9 _ (by decide)) ?_
  refine Y_istore (pc := 1449) dL_law__1449 (by decide) rfl ?_
  refine Y_aload_n (pc := 1451) dL_law__1451 rfl ?_
  refine Y_callVi (pc := 1452) (d := 0) dL_law__1452 v_L_128 rfl rfl at_11 (Nat.le_of_ble_eq_true rfl) rfl rfl (C_X12_thrown (d := 0) hp h3) (rw9 _ (by decide)) ?_
  refine Y_iload (pc := 1455) dL_law__1455 rfl ?_
  refine Y_icmp_eq (pc := 1457) (tgt := 1462) dL_law__1457 (by decide) (fun _ => ?_) (fun q => absurd rfl q)
  refine Y_iload (pc := 1462) dL_law__1462 rfl ?_
  refine Y_if_ne (pc := 1464) (tgt := 1479) dL_law__1464 (by decide) (fun hk0 => ?_) (fun hk0 => ?_)
  · exact Y_goto (pc := 1479) (tgt := 2309) dL_law__1479 (by decide) (k _ _ _ _ _ hG hp)
  · skip
    refine Y_aload_n (pc := 1467) dL_law__1467 rfl ?_
    refine Y_iconst (pc := 1468) dL_law__1468 (v := 0) rfl ?_
    refine Y_lald (pc := 1469) (t := NT) dL_law__1469 ar_out vp01 ?_
    refine Y_iload (pc := 1470) dL_law__1470 rfl ?_
    refine Y_i2l (pc := 1472) dL_law__1472 ?_
    refine Y_lcmp (pc := 1473) dL_law__1473 ?_
    refine Y_if_eq (pc := 1474) (tgt := 1479) dL_law__1474 (by decide) (fun _ => ?_) (fun q => absurd (cmp_same (hk hk0)) q)
    exact Y_goto (pc := 1479) (tgt := 2309) dL_law__1479 (by decide) (k _ _ _ _ _ hG hp)
theorem LC_dated (hi : inS g i) (hr9 : rL nc ns) (hp : Wp P) (h : St_dated G I (gxs g (i + 1).toNatClampNeg)) (k : KL g G nc ns i) : Y g mL_law_ (ZL g) nc ns 1482 (lsL i none none) [] (NT, I, J, P) := by
  obtain ⟨r, I2, h1, h2, hG⟩ := h
  refine Y_aload_n (pc := 1482) dL_law__1482 rfl ?_
  refine Y_aload_n (pc := 1483) dL_law__1483 rfl ?_
  refine Y_iload (pc := 1484) dL_law__1484 rfl ?_
  refine Y_iconst (pc := 1486) dL_law__1486 (v := 1) rfl ?_
  refine Y_iadd (pc := 1487) dL_law__1487 ?_
  refine Y_sld (pc := 1488) dL_law__1488 (hi _ (by decide) (by decide)) ?_
  refine Y_callVi (pc := 1489) (d := 2) dL_law__1489 v_L_204 rfl rfl at_10 (Nat.le_of_ble_eq_true rfl) rfl rfl (C_X11_dated (d := 0) hp h1) (hr9.at0 _ (by decide)) ?_
  refine Y_aload_n (pc := 1492) dL_law__1492 rfl ?_
  refine Y_aload_n (pc := 1493) dL_law__1493 rfl ?_
  refine Y_iload (pc := 1494) dL_law__1494 rfl ?_
  refine Y_iconst (pc := 1496) dL_law__1496 (v := 1) rfl ?_
  refine Y_iadd (pc := 1497) dL_law__1497 ?_
  refine Y_sld (pc := 1498) dL_law__1498 (hi _ (by decide) (by decide)) ?_
  refine Y_callVi (pc := 1499) (d := 4) dL_law__1499 v_L_207 rfl rfl at_11 (Nat.le_of_ble_eq_true rfl) rfl rfl (C_X12_dated (d := 0) hp h2) (hr9.at0 _ (by decide)) ?_
  refine Y_icmp_eq (pc := 1502) (tgt := 2309) dL_law__1502 (by decide) (fun _ => ?_) (fun q => absurd rfl q)
  exact Y_widen (Nat.le_succ _) (Nat.le_add_right _ 6) (k _ _ _ _ _ hG hp)
theorem LC_gap (hi : inS g i) (hr9 : rL nc ns) (hp : Wp P) (h : St_gap G I) (k : KL g G nc ns i) : Y g mL_law_ (ZL g) nc ns 1507 (lsL i none none) [] (NT, I, J, P) := by
  obtain ⟨r, I2, h1, h2, hG⟩ := h
  refine Y_aload_n (pc := 1507) dL_law__1507 rfl ?_
  refine Y_callVi (pc := 1508) (d := 2) dL_law__1508 v_L_208 rfl rfl at_10 (Nat.le_of_ble_eq_true rfl) rfl rfl (C_X11_gap (d := 0) hp h1) (hr9.at0 _ (by decide)) ?_
  refine Y_aload_n (pc := 1511) dL_law__1511 rfl ?_
  refine Y_callVi (pc := 1512) (d := 3) dL_law__1512 v_L_211 rfl rfl at_11 (Nat.le_of_ble_eq_true rfl) rfl rfl (C_X12_gap (d := 0) hp h2) (hr9.at0 _ (by decide)) ?_
  refine Y_icmp_eq (pc := 1515) (tgt := 2309) dL_law__1515 (by decide) (fun _ => ?_) (fun q => absurd rfl q)
  exact Y_widen (Nat.le_succ _) (Nat.le_add_right _ 6) (k _ _ _ _ _ hG hp)
theorem LC_lover (hi : inS g i) (hr9 : rL nc ns) (hp : Wp P) (h : St_lover G I) (k : KL g G nc ns i) : Y g mL_law_ (ZL g) nc ns 1520 (lsL i none none) [] (NT, I, J, P) := by
  obtain ⟨r, I2, h1, h2, hG⟩ := h
  refine Y_aload_n (pc := 1520) dL_law__1520 rfl ?_
  refine Y_callVi (pc := 1521) (d := 1) dL_law__1521 v_L_212 rfl rfl at_10 (Nat.le_of_ble_eq_true rfl) rfl rfl (C_X11_lover (d := 0) hp h1) (hr9.at0 _ (by decide)) ?_
  refine Y_aload_n (pc := 1524) dL_law__1524 rfl ?_
  refine Y_callVi (pc := 1525) (d := 4) dL_law__1525 v_L_215 rfl rfl at_11 (Nat.le_of_ble_eq_true rfl) rfl rfl (C_X12_lover (d := 0) hp h2) (hr9.at0 _ (by decide)) ?_
  refine Y_icmp_eq (pc := 1528) (tgt := 2309) dL_law__1528 (by decide) (fun _ => ?_) (fun q => absurd rfl q)
  exact Y_widen (Nat.le_succ _) (Nat.le_add_right _ 6) (k _ _ _ _ _ hG hp)
theorem LC_oldest (hi : inS g i) (hr9 : rL nc ns) (hp : Wp P) (h : St_oldest G I) (k : KL g G nc ns i) : Y g mL_law_ (ZL g) nc ns 1533 (lsL i none none) [] (NT, I, J, P) := by
  obtain ⟨r, I2, h1, h2, hG⟩ := h
  refine Y_aload_n (pc := 1533) dL_law__1533 rfl ?_
  refine Y_callVi (pc := 1534) (d := 1) dL_law__1534 v_L_216 rfl rfl at_10 (Nat.le_of_ble_eq_true rfl) rfl rfl (C_X11_oldest (d := 0) hp h1) (hr9.at0 _ (by decide)) ?_
  refine Y_aload_n (pc := 1537) dL_law__1537 rfl ?_
  refine Y_callVi (pc := 1538) (d := 3) dL_law__1538 v_L_219 rfl rfl at_11 (Nat.le_of_ble_eq_true rfl) rfl rfl (C_X12_oldest (d := 0) hp h2) (hr9.at0 _ (by decide)) ?_
  refine Y_icmp_eq (pc := 1541) (tgt := 2309) dL_law__1541 (by decide) (fun _ => ?_) (fun q => absurd rfl q)
  exact Y_widen (Nat.le_succ _) (Nat.le_add_right _ 6) (k _ _ _ _ _ hG hp)
theorem LC_sad (hi : inS g i) (hr9 : rL nc ns) (hp : Wp P) (h : St_sad G I) (k : KL g G nc ns i) : Y g mL_law_ (ZL g) nc ns 1546 (lsL i none none) [] (NT, I, J, P) := by
  obtain ⟨r, I1, I2, h1, h2, hG⟩ := h
  refine Y_aload_n (pc := 1546) dL_law__1546 rfl ?_
  refine Y_callVi (pc := 1547) (d := 5) dL_law__1547 v_L_220 rfl rfl at_10 (Nat.le_of_ble_eq_true rfl) rfl rfl (C_X11_sad (d := 0) hp h1) (hr9.at0 _ (by decide)) ?_
  refine Y_aload_n (pc := 1550) dL_law__1550 rfl ?_
  refine Y_callVi (pc := 1551) (d := 8) dL_law__1551 v_L_223 rfl rfl at_11 (Nat.le_of_ble_eq_true rfl) rfl rfl (C_X12_sad (d := 0) hp h2) (hr9.at0 _ (by decide)) ?_
  refine Y_icmp_eq (pc := 1554) (tgt := 2309) dL_law__1554 (by decide) (fun _ => ?_) (fun q => absurd rfl q)
  exact Y_widen (Nat.le_succ _) (Nat.le_add_right _ 6) (k _ _ _ _ _ hG hp)
theorem LC_hosts (hi : inS g i) (hr9 : rL nc ns) (hp : Wp P) (h : St_hosts G I (gxs g (i + 1).toNatClampNeg) (gxs g (i + 2).toNatClampNeg)) (k : KL g G nc ns i) : Y g mL_law_ (ZL g) nc ns 1559 (lsL i none none) [] (NT, I, J, P) := by
  obtain ⟨r, I1, b, I2, k0, h1, h2, h3, h4, hG⟩ := h
  obtain ⟨J9, hw, hk⟩ := same_out (J := J) h4 (by decide)
  refine Y_aload_n (pc := 1559) dL_law__1559 rfl ?_
  refine Y_aload_n (pc := 1560) dL_law__1560 rfl ?_
  refine Y_iload (pc := 1561) dL_law__1561 rfl ?_
  refine Y_iconst (pc := 1563) dL_law__1563 (v := 1) rfl ?_
  refine Y_iadd (pc := 1564) dL_law__1564 ?_
  refine Y_sld (pc := 1565) dL_law__1565 (hi _ (by decide) (by decide)) ?_
  refine Y_aload_n (pc := 1566) dL_law__1566 rfl ?_
  refine Y_iload (pc := 1567) dL_law__1567 rfl ?_
  refine Y_iconst (pc := 1569) dL_law__1569 (v := 2) rfl ?_
  refine Y_iadd (pc := 1570) dL_law__1570 ?_
  refine Y_sld (pc := 1571) dL_law__1571 (hi _ (by decide) (by decide)) ?_
  refine Y_aload_n (pc := 1572) dL_law__1572 rfl ?_
  refine Y_callW (pc := 1573) (d := 7) dL_law__1573 wf_hosts rfl rfl (Nat.le_of_ble_eq_true rfl) (W_hosts (d := 0) hp h1 hw) (hr9.at _ (by decide)) ?_
  have rw9 : ∀ (d : Nat) (_ : d ≤ 120), d + 1 ≤ (ZL g).1.frames ∧ 8 + (40 + 11) + 64 * d ≤ (ZL g).1.locals ∧ nc + 1 ≤ (ZL g).1.cells ∧ ns + 6 ≤ (ZL g).1.slots := fun d hd => hr9.at1 d hd
  refine Y_istore (pc := 1576) dL_law__1576 (by decide) rfl ?_
  refine Y_aload_n (pc := 1578) dL_law__1578 rfl ?_
  refine Y_aload_n (pc := 1579) dL_law__1579 rfl ?_
  refine Y_iload (pc := 1580) dL_law__1580 rfl ?_
  refine Y_iconst (pc := 1582) dL_law__1582 (v := 1) rfl ?_
  refine Y_iadd (pc := 1583) dL_law__1583 ?_
  refine Y_sld (pc := 1584) dL_law__1584 (hi _ (by decide) (by decide)) ?_
  refine Y_aload_n (pc := 1585) dL_law__1585 rfl ?_
  refine Y_iload (pc := 1586) dL_law__1586 rfl ?_
  refine Y_iconst (pc := 1588) dL_law__1588 (v := 2) rfl ?_
  refine Y_iadd (pc := 1589) dL_law__1589 ?_
  refine Y_sld (pc := 1590) dL_law__1590 (hi _ (by decide) (by decide)) ?_
  refine Y_callVi (pc := 1591) (d := 9) dL_law__1591 v_L_226 rfl rfl at_11 (Nat.le_of_ble_eq_true rfl) rfl rfl (C_X12_hosts (d := 0) hp h2) (rw9 _ (by decide)) ?_
  refine Y_istore (pc := 1594) dL_law__1594 (by decide) rfl ?_
  refine Y_aload_n (pc := 1596) dL_law__1596 rfl ?_
  refine Y_callVi (pc := 1597) (d := 0) dL_law__1597 v_L_128 rfl rfl at_11 (Nat.le_of_ble_eq_true rfl) rfl rfl (C_X12_thrown (d := 0) hp h3) (rw9 _ (by decide)) ?_
  refine Y_iload (pc := 1600) dL_law__1600 rfl ?_
  refine Y_icmp_eq (pc := 1602) (tgt := 1607) dL_law__1602 (by decide) (fun _ => ?_) (fun q => absurd rfl q)
  refine Y_iload (pc := 1607) dL_law__1607 rfl ?_
  refine Y_if_ne (pc := 1609) (tgt := 1624) dL_law__1609 (by decide) (fun hk0 => ?_) (fun hk0 => ?_)
  · exact Y_goto (pc := 1624) (tgt := 2309) dL_law__1624 (by decide) (k _ _ _ _ _ hG hp)
  · skip
    refine Y_aload_n (pc := 1612) dL_law__1612 rfl ?_
    refine Y_iconst (pc := 1613) dL_law__1613 (v := 0) rfl ?_
    refine Y_lald (pc := 1614) (t := NT) dL_law__1614 ar_out vp01 ?_
    refine Y_iload (pc := 1615) dL_law__1615 rfl ?_
    refine Y_i2l (pc := 1617) dL_law__1617 ?_
    refine Y_lcmp (pc := 1618) dL_law__1618 ?_
    refine Y_if_eq (pc := 1619) (tgt := 1624) dL_law__1619 (by decide) (fun _ => ?_) (fun q => absurd (cmp_same (hk hk0)) q)
    exact Y_goto (pc := 1624) (tgt := 2309) dL_law__1624 (by decide) (k _ _ _ _ _ hG hp)
theorem LC_breaks (hi : inS g i) (hr9 : rL nc ns) (hp : Wp P) (h : St_breaks G I (gxs g (i + 1).toNatClampNeg)) (k : KL g G nc ns i) : Y g mL_law_ (ZL g) nc ns 1627 (lsL i none none) [] (NT, I, J, P) := by
  obtain ⟨r, I1, b, I2, k0, h1, h2, h3, h4, hG⟩ := h
  obtain ⟨J9, hw, hk⟩ := same_out (J := J) h4 (by decide)
  refine Y_aload_n (pc := 1627) dL_law__1627 rfl ?_
  refine Y_aload_n (pc := 1628) dL_law__1628 rfl ?_
  refine Y_iload (pc := 1629) dL_law__1629 rfl ?_
  refine Y_iconst (pc := 1631) dL_law__1631 (v := 1) rfl ?_
  refine Y_iadd (pc := 1632) dL_law__1632 ?_
  refine Y_sld (pc := 1633) dL_law__1633 (hi _ (by decide) (by decide)) ?_
  refine Y_aload_n (pc := 1634) dL_law__1634 rfl ?_
  refine Y_callW (pc := 1635) (d := 7) dL_law__1635 wf_breaks rfl rfl (Nat.le_of_ble_eq_true rfl) (W_breaks (d := 0) hp h1 hw) (hr9.at _ (by decide)) ?_
  have rw9 : ∀ (d : Nat) (_ : d ≤ 120), d + 1 ≤ (ZL g).1.frames ∧ 8 + (40 + 11) + 64 * d ≤ (ZL g).1.locals ∧ nc + 1 ≤ (ZL g).1.cells ∧ ns + 6 ≤ (ZL g).1.slots := fun d hd => hr9.at1 d hd
  refine Y_istore (pc := 1638) dL_law__1638 (by decide) rfl ?_
  refine Y_aload_n (pc := 1640) dL_law__1640 rfl ?_
  refine Y_aload_n (pc := 1641) dL_law__1641 rfl ?_
  refine Y_iload (pc := 1642) dL_law__1642 rfl ?_
  refine Y_iconst (pc := 1644) dL_law__1644 (v := 1) rfl ?_
  refine Y_iadd (pc := 1645) dL_law__1645 ?_
  refine Y_sld (pc := 1646) dL_law__1646 (hi _ (by decide) (by decide)) ?_
  refine Y_callVi (pc := 1647) (d := 9) dL_law__1647 v_L_229 rfl rfl at_11 (Nat.le_of_ble_eq_true rfl) rfl rfl (C_X12_breaks (d := 0) hp h2) (rw9 _ (by decide)) ?_
  refine Y_istore (pc := 1650) dL_law__1650 (by decide) rfl ?_
  refine Y_aload_n (pc := 1652) dL_law__1652 rfl ?_
  refine Y_callVi (pc := 1653) (d := 0) dL_law__1653 v_L_128 rfl rfl at_11 (Nat.le_of_ble_eq_true rfl) rfl rfl (C_X12_thrown (d := 0) hp h3) (rw9 _ (by decide)) ?_
  refine Y_iload (pc := 1656) dL_law__1656 rfl ?_
  refine Y_icmp_eq (pc := 1658) (tgt := 1663) dL_law__1658 (by decide) (fun _ => ?_) (fun q => absurd rfl q)
  refine Y_iload (pc := 1663) dL_law__1663 rfl ?_
  refine Y_if_ne (pc := 1665) (tgt := 1680) dL_law__1665 (by decide) (fun hk0 => ?_) (fun hk0 => ?_)
  · exact Y_goto (pc := 1680) (tgt := 2309) dL_law__1680 (by decide) (k _ _ _ _ _ hG hp)
  · skip
    refine Y_aload_n (pc := 1668) dL_law__1668 rfl ?_
    refine Y_iconst (pc := 1669) dL_law__1669 (v := 0) rfl ?_
    refine Y_lald (pc := 1670) (t := NT) dL_law__1670 ar_out vp01 ?_
    refine Y_iload (pc := 1671) dL_law__1671 rfl ?_
    refine Y_i2l (pc := 1673) dL_law__1673 ?_
    refine Y_lcmp (pc := 1674) dL_law__1674 ?_
    refine Y_if_eq (pc := 1675) (tgt := 1680) dL_law__1675 (by decide) (fun _ => ?_) (fun q => absurd (cmp_same (hk hk0)) q)
    exact Y_goto (pc := 1680) (tgt := 2309) dL_law__1680 (by decide) (k _ _ _ _ _ hG hp)
theorem LC_twins (hi : inS g i) (hr9 : rL nc ns) (hp : Wp P) (h : St_twins G I) (k : KL g G nc ns i) : Y g mL_law_ (ZL g) nc ns 1683 (lsL i none none) [] (NT, I, J, P) := by
  obtain ⟨r, I2, h1, h2, hG⟩ := h
  refine Y_aload_n (pc := 1683) dL_law__1683 rfl ?_
  refine Y_callVi (pc := 1684) (d := 1) dL_law__1684 v_L_230 rfl rfl at_10 (Nat.le_of_ble_eq_true rfl) rfl rfl (C_X11_twins (d := 0) hp h1) (hr9.at0 _ (by decide)) ?_
  refine Y_aload_n (pc := 1687) dL_law__1687 rfl ?_
  refine Y_callVi (pc := 1688) (d := 3) dL_law__1688 v_L_233 rfl rfl at_11 (Nat.le_of_ble_eq_true rfl) rfl rfl (C_X12_twins (d := 0) hp h2) (hr9.at0 _ (by decide)) ?_
  refine Y_icmp_eq (pc := 1691) (tgt := 2309) dL_law__1691 (by decide) (fun _ => ?_) (fun q => absurd rfl q)
  exact Y_widen (Nat.le_succ _) (Nat.le_add_right _ 6) (k _ _ _ _ _ hG hp)
theorem LC_next (hi : inS g i) (hr9 : rL nc ns) (hp : Wp P) (h : St_next G I) (k : KL g G nc ns i) : Y g mL_law_ (ZL g) nc ns 1696 (lsL i none none) [] (NT, I, J, P) := by
  obtain ⟨r, I2, h1, h2, hG⟩ := h
  refine Y_aload_n (pc := 1696) dL_law__1696 rfl ?_
  refine Y_callVi (pc := 1697) (d := 1) dL_law__1697 v_L_234 rfl rfl at_10 (Nat.le_of_ble_eq_true rfl) rfl rfl (C_X11_next (d := 0) hp h1) (hr9.at0 _ (by decide)) ?_
  refine Y_aload_n (pc := 1700) dL_law__1700 rfl ?_
  refine Y_callVi (pc := 1701) (d := 3) dL_law__1701 v_L_237 rfl rfl at_11 (Nat.le_of_ble_eq_true rfl) rfl rfl (C_X12_next (d := 0) hp h2) (hr9.at0 _ (by decide)) ?_
  refine Y_icmp_eq (pc := 1704) (tgt := 2309) dL_law__1704 (by decide) (fun _ => ?_) (fun q => absurd rfl q)
  exact Y_widen (Nat.le_succ _) (Nat.le_add_right _ 6) (k _ _ _ _ _ hG hp)
theorem LC_warlike (hi : inS g i) (hr9 : rL nc ns) (hp : Wp P) (h : St_warlike G I) (k : KL g G nc ns i) : Y g mL_law_ (ZL g) nc ns 1709 (lsL i none none) [] (NT, I, J, P) := by
  obtain ⟨r, I2, h1, h2, hG⟩ := h
  refine Y_aload_n (pc := 1709) dL_law__1709 rfl ?_
  refine Y_callVi (pc := 1710) (d := 1) dL_law__1710 v_L_238 rfl rfl at_10 (Nat.le_of_ble_eq_true rfl) rfl rfl (C_X11_warlike (d := 0) hp h1) (hr9.at0 _ (by decide)) ?_
  refine Y_aload_n (pc := 1713) dL_law__1713 rfl ?_
  refine Y_callVi (pc := 1714) (d := 4) dL_law__1714 v_L_241 rfl rfl at_11 (Nat.le_of_ble_eq_true rfl) rfl rfl (C_X12_warlike (d := 0) hp h2) (hr9.at0 _ (by decide)) ?_
  refine Y_icmp_eq (pc := 1717) (tgt := 2309) dL_law__1717 (by decide) (fun _ => ?_) (fun q => absurd rfl q)
  exact Y_widen (Nat.le_succ _) (Nat.le_add_right _ 6) (k _ _ _ _ _ hG hp)
theorem LC_company (hi : inS g i) (hr9 : rL nc ns) (hp : Wp P) (h : St_company G I (gxs g (i + 1).toNatClampNeg)) (k : KL g G nc ns i) : Y g mL_law_ (ZL g) nc ns 1722 (lsL i none none) [] (NT, I, J, P) := by
  obtain ⟨r, b, I2, k0, h1, h2, h3, h4, hG⟩ := h
  obtain ⟨J9, hw, hk⟩ := same_out (J := J) h4 (by decide)
  refine Y_aload_n (pc := 1722) dL_law__1722 rfl ?_
  refine Y_aload_n (pc := 1723) dL_law__1723 rfl ?_
  refine Y_iload (pc := 1724) dL_law__1724 rfl ?_
  refine Y_iconst (pc := 1726) dL_law__1726 (v := 1) rfl ?_
  refine Y_iadd (pc := 1727) dL_law__1727 ?_
  refine Y_sld (pc := 1728) dL_law__1728 (hi _ (by decide) (by decide)) ?_
  refine Y_aload_n (pc := 1729) dL_law__1729 rfl ?_
  refine Y_callW (pc := 1730) (d := 7) dL_law__1730 wf_company rfl rfl (Nat.le_of_ble_eq_true rfl) (W_company (d := 0) hp h1 hw) (hr9.at _ (by decide)) ?_
  have rw9 : ∀ (d : Nat) (_ : d ≤ 120), d + 1 ≤ (ZL g).1.frames ∧ 8 + (40 + 11) + 64 * d ≤ (ZL g).1.locals ∧ nc + 1 ≤ (ZL g).1.cells ∧ ns + 6 ≤ (ZL g).1.slots := fun d hd => hr9.at1 d hd
  refine Y_istore (pc := 1733) dL_law__1733 (by decide) rfl ?_
  refine Y_aload_n (pc := 1735) dL_law__1735 rfl ?_
  refine Y_aload_n (pc := 1736) dL_law__1736 rfl ?_
  refine Y_iload (pc := 1737) dL_law__1737 rfl ?_
  refine Y_iconst (pc := 1739) dL_law__1739 (v := 1) rfl ?_
  refine Y_iadd (pc := 1740) dL_law__1740 ?_
  refine Y_sld (pc := 1741) dL_law__1741 (hi _ (by decide) (by decide)) ?_
  refine Y_callVi (pc := 1742) (d := 4) dL_law__1742 v_L_244 rfl rfl at_11 (Nat.le_of_ble_eq_true rfl) rfl rfl (C_X12_company (d := 0) hp h2) (rw9 _ (by decide)) ?_
  refine Y_istore (pc := 1745) dL_law__1745 (by decide) rfl ?_
  refine Y_aload_n (pc := 1747) dL_law__1747 rfl ?_
  refine Y_callVi (pc := 1748) (d := 0) dL_law__1748 v_L_128 rfl rfl at_11 (Nat.le_of_ble_eq_true rfl) rfl rfl (C_X12_thrown (d := 0) hp h3) (rw9 _ (by decide)) ?_
  refine Y_iload (pc := 1751) dL_law__1751 rfl ?_
  refine Y_icmp_eq (pc := 1753) (tgt := 1758) dL_law__1753 (by decide) (fun _ => ?_) (fun q => absurd rfl q)
  refine Y_iload (pc := 1758) dL_law__1758 rfl ?_
  refine Y_if_ne (pc := 1760) (tgt := 1775) dL_law__1760 (by decide) (fun hk0 => ?_) (fun hk0 => ?_)
  · exact Y_goto (pc := 1775) (tgt := 2309) dL_law__1775 (by decide) (k _ _ _ _ _ hG hp)
  · skip
    refine Y_aload_n (pc := 1763) dL_law__1763 rfl ?_
    refine Y_iconst (pc := 1764) dL_law__1764 (v := 0) rfl ?_
    refine Y_lald (pc := 1765) (t := NT) dL_law__1765 ar_out vp01 ?_
    refine Y_iload (pc := 1766) dL_law__1766 rfl ?_
    refine Y_i2l (pc := 1768) dL_law__1768 ?_
    refine Y_lcmp (pc := 1769) dL_law__1769 ?_
    refine Y_if_eq (pc := 1770) (tgt := 1775) dL_law__1770 (by decide) (fun _ => ?_) (fun q => absurd (cmp_same (hk hk0)) q)
    exact Y_goto (pc := 1775) (tgt := 2309) dL_law__1775 (by decide) (k _ _ _ _ _ hG hp)
theorem LC_odds (hi : inS g i) (hr9 : rL nc ns) (hp : Wp P) (h : St_odds G I (gxs g (i + 1).toNatClampNeg) (gxs g (i + 2).toNatClampNeg)) (k : KL g G nc ns i) : Y g mL_law_ (ZL g) nc ns 1778 (lsL i none none) [] (NT, I, J, P) := by
  obtain ⟨r, h1, hrr⟩ : ∃ r, F_X11_odds I (gxs g (i + 1).toNatClampNeg) (gxs g (i + 2).toNatClampNeg) = some r ∧ True := by
    obtain ⟨r, b, I2, J2, k0, h1, -⟩ := h J
    exact ⟨r, h1, trivial⟩
  obtain ⟨J9, k0, hw, hk⟩ : ∃ J9 k0, wres ["java/lang/IllegalArgumentException"] J r k0 J9 ∧ ∃ b I2 J2, F_X12_odds I J9 (gxs g (i + 1).toNatClampNeg) (gxs g (i + 2).toNatClampNeg) = some (b, I2, J2) ∧ J2 218 0 = J9 218 0 ∧ F_X12_thrown I2 = some k0 ∧ (k0 = 0 → J9 218 0 = b.toInt64) ∧ G I2 := by
    exact odds_aux h h1
  obtain ⟨b, I2, J2, h2, hJ, h3, hk, hG⟩ := hk
  refine Y_aload_n (pc := 1778) dL_law__1778 rfl ?_
  refine Y_aload_n (pc := 1779) dL_law__1779 rfl ?_
  refine Y_iload (pc := 1780) dL_law__1780 rfl ?_
  refine Y_iconst (pc := 1782) dL_law__1782 (v := 1) rfl ?_
  refine Y_iadd (pc := 1783) dL_law__1783 ?_
  refine Y_sld (pc := 1784) dL_law__1784 (hi _ (by decide) (by decide)) ?_
  refine Y_aload_n (pc := 1785) dL_law__1785 rfl ?_
  refine Y_iload (pc := 1786) dL_law__1786 rfl ?_
  refine Y_iconst (pc := 1788) dL_law__1788 (v := 2) rfl ?_
  refine Y_iadd (pc := 1789) dL_law__1789 ?_
  refine Y_sld (pc := 1790) dL_law__1790 (hi _ (by decide) (by decide)) ?_
  refine Y_aload_n (pc := 1791) dL_law__1791 rfl ?_
  refine Y_callW (pc := 1792) (d := 18) dL_law__1792 wf_odds rfl rfl (Nat.le_of_ble_eq_true rfl) (W_odds (d := 0) hp h1 hw) (hr9.at _ (by decide)) ?_
  have rw9 : ∀ (d : Nat) (_ : d ≤ 120), d + 1 ≤ (ZL g).1.frames ∧ 8 + (40 + 11) + 64 * d ≤ (ZL g).1.locals ∧ nc + 1 ≤ (ZL g).1.cells ∧ ns + 6 ≤ (ZL g).1.slots := fun d hd => hr9.at1 d hd
  refine Y_istore (pc := 1795) dL_law__1795 (by decide) rfl ?_
  refine Y_aload_n (pc := 1797) dL_law__1797 rfl ?_
  refine Y_aload_n (pc := 1798) dL_law__1798 rfl ?_
  refine Y_iload (pc := 1799) dL_law__1799 rfl ?_
  refine Y_iconst (pc := 1801) dL_law__1801 (v := 1) rfl ?_
  refine Y_iadd (pc := 1802) dL_law__1802 ?_
  refine Y_sld (pc := 1803) dL_law__1803 (hi _ (by decide) (by decide)) ?_
  refine Y_aload_n (pc := 1804) dL_law__1804 rfl ?_
  refine Y_iload (pc := 1805) dL_law__1805 rfl ?_
  refine Y_iconst (pc := 1807) dL_law__1807 (v := 2) rfl ?_
  refine Y_iadd (pc := 1808) dL_law__1808 ?_
  refine Y_sld (pc := 1809) dL_law__1809 (hi _ (by decide) (by decide)) ?_
  refine Y_callVi (pc := 1810) (d := 1) dL_law__1810 v_L_247 rfl rfl at_11 (Nat.le_of_ble_eq_true rfl) rfl rfl (C_X12_odds (d := 0) hp h2) (rw9 _ (by decide)) ?_
  refine Y_istore (pc := 1813) dL_law__1813 (by decide) rfl ?_
  refine Y_aload_n (pc := 1815) dL_law__1815 rfl ?_
  refine Y_callVi (pc := 1816) (d := 0) dL_law__1816 v_L_128 rfl rfl at_11 (Nat.le_of_ble_eq_true rfl) rfl rfl (C_X12_thrown (d := 0) hp h3) (rw9 _ (by decide)) ?_
  refine Y_iload (pc := 1819) dL_law__1819 rfl ?_
  refine Y_icmp_eq (pc := 1821) (tgt := 1826) dL_law__1821 (by decide) (fun _ => ?_) (fun q => absurd rfl q)
  refine Y_iload (pc := 1826) dL_law__1826 rfl ?_
  refine Y_if_ne (pc := 1828) (tgt := 1843) dL_law__1828 (by decide) (fun hk0 => ?_) (fun hk0 => ?_)
  · exact Y_goto (pc := 1843) (tgt := 2309) dL_law__1843 (by decide) (k _ _ _ _ _ hG hp)
  · skip
    refine Y_aload_n (pc := 1831) dL_law__1831 rfl ?_
    refine Y_iconst (pc := 1832) dL_law__1832 (v := 0) rfl ?_
    refine Y_lald (pc := 1833) (t := NT) dL_law__1833 ar_out vp01 ?_
    refine Y_iload (pc := 1834) dL_law__1834 rfl ?_
    refine Y_i2l (pc := 1836) dL_law__1836 ?_
    refine Y_lcmp (pc := 1837) dL_law__1837 ?_
    refine Y_if_eq (pc := 1838) (tgt := 1843) dL_law__1838 (by decide) (fun _ => ?_) (fun q => absurd (cmp_same (hJ.trans (hk hk0))) q)
    exact Y_goto (pc := 1843) (tgt := 2309) dL_law__1843 (by decide) (k _ _ _ _ _ hG hp)
theorem LC_share (hi : inS g i) (hr9 : rL nc ns) (hp : Wp P) (h : St_share G I (gxs g (i + 1).toNatClampNeg)) (k : KL g G nc ns i) : Y g mL_law_ (ZL g) nc ns 1846 (lsL i none none) [] (NT, I, J, P) := by
  obtain ⟨r, b, I2, k0, h1, h2, h3, h4, hG⟩ := h
  obtain ⟨J9, hw, hk⟩ := same_out (J := J) h4 (by decide)
  refine Y_aload_n (pc := 1846) dL_law__1846 rfl ?_
  refine Y_aload_n (pc := 1847) dL_law__1847 rfl ?_
  refine Y_iload (pc := 1848) dL_law__1848 rfl ?_
  refine Y_iconst (pc := 1850) dL_law__1850 (v := 1) rfl ?_
  refine Y_iadd (pc := 1851) dL_law__1851 ?_
  refine Y_sld (pc := 1852) dL_law__1852 (hi _ (by decide) (by decide)) ?_
  refine Y_aload_n (pc := 1853) dL_law__1853 rfl ?_
  refine Y_callW (pc := 1854) (d := 7) dL_law__1854 wf_share rfl rfl (Nat.le_of_ble_eq_true rfl) (W_share (d := 0) hp h1 hw) (hr9.at _ (by decide)) ?_
  have rw9 : ∀ (d : Nat) (_ : d ≤ 120), d + 1 ≤ (ZL g).1.frames ∧ 8 + (40 + 11) + 64 * d ≤ (ZL g).1.locals ∧ nc + 1 ≤ (ZL g).1.cells ∧ ns + 6 ≤ (ZL g).1.slots := fun d hd => hr9.at1 d hd
  refine Y_istore (pc := 1857) dL_law__1857 (by decide) rfl ?_
  refine Y_aload_n (pc := 1859) dL_law__1859 rfl ?_
  refine Y_aload_n (pc := 1860) dL_law__1860 rfl ?_
  refine Y_iload (pc := 1861) dL_law__1861 rfl ?_
  refine Y_iconst (pc := 1863) dL_law__1863 (v := 1) rfl ?_
  refine Y_iadd (pc := 1864) dL_law__1864 ?_
  refine Y_sld (pc := 1865) dL_law__1865 (hi _ (by decide) (by decide)) ?_
  refine Y_callVi (pc := 1866) (d := 4) dL_law__1866 v_L_250 rfl rfl at_11 (Nat.le_of_ble_eq_true rfl) rfl rfl (C_X12_share (d := 0) hp h2) (rw9 _ (by decide)) ?_
  refine Y_istore (pc := 1869) dL_law__1869 (by decide) rfl ?_
  refine Y_aload_n (pc := 1871) dL_law__1871 rfl ?_
  refine Y_callVi (pc := 1872) (d := 0) dL_law__1872 v_L_128 rfl rfl at_11 (Nat.le_of_ble_eq_true rfl) rfl rfl (C_X12_thrown (d := 0) hp h3) (rw9 _ (by decide)) ?_
  refine Y_iload (pc := 1875) dL_law__1875 rfl ?_
  refine Y_icmp_eq (pc := 1877) (tgt := 1882) dL_law__1877 (by decide) (fun _ => ?_) (fun q => absurd rfl q)
  refine Y_iload (pc := 1882) dL_law__1882 rfl ?_
  refine Y_if_ne (pc := 1884) (tgt := 1899) dL_law__1884 (by decide) (fun hk0 => ?_) (fun hk0 => ?_)
  · exact Y_goto (pc := 1899) (tgt := 2309) dL_law__1899 (by decide) (k _ _ _ _ _ hG hp)
  · skip
    refine Y_aload_n (pc := 1887) dL_law__1887 rfl ?_
    refine Y_iconst (pc := 1888) dL_law__1888 (v := 0) rfl ?_
    refine Y_lald (pc := 1889) (t := NT) dL_law__1889 ar_out vp01 ?_
    refine Y_iload (pc := 1890) dL_law__1890 rfl ?_
    refine Y_i2l (pc := 1892) dL_law__1892 ?_
    refine Y_lcmp (pc := 1893) dL_law__1893 ?_
    refine Y_if_eq (pc := 1894) (tgt := 1899) dL_law__1894 (by decide) (fun _ => ?_) (fun q => absurd (cmp_same (hk hk0)) q)
    exact Y_goto (pc := 1899) (tgt := 2309) dL_law__1899 (by decide) (k _ _ _ _ _ hG hp)
theorem LC_trial (hi : inS g i) (hr9 : rL nc ns) (hp : Wp P) (h : ∀ x2 : Int32, x2 = 0 ∨ x2 = 1 → St_trial G I (gxs g (i + 1).toNatClampNeg) x2) (k : KL g G nc ns i) : Y g mL_law_ (ZL g) nc ns 1902 (lsL i none none) [] (NT, I, J, P) := by
  by_cases hz : gxs g (i + 2).toNatClampNeg = 0
  · obtain ⟨r, I1, b, I2, k0, h1, h2, h3, h4, hG⟩ := (h 0 (Or.inl rfl))
    obtain ⟨J9, hw, hk⟩ := same_out (J := J) h4 (by decide)
    refine Y_aload_n (pc := 1902) dL_law__1902 rfl ?_
    refine Y_aload_n (pc := 1903) dL_law__1903 rfl ?_
    refine Y_iload (pc := 1904) dL_law__1904 rfl ?_
    refine Y_iconst (pc := 1906) dL_law__1906 (v := 1) rfl ?_
    refine Y_iadd (pc := 1907) dL_law__1907 ?_
    refine Y_sld (pc := 1908) dL_law__1908 (hi _ (by decide) (by decide)) ?_
    refine Y_aload_n (pc := 1909) dL_law__1909 rfl ?_
    refine Y_iload (pc := 1910) dL_law__1910 rfl ?_
    refine Y_iconst (pc := 1912) dL_law__1912 (v := 2) rfl ?_
    refine Y_iadd (pc := 1913) dL_law__1913 ?_
    refine Y_sld (pc := 1914) dL_law__1914 (hi _ (by decide) (by decide)) ?_
    refine Y_if_eq (pc := 1915) (tgt := 1922) dL_law__1915 (by decide) (fun _ => ?_) (fun q => absurd hz q)
    refine Y_iconst (pc := 1922) dL_law__1922 (v := 0) rfl ?_
    refine Y_aload_n (pc := 1923) dL_law__1923 rfl ?_
    refine Y_callW (pc := 1924) (d := 8) dL_law__1924 wf_trial rfl rfl (Nat.le_of_ble_eq_true rfl) (W_trial (d := 0) hp h1 hw) (hr9.at _ (by decide)) ?_
    have rw9 : ∀ (d : Nat) (_ : d ≤ 120), d + 1 ≤ (ZL g).1.frames ∧ 8 + (40 + 11) + 64 * d ≤ (ZL g).1.locals ∧ nc + 1 ≤ (ZL g).1.cells ∧ ns + 6 ≤ (ZL g).1.slots := fun d hd => hr9.at1 d hd
    refine Y_istore (pc := 1927) dL_law__1927 (by decide) rfl ?_
    refine Y_aload_n (pc := 1929) dL_law__1929 rfl ?_
    refine Y_aload_n (pc := 1930) dL_law__1930 rfl ?_
    refine Y_iload (pc := 1931) dL_law__1931 rfl ?_
    refine Y_iconst (pc := 1933) dL_law__1933 (v := 1) rfl ?_
    refine Y_iadd (pc := 1934) dL_law__1934 ?_
    refine Y_sld (pc := 1935) dL_law__1935 (hi _ (by decide) (by decide)) ?_
    refine Y_aload_n (pc := 1936) dL_law__1936 rfl ?_
    refine Y_iload (pc := 1937) dL_law__1937 rfl ?_
    refine Y_iconst (pc := 1939) dL_law__1939 (v := 2) rfl ?_
    refine Y_iadd (pc := 1940) dL_law__1940 ?_
    refine Y_sld (pc := 1941) dL_law__1941 (hi _ (by decide) (by decide)) ?_
    refine Y_if_eq (pc := 1942) (tgt := 1949) dL_law__1942 (by decide) (fun _ => ?_) (fun q => absurd hz q)
    refine Y_iconst (pc := 1949) dL_law__1949 (v := 0) rfl ?_
    refine Y_callVi (pc := 1950) (d := 11) dL_law__1950 v_L_254 rfl rfl at_11 (Nat.le_of_ble_eq_true rfl) rfl rfl (C_X12_trial (d := 0) hp h2) (rw9 _ (by decide)) ?_
    refine Y_istore (pc := 1953) dL_law__1953 (by decide) rfl ?_
    refine Y_aload_n (pc := 1955) dL_law__1955 rfl ?_
    refine Y_callVi (pc := 1956) (d := 0) dL_law__1956 v_L_128 rfl rfl at_11 (Nat.le_of_ble_eq_true rfl) rfl rfl (C_X12_thrown (d := 0) hp h3) (rw9 _ (by decide)) ?_
    refine Y_iload (pc := 1959) dL_law__1959 rfl ?_
    refine Y_icmp_eq (pc := 1961) (tgt := 1966) dL_law__1961 (by decide) (fun _ => ?_) (fun q => absurd rfl q)
    refine Y_iload (pc := 1966) dL_law__1966 rfl ?_
    refine Y_if_ne (pc := 1968) (tgt := 1983) dL_law__1968 (by decide) (fun hk0 => ?_) (fun hk0 => ?_)
    · exact Y_goto (pc := 1983) (tgt := 2309) dL_law__1983 (by decide) (k _ _ _ _ _ hG hp)
    · skip
      refine Y_aload_n (pc := 1971) dL_law__1971 rfl ?_
      refine Y_iconst (pc := 1972) dL_law__1972 (v := 0) rfl ?_
      refine Y_lald (pc := 1973) (t := NT) dL_law__1973 ar_out vp01 ?_
      refine Y_iload (pc := 1974) dL_law__1974 rfl ?_
      refine Y_i2l (pc := 1976) dL_law__1976 ?_
      refine Y_lcmp (pc := 1977) dL_law__1977 ?_
      refine Y_if_eq (pc := 1978) (tgt := 1983) dL_law__1978 (by decide) (fun _ => ?_) (fun q => absurd (cmp_same (hk hk0)) q)
      exact Y_goto (pc := 1983) (tgt := 2309) dL_law__1983 (by decide) (k _ _ _ _ _ hG hp)
  · obtain ⟨r, I1, b, I2, k0, h1, h2, h3, h4, hG⟩ := (h 1 (Or.inr rfl))
    obtain ⟨J9, hw, hk⟩ := same_out (J := J) h4 (by decide)
    refine Y_aload_n (pc := 1902) dL_law__1902 rfl ?_
    refine Y_aload_n (pc := 1903) dL_law__1903 rfl ?_
    refine Y_iload (pc := 1904) dL_law__1904 rfl ?_
    refine Y_iconst (pc := 1906) dL_law__1906 (v := 1) rfl ?_
    refine Y_iadd (pc := 1907) dL_law__1907 ?_
    refine Y_sld (pc := 1908) dL_law__1908 (hi _ (by decide) (by decide)) ?_
    refine Y_aload_n (pc := 1909) dL_law__1909 rfl ?_
    refine Y_iload (pc := 1910) dL_law__1910 rfl ?_
    refine Y_iconst (pc := 1912) dL_law__1912 (v := 2) rfl ?_
    refine Y_iadd (pc := 1913) dL_law__1913 ?_
    refine Y_sld (pc := 1914) dL_law__1914 (hi _ (by decide) (by decide)) ?_
    refine Y_if_eq (pc := 1915) (tgt := 1922) dL_law__1915 (by decide) (fun q => absurd q hz) (fun _ => ?_)
    refine Y_iconst (pc := 1918) dL_law__1918 (v := 1) rfl ?_
    refine Y_goto (pc := 1919) (tgt := 1923) dL_law__1919 (by decide) ?_
    refine Y_aload_n (pc := 1923) dL_law__1923 rfl ?_
    refine Y_callW (pc := 1924) (d := 8) dL_law__1924 wf_trial rfl rfl (Nat.le_of_ble_eq_true rfl) (W_trial (d := 0) hp h1 hw) (hr9.at _ (by decide)) ?_
    have rw9 : ∀ (d : Nat) (_ : d ≤ 120), d + 1 ≤ (ZL g).1.frames ∧ 8 + (40 + 11) + 64 * d ≤ (ZL g).1.locals ∧ nc + 1 ≤ (ZL g).1.cells ∧ ns + 6 ≤ (ZL g).1.slots := fun d hd => hr9.at1 d hd
    refine Y_istore (pc := 1927) dL_law__1927 (by decide) rfl ?_
    refine Y_aload_n (pc := 1929) dL_law__1929 rfl ?_
    refine Y_aload_n (pc := 1930) dL_law__1930 rfl ?_
    refine Y_iload (pc := 1931) dL_law__1931 rfl ?_
    refine Y_iconst (pc := 1933) dL_law__1933 (v := 1) rfl ?_
    refine Y_iadd (pc := 1934) dL_law__1934 ?_
    refine Y_sld (pc := 1935) dL_law__1935 (hi _ (by decide) (by decide)) ?_
    refine Y_aload_n (pc := 1936) dL_law__1936 rfl ?_
    refine Y_iload (pc := 1937) dL_law__1937 rfl ?_
    refine Y_iconst (pc := 1939) dL_law__1939 (v := 2) rfl ?_
    refine Y_iadd (pc := 1940) dL_law__1940 ?_
    refine Y_sld (pc := 1941) dL_law__1941 (hi _ (by decide) (by decide)) ?_
    refine Y_if_eq (pc := 1942) (tgt := 1949) dL_law__1942 (by decide) (fun q => absurd q hz) (fun _ => ?_)
    refine Y_iconst (pc := 1945) dL_law__1945 (v := 1) rfl ?_
    refine Y_goto (pc := 1946) (tgt := 1950) dL_law__1946 (by decide) ?_
    refine Y_callVi (pc := 1950) (d := 11) dL_law__1950 v_L_254 rfl rfl at_11 (Nat.le_of_ble_eq_true rfl) rfl rfl (C_X12_trial (d := 0) hp h2) (rw9 _ (by decide)) ?_
    refine Y_istore (pc := 1953) dL_law__1953 (by decide) rfl ?_
    refine Y_aload_n (pc := 1955) dL_law__1955 rfl ?_
    refine Y_callVi (pc := 1956) (d := 0) dL_law__1956 v_L_128 rfl rfl at_11 (Nat.le_of_ble_eq_true rfl) rfl rfl (C_X12_thrown (d := 0) hp h3) (rw9 _ (by decide)) ?_
    refine Y_iload (pc := 1959) dL_law__1959 rfl ?_
    refine Y_icmp_eq (pc := 1961) (tgt := 1966) dL_law__1961 (by decide) (fun _ => ?_) (fun q => absurd rfl q)
    refine Y_iload (pc := 1966) dL_law__1966 rfl ?_
    refine Y_if_ne (pc := 1968) (tgt := 1983) dL_law__1968 (by decide) (fun hk0 => ?_) (fun hk0 => ?_)
    · exact Y_goto (pc := 1983) (tgt := 2309) dL_law__1983 (by decide) (k _ _ _ _ _ hG hp)
    · skip
      refine Y_aload_n (pc := 1971) dL_law__1971 rfl ?_
      refine Y_iconst (pc := 1972) dL_law__1972 (v := 0) rfl ?_
      refine Y_lald (pc := 1973) (t := NT) dL_law__1973 ar_out vp01 ?_
      refine Y_iload (pc := 1974) dL_law__1974 rfl ?_
      refine Y_i2l (pc := 1976) dL_law__1976 ?_
      refine Y_lcmp (pc := 1977) dL_law__1977 ?_
      refine Y_if_eq (pc := 1978) (tgt := 1983) dL_law__1978 (by decide) (fun _ => ?_) (fun q => absurd (cmp_same (hk hk0)) q)
      exact Y_goto (pc := 1983) (tgt := 2309) dL_law__1983 (by decide) (k _ _ _ _ _ hG hp)
theorem LC_span (hi : inS g i) (hr9 : rL nc ns) (hp : Wp P) (h : ∀ x2 : Int32, x2 = 0 ∨ x2 = 1 → St_span G I (gxs g (i + 1).toNatClampNeg) x2) (k : KL g G nc ns i) : Y g mL_law_ (ZL g) nc ns 1986 (lsL i none none) [] (NT, I, J, P) := by
  by_cases hz : gxs g (i + 2).toNatClampNeg = 0
  · obtain ⟨r, I1, b, I2, k0, h1, h2, h3, h4, hG⟩ := (h 0 (Or.inl rfl))
    obtain ⟨J9, hw, hk⟩ := same_out (J := J) h4 (by decide)
    refine Y_aload_n (pc := 1986) dL_law__1986 rfl ?_
    refine Y_aload_n (pc := 1987) dL_law__1987 rfl ?_
    refine Y_iload (pc := 1988) dL_law__1988 rfl ?_
    refine Y_iconst (pc := 1990) dL_law__1990 (v := 1) rfl ?_
    refine Y_iadd (pc := 1991) dL_law__1991 ?_
    refine Y_sld (pc := 1992) dL_law__1992 (hi _ (by decide) (by decide)) ?_
    refine Y_aload_n (pc := 1993) dL_law__1993 rfl ?_
    refine Y_iload (pc := 1994) dL_law__1994 rfl ?_
    refine Y_iconst (pc := 1996) dL_law__1996 (v := 2) rfl ?_
    refine Y_iadd (pc := 1997) dL_law__1997 ?_
    refine Y_sld (pc := 1998) dL_law__1998 (hi _ (by decide) (by decide)) ?_
    refine Y_if_eq (pc := 1999) (tgt := 2006) dL_law__1999 (by decide) (fun _ => ?_) (fun q => absurd hz q)
    refine Y_iconst (pc := 2006) dL_law__2006 (v := 0) rfl ?_
    refine Y_aload_n (pc := 2007) dL_law__2007 rfl ?_
    refine Y_callW (pc := 2008) (d := 8) dL_law__2008 wf_span rfl rfl (Nat.le_of_ble_eq_true rfl) (W_span (d := 0) hp h1 hw) (hr9.at _ (by decide)) ?_
    have rw9 : ∀ (d : Nat) (_ : d ≤ 120), d + 1 ≤ (ZL g).1.frames ∧ 8 + (40 + 11) + 64 * d ≤ (ZL g).1.locals ∧ nc + 1 ≤ (ZL g).1.cells ∧ ns + 6 ≤ (ZL g).1.slots := fun d hd => hr9.at1 d hd
    refine Y_istore (pc := 2011) dL_law__2011 (by decide) rfl ?_
    refine Y_aload_n (pc := 2013) dL_law__2013 rfl ?_
    refine Y_aload_n (pc := 2014) dL_law__2014 rfl ?_
    refine Y_iload (pc := 2015) dL_law__2015 rfl ?_
    refine Y_iconst (pc := 2017) dL_law__2017 (v := 1) rfl ?_
    refine Y_iadd (pc := 2018) dL_law__2018 ?_
    refine Y_sld (pc := 2019) dL_law__2019 (hi _ (by decide) (by decide)) ?_
    refine Y_aload_n (pc := 2020) dL_law__2020 rfl ?_
    refine Y_iload (pc := 2021) dL_law__2021 rfl ?_
    refine Y_iconst (pc := 2023) dL_law__2023 (v := 2) rfl ?_
    refine Y_iadd (pc := 2024) dL_law__2024 ?_
    refine Y_sld (pc := 2025) dL_law__2025 (hi _ (by decide) (by decide)) ?_
    refine Y_if_eq (pc := 2026) (tgt := 2033) dL_law__2026 (by decide) (fun _ => ?_) (fun q => absurd hz q)
    refine Y_iconst (pc := 2033) dL_law__2033 (v := 0) rfl ?_
    refine Y_callVi (pc := 2034) (d := 11) dL_law__2034 v_L_257 rfl rfl at_11 (Nat.le_of_ble_eq_true rfl) rfl rfl (C_X12_span (d := 0) hp h2) (rw9 _ (by decide)) ?_
    refine Y_istore (pc := 2037) dL_law__2037 (by decide) rfl ?_
    refine Y_aload_n (pc := 2039) dL_law__2039 rfl ?_
    refine Y_callVi (pc := 2040) (d := 0) dL_law__2040 v_L_128 rfl rfl at_11 (Nat.le_of_ble_eq_true rfl) rfl rfl (C_X12_thrown (d := 0) hp h3) (rw9 _ (by decide)) ?_
    refine Y_iload (pc := 2043) dL_law__2043 rfl ?_
    refine Y_icmp_eq (pc := 2045) (tgt := 2050) dL_law__2045 (by decide) (fun _ => ?_) (fun q => absurd rfl q)
    refine Y_iload (pc := 2050) dL_law__2050 rfl ?_
    refine Y_if_ne (pc := 2052) (tgt := 2067) dL_law__2052 (by decide) (fun hk0 => ?_) (fun hk0 => ?_)
    · exact Y_goto (pc := 2067) (tgt := 2309) dL_law__2067 (by decide) (k _ _ _ _ _ hG hp)
    · skip
      refine Y_aload_n (pc := 2055) dL_law__2055 rfl ?_
      refine Y_iconst (pc := 2056) dL_law__2056 (v := 0) rfl ?_
      refine Y_lald (pc := 2057) (t := NT) dL_law__2057 ar_out vp01 ?_
      refine Y_iload (pc := 2058) dL_law__2058 rfl ?_
      refine Y_i2l (pc := 2060) dL_law__2060 ?_
      refine Y_lcmp (pc := 2061) dL_law__2061 ?_
      refine Y_if_eq (pc := 2062) (tgt := 2067) dL_law__2062 (by decide) (fun _ => ?_) (fun q => absurd (cmp_same (hk hk0)) q)
      exact Y_goto (pc := 2067) (tgt := 2309) dL_law__2067 (by decide) (k _ _ _ _ _ hG hp)
  · obtain ⟨r, I1, b, I2, k0, h1, h2, h3, h4, hG⟩ := (h 1 (Or.inr rfl))
    obtain ⟨J9, hw, hk⟩ := same_out (J := J) h4 (by decide)
    refine Y_aload_n (pc := 1986) dL_law__1986 rfl ?_
    refine Y_aload_n (pc := 1987) dL_law__1987 rfl ?_
    refine Y_iload (pc := 1988) dL_law__1988 rfl ?_
    refine Y_iconst (pc := 1990) dL_law__1990 (v := 1) rfl ?_
    refine Y_iadd (pc := 1991) dL_law__1991 ?_
    refine Y_sld (pc := 1992) dL_law__1992 (hi _ (by decide) (by decide)) ?_
    refine Y_aload_n (pc := 1993) dL_law__1993 rfl ?_
    refine Y_iload (pc := 1994) dL_law__1994 rfl ?_
    refine Y_iconst (pc := 1996) dL_law__1996 (v := 2) rfl ?_
    refine Y_iadd (pc := 1997) dL_law__1997 ?_
    refine Y_sld (pc := 1998) dL_law__1998 (hi _ (by decide) (by decide)) ?_
    refine Y_if_eq (pc := 1999) (tgt := 2006) dL_law__1999 (by decide) (fun q => absurd q hz) (fun _ => ?_)
    refine Y_iconst (pc := 2002) dL_law__2002 (v := 1) rfl ?_
    refine Y_goto (pc := 2003) (tgt := 2007) dL_law__2003 (by decide) ?_
    refine Y_aload_n (pc := 2007) dL_law__2007 rfl ?_
    refine Y_callW (pc := 2008) (d := 8) dL_law__2008 wf_span rfl rfl (Nat.le_of_ble_eq_true rfl) (W_span (d := 0) hp h1 hw) (hr9.at _ (by decide)) ?_
    have rw9 : ∀ (d : Nat) (_ : d ≤ 120), d + 1 ≤ (ZL g).1.frames ∧ 8 + (40 + 11) + 64 * d ≤ (ZL g).1.locals ∧ nc + 1 ≤ (ZL g).1.cells ∧ ns + 6 ≤ (ZL g).1.slots := fun d hd => hr9.at1 d hd
    refine Y_istore (pc := 2011) dL_law__2011 (by decide) rfl ?_
    refine Y_aload_n (pc := 2013) dL_law__2013 rfl ?_
    refine Y_aload_n (pc := 2014) dL_law__2014 rfl ?_
    refine Y_iload (pc := 2015) dL_law__2015 rfl ?_
    refine Y_iconst (pc := 2017) dL_law__2017 (v := 1) rfl ?_
    refine Y_iadd (pc := 2018) dL_law__2018 ?_
    refine Y_sld (pc := 2019) dL_law__2019 (hi _ (by decide) (by decide)) ?_
    refine Y_aload_n (pc := 2020) dL_law__2020 rfl ?_
    refine Y_iload (pc := 2021) dL_law__2021 rfl ?_
    refine Y_iconst (pc := 2023) dL_law__2023 (v := 2) rfl ?_
    refine Y_iadd (pc := 2024) dL_law__2024 ?_
    refine Y_sld (pc := 2025) dL_law__2025 (hi _ (by decide) (by decide)) ?_
    refine Y_if_eq (pc := 2026) (tgt := 2033) dL_law__2026 (by decide) (fun q => absurd q hz) (fun _ => ?_)
    refine Y_iconst (pc := 2029) dL_law__2029 (v := 1) rfl ?_
    refine Y_goto (pc := 2030) (tgt := 2034) dL_law__2030 (by decide) ?_
    refine Y_callVi (pc := 2034) (d := 11) dL_law__2034 v_L_257 rfl rfl at_11 (Nat.le_of_ble_eq_true rfl) rfl rfl (C_X12_span (d := 0) hp h2) (rw9 _ (by decide)) ?_
    refine Y_istore (pc := 2037) dL_law__2037 (by decide) rfl ?_
    refine Y_aload_n (pc := 2039) dL_law__2039 rfl ?_
    refine Y_callVi (pc := 2040) (d := 0) dL_law__2040 v_L_128 rfl rfl at_11 (Nat.le_of_ble_eq_true rfl) rfl rfl (C_X12_thrown (d := 0) hp h3) (rw9 _ (by decide)) ?_
    refine Y_iload (pc := 2043) dL_law__2043 rfl ?_
    refine Y_icmp_eq (pc := 2045) (tgt := 2050) dL_law__2045 (by decide) (fun _ => ?_) (fun q => absurd rfl q)
    refine Y_iload (pc := 2050) dL_law__2050 rfl ?_
    refine Y_if_ne (pc := 2052) (tgt := 2067) dL_law__2052 (by decide) (fun hk0 => ?_) (fun hk0 => ?_)
    · exact Y_goto (pc := 2067) (tgt := 2309) dL_law__2067 (by decide) (k _ _ _ _ _ hG hp)
    · skip
      refine Y_aload_n (pc := 2055) dL_law__2055 rfl ?_
      refine Y_iconst (pc := 2056) dL_law__2056 (v := 0) rfl ?_
      refine Y_lald (pc := 2057) (t := NT) dL_law__2057 ar_out vp01 ?_
      refine Y_iload (pc := 2058) dL_law__2058 rfl ?_
      refine Y_i2l (pc := 2060) dL_law__2060 ?_
      refine Y_lcmp (pc := 2061) dL_law__2061 ?_
      refine Y_if_eq (pc := 2062) (tgt := 2067) dL_law__2062 (by decide) (fun _ => ?_) (fun q => absurd (cmp_same (hk hk0)) q)
      exact Y_goto (pc := 2067) (tgt := 2309) dL_law__2067 (by decide) (k _ _ _ _ _ hG hp)
theorem LC_led (hi : inS g i) (hr9 : rL nc ns) (hp : Wp P) (h : ∀ x2 : Int32, x2 = 0 ∨ x2 = 1 → St_led G I (gxs g (i + 1).toNatClampNeg) x2) (k : KL g G nc ns i) : Y g mL_law_ (ZL g) nc ns 2070 (lsL i none none) [] (NT, I, J, P) := by
  by_cases hz : gxs g (i + 2).toNatClampNeg = 0
  · obtain ⟨r, b, I2, k0, h1, h2, h3, h4, hG⟩ := (h 0 (Or.inl rfl))
    obtain ⟨J9, hw, hk⟩ := same_out (J := J) h4 (by decide)
    refine Y_aload_n (pc := 2070) dL_law__2070 rfl ?_
    refine Y_aload_n (pc := 2071) dL_law__2071 rfl ?_
    refine Y_iload (pc := 2072) dL_law__2072 rfl ?_
    refine Y_iconst (pc := 2074) dL_law__2074 (v := 1) rfl ?_
    refine Y_iadd (pc := 2075) dL_law__2075 ?_
    refine Y_sld (pc := 2076) dL_law__2076 (hi _ (by decide) (by decide)) ?_
    refine Y_aload_n (pc := 2077) dL_law__2077 rfl ?_
    refine Y_iload (pc := 2078) dL_law__2078 rfl ?_
    refine Y_iconst (pc := 2080) dL_law__2080 (v := 2) rfl ?_
    refine Y_iadd (pc := 2081) dL_law__2081 ?_
    refine Y_sld (pc := 2082) dL_law__2082 (hi _ (by decide) (by decide)) ?_
    refine Y_if_eq (pc := 2083) (tgt := 2090) dL_law__2083 (by decide) (fun _ => ?_) (fun q => absurd hz q)
    refine Y_iconst (pc := 2090) dL_law__2090 (v := 0) rfl ?_
    refine Y_aload_n (pc := 2091) dL_law__2091 rfl ?_
    refine Y_callW (pc := 2092) (d := 7) dL_law__2092 wf_led rfl rfl (Nat.le_of_ble_eq_true rfl) (W_led (d := 0) hp h1 hw) (hr9.at _ (by decide)) ?_
    have rw9 : ∀ (d : Nat) (_ : d ≤ 120), d + 1 ≤ (ZL g).1.frames ∧ 8 + (40 + 11) + 64 * d ≤ (ZL g).1.locals ∧ nc + 1 ≤ (ZL g).1.cells ∧ ns + 6 ≤ (ZL g).1.slots := fun d hd => hr9.at1 d hd
    refine Y_istore (pc := 2095) dL_law__2095 (by decide) rfl ?_
    refine Y_aload_n (pc := 2097) dL_law__2097 rfl ?_
    refine Y_aload_n (pc := 2098) dL_law__2098 rfl ?_
    refine Y_iload (pc := 2099) dL_law__2099 rfl ?_
    refine Y_iconst (pc := 2101) dL_law__2101 (v := 1) rfl ?_
    refine Y_iadd (pc := 2102) dL_law__2102 ?_
    refine Y_sld (pc := 2103) dL_law__2103 (hi _ (by decide) (by decide)) ?_
    refine Y_aload_n (pc := 2104) dL_law__2104 rfl ?_
    refine Y_iload (pc := 2105) dL_law__2105 rfl ?_
    refine Y_iconst (pc := 2107) dL_law__2107 (v := 2) rfl ?_
    refine Y_iadd (pc := 2108) dL_law__2108 ?_
    refine Y_sld (pc := 2109) dL_law__2109 (hi _ (by decide) (by decide)) ?_
    refine Y_if_eq (pc := 2110) (tgt := 2117) dL_law__2110 (by decide) (fun _ => ?_) (fun q => absurd hz q)
    refine Y_iconst (pc := 2117) dL_law__2117 (v := 0) rfl ?_
    refine Y_callVi (pc := 2118) (d := 2) dL_law__2118 v_L_260 rfl rfl at_11 (Nat.le_of_ble_eq_true rfl) rfl rfl (C_X12_led (d := 0) hp h2) (rw9 _ (by decide)) ?_
    refine Y_istore (pc := 2121) dL_law__2121 (by decide) rfl ?_
    refine Y_aload_n (pc := 2123) dL_law__2123 rfl ?_
    refine Y_callVi (pc := 2124) (d := 0) dL_law__2124 v_L_128 rfl rfl at_11 (Nat.le_of_ble_eq_true rfl) rfl rfl (C_X12_thrown (d := 0) hp h3) (rw9 _ (by decide)) ?_
    refine Y_iload (pc := 2127) dL_law__2127 rfl ?_
    refine Y_icmp_eq (pc := 2129) (tgt := 2134) dL_law__2129 (by decide) (fun _ => ?_) (fun q => absurd rfl q)
    refine Y_iload (pc := 2134) dL_law__2134 rfl ?_
    refine Y_if_ne (pc := 2136) (tgt := 2151) dL_law__2136 (by decide) (fun hk0 => ?_) (fun hk0 => ?_)
    · exact Y_goto (pc := 2151) (tgt := 2309) dL_law__2151 (by decide) (k _ _ _ _ _ hG hp)
    · skip
      refine Y_aload_n (pc := 2139) dL_law__2139 rfl ?_
      refine Y_iconst (pc := 2140) dL_law__2140 (v := 0) rfl ?_
      refine Y_lald (pc := 2141) (t := NT) dL_law__2141 ar_out vp01 ?_
      refine Y_iload (pc := 2142) dL_law__2142 rfl ?_
      refine Y_i2l (pc := 2144) dL_law__2144 ?_
      refine Y_lcmp (pc := 2145) dL_law__2145 ?_
      refine Y_if_eq (pc := 2146) (tgt := 2151) dL_law__2146 (by decide) (fun _ => ?_) (fun q => absurd (cmp_same (hk hk0)) q)
      exact Y_goto (pc := 2151) (tgt := 2309) dL_law__2151 (by decide) (k _ _ _ _ _ hG hp)
  · obtain ⟨r, b, I2, k0, h1, h2, h3, h4, hG⟩ := (h 1 (Or.inr rfl))
    obtain ⟨J9, hw, hk⟩ := same_out (J := J) h4 (by decide)
    refine Y_aload_n (pc := 2070) dL_law__2070 rfl ?_
    refine Y_aload_n (pc := 2071) dL_law__2071 rfl ?_
    refine Y_iload (pc := 2072) dL_law__2072 rfl ?_
    refine Y_iconst (pc := 2074) dL_law__2074 (v := 1) rfl ?_
    refine Y_iadd (pc := 2075) dL_law__2075 ?_
    refine Y_sld (pc := 2076) dL_law__2076 (hi _ (by decide) (by decide)) ?_
    refine Y_aload_n (pc := 2077) dL_law__2077 rfl ?_
    refine Y_iload (pc := 2078) dL_law__2078 rfl ?_
    refine Y_iconst (pc := 2080) dL_law__2080 (v := 2) rfl ?_
    refine Y_iadd (pc := 2081) dL_law__2081 ?_
    refine Y_sld (pc := 2082) dL_law__2082 (hi _ (by decide) (by decide)) ?_
    refine Y_if_eq (pc := 2083) (tgt := 2090) dL_law__2083 (by decide) (fun q => absurd q hz) (fun _ => ?_)
    refine Y_iconst (pc := 2086) dL_law__2086 (v := 1) rfl ?_
    refine Y_goto (pc := 2087) (tgt := 2091) dL_law__2087 (by decide) ?_
    refine Y_aload_n (pc := 2091) dL_law__2091 rfl ?_
    refine Y_callW (pc := 2092) (d := 7) dL_law__2092 wf_led rfl rfl (Nat.le_of_ble_eq_true rfl) (W_led (d := 0) hp h1 hw) (hr9.at _ (by decide)) ?_
    have rw9 : ∀ (d : Nat) (_ : d ≤ 120), d + 1 ≤ (ZL g).1.frames ∧ 8 + (40 + 11) + 64 * d ≤ (ZL g).1.locals ∧ nc + 1 ≤ (ZL g).1.cells ∧ ns + 6 ≤ (ZL g).1.slots := fun d hd => hr9.at1 d hd
    refine Y_istore (pc := 2095) dL_law__2095 (by decide) rfl ?_
    refine Y_aload_n (pc := 2097) dL_law__2097 rfl ?_
    refine Y_aload_n (pc := 2098) dL_law__2098 rfl ?_
    refine Y_iload (pc := 2099) dL_law__2099 rfl ?_
    refine Y_iconst (pc := 2101) dL_law__2101 (v := 1) rfl ?_
    refine Y_iadd (pc := 2102) dL_law__2102 ?_
    refine Y_sld (pc := 2103) dL_law__2103 (hi _ (by decide) (by decide)) ?_
    refine Y_aload_n (pc := 2104) dL_law__2104 rfl ?_
    refine Y_iload (pc := 2105) dL_law__2105 rfl ?_
    refine Y_iconst (pc := 2107) dL_law__2107 (v := 2) rfl ?_
    refine Y_iadd (pc := 2108) dL_law__2108 ?_
    refine Y_sld (pc := 2109) dL_law__2109 (hi _ (by decide) (by decide)) ?_
    refine Y_if_eq (pc := 2110) (tgt := 2117) dL_law__2110 (by decide) (fun q => absurd q hz) (fun _ => ?_)
    refine Y_iconst (pc := 2113) dL_law__2113 (v := 1) rfl ?_
    refine Y_goto (pc := 2114) (tgt := 2118) dL_law__2114 (by decide) ?_
    refine Y_callVi (pc := 2118) (d := 2) dL_law__2118 v_L_260 rfl rfl at_11 (Nat.le_of_ble_eq_true rfl) rfl rfl (C_X12_led (d := 0) hp h2) (rw9 _ (by decide)) ?_
    refine Y_istore (pc := 2121) dL_law__2121 (by decide) rfl ?_
    refine Y_aload_n (pc := 2123) dL_law__2123 rfl ?_
    refine Y_callVi (pc := 2124) (d := 0) dL_law__2124 v_L_128 rfl rfl at_11 (Nat.le_of_ble_eq_true rfl) rfl rfl (C_X12_thrown (d := 0) hp h3) (rw9 _ (by decide)) ?_
    refine Y_iload (pc := 2127) dL_law__2127 rfl ?_
    refine Y_icmp_eq (pc := 2129) (tgt := 2134) dL_law__2129 (by decide) (fun _ => ?_) (fun q => absurd rfl q)
    refine Y_iload (pc := 2134) dL_law__2134 rfl ?_
    refine Y_if_ne (pc := 2136) (tgt := 2151) dL_law__2136 (by decide) (fun hk0 => ?_) (fun hk0 => ?_)
    · exact Y_goto (pc := 2151) (tgt := 2309) dL_law__2151 (by decide) (k _ _ _ _ _ hG hp)
    · skip
      refine Y_aload_n (pc := 2139) dL_law__2139 rfl ?_
      refine Y_iconst (pc := 2140) dL_law__2140 (v := 0) rfl ?_
      refine Y_lald (pc := 2141) (t := NT) dL_law__2141 ar_out vp01 ?_
      refine Y_iload (pc := 2142) dL_law__2142 rfl ?_
      refine Y_i2l (pc := 2144) dL_law__2144 ?_
      refine Y_lcmp (pc := 2145) dL_law__2145 ?_
      refine Y_if_eq (pc := 2146) (tgt := 2151) dL_law__2146 (by decide) (fun _ => ?_) (fun q => absurd (cmp_same (hk hk0)) q)
      exact Y_goto (pc := 2151) (tgt := 2309) dL_law__2151 (by decide) (k _ _ _ _ _ hG hp)
theorem LC_log (hi : inS g i) (hr9 : rL nc ns) (hp : Wp P) (h : St_log G I (gxs g (i + 1).toNatClampNeg) (gxs g (i + 2).toNatClampNeg)) (k : KL g G nc ns i) : Y g mL_law_ (ZL g) nc ns 2154 (lsL i none none) [] (NT, I, J, P) := by
  obtain ⟨r, b, I2, k0, h1, h2, h3, h4, hG⟩ := h
  obtain ⟨J9, hw, hk⟩ := same_out (J := J) h4 (by decide)
  refine Y_aload_n (pc := 2154) dL_law__2154 rfl ?_
  refine Y_aload_n (pc := 2155) dL_law__2155 rfl ?_
  refine Y_iload (pc := 2156) dL_law__2156 rfl ?_
  refine Y_iconst (pc := 2158) dL_law__2158 (v := 1) rfl ?_
  refine Y_iadd (pc := 2159) dL_law__2159 ?_
  refine Y_sld (pc := 2160) dL_law__2160 (hi _ (by decide) (by decide)) ?_
  refine Y_aload_n (pc := 2161) dL_law__2161 rfl ?_
  refine Y_iload (pc := 2162) dL_law__2162 rfl ?_
  refine Y_iconst (pc := 2164) dL_law__2164 (v := 2) rfl ?_
  refine Y_iadd (pc := 2165) dL_law__2165 ?_
  refine Y_sld (pc := 2166) dL_law__2166 (hi _ (by decide) (by decide)) ?_
  refine Y_aload_n (pc := 2167) dL_law__2167 rfl ?_
  refine Y_callW (pc := 2168) (d := 7) dL_law__2168 wf_log rfl rfl (Nat.le_of_ble_eq_true rfl) (W_log (d := 0) hp h1 hw) (hr9.at _ (by decide)) ?_
  have rw9 : ∀ (d : Nat) (_ : d ≤ 120), d + 1 ≤ (ZL g).1.frames ∧ 8 + (40 + 11) + 64 * d ≤ (ZL g).1.locals ∧ nc + 1 ≤ (ZL g).1.cells ∧ ns + 6 ≤ (ZL g).1.slots := fun d hd => hr9.at1 d hd
  refine Y_istore (pc := 2171) dL_law__2171 (by decide) rfl ?_
  refine Y_aload_n (pc := 2173) dL_law__2173 rfl ?_
  refine Y_aload_n (pc := 2174) dL_law__2174 rfl ?_
  refine Y_iload (pc := 2175) dL_law__2175 rfl ?_
  refine Y_iconst (pc := 2177) dL_law__2177 (v := 1) rfl ?_
  refine Y_iadd (pc := 2178) dL_law__2178 ?_
  refine Y_sld (pc := 2179) dL_law__2179 (hi _ (by decide) (by decide)) ?_
  refine Y_aload_n (pc := 2180) dL_law__2180 rfl ?_
  refine Y_iload (pc := 2181) dL_law__2181 rfl ?_
  refine Y_iconst (pc := 2183) dL_law__2183 (v := 2) rfl ?_
  refine Y_iadd (pc := 2184) dL_law__2184 ?_
  refine Y_sld (pc := 2185) dL_law__2185 (hi _ (by decide) (by decide)) ?_
  refine Y_callVi (pc := 2186) (d := 1) dL_law__2186 v_L_263 rfl rfl at_11 (Nat.le_of_ble_eq_true rfl) rfl rfl (C_X12_log (d := 0) hp h2) (rw9 _ (by decide)) ?_
  refine Y_istore (pc := 2189) dL_law__2189 (by decide) rfl ?_
  refine Y_aload_n (pc := 2191) dL_law__2191 rfl ?_
  refine Y_callVi (pc := 2192) (d := 0) dL_law__2192 v_L_128 rfl rfl at_11 (Nat.le_of_ble_eq_true rfl) rfl rfl (C_X12_thrown (d := 0) hp h3) (rw9 _ (by decide)) ?_
  refine Y_iload (pc := 2195) dL_law__2195 rfl ?_
  refine Y_icmp_eq (pc := 2197) (tgt := 2202) dL_law__2197 (by decide) (fun _ => ?_) (fun q => absurd rfl q)
  refine Y_iload (pc := 2202) dL_law__2202 rfl ?_
  refine Y_if_ne (pc := 2204) (tgt := 2219) dL_law__2204 (by decide) (fun hk0 => ?_) (fun hk0 => ?_)
  · exact Y_goto (pc := 2219) (tgt := 2309) dL_law__2219 (by decide) (k _ _ _ _ _ hG hp)
  · skip
    refine Y_aload_n (pc := 2207) dL_law__2207 rfl ?_
    refine Y_iconst (pc := 2208) dL_law__2208 (v := 0) rfl ?_
    refine Y_lald (pc := 2209) (t := NT) dL_law__2209 ar_out vp01 ?_
    refine Y_iload (pc := 2210) dL_law__2210 rfl ?_
    refine Y_i2l (pc := 2212) dL_law__2212 ?_
    refine Y_lcmp (pc := 2213) dL_law__2213 ?_
    refine Y_if_eq (pc := 2214) (tgt := 2219) dL_law__2214 (by decide) (fun _ => ?_) (fun q => absurd (cmp_same (hk hk0)) q)
    exact Y_goto (pc := 2219) (tgt := 2309) dL_law__2219 (by decide) (k _ _ _ _ _ hG hp)
theorem LC_seed (hi : inS g i) (hr9 : rL nc ns) (hp : Wp P) (h : St_seed G I (gxs g (i + 1).toNatClampNeg)) (k : KL g G nc ns i) : Y g mL_law_ (ZL g) nc ns 2222 (lsL i none none) [] (NT, I, J, P) := by
  obtain ⟨r, I1, I2, h1, h2, hG⟩ := h
  refine Y_aload_n (pc := 2222) dL_law__2222 rfl ?_
  refine Y_aload_n (pc := 2223) dL_law__2223 rfl ?_
  refine Y_iload (pc := 2224) dL_law__2224 rfl ?_
  refine Y_iconst (pc := 2226) dL_law__2226 (v := 1) rfl ?_
  refine Y_iadd (pc := 2227) dL_law__2227 ?_
  refine Y_sld (pc := 2228) dL_law__2228 (hi _ (by decide) (by decide)) ?_
  refine Y_callVi (pc := 2229) (d := 0) dL_law__2229 v_L_264 rfl rfl at_10 (Nat.le_of_ble_eq_true rfl) rfl rfl (C_X11_seed (d := 0) hp h1) (hr9.at0 _ (by decide)) ?_
  refine Y_aload_n (pc := 2232) dL_law__2232 rfl ?_
  refine Y_aload_n (pc := 2233) dL_law__2233 rfl ?_
  refine Y_iload (pc := 2234) dL_law__2234 rfl ?_
  refine Y_iconst (pc := 2236) dL_law__2236 (v := 1) rfl ?_
  refine Y_iadd (pc := 2237) dL_law__2237 ?_
  refine Y_sld (pc := 2238) dL_law__2238 (hi _ (by decide) (by decide)) ?_
  refine Y_callVi (pc := 2239) (d := 0) dL_law__2239 v_L_267 rfl rfl at_11 (Nat.le_of_ble_eq_true rfl) rfl rfl (C_X12_seed (d := 0) hp h2) (hr9.at0 _ (by decide)) ?_
  refine Y_icmp_eq (pc := 2242) (tgt := 2309) dL_law__2242 (by decide) (fun _ => ?_) (fun q => absurd rfl q)
  exact Y_widen (Nat.le_succ _) (Nat.le_add_right _ 6) (k _ _ _ _ _ hG hp)
theorem LC_undo (hi : inS g i) (hr9 : rL nc ns) (hp : Wp P) (h : St_undo G I) (k : KL g G nc ns i) : Y g mL_law_ (ZL g) nc ns 2247 (lsL i none none) [] (NT, I, J, P) := by
  obtain ⟨r, I1, I2, h1, h2, hG⟩ := h
  refine Y_aload_n (pc := 2247) dL_law__2247 rfl ?_
  refine Y_callVi (pc := 2248) (d := 4) dL_law__2248 v_L_268 rfl rfl at_10 (Nat.le_of_ble_eq_true rfl) rfl rfl (C_X11_undo (d := 0) hp h1) (hr9.at0 _ (by decide)) ?_
  refine Y_aload_n (pc := 2251) dL_law__2251 rfl ?_
  refine Y_callVi (pc := 2252) (d := 0) dL_law__2252 v_L_272 rfl rfl at_11 (Nat.le_of_ble_eq_true rfl) rfl rfl (C_X12_undo (d := 0) hp h2) (hr9.at0 _ (by decide)) ?_
  refine Y_icmp_eq (pc := 2255) (tgt := 2309) dL_law__2255 (by decide) (fun _ => ?_) (fun q => absurd rfl q)
  exact Y_widen (Nat.le_succ _) (Nat.le_add_right _ 6) (k _ _ _ _ _ hG hp)
theorem LC_image (hi : inS g i) (hr9 : rL nc ns) (hp : Wp P) (h : St_image G I) (k : KL g G nc ns i) : Y g mL_law_ (ZL g) nc ns 2260 (lsL i none none) [] (NT, I, J, P) := by
  obtain ⟨I1, I2, h1, h2, hG⟩ := h
  refine Y_aload_n (pc := 2260) dL_law__2260 rfl ?_
  refine Y_callVv (pc := 2261) (d := 3) dL_law__2261 v_L_273 rfl rfl at_10 (Nat.le_of_ble_eq_true rfl) rfl rfl (C_X11_image (d := 0) hp h1) (hr9.at0 _ (by decide)) ?_
  refine Y_aload_n (pc := 2264) dL_law__2264 rfl ?_
  refine Y_callVv (pc := 2265) (d := 0) dL_law__2265 v_L_276 rfl rfl at_11 (Nat.le_of_ble_eq_true rfl) rfl rfl (C_X12_image (d := 0) hp h2) (hr9.at0 _ (by decide)) ?_
  refine Y_goto (pc := 2268) (tgt := 2309) dL_law__2268 (by decide) ?_
  exact Y_widen (Nat.le_succ _) (Nat.le_add_right _ 6) (k _ _ _ _ _ hG hp)
theorem LC_back (hi : inS g i) (hr9 : rL nc ns) (hp : Wp P) (h : St_back G I) (k : KL g G nc ns i) : Y g mL_law_ (ZL g) nc ns 2271 (lsL i none none) [] (NT, I, J, P) := by
  obtain ⟨r, I1, I2, h1, h2, hG⟩ := h
  refine Y_aload_n (pc := 2271) dL_law__2271 rfl ?_
  refine Y_callVi (pc := 2272) (d := 3) dL_law__2272 v_L_277 rfl rfl at_10 (Nat.le_of_ble_eq_true rfl) rfl rfl (C_X11_back (d := 0) hp h1) (hr9.at0 _ (by decide)) ?_
  refine Y_aload_n (pc := 2275) dL_law__2275 rfl ?_
  refine Y_callVi (pc := 2276) (d := 0) dL_law__2276 v_L_280 rfl rfl at_11 (Nat.le_of_ble_eq_true rfl) rfl rfl (C_X12_back (d := 0) hp h2) (hr9.at0 _ (by decide)) ?_
  refine Y_icmp_eq (pc := 2279) (tgt := 2309) dL_law__2279 (by decide) (fun _ => ?_) (fun q => absurd rfl q)
  exact Y_widen (Nat.le_succ _) (Nat.le_add_right _ 6) (k _ _ _ _ _ hG hp)
theorem LC_count (hi : inS g i) (hr9 : rL nc ns) (hp : Wp P) (h : St_count G I (gxs g (i + 1).toNatClampNeg)) (k : KL g G nc ns i) : Y g mL_law_ (ZL g) nc ns 2284 (lsL i none none) [] (NT, I, J, P) := by
  obtain ⟨r, I2, h1, h2, hG⟩ := h
  refine Y_aload_n (pc := 2284) dL_law__2284 rfl ?_
  refine Y_aload_n (pc := 2285) dL_law__2285 rfl ?_
  refine Y_iload (pc := 2286) dL_law__2286 rfl ?_
  refine Y_iconst (pc := 2288) dL_law__2288 (v := 1) rfl ?_
  refine Y_iadd (pc := 2289) dL_law__2289 ?_
  refine Y_sld (pc := 2290) dL_law__2290 (hi _ (by decide) (by decide)) ?_
  refine Y_callVi (pc := 2291) (d := 0) dL_law__2291 v_L_281 rfl rfl at_10 (Nat.le_of_ble_eq_true rfl) rfl rfl (C_X11_count (d := 0) hp h1) (hr9.at0 _ (by decide)) ?_
  refine Y_aload_n (pc := 2294) dL_law__2294 rfl ?_
  refine Y_aload_n (pc := 2295) dL_law__2295 rfl ?_
  refine Y_iload (pc := 2296) dL_law__2296 rfl ?_
  refine Y_iconst (pc := 2298) dL_law__2298 (v := 1) rfl ?_
  refine Y_iadd (pc := 2299) dL_law__2299 ?_
  refine Y_sld (pc := 2300) dL_law__2300 (hi _ (by decide) (by decide)) ?_
  refine Y_callVi (pc := 2301) (d := 1) dL_law__2301 v_L_284 rfl rfl at_11 (Nat.le_of_ble_eq_true rfl) rfl rfl (C_X12_count (d := 0) hp h2) (hr9.at0 _ (by decide)) ?_
  refine Y_icmp_eq (pc := 2304) (tgt := 2309) dL_law__2304 (by decide) (fun _ => ?_) (fun q => absurd rfl q)
  exact Y_widen (Nat.le_succ _) (Nat.le_add_right _ 6) (k _ _ _ _ _ hG hp)
end
