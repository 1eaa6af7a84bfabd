
def sp_Tb (j : Nat) : Prop := j = 15 ∨ j = 706 ∨ j = 707 ∨ j = 708 ∨ j = 584 ∨ j = 585 ∨ j = 586 ∨ j = 587 ∨ j = 588 ∨ j = 589 ∨ j = 9 ∨ j = 10 ∨ j = 16 ∨ j = 326 ∨ j = 327 ∨ j = 582 ∨ j = 776
theorem sp_Tj.b : ∀ j, sp_Tj j → sp_Tb j := by unfold sp_Tj sp_Tb; omega
def sp_T10 (j : Nat) : Prop := j = 10
def sp_T9 (j : Nat) : Prop := j = 9
def sp_T16 (j : Nat) : Prop := j = 16 ∨ j = 326
theorem sp_I.lo {G : sp_G} {P : Nat → Prop} {A : Nat → Nat} {m : sp_M} (h : sp_I G P A m) {j ed s : Nat} (hj : sp_ix j) (hli : sp_li G m (A j) ed s) : m.ln ed ≤ 2 * sp_mxs j + 10 ∧ s ≤ sp_mxs j ∧ sp_mns j ≤ s := by
  obtain ⟨-, e0, t0, z1, z2⟩ := h.S.2.2.1 j hj
  obtain ⟨rfl, rfl⟩ := sp_sz_fun z1 hli
  exact z2
theorem sp_I.grow {G : sp_G} {P : Nat → Prop} {A : Nat → Nat} {m m' : sp_M} {T : Nat → Prop} {m0 : sp_M} (h : sp_I G P A m) (hF : sp_F m0 m A T) {j ed s ed' : Nat} (hj : j = 9 ∨ j = 10) (hT : T j) (hli : sp_li G m (A j) ed s) (hs : s < sp_mxs j) (hJ' : sp_J G P sp_E0 m') (hw' : sp_wf m') (hfx : sp_fx m m' (sp_wl (A j) ed)) (hl' : sp_li G m' (A j) ed' (s + 1)) (hc : m'.ln ed' ≤ 2 * sp_mxs j + 10) : sp_I G P A m' ∧ sp_F m0 m' A T := by
  have hix : sp_ix j := by unfold sp_ix; omega
  have h1 := h.lo hix hli
  have hp : 0 < s := by rcases hj with z | z <;> (subst z; have := h1.2.2; unfold sp_mns at this; simp at this; omega)
  refine ⟨h.wl hix hli hJ' hw' hfx ⟨ed', s + 1, hl', hc, by omega, by omega⟩ (by omega), hF.wl h.J hli hfx (fun z => ?_) hix hT⟩
  have := hli.2.2.2.1
  have := hli.2.2.2.2.2
  omega
theorem sp_tob (x : Int) (h1 : -2147483648 ≤ x) (h2 : x < 2147483648) : x.bmod 4294967296 = x := by
  unfold Int.bmod
  simp only []
  split <;> omega
theorem sp_br0 {n : Nat} (hn : n ≤ 1000) : (nI n - 1).toInt = (n : Int) - 1 := by
  rw [Int32.toInt_sub, nI_toInt (by omega)]
  exact sp_tob _ (by show -2147483648 ≤ (n : Int) - 1; omega) (by show (n : Int) - 1 < 2147483648; omega)
theorem sp_br9 {n c : Nat} (hn : n ≤ 1000) (hc : c ≤ 1000) : (nI n - 1 - nI c).toInt = (n : Int) - 1 - c := by
  rw [Int32.toInt_sub, nI_toInt (n := c) (by omega), sp_br0 hn]
  exact sp_tob _ (by omega) (by omega)
theorem sp_br1 {n c : Nat} (hn : n ≤ 1000) (hc : c ≤ 1000) (h : ¬ nI n - 1 ≤ nI n - 1 - nI c) : 0 < c := by
  rw [Int32.le_iff_toInt_le, sp_br9 hn hc, sp_br0 hn] at h
  omega
theorem sp_br2 (n d : Nat) : nI n - 1 - nI (d + 1) + 1 = nI n - 1 - nI d := by
  rw [← nI_1 d, Int32.sub_eq_add_neg, Int32.neg_add, Int32.sub_eq_add_neg (a := -nI d) (b := 1), ← Int32.add_assoc, Int32.add_assoc (nI n - 1 + -nI d), show (-1 + 1 : Int32) = 0 from by decide, Int32.add_zero, ← Int32.sub_eq_add_neg]
theorem sp_br3 {n c : Nat} (hn : n ≤ 1000) (hc : c ≤ 1000) (h : nI n - 1 ≤ nI n - 1 - nI c) : c = 0 := by
  rw [Int32.le_iff_toInt_le, sp_br9 hn hc, sp_br0 hn] at h
  omega
set_option maxRecDepth 20000 in
theorem c_Taking_bodyFor (l : Launch) (G : sp_G) (m : sp_M) {P : Nat → Prop} {A : Nat → Nat} (hG : sp_GS G) (hI : sp_I G P A m) {e ed10 s10 : Nat} (he : m.ty e = 4) (hli10 : sp_li G m (A 10) ed10 s10) (hs10 : s10 < 300) : sp_C l G M_Taking_bodyFor 2 1500 [.ref (A 7), .ref e] m (sp_oR fun v m' => sp_I G P A m' ∧ sp_F m m' A sp_T10 ∧ (∀ b, v = some b → m'.ty b = 2) ∧ ∃ ed' s', sp_li G m' (A 10) ed' s' ∧ s' ≤ s10 + 1) := by
  refine sp_enter (lv0 := [(0, false, va_rf (some (A 7))), (1, false, va_rf (some e))]) "SafePaths$Taking" false rfl (by decide) (fun h => by cases h) (Nat.le_of_ble_eq_true rfl) rfl ?_
  intro w X
  have hS := hI.S
  have t5 := hS.k 5 11 (by decide)
  have t7 := hS.k 7 10 (by decide)
  have hlo := hI.lo sp_ix10 hli10
  refine sp_aload_n X (pc := 0) (r := some e) dX8_bodyFor_0 rfl rfl ?_
  refine sp_getfield X (pc := 1) (c := 3) (i := 0) (t := 0) (a := e) (v := .int (m.fI 192 e)) rfl (by first | assumption | omega) (by decide) rfl rfl fl_Taking_173 dX8_bodyFor_1 ?_
  refine sp_iconst X (pc := 4) (v := 1) dX8_bodyFor_4 (by decide) ?_
  refine sp_icmp_eq X (pc := 5) (tgt := 13) dX8_bodyFor_5 (by decide) (fun hb5 => ?_) (fun hb5 => ?_)
  · refine sp_aload_n X (pc := 13) (r := some (A 7)) dX8_bodyFor_13 rfl rfl ?_
    refine sp_dup X (pc := 14) dX8_bodyFor_14 (sp_cat_rf _) ?_
    refine sp_getfield X (pc := 15) (c := 9) (i := 7) (t := 1) (a := (A 7)) (v := .long (m.fL 583 (A 7))) rfl (by first | assumption | omega) (by decide) rfl rfl fl_Taking_45 dX8_bodyFor_15 ?_
    refine sp_aload_n X (pc := 18) (r := some e) dX8_bodyFor_18 rfl rfl ?_
    refine sp_getfield X (pc := 19) (c := 3) (i := 4) (t := 1) (a := e) (v := .long (m.fL 196 e)) rfl (by first | assumption | omega) (by decide) rfl rfl fl_Taking_202 dX8_bodyFor_19 ?_
    refine sp_ladd X (pc := 22) dX8_bodyFor_22 ?_
    refine sp_putL X (pc := 23) (c := 9) (i := 7) (q := 583) (a := (A 7)) rfl (by first | assumption | omega) (by decide) rfl rfl (Or.inl rfl)  fl_Taking_45 dX8_bodyFor_23 ?_
    have hI1 : sp_I G P A (m.pL 583 (A 7) (m.fL 583 (A 7) + m.fL 196 e)) := hI.pL
    have hli1 : sp_li G (m.pL 583 (A 7) (m.fL 583 (A 7) + m.fL 196 e)) (A 10) ed10 s10 := hli10.pL
    refine sp_aload_n X (pc := 26) (r := some (A 7)) dX8_bodyFor_26 rfl rfl ?_
    refine sp_getfield X (pc := 27) (c := 9) (i := 1) (t := 2) (a := (A 7)) (v := va_rf (some (A 5))) rfl (by first | assumption | omega) (by decide) rfl (congrArg va_rf (hS.p 577 7 5 (by decide))) fl_Taking_15 dX8_bodyFor_27 ?_
    refine sp_aload_n X (pc := 30) (r := some e) dX8_bodyFor_30 rfl rfl ?_
    refine sp_getfield X (pc := 31) (c := 3) (i := 4) (t := 1) (a := e) (v := .long (m.fL 196 e)) rfl (by first | assumption | omega) (by decide) rfl rfl fl_Taking_202 dX8_bodyFor_31 ?_
    refine sp_aload_n X (pc := 34) (r := some e) dX8_bodyFor_34 rfl rfl ?_
    refine sp_getfield X (pc := 35) (c := 3) (i := 3) (t := 0) (a := e) (v := .int (m.fI 195 e)) rfl (by first | assumption | omega) (by decide) rfl rfl fl_Taking_211 dX8_bodyFor_35 ?_
    refine sp_callV X (pc := 38) (mc := 2) (ms := 1500) (b := (A 5)) (c := 10) (r := (some (A 5))) (As := [.long (m.fL 196 e), .int (m.fI 195 e)]) (rest := []) (c_Tree_addBody l G _ hI1.J hI1.tr hG hI1.wf hli1 hs10 hlo.1) ok_Tree_addBody rfl t5 (by decide) rfl lk_Taking_235 rfl rfl (Nat.zero_le _) (Nat.le_of_ble_eq_true rfl) (Nat.le_of_ble_eq_true rfl) (Nat.le_refl _) (Nat.le_refl _) dX8_bodyFor_38 (sp_kR fun v38 m38 hp38 => ?_)
    refine sp_areturn X (pc := 41) (by first | exact Or.inl ⟨_, rfl⟩ | exact Or.inr ⟨_, rfl⟩) dX8_bodyFor_41 ⟨_, rfl, ?_⟩
    obtain ⟨b1, b2, b3, b4, ⟨ed', b5, b6, -⟩, b7⟩ := hp38
    obtain ⟨i1, i2⟩ := hI1.grow (T := sp_T10) ((sp_F.refl m A sp_T10).pL) (Or.inr rfl) rfl hli1 hs10 b2 b3 b4 b5 b6
    exact ⟨i1, i2, fun b hb => (by rw [b1] at hb; cases hb; exact b7), ed', s10 + 1, b5, Nat.le_refl _⟩
  · refine sp_aload_n X (pc := 8) (r := some (A 7)) dX8_bodyFor_8 rfl rfl ?_
    refine sp_getfield X (pc := 9) (c := 9) (i := 12) (t := 2) (a := (A 7)) (v := va_rf (m.fR 588 (A 7))) rfl (by first | assumption | omega) (by decide) rfl rfl fl_Taking_66 dX8_bodyFor_9 ?_
    refine sp_areturn X (pc := 12) (by first | exact Or.inl ⟨_, rfl⟩ | exact Or.inr ⟨_, rfl⟩) dX8_bodyFor_12 ⟨_, rfl, ?_⟩
    exact ⟨hI, sp_F.refl m A sp_T10, hS.2.2.2.2.1.2.2.2.2, ed10, s10, hli10, by omega⟩
set_option maxHeartbeats 1000000 in
set_option maxRecDepth 20000 in
theorem c_Taking_bring (l : Launch) (G : sp_G) (m : sp_M) {P : Nat → Prop} {A : Nat → Nat} (hG : sp_GS G) (hI : sp_I G P A m) {e q ed9 s9 ed10 s10 : Nat} (he : m.ty e = 4) (hq : m.fI 585 (A 7) = nI q) (hq7 : q ≤ 7) (hli9 : sp_li G m (A 9) ed9 s9) (h9 : s9 + q + 1 ≤ 200) (hli10 : sp_li G m (A 10) ed10 s10) (hs10 : s10 < 300) : sp_C l G M_Taking_bring 20 9600 [.ref (A 7), .ref e] m (sp_oR fun v m' => sp_I G P A m' ∧ sp_F m m' A sp_Tb ∧ (∃ b, v = some b ∧ m'.ty b = 6) ∧ (∃ ed', sp_li G m' (A 9) ed' (s9 + q + 1)) ∧ ∃ ed' s', sp_li G m' (A 10) ed' s' ∧ s' ≤ s10 + 1) := by
  refine sp_enter (lv0 := [(0, false, va_rf (some (A 7))), (1, false, va_rf (some e))]) "SafePaths$Taking" false rfl (by decide) (fun h => by cases h) (Nat.le_of_ble_eq_true rfl) rfl ?_
  intro w X
  have hS := hI.S
  have t5 := hS.k 5 11 (by decide)
  have t7 := hS.k 7 10 (by decide)
  obtain ⟨p, o, hp1, hpt, hp8, ho1, hot⟩ := hI.J.2.2.2.2.2.2.1 e he (sp_e0 _)
  obtain ⟨fo, hfo, hfot⟩ := hS.2.2.2.2.1.2.1
  obtain ⟨L9, edp, n9, hptp⟩ := hI.J.pt hpt
  have hn8 : n9 ≤ 8 := by have := hptp.2.2.2.2.2.1; omega
  have hel : e < m.nx := hI.wf e (by omega)
  have hR : ∀ {m' : sp_M}, sp_F m m' A sp_Tb → m'.fR 193 e = some p ∧ m'.fR 194 e = some o := fun {m'} h => ⟨by rw [h.R hel (by decide)]; exact hp1, by rw [h.R hel (by decide)]; exact ho1⟩
  have cut71 : ∀ (m3 : sp_M) (f3 e3 t3 : Nat), sp_I G P A m3 → sp_F m m3 A sp_Tb → m3.ty f3 = 6 → sp_li G m3 (A 9) e3 t3 → sp_li G m3 (A 10) ed10 s10 → t3 = s9 + q → w 4 2500 m3 71 [(0, false, va_rf (some (A 7))), (1, false, va_rf (some e)), (2, false, .int (nI n9 - 1)), (3, false, va_rf (some f3))] [] := by
    intro m3 f3 e3 t3 I3 F3 hf3 l39 l310 ht3
    have hS3 := I3.S
    have y5 := hS3.k 5 11 (by decide)
    have y7 := hS3.k 7 10 (by decide)
    have he3 := F3.ty hI.wf he (by decide)
    have hpt3 := F3.pt hI I3 hptp
    refine sp_aload_n X (pc := 71) (r := some (A 7)) dX8_bring_71 rfl rfl ?_
    refine sp_dup X (pc := 72) dX8_bring_72 (sp_cat_rf _) ?_
    refine sp_getfield X (pc := 73) (c := 9) (i := 6) (t := 0) (a := (A 7)) (v := .int (m3.fI 582 (A 7))) rfl (by first | assumption | omega) (by decide) rfl rfl fl_Taking_41 dX8_bring_73 ?_
    refine sp_aload_n X (pc := 76) (r := some (A 7)) dX8_bring_76 rfl rfl ?_
    refine sp_getfield X (pc := 77) (c := 9) (i := 9) (t := 0) (a := (A 7)) (v := .int (m3.fI 585 (A 7))) rfl (by first | assumption | omega) (by decide) rfl rfl fl_Taking_57 dX8_bring_77 ?_
    refine sp_iconst X (pc := 80) (v := 1) dX8_bring_80 (by decide) ?_
    refine sp_iadd X (pc := 81) dX8_bring_81 ?_
    refine sp_iadd X (pc := 82) dX8_bring_82 ?_
    refine sp_putI X (pc := 83) (c := 9) (i := 6) (q := 582) (a := (A 7)) rfl (by first | assumption | omega) (by decide) rfl rfl (Or.inl rfl) ⟨rfl, rfl⟩ fl_Taking_41 dX8_bring_83 ?_
    obtain ⟨m4, hm4⟩ : ∃ m4, m4 = m3.pI 582 (A 7) (m3.fI 582 (A 7) + (m3.fI 585 (A 7) + 1)) := ⟨_, rfl⟩
    rw [← hm4]
    have I4 : sp_I G P A m4 := by rw [hm4]; exact I3.pI (by decide)
    have F4 : sp_F m m4 A sp_Tb := by rw [hm4]; exact F3.pI (by unfold sp_Tb; decide) (by decide)
    have l4 : sp_li G m4 (A 9) e3 t3 := by rw [hm4]; exact l39.pI (by decide)
    have l104 : sp_li G m4 (A 10) ed10 s10 := by rw [hm4]; exact l310.pI (by decide)
    have hf4 : m4.ty f3 = 6 := by rw [hm4]; exact hf3
    clear hm4
    have hS4 := I4.S
    have w5 := hS4.k 5 11 (by decide)
    have w7 := hS4.k 7 10 (by decide)
    have he4 := F4.ty hI.wf he (by decide)
    have hpt4 := F4.pt hI I4 hptp
    refine sp_aload_n X (pc := 86) (r := some e) dX8_bring_86 rfl rfl ?_
    refine sp_getfield X (pc := 87) (c := 3) (i := 0) (t := 0) (a := e) (v := .int (m4.fI 192 e)) rfl he4 (by decide) rfl rfl fl_Taking_173 dX8_bring_87 ?_
    refine sp_iconst X (pc := 90) (v := 2) dX8_bring_90 (by decide) ?_
    refine sp_icmp_ne X (pc := 91) (tgt := 101) dX8_bring_91 (by decide) (fun hb91 => ?_) (fun hb91 => ?_)
    · refine sp_null X (pc := 101) dX8_bring_101 ?_
      refine sp_astore X (pc := 102) (lv' := [(4, false, va_rf none), (0, false, va_rf (some (A 7))), (1, false, va_rf (some e)), (2, false, .int (nI n9 - 1)), (3, false, va_rf (some f3))]) dX8_bring_102  (by decide) rfl ?_
      refine sp_aload_n X (pc := 104) (r := some (A 7)) dX8_bring_104 rfl rfl ?_
      refine sp_getfield X (pc := 105) (c := 9) (i := 1) (t := 2) (a := (A 7)) (v := va_rf (some (A 5))) rfl w7 (by decide) rfl (congrArg va_rf (hS4.p 577 7 5 (by decide))) fl_Taking_15 dX8_bring_105 ?_
      refine sp_aload_n X (pc := 108) (r := some f3) dX8_bring_108 rfl rfl ?_
      refine sp_aload_n X (pc := 109) (r := some e) dX8_bring_109 rfl rfl ?_
      refine sp_getfield X (pc := 110) (c := 3) (i := 1) (t := 2) (a := e) (v := va_rf (some p)) rfl he4 (by decide) rfl (congrArg va_rf ((hR F4).1)) fl_Taking_97 dX8_bring_110 ?_
      refine sp_iload_n X (pc := 113) (x := (nI n9 - 1)) dX8_bring_113 rfl rfl ?_
      refine sp_callV X (pc := 114) (mc := 0) (ms := 0) (b := p) (c := 7) (r := (some p)) (As := [.int (nI n9 - 1)]) (rest := [va_rf (some f3), va_rf (some (A 5))]) (c_Parted_at l G _ hpt4) ok_Parted_at rfl hpt4.1 (by decide) rfl lk_Taking_112 rfl rfl (by simp [sp_cat_rf, sp_cat_i, sp_cat_l]) (Nat.le_of_ble_eq_true rfl) (Nat.le_of_ble_eq_true rfl) (Nat.zero_le _) (Nat.zero_le _) dX8_bring_114 (sp_kR fun v114 m114 hp114 => ?_)
      obtain ⟨hp114, hp114m⟩ := hp114; replace hp114m := (hp114m).symm; subst hp114m
      obtain ⟨nm, rfl, hnmt, -⟩ := hp114
      refine sp_aload_n X (pc := 117) (r := some (A 7)) dX8_bring_117 rfl rfl ?_
      refine sp_aload_n X (pc := 118) (r := some e) dX8_bring_118 rfl rfl ?_
      refine sp_callV X (pc := 119) (mc := 2) (ms := 1500) (b := (A 7)) (c := 9) (r := some (A 7)) (As := [va_rf (some e)]) (rest := [va_rf (some nm), va_rf (some f3), va_rf (some (A 5))]) (c_Taking_bodyFor l G _ hG I4 he4 l104 hs10) ok_Taking_bodyFor rfl w7 (by decide) rfl lk_Taking_231 rfl rfl (by simp [sp_cat_rf, sp_cat_i, sp_cat_l]) (Nat.le_of_ble_eq_true rfl) (Nat.le_of_ble_eq_true rfl) (by omega) (by omega) dX8_bring_119 (sp_kR fun v119 m119 hp119 => ?_)
      obtain ⟨c1, c2, c3, ed10', s10', c4, c5⟩ := hp119
      have hS119 := c1.S
      have z7 := hS119.k 7 10 (by decide)
      have z5 := hS119.k 5 11 (by decide)
      have F5 : sp_F m m119 A sp_Tb := F4.trans c2 (fun j h => by unfold sp_T10 at h; unfold sp_Tb; omega)
      have l5 : sp_li G m119 (A 9) e3 t3 := c2.li I4.wf l4 (sp_tl.o I4.S sp_ix9 (by unfold sp_T10; decide))
      have hlo5 := c1.lo sp_ix9 l5
      have hf5 := c2.ty I4.wf (a := f3) hf4 (by decide)
      have hn5 := c2.ty I4.wf (a := nm) hnmt (by decide)
      have ho5 := F5.ty hI.wf hot (by decide)
      refine sp_aload X (pc := 122) (r := none) dX8_bring_122 rfl ?_
      refine sp_aload_n X (pc := 124) (r := some (A 7)) dX8_bring_124 rfl rfl ?_
      refine sp_getfield X (pc := 125) (c := 9) (i := 13) (t := 0) (a := (A 7)) (v := .int (m119.fI 589 (A 7))) rfl (by first | assumption | omega) (by decide) rfl rfl fl_Taking_70 dX8_bring_125 ?_
      refine sp_callV X (pc := 128) (mc := 2) (ms := 1000) (b := (A 5)) (c := 10) (r := (some (A 5))) (As := [va_rf (some f3), va_rf (some nm), va_rf v119, va_rf none, .int (m119.fI 589 (A 7))]) (rest := []) (c_Tree_addNode l G _ c1.J c1.tr hG c1.wf l5 (by omega) hlo5.1 hf5 hn5 c3 (fun x hx => by first | (cases hx; exact ho5) | cases hx) hS119.2.2.2.2.2.1.2) ok_Tree_addNode rfl z5 (by decide) rfl lk_Taking_224 rfl rfl (Nat.zero_le _) (Nat.le_of_ble_eq_true rfl) (Nat.le_of_ble_eq_true rfl) (by decide) (by decide) dX8_bring_128 (sp_kR fun v128 m128 hp128 => ?_)
      refine sp_areturn X (pc := 131) (by first | exact Or.inl ⟨_, rfl⟩ | exact Or.inr ⟨_, rfl⟩) dX8_bring_131 ⟨_, rfl, ?_⟩
      obtain ⟨b1, b2, b3, b4, ⟨ed', b5, b6, -⟩, b7, -⟩ := hp128
      obtain ⟨i1, i2⟩ := c1.grow F5 (Or.inl rfl) (by unfold sp_Tb; decide) l5 (by show t3 < 200; omega) b2 b3 b4 b5 b6
      have hne5 : A 9 ≠ A 10 := hS.ne sp_ix9 sp_ix10 (by decide)
      have l10 : sp_li G m128 (A 10) ed10' s10' := b4.li c1.wf c4 (by rintro ⟨-, z⟩; exact hne5 z.symm) (by rintro ⟨-, z⟩; exact hne5 z.symm)
      subst ht3
      exact ⟨i1, i2, ⟨_, b1, b7⟩, ⟨ed', b5⟩, ed10', s10', l10, c5⟩
    · refine sp_aload_n X (pc := 94) (r := some e) dX8_bring_94 rfl rfl ?_
      refine sp_getfield X (pc := 95) (c := 3) (i := 2) (t := 2) (a := e) (v := va_rf (some o)) rfl he4 (by decide) rfl (congrArg va_rf ((hR F4).2)) fl_Taking_183 dX8_bring_95 ?_
      refine sp_goto X (pc := 98) (tgt := 102) dX8_bring_98 (by decide) ?_
      refine sp_astore X (pc := 102) (lv' := [(4, false, va_rf (some o)), (0, false, va_rf (some (A 7))), (1, false, va_rf (some e)), (2, false, .int (nI n9 - 1)), (3, false, va_rf (some f3))]) dX8_bring_102  (by decide) rfl ?_
      refine sp_aload_n X (pc := 104) (r := some (A 7)) dX8_bring_104 rfl rfl ?_
      refine sp_getfield X (pc := 105) (c := 9) (i := 1) (t := 2) (a := (A 7)) (v := va_rf (some (A 5))) rfl w7 (by decide) rfl (congrArg va_rf (hS4.p 577 7 5 (by decide))) fl_Taking_15 dX8_bring_105 ?_
      refine sp_aload_n X (pc := 108) (r := some f3) dX8_bring_108 rfl rfl ?_
      refine sp_aload_n X (pc := 109) (r := some e) dX8_bring_109 rfl rfl ?_
      refine sp_getfield X (pc := 110) (c := 3) (i := 1) (t := 2) (a := e) (v := va_rf (some p)) rfl he4 (by decide) rfl (congrArg va_rf ((hR F4).1)) fl_Taking_97 dX8_bring_110 ?_
      refine sp_iload_n X (pc := 113) (x := (nI n9 - 1)) dX8_bring_113 rfl rfl ?_
      refine sp_callV X (pc := 114) (mc := 0) (ms := 0) (b := p) (c := 7) (r := (some p)) (As := [.int (nI n9 - 1)]) (rest := [va_rf (some f3), va_rf (some (A 5))]) (c_Parted_at l G _ hpt4) ok_Parted_at rfl hpt4.1 (by decide) rfl lk_Taking_112 rfl rfl (by simp [sp_cat_rf, sp_cat_i, sp_cat_l]) (Nat.le_of_ble_eq_true rfl) (Nat.le_of_ble_eq_true rfl) (Nat.zero_le _) (Nat.zero_le _) dX8_bring_114 (sp_kR fun v114 m114 hp114 => ?_)
      obtain ⟨hp114, hp114m⟩ := hp114; replace hp114m := (hp114m).symm; subst hp114m
      obtain ⟨nm, rfl, hnmt, -⟩ := hp114
      refine sp_aload_n X (pc := 117) (r := some (A 7)) dX8_bring_117 rfl rfl ?_
      refine sp_aload_n X (pc := 118) (r := some e) dX8_bring_118 rfl rfl ?_
      refine sp_callV X (pc := 119) (mc := 2) (ms := 1500) (b := (A 7)) (c := 9) (r := some (A 7)) (As := [va_rf (some e)]) (rest := [va_rf (some nm), va_rf (some f3), va_rf (some (A 5))]) (c_Taking_bodyFor l G _ hG I4 he4 l104 hs10) ok_Taking_bodyFor rfl w7 (by decide) rfl lk_Taking_231 rfl rfl (by simp [sp_cat_rf, sp_cat_i, sp_cat_l]) (Nat.le_of_ble_eq_true rfl) (Nat.le_of_ble_eq_true rfl) (by omega) (by omega) dX8_bring_119 (sp_kR fun v119 m119 hp119 => ?_)
      obtain ⟨c1, c2, c3, ed10', s10', c4, c5⟩ := hp119
      have hS119 := c1.S
      have z7 := hS119.k 7 10 (by decide)
      have z5 := hS119.k 5 11 (by decide)
      have F5 : sp_F m m119 A sp_Tb := F4.trans c2 (fun j h => by unfold sp_T10 at h; unfold sp_Tb; omega)
      have l5 : sp_li G m119 (A 9) e3 t3 := c2.li I4.wf l4 (sp_tl.o I4.S sp_ix9 (by unfold sp_T10; decide))
      have hlo5 := c1.lo sp_ix9 l5
      have hf5 := c2.ty I4.wf (a := f3) hf4 (by decide)
      have hn5 := c2.ty I4.wf (a := nm) hnmt (by decide)
      have ho5 := F5.ty hI.wf hot (by decide)
      refine sp_aload X (pc := 122) (r := (some o)) dX8_bring_122 rfl ?_
      refine sp_aload_n X (pc := 124) (r := some (A 7)) dX8_bring_124 rfl rfl ?_
      refine sp_getfield X (pc := 125) (c := 9) (i := 13) (t := 0) (a := (A 7)) (v := .int (m119.fI 589 (A 7))) rfl (by first | assumption | omega) (by decide) rfl rfl fl_Taking_70 dX8_bring_125 ?_
      refine sp_callV X (pc := 128) (mc := 2) (ms := 1000) (b := (A 5)) (c := 10) (r := (some (A 5))) (As := [va_rf (some f3), va_rf (some nm), va_rf v119, va_rf (some o), .int (m119.fI 589 (A 7))]) (rest := []) (c_Tree_addNode l G _ c1.J c1.tr hG c1.wf l5 (by omega) hlo5.1 hf5 hn5 c3 (fun x hx => by first | (cases hx; exact ho5) | cases hx) hS119.2.2.2.2.2.1.2) ok_Tree_addNode rfl z5 (by decide) rfl lk_Taking_224 rfl rfl (Nat.zero_le _) (Nat.le_of_ble_eq_true rfl) (Nat.le_of_ble_eq_true rfl) (by decide) (by decide) dX8_bring_128 (sp_kR fun v128 m128 hp128 => ?_)
      refine sp_areturn X (pc := 131) (by first | exact Or.inl ⟨_, rfl⟩ | exact Or.inr ⟨_, rfl⟩) dX8_bring_131 ⟨_, rfl, ?_⟩
      obtain ⟨b1, b2, b3, b4, ⟨ed', b5, b6, -⟩, b7, -⟩ := hp128
      obtain ⟨i1, i2⟩ := c1.grow F5 (Or.inl rfl) (by unfold sp_Tb; decide) l5 (by show t3 < 200; omega) b2 b3 b4 b5 b6
      have hne5 : A 9 ≠ A 10 := hS.ne sp_ix9 sp_ix10 (by decide)
      have l10 : sp_li G m128 (A 10) ed10' s10' := b4.li c1.wf c4 (by rintro ⟨-, z⟩; exact hne5 z.symm) (by rintro ⟨-, z⟩; exact hne5 z.symm)
      subst ht3
      exact ⟨i1, i2, ⟨_, b1, b7⟩, ⟨ed', b5⟩, ed10', s10', l10, c5⟩
  refine sp_aload_n X (pc := 0) (r := some e) dX8_bring_0 rfl rfl ?_
  refine sp_getfield X (pc := 1) (c := 3) (i := 1) (t := 2) (a := e) (v := va_rf (some p)) rfl (by first | assumption | omega) (by decide) rfl (congrArg va_rf hp1) fl_Taking_97 dX8_bring_1 ?_
  refine sp_callV X (pc := 4) (mc := 0) (ms := 0) (b := p) (c := 7) (r := (some p)) (As := []) (rest := []) (c_Parted_count l G _ hptp) ok_Parted_count rfl hptp.1 (by decide) rfl lk_Taking_107 rfl rfl (Nat.zero_le _) (Nat.le_of_ble_eq_true rfl) (Nat.le_of_ble_eq_true rfl) (Nat.zero_le _) (Nat.zero_le _) dX8_bring_4 (sp_kI fun v4 m4 hp4 => ?_)
  obtain ⟨hp4v, hp4⟩ := hp4; replace hp4 := (hp4).symm; subst hp4; replace hp4v := (hp4v).symm; subst hp4v
  refine sp_iconst X (pc := 7) (v := 1) dX8_bring_7 (by decide) ?_
  refine sp_isub X (pc := 8) dX8_bring_8 ?_
  refine sp_istore_n X (pc := 9) (lv' := [(2, false, .int ((nI n9) - 1)), (0, false, va_rf (some (A 7))), (1, false, va_rf (some e))]) dX8_bring_9 rfl (by decide) rfl ?_
  refine sp_aload_n X (pc := 10) (r := some (A 7)) dX8_bring_10 rfl rfl ?_
  refine sp_getfield X (pc := 11) (c := 9) (i := 8) (t := 2) (a := (A 7)) (v := va_rf (some fo)) rfl (by first | assumption | omega) (by decide) rfl (congrArg va_rf hfo) fl_Taking_54 dX8_bring_11 ?_
  refine sp_astore_n X (pc := 14) (lv' := [(3, false, va_rf (some fo)), (2, false, .int ((nI n9) - 1)), (0, false, va_rf (some (A 7))), (1, false, va_rf (some e))]) dX8_bring_14 rfl (by decide) rfl ?_
  refine sp_iload_n X (pc := 15) (x := ((nI n9) - 1)) dX8_bring_15 rfl rfl ?_
  refine sp_aload_n X (pc := 16) (r := some (A 7)) dX8_bring_16 rfl rfl ?_
  refine sp_getfield X (pc := 17) (c := 9) (i := 9) (t := 0) (a := (A 7)) (v := .int (nI q)) rfl (by first | assumption | omega) (by decide) rfl (congrArg Value.int hq) fl_Taking_57 dX8_bring_17 ?_
  refine sp_isub X (pc := 20) dX8_bring_20 ?_
  refine sp_istore X (pc := 21) (lv' := [(4, false, .int (((nI n9) - 1) - (nI q))), (3, false, va_rf (some fo)), (2, false, .int ((nI n9) - 1)), (0, false, va_rf (some (A 7))), (1, false, va_rf (some e))]) dX8_bring_21  (by decide) rfl ?_
  have loop23 : ∀ (dz : Nat) (mm : sp_M) (c f9 e9 t kk nn : Nat), sp_I G P A mm → sp_F m mm A sp_Tb → mm.ty f9 = 6 → sp_li G mm (A 9) e9 t → sp_li G mm (A 10) ed10 s10 → t + c = s9 + q → 2 * c + 4 ≤ kk → 1000 * c + 2500 ≤ nn → c = dz → w kk nn mm 23 [(0, false, va_rf (some (A 7))), (1, false, va_rf (some e)), (2, false, .int (nI n9 - 1)), (3, false, va_rf (some f9)), (4, false, .int (nI n9 - 1 - nI c))] [] := by
    intro dz
    induction dz using Nat.strongRecOn with
    | ind dz ih =>
      intro mm c f9 e9 t kk nn I9 F9 hf9 li9 l109 ht9 hk9 hn9 hdz
      have hS9 := I9.S
      have u5 := hS9.k 5 11 (by decide)
      have u7 := hS9.k 7 10 (by decide)
      have hc7 : c ≤ 300 := by omega
      have he9 := F9.ty hI.wf he (by decide)
      have hpt9 := F9.pt hI I9 hptp
      have hlo9 := I9.lo sp_ix9 li9
      have hne : A 9 ≠ A 10 := hS9.ne sp_ix9 sp_ix10 (by decide)
      refine sp_iload X (pc := 23) (x := (nI n9 - 1 - nI c)) dX8_bring_23 rfl ?_
      refine sp_iload_n X (pc := 25) (x := (nI n9 - 1)) dX8_bring_25 rfl rfl ?_
      refine sp_icmp_ge X (pc := 26) (tgt := 56) dX8_bring_26 (by decide) (fun hb26 => ?_) (fun hb26 => ?_)
      · have hc0 : c = 0 := sp_br3 (by omega) (by omega) hb26
        refine sp_aload_n X (pc := 56) (r := some (A 7)) dX8_bring_56 rfl rfl ?_
        refine sp_getfield X (pc := 57) (c := 9) (i := 10) (t := 2) (a := (A 7)) (v := va_rf (mm.fR 586 (A 7))) rfl (by first | assumption | omega) (by decide) rfl rfl fl_Taking_60 dX8_bring_57 ?_
        refine sp_ifnull X (pc := 60) (tgt := 71) dX8_bring_60 (by decide) (fun hb60 => ?_) (fun ra60 hb60 => ?_)
        · refine sp_pick X [0, 1, 2, 3] (lv' := [(0, false, va_rf (some (A 7))), (1, false, va_rf (some e)), (2, false, .int (nI n9 - 1)), (3, false, va_rf (some f9))]) rfl ?_
          refine sp_less X (k' := 4) (n' := 2500) (by omega) (by omega) ?_
          first
            | exact cut71 mm f9 e9 t I9 F9 hf9 li9 l109 (by omega)
            | exact cut71 _ f9 e9 t (I9.pI (by decide)) (F9.pI (by unfold sp_Tb; decide) (by decide)) hf9 (li9.pI (by decide)) (l109.pI (by decide)) (by omega)
        · have hnt := hS9.2.2.2.2.1.2.2.1 _ hb60
          refine sp_aload_n X (pc := 63) (r := some (A 7)) dX8_bring_63 rfl rfl ?_
          refine sp_getfield X (pc := 64) (c := 9) (i := 10) (t := 2) (a := (A 7)) (v := va_rf (some ra60)) rfl (by first | assumption | omega) (by decide) rfl (congrArg va_rf hb60) fl_Taking_60 dX8_bring_64 ?_
          refine sp_iconst X (pc := 67) (v := 1) dX8_bring_67 (by decide) ?_
          refine sp_putI X (pc := 68) (c := 5) (i := 7) (q := 327) (a := ra60) rfl hnt (by decide) rfl rfl (Or.inl rfl) ⟨rfl, rfl⟩ fl_Taking_228 dX8_bring_68 ?_
          refine sp_pick X [0, 1, 2, 3] (lv' := [(0, false, va_rf (some (A 7))), (1, false, va_rf (some e)), (2, false, .int (nI n9 - 1)), (3, false, va_rf (some f9))]) rfl ?_
          refine sp_less X (k' := 4) (n' := 2500) (by omega) (by omega) ?_
          first
            | exact cut71 mm f9 e9 t I9 F9 hf9 li9 l109 (by omega)
            | exact cut71 _ f9 e9 t (I9.pI (by decide)) (F9.pI (by unfold sp_Tb; decide) (by decide)) hf9 (li9.pI (by decide)) (l109.pI (by decide)) (by omega)
      · obtain ⟨d, hd⟩ : ∃ d, c = d + 1 := ⟨c - 1, by have := sp_br1 (by omega) (by omega) hb26; omega⟩
        subst hd
        refine sp_aload_n X (pc := 29) (r := some (A 7)) dX8_bring_29 rfl rfl ?_
        refine sp_getfield X (pc := 30) (c := 9) (i := 1) (t := 2) (a := (A 7)) (v := va_rf (some (A 5))) rfl (by first | assumption | omega) (by decide) rfl (congrArg va_rf (hS9.p 577 7 5 (by decide))) fl_Taking_15 dX8_bring_30 ?_
        refine sp_aload_n X (pc := 33) (r := some f9) dX8_bring_33 rfl rfl ?_
        refine sp_aload_n X (pc := 34) (r := some e) dX8_bring_34 rfl rfl ?_
        refine sp_getfield X (pc := 35) (c := 3) (i := 1) (t := 2) (a := e) (v := va_rf (some p)) rfl he9 (by decide) rfl (congrArg va_rf ((hR F9).1)) fl_Taking_97 dX8_bring_35 ?_
        refine sp_iload X (pc := 38) (x := (nI n9 - 1 - nI (d + 1))) dX8_bring_38 rfl ?_
        refine sp_callV X (pc := 40) (mc := 0) (ms := 0) (b := p) (c := 7) (r := (some p)) (As := [.int (nI n9 - 1 - nI (d + 1))]) (rest := [va_rf (some f9), va_rf (some (A 5))]) (c_Parted_at l G _ hpt9) ok_Parted_at rfl hpt9.1 (by decide) rfl lk_Taking_112 rfl rfl (by simp [sp_cat_rf, sp_cat_i, sp_cat_l]) (Nat.le_of_ble_eq_true rfl) (Nat.le_of_ble_eq_true rfl) (Nat.zero_le _) (Nat.zero_le _) dX8_bring_40 (sp_kR fun v40 m40 hp40 => ?_)
        obtain ⟨hp40, hp40m⟩ := hp40; replace hp40m := (hp40m).symm; subst hp40m
        obtain ⟨nm, rfl, hnmt, -⟩ := hp40
        refine sp_null X (pc := 43) dX8_bring_43 ?_
        refine sp_null X (pc := 44) dX8_bring_44 ?_
        refine sp_iconst X (pc := 45) (v := 0) dX8_bring_45 (by decide) ?_
        refine sp_callV X (pc := 46) (mc := 2) (ms := 1000) (b := (A 5)) (c := 10) (r := (some (A 5))) (As := [va_rf (some f9), va_rf (some nm), va_rf none, va_rf none, .int 0]) (rest := []) (c_Tree_addNode l G _ I9.J I9.tr hG I9.wf li9 (by omega) hlo9.1 hf9 hnmt (fun x hx => by cases hx) (fun x hx => by cases hx) (Or.inl rfl)) ok_Tree_addNode rfl u5 (by decide) rfl lk_Taking_224 rfl rfl (Nat.zero_le _) (Nat.le_of_ble_eq_true rfl) (Nat.le_of_ble_eq_true rfl) (by omega) (by omega) dX8_bring_46 (sp_kR fun v46 m46 hp46 => ?_)
        obtain ⟨b1, b2, b3, b4, ⟨ed', b5, b6, -⟩, b7, -⟩ := hp46
        obtain ⟨i1, i2⟩ := I9.grow F9 (Or.inl rfl) (by unfold sp_Tb; decide) li9 (by show t < 200; omega) b2 b3 b4 b5 b6
        have l10 : sp_li G m46 (A 10) ed10 s10 := b4.li I9.wf l109 (by rintro ⟨-, z⟩; exact hne z.symm) (by rintro ⟨-, z⟩; exact hne z.symm)
        subst b1
        refine sp_astore_n X (pc := 49) (lv' := [(3, false, va_rf (some mm.nx)), (0, false, va_rf (some (A 7))), (1, false, va_rf (some e)), (2, false, .int (nI n9 - 1)), (4, false, .int (nI n9 - 1 - nI (d + 1)))]) dX8_bring_49 rfl (by decide) rfl ?_
        refine sp_iinc X (pc := 50) (v := (nI n9 - 1 - nI d)) (lv' := [(4, false, .int (nI n9 - 1 - nI d)), (3, false, va_rf (some mm.nx)), (0, false, va_rf (some (A 7))), (1, false, va_rf (some e)), (2, false, .int (nI n9 - 1))]) dX8_bring_50 rfl (sp_br2 n9 d) (by decide) rfl ?_
        refine sp_goto X (pc := 53) (tgt := 23) dX8_bring_53 (by decide) ?_
        refine sp_pick X [2, 3, 4, 1, 0] (lv' := [(0, false, va_rf (some (A 7))), (1, false, va_rf (some e)), (2, false, .int (nI n9 - 1)), (3, false, va_rf (some mm.nx)), (4, false, .int (nI n9 - 1 - nI d))]) rfl ?_
        exact ih d (by omega) m46 d mm.nx ed' (t + 1) _ _ i1 i2 b7 b5 l10 (by omega) (by omega) (by omega) rfl
  refine sp_pick X [3, 4, 2, 1, 0] (lv' := [(0, false, va_rf (some (A 7))), (1, false, va_rf (some e)), (2, false, .int ((nI n9) - 1)), (3, false, va_rf (some fo)), (4, false, .int (((nI n9) - 1) - (nI q)))]) rfl ?_
  exact loop23 _ m q fo ed9 s9 _ _ hI (sp_F.refl m A sp_Tb) hfot hli9 hli10 rfl (by omega) (by omega) rfl
set_option maxRecDepth 20000 in
theorem c_Taking_setNotedRights (l : Launch) (G : sp_G) (m : sp_M) {P : Nat → Prop} {A : Nat → Nat} (hG : sp_GS G) (hI : sp_I G P A m) : sp_C l G M_Taking_setNotedRights 0 0 [.ref (A 7)] m (sp_oV fun m' => sp_I G P A m' ∧ sp_F m m' A sp_T16) := by
  refine sp_enter (lv0 := [(0, false, va_rf (some (A 7)))]) "SafePaths$Taking" false rfl (by decide) (fun h => by cases h) (Nat.le_of_ble_eq_true rfl) rfl ?_
  intro w X
  have hS := hI.S
  have t7 := hS.k 7 10 (by decide)
  have t16 := hS.k 16 1 (by decide)
  obtain ⟨-, ed, s, hli, hlo⟩ := hS.2.2.1 16 sp_ix16
  have hs9 : s ≤ 100000 := by have := hli.2.2.2.1; have := hli.2.2.2.2.1; omega
  refine sp_iconst X (pc := 0) (v := 0) dX8_setNotedRights_0 (by decide) ?_
  refine sp_istore_n X (pc := 1) (lv' := [(1, false, .int 0), (0, false, va_rf (some (A 7)))]) dX8_setNotedRights_1 rfl (by decide) rfl ?_
  have loop2 : ∀ (dz : Nat) (mm : sp_M) (i : Nat), sp_I G P A mm → sp_F m mm A sp_T16 → sp_li G mm (A 16) ed s → i ≤ s → s - i = dz → w 0 0 mm 2 [(0, false, va_rf (some (A 7))), (1, false, .int (nI i))] [] := by
    intro dz
    induction dz using Nat.strongRecOn with
    | ind dz ih =>
      intro mm i I9 F9 li9 hi0 hdz
      have hS9 := I9.S
      have u7 := hS9.k 7 10 (by decide)
      have u16 := hS9.k 16 1 (by decide)
      refine sp_iload_n X (pc := 2) (x := nI i) dX8_setNotedRights_2 rfl rfl ?_
      refine sp_aload_n X (pc := 3) (r := some (A 7)) dX8_setNotedRights_3 rfl rfl ?_
      refine sp_getfield X (pc := 4) (c := 9) (i := 3) (t := 2) (a := (A 7)) (v := va_rf (some (A 16))) rfl (by first | assumption | omega) (by decide) rfl (congrArg va_rf (hS9.p 579 7 16 (by decide))) fl_Taking_26 dX8_setNotedRights_4 ?_
      refine sp_callV X (pc := 7) (mc := 0) (ms := 0) (b := (A 16)) (c := 0) (r := (some (A 16))) (As := []) (rest := [.int (nI i)]) (c_List_size l G _ u16) ok_List_size rfl u16 (by decide) rfl lk_Taking_74 rfl rfl (by simp [sp_cat_rf, sp_cat_i, sp_cat_l]) (Nat.le_of_ble_eq_true rfl) (Nat.le_of_ble_eq_true rfl) (Nat.zero_le _) (Nat.zero_le _) dX8_setNotedRights_7 (sp_kI fun v7 m7 hp7 => ?_)
      obtain ⟨hp7v, hp7⟩ := hp7; replace hp7 := (hp7).symm; subst hp7; replace hp7v := (hp7v).symm; subst hp7v
      rw [li9.2.2.1]
      refine sp_icmp_ge X (pc := 10) (tgt := 42) dX8_setNotedRights_10 (by decide) (fun hb10 => ?_) (fun hb10 => ?_)
      · refine sp_aload_n X (pc := 42) (r := some (A 7)) dX8_setNotedRights_42 rfl rfl ?_
        refine sp_getfield X (pc := 43) (c := 9) (i := 3) (t := 2) (a := (A 7)) (v := va_rf (some (A 16))) rfl (by first | assumption | omega) (by decide) rfl (congrArg va_rf (hS9.p 579 7 16 (by decide))) fl_Taking_26 dX8_setNotedRights_43 ?_
        refine sp_callV X (pc := 46) (mc := 0) (ms := 0) (b := (A 16)) (c := 0) (r := (some (A 16))) (As := []) (rest := []) (c_List_clear l G _ li9) ok_List_clear rfl u16 (by decide) rfl lk_Taking_91 rfl rfl (Nat.zero_le _) (Nat.le_of_ble_eq_true rfl) (Nat.le_of_ble_eq_true rfl) (Nat.zero_le _) (Nat.zero_le _) dX8_setNotedRights_46 (sp_kV fun m46 hp46 => ?_)
        have hsh : sp_sh mm m46 (A 16) ed 0 := by rw [hp46]; exact sp_sh.cl mm (A 16) ed _ _
        have h25 : mm.ty ed = 25 → m46.aR ed = mm.aR ed := fun z => by
          have h0 : s = 0 := by have := li9.2.2.2.1; have := li9.2.2.2.2.2; omega
          subst h0
          rw [hp46]
          funext q
          rw [sp_wR_aR, if_pos rfl, if_neg (by omega)]
        refine sp_return X (pc := 49) dX8_setNotedRights_49 ⟨rfl, ?_⟩
        exact ⟨(I9.shr sp_ix16 li9 (Nat.zero_le _) (by decide) hsh).1, F9.shr I9.J li9 hsh sp_ix16 (Or.inl rfl) h25⟩
      · have hi : i < s := sp_nlt hb10 (by omega)
        obtain ⟨b, hb, hbt, -⟩ := (I9.J.el li9 (sp_e0 _)).2 i hi
        have hb7 := hS9.2.2.2.2.2.2 ed s li9 i b hi hb
        obtain ⟨f, hf, hft⟩ := I9.J.2.2.2.2.2.2.2 b hb7.1 (sp_e0 _)
        refine sp_aload_n X (pc := 13) (r := some (A 7)) dX8_setNotedRights_13 rfl rfl ?_
        refine sp_getfield X (pc := 14) (c := 9) (i := 3) (t := 2) (a := (A 7)) (v := va_rf (some (A 16))) rfl (by first | assumption | omega) (by decide) rfl (congrArg va_rf (hS9.p 579 7 16 (by decide))) fl_Taking_26 dX8_setNotedRights_14 ?_
        refine sp_iload_n X (pc := 17) (x := nI i) dX8_setNotedRights_17 rfl rfl ?_
        refine sp_callV X (pc := 18) (mc := 0) (ms := 0) (b := (A 16)) (c := 0) (r := (some (A 16))) (As := [.int (nI i)]) (rest := []) (c_List_get l G _ li9 hi) ok_List_get rfl u16 (by decide) rfl lk_Taking_78 rfl rfl (Nat.zero_le _) (Nat.le_of_ble_eq_true rfl) (Nat.le_of_ble_eq_true rfl) (Nat.zero_le _) (Nat.zero_le _) dX8_setNotedRights_18 (sp_kR fun v18 m18 hp18 => ?_)
        obtain ⟨hp18v, hp18⟩ := hp18; replace hp18 := (hp18).symm; subst hp18; replace hp18v := (hp18v).symm; subst hp18v
        rw [hb]
        refine sp_checkcast X (pc := 21) (a := b) (c := 6) rfl hb7.1 (by decide) cl_Taking_82 dX8_setNotedRights_21 ?_
        refine sp_astore_n X (pc := 24) (lv' := [(2, false, va_rf (some b)), (0, false, va_rf (some (A 7))), (1, false, .int (nI i))]) dX8_setNotedRights_24 rfl (by decide) rfl ?_
        refine sp_aload_n X (pc := 25) (r := some b) dX8_setNotedRights_25 rfl rfl ?_
        refine sp_getfield X (pc := 26) (c := 6) (i := 0) (t := 2) (a := b) (v := va_rf (some f)) rfl hb7.1 (by decide) rfl (congrArg va_rf hf) fl_Taking_84 dX8_setNotedRights_26 ?_
        refine sp_aload_n X (pc := 29) (r := some b) dX8_setNotedRights_29 rfl rfl ?_
        refine sp_getfield X (pc := 30) (c := 6) (i := 1) (t := 0) (a := b) (v := .int (mm.fI 385 b)) rfl hb7.1 (by decide) rfl rfl fl_Taking_85 dX8_setNotedRights_30 ?_
        refine sp_putI X (pc := 33) (c := 5) (i := 6) (q := 326) (a := f) rfl hft (by decide) rfl rfl (Or.inl rfl) hb7.2.fit fl_Taking_88 dX8_setNotedRights_33 ?_
        refine sp_iinc X (pc := 36) (v := nI (i + 1)) (lv' := [(1, false, .int (nI (i + 1))), (2, false, va_rf (some b)), (0, false, va_rf (some (A 7)))]) dX8_setNotedRights_36 rfl (nI_1 i) (by decide) rfl ?_
        refine sp_goto X (pc := 39) (tgt := 2) dX8_setNotedRights_39 (by decide) ?_
        refine sp_pick X [2, 0] (lv' := [(0, false, va_rf (some (A 7))), (1, false, .int (nI (i + 1)))]) rfl ?_
        exact ih (s - (i + 1)) (by omega) _ (i + 1) (I9.pI (by decide)) (F9.pI (Or.inr rfl) (by decide)) (li9.pI (by decide)) (by omega) rfl
  refine sp_pick X [1, 0] (lv' := [(0, false, va_rf (some (A 7))), (1, false, .int 0)]) rfl ?_
  exact loop2 _ m 0 hI (sp_F.refl m A sp_T16) hli (Nat.zero_le _) rfl
set_option maxRecDepth 20000 in
theorem c_Taking_changeNodeLimit (l : Launch) (G : sp_G) (m : sp_M) {P : Nat → Prop} {A : Nat → Nat} (hG : sp_GS G) (hI : sp_I G P A m) {n : Int64} : sp_C l G M_Taking_changeNodeLimit 0 0 [.ref (A 7), .long n] m (sp_oL fun v m' => v = m.fL 580 (A 7) ∧ m' = m.pL 580 (A 7) n) := by
  refine sp_enter (lv0 := [(0, false, va_rf (some (A 7))), (1, true, .long n)]) "SafePaths$Taking" false rfl (by decide) (fun h => by cases h) (Nat.le_of_ble_eq_true rfl) rfl ?_
  intro w X
  have hS := hI.S
  have t7 := hS.k 7 10 (by decide)
  refine sp_aload_n X (pc := 0) (r := some (A 7)) dX8_changeNodeLimit_0 rfl rfl ?_
  refine sp_getfield X (pc := 1) (c := 9) (i := 4) (t := 1) (a := (A 7)) (v := .long (m.fL 580 (A 7))) rfl (by first | assumption | omega) (by decide) rfl rfl fl_Taking_32 dX8_changeNodeLimit_1 ?_
  refine sp_lstore_n X (pc := 4) (lv' := [(3, true, .long (m.fL 580 (A 7))), (0, false, va_rf (some (A 7))), (1, true, .long n)]) dX8_changeNodeLimit_4 rfl (by decide) rfl ?_
  refine sp_aload_n X (pc := 5) (r := some (A 7)) dX8_changeNodeLimit_5 rfl rfl ?_
  refine sp_lload_n X (pc := 6) (x := n) dX8_changeNodeLimit_6 rfl rfl ?_
  refine sp_putL X (pc := 7) (c := 9) (i := 4) (q := 580) (a := (A 7)) rfl (by first | assumption | omega) (by decide) rfl rfl (Or.inl rfl)  fl_Taking_32 dX8_changeNodeLimit_7 ?_
  refine sp_lload_n X (pc := 10) (x := (m.fL 580 (A 7))) dX8_changeNodeLimit_10 rfl rfl ?_
  refine sp_lreturn X (pc := 11) dX8_changeNodeLimit_11 ⟨_, rfl, ?_⟩
  exact ⟨rfl, rfl⟩
set_option maxRecDepth 20000 in
theorem c_Taking_changeSizeLimit (l : Launch) (G : sp_G) (m : sp_M) {P : Nat → Prop} {A : Nat → Nat} (hG : sp_GS G) (hI : sp_I G P A m) {n : Int64} : sp_C l G M_Taking_changeSizeLimit 0 0 [.ref (A 7), .long n] m (sp_oL fun v m' => v = m.fL 581 (A 7) ∧ m' = m.pL 581 (A 7) n) := by
  refine sp_enter (lv0 := [(0, false, va_rf (some (A 7))), (1, true, .long n)]) "SafePaths$Taking" false rfl (by decide) (fun h => by cases h) (Nat.le_of_ble_eq_true rfl) rfl ?_
  intro w X
  have hS := hI.S
  have t7 := hS.k 7 10 (by decide)
  refine sp_aload_n X (pc := 0) (r := some (A 7)) dX8_changeSizeLimit_0 rfl rfl ?_
  refine sp_getfield X (pc := 1) (c := 9) (i := 5) (t := 1) (a := (A 7)) (v := .long (m.fL 581 (A 7))) rfl (by first | assumption | omega) (by decide) rfl rfl fl_Taking_38 dX8_changeSizeLimit_1 ?_
  refine sp_lstore_n X (pc := 4) (lv' := [(3, true, .long (m.fL 581 (A 7))), (0, false, va_rf (some (A 7))), (1, true, .long n)]) dX8_changeSizeLimit_4 rfl (by decide) rfl ?_
  refine sp_aload_n X (pc := 5) (r := some (A 7)) dX8_changeSizeLimit_5 rfl rfl ?_
  refine sp_lload_n X (pc := 6) (x := n) dX8_changeSizeLimit_6 rfl rfl ?_
  refine sp_putL X (pc := 7) (c := 9) (i := 5) (q := 581) (a := (A 7)) rfl (by first | assumption | omega) (by decide) rfl rfl (Or.inl rfl)  fl_Taking_38 dX8_changeSizeLimit_7 ?_
  refine sp_lload_n X (pc := 10) (x := (m.fL 581 (A 7))) dX8_changeSizeLimit_10 rfl rfl ?_
  refine sp_lreturn X (pc := 11) dX8_changeSizeLimit_11 ⟨_, rfl, ?_⟩
  exact ⟨rfl, rfl⟩
set_option maxRecDepth 20000 in
theorem c_Taking_notedCount (l : Launch) (G : sp_G) (m : sp_M) {P : Nat → Prop} {A : Nat → Nat} (hG : sp_GS G) (hI : sp_I G P A m) : sp_C l G M_Taking_notedCount 0 0 [.ref (A 7)] m (sp_oI fun v m' => v = m.fI 2 (A 16) ∧ m' = m) := by
  refine sp_enter (lv0 := [(0, false, va_rf (some (A 7)))]) "SafePaths$Taking" false rfl (by decide) (fun h => by cases h) (Nat.le_of_ble_eq_true rfl) rfl ?_
  intro w X
  have hS := hI.S
  have t7 := hS.k 7 10 (by decide)
  have t16 := hS.k 16 1 (by decide)
  refine sp_aload_n X (pc := 0) (r := some (A 7)) dX8_notedCount_0 rfl rfl ?_
  refine sp_getfield X (pc := 1) (c := 9) (i := 3) (t := 2) (a := (A 7)) (v := va_rf (some (A 16))) rfl (by first | assumption | omega) (by decide) rfl (congrArg va_rf (hS.p 579 7 16 (by decide))) fl_Taking_26 dX8_notedCount_1 ?_
  refine sp_callV X (pc := 4) (mc := 0) (ms := 0) (b := (A 16)) (c := 0) (r := (some (A 16))) (As := []) (rest := []) (c_List_size l G _ t16) ok_List_size rfl t16 (by decide) rfl lk_Taking_74 rfl rfl (Nat.zero_le _) (Nat.le_of_ble_eq_true rfl) (Nat.le_of_ble_eq_true rfl) (Nat.zero_le _) (Nat.zero_le _) dX8_notedCount_4 (sp_kI fun v4 m4 hp4 => ?_)
  obtain ⟨hp4v, hp4⟩ := hp4; replace hp4 := (hp4).symm; subst hp4; replace hp4v := (hp4v).symm; subst hp4v
  refine sp_ireturn X (pc := 7) dX8_notedCount_7 rfl ⟨_, rfl, ?_⟩
  exact ⟨rfl, rfl⟩
