
theorem sp_sw (x : Int32) (h : Nat) (hh : h < 2 ^ 31) : (x.toInt < 0 ∨ (h : Int) < x.toInt) ∨ ∃ j : Nat, j ≤ h ∧ x = nI j := by
  by_cases h0 : x < 0
  · left; left; exact Int32.lt_iff_toInt_lt.mp h0
  · obtain ⟨j, hj, rfl⟩ := nI_of h0
    by_cases h1 : j ≤ h
    · right; exact ⟨j, h1, rfl⟩
    · left; right; rw [nI_toInt hj]; omega
def sp_bn (G : sp_G) (m : sp_M) (A : Nat → Nat) : Prop := ∃ e9 s9 e10 s10, sp_li G m (A 9) e9 s9 ∧ sp_li G m (A 10) e10 s10 ∧ s10 ≤ s9
theorem sp_F.bn {G : sp_G} {P : Nat → Prop} {m m' : sp_M} {A : Nat → Nat} {T : Nat → Prop} (h : sp_F m m' A T) (hI : sp_I G P A m) (hb : sp_bn G m A) (h9 : ¬ T 9) (h10 : ¬ T 10) : sp_bn G m' A := by
  obtain ⟨e9, s9, e10, s10, a1, a2, a3⟩ := hb
  exact ⟨e9, s9, e10, s10, h.li hI.wf a1 (sp_tl.o hI.S sp_ix9 h9), h.li hI.wf a2 (sp_tl.o hI.S sp_ix10 h10), a3⟩

/-- the class's tree, bodies, notes, counts -/
def sp_cZ (G : sp_G) (m : sp_M) (A : Nat → Nat) (R : Int32) (TT : Nat → List Int32) (Z : pu_Z) (NA BA : Nat → Nat) : Prop := sp_cN G m A R TT Z.n Z.T NA BA ∧ sp_cB G m A Z.b Z.S Z.V BA ∧ sp_cQ G m A NA Z.q ∧ m.fI 582 (A 7) = nI (Z.n - 4) ∧ m.fL 583 (A 7) = Z.z
theorem sp_cZ.F {G : sp_G} {P : Nat → Prop} {m m' : sp_M} {A : Nat → Nat} {Q : Nat → Prop} {R : Int32} {TT : Nat → List Int32} {Z : pu_Z} {NA BA : Nat → Nat} (h : sp_cZ G m A R TT Z NA BA) (hI : sp_I G P A m) (hF : sp_F m m' A Q) (hQ : ¬ Q 9 ∧ ¬ Q 326 ∧ ¬ Q 327 ∧ ¬ Q 10 ∧ ¬ Q 16 ∧ ¬ Q 582 ∧ ¬ Q 583) : sp_cZ G m' A R TT Z NA BA := by
  obtain ⟨h1, h2, h3, h4, h5⟩ := h
  obtain ⟨q1, q2, q3, q4, q5, q6, q7⟩ := hQ
  have l7 := hI.lt 7 10 (by decide) (by decide)
  exact ⟨h1.F hI hF q1 q2 q3, h2.F hI hF q4, h3.F hI hF q5, by rw [hF.I l7 (by decide) q6]; exact h4, by rw [hF.L l7 (fun _ => q7)]; exact h5⟩
theorem sp_cQ.add {G : sp_G} {P : Nat → Prop} {m m' : sp_M} {A NA : Nat → Nat} {Q : Nat → Prop} {ns : List (Nat × Int32)} (h : sp_cQ G m A NA ns) (hI : sp_I G P A m) (hF : sp_F m m' A Q) {e16 b x : Nat} {v : Int32} (hli : sp_li G m (A 16) e16 ns.length) (had : sp_ad G m (A 16) e16 ns.length b m') (h1 : m.ty b = 7) (h2 : m.fR 384 b = some (NA x)) (h3 : m.fI 385 b = v) : sp_cQ G m' A NA (ns ++ [(x, v)]) := by
  obtain ⟨e0, l1, l2⟩ := h
  obtain ⟨rfl, -⟩ := sp_sz_fun l1 hli
  obtain ⟨ed', q1, q2, q3, q4, -⟩ := had
  have hfr : ∀ y, m.ty y = 7 → m'.ty y = 7 ∧ m'.fR 384 y = m.fR 384 y ∧ m'.fI 385 y = m.fI 385 y := fun y hy => by
    have hl : y < m.nx := hI.wf _ (by omega)
    exact ⟨hF.ty hI.wf hy (by decide), hF.R hl (by decide), hF.2.2.1 _ _ hl (by rintro (z | z); omega; omega)⟩
  refine ⟨ed', by rw [List.length_append, List.length_singleton]; exact q1, fun i hi => ?_⟩
  rw [List.length_append, List.length_singleton] at hi
  by_cases z : i < ns.length
  · rw [List.getD_eq_getElem?_getD, List.getElem?_append_left z, ← List.getD_eq_getElem?_getD, q2 i z]
    obtain ⟨c, c1, c2, c3, c4⟩ := l2 i z
    obtain ⟨f1, f2, f3⟩ := hfr c c2
    exact ⟨c, c1, f1, f2.trans c3, f3.trans c4⟩
  · obtain rfl : i = ns.length := by omega
    rw [List.getD_eq_getElem?_getD, List.getElem?_append_right (Nat.le_refl _), Nat.sub_self, q3]
    obtain ⟨f1, f2, f3⟩ := hfr b h1
    exact ⟨b, rfl, f1, f2.trans h2, f3.trans h3⟩
set_option maxHeartbeats 1000000 in
set_option maxRecDepth 20000 in
theorem c_Taking_carryOut (l : Launch) (G : sp_G) (m : sp_M) {P : Nat → Prop} {A : Nat → Nat} (hG : sp_GS G) (hI : sp_I G P A m) {R : Int32} {TT : Nat → List Int32} {Z : pu_Z} {nt0 : Nat} {NA BA : Nat → Nat} (hZ : sp_cZ G m A R TT Z NA BA) (hZW : pu_ZW nt0 Z) (hq5 : Z.q.length < 512) {e p pn L edp sp o tg : Nat} {us : List (List Int32)} {kd va : Int32} {sz : Int64} {f lk : Nat} {th al sh : Option Nat} {dd : Int32} (hjs : sp_js m A NA BA Z.n f lk th al sh dd) (he : m.ty e = 4) (hkd : m.fI 192 e = kd) (hkr : kd = 0 ∨ kd = 1 ∨ kd = 2 ∨ kd = 3) (hsz : m.fL 196 e = sz) (hva : m.fI 195 e = va) (hp1 : m.fR 193 e = some p) (ho1 : m.fR 194 e = some o) (hptp : sp_pt G m p L edp sp) (hpvp : sp_pv G m p pn us) (hs8 : us.length ≤ 8) (hus : ∀ i, i < us.length → 1 ≤ (us.getD i []).length ∧ (us.getD i []).length ≤ 16) (hlk : lk < us.length) (hfi : pu_ins Z.T.o f) (hth : ∀ j, th = some j → 4 ≤ j ∧ j < Z.n) (hal : ∀ j, al = some j → 4 ≤ j ∧ j < Z.n) (h0 : al = none → Z.n + lk + 1 ≤ 200 ∧ (kd = 3 → ∃ q, sh = some q ∧ q < Z.b) ∧ (kd = 0 ∨ kd = 2 → sh = none)) (hot2 : kd = 2 → sp_tv G m R o tg (TT tg) ∧ tg < nt0) : sp_C l G M_Taking_carryOut 22 10700 [.ref (A 7), .ref e] m (sp_oI fun v m' => sp_I G P A m' ∧ sp_F m m' A sp_Tc ∧ v = nI (pu_nn Z lk al) ∧ pu_ZW nt0 (pu_out Z kd va sz us tg f lk th al sh dd) ∧ ∃ NA' BA', sp_cZ G m' A R TT (pu_out Z kd va sz us tg f lk th al sh dd) NA' BA') := by
  refine sp_enter (lv0 := [(0, false, va_rf (some (A 7))), (1, false, va_rf (some e))]) "SafePaths$Taking" false rfl (by decide) (fun h => by cases h) (Nat.le_of_ble_eq_true rfl) rfl ?_
  intro w X
  have hS := hI.S
  have t5 := hS.k 5 11 (by decide)
  have t7 := hS.k 7 10 (by decide)
  obtain ⟨hN, hcB, hcQ, hmd, hsz5⟩ := id hZ
  obtain ⟨hW, hQ, hbn⟩ := id hZW
  have hel : e < m.nx := hI.wf e (by omega)
  have hn2 := hW.1
  have h7 := hjs.2.2.2.1
  have cut19 : ∀ (mm : sp_M) (NA9 BA9 : Nat → Nat), sp_I G P A mm → sp_F m mm A sp_Tc → sp_cZ G mm A R TT (pu_out0 Z kd va sz us tg f lk th al sh dd) NA9 BA9 → pu_ZW nt0 (pu_out0 Z kd va sz us tg f lk th al sh dd) → (4 ≤ pu_nn Z lk al ∧ pu_nn Z lk al < (pu_out0 Z kd va sz us tg f lk th al sh dd).n) → w 2 1040 mm 19 [(0, false, va_rf (some (A 7))), (1, false, va_rf (some e))] [va_rf (some (NA9 (pu_nn Z lk al)))] := by
    intro mm NA9 BA9 I9 F9 C9 V9 K9
    have hS9 := I9.S
    have u7 := hS9.k 7 10 (by decide)
    have u16 := hS9.k 16 1 (by decide)
    have he9 := F9.ty hI.wf he (by decide)
    have hkd9 : mm.fI 192 e = kd := by rw [F9.2.2.1 _ _ hel (by rintro (z | z); omega; omega)]; exact hkd
    have hva9 : mm.fI 195 e = va := by rw [F9.2.2.1 _ _ hel (by rintro (z | z); omega; omega)]; exact hva
    obtain ⟨Z1, hZ1⟩ : ∃ Z1, Z1 = pu_out0 Z kd va sz us tg f lk th al sh dd := ⟨_, rfl⟩
    rw [← hZ1] at C9 V9 K9
    have hq9 : Z1.q = Z.q := by rw [hZ1]; unfold pu_out0; cases al <;> rfl
    have hOUT : pu_out Z kd va sz us tg f lk th al sh dd = pu_nt Z1 kd va (pu_nn Z lk al) := by rw [hZ1]; rfl
    clear hZ1
    obtain ⟨hN9, hB9, hQ9, hm9, hs9⟩ := id C9
    obtain ⟨e16, li16, -⟩ := id hQ9
    have hz9 := I9.wf.z
    have hwf9 := I9.wf
    have hf9 := (hN9.2.2 _ K9.2).1
    have hnum : mm.fI 320 (NA9 (pu_nn Z lk al)) = nI (pu_nn Z lk al) := (hN9.2.2 _ K9.2).2.1
    have hZno : ¬ kd = 0 → pu_nt Z1 kd va (pu_nn Z lk al) = Z1 := fun z => by
      show (Z1.1, Z1.2.1, Z1.2.2.1, Z1.2.2.2.1, Z1.2.2.2.2.1, Z1.2.2.2.2.2.1, if kd = 0 then _ else Z1.2.2.2.2.2.2) = Z1
      rw [if_neg z]
      rfl
    refine sp_astore_n X (pc := 19) (lv' := [(2, false, va_rf (some (NA9 (pu_nn Z lk al)))), (0, false, va_rf (some (A 7))), (1, false, va_rf (some e))]) dX8_carryOut_19 rfl (by decide) rfl ?_
    refine sp_aload_n X (pc := 20) (r := some e) dX8_carryOut_20 rfl rfl ?_
    refine sp_getfield X (pc := 21) (c := 3) (i := 0) (t := 0) (a := e) (v := .int kd) rfl he9 (by decide) rfl (congrArg Value.int hkd9) fl_Taking_173 dX8_carryOut_21 ?_
    refine sp_if_ne X (pc := 24) (tgt := 69) dX8_carryOut_24 (by decide) (fun hb24 => ?_) (fun hb24 => ?_)
    · refine sp_aload_n X (pc := 69) (r := some (NA9 (pu_nn Z lk al))) dX8_carryOut_69 rfl rfl ?_
      refine sp_getfield X (pc := 70) (c := 5) (i := 0) (t := 0) (a := (NA9 (pu_nn Z lk al))) (v := .int (mm.fI 320 (NA9 (pu_nn Z lk al)))) rfl (by first | exact hb65 | exact hf9) (by decide) rfl rfl fl_Taking_221 dX8_carryOut_70 ?_
      refine sp_ireturn X (pc := 73) dX8_carryOut_73 rfl ⟨_, rfl, ?_⟩
      rw [hOUT]
      first
        | exact ⟨I2, F2, hnum9, pu_nt.W V9 K9, NA9, BA9, C7⟩
        | (rw [hZno hb24]
           exact ⟨I9, F9, hnum, V9, NA9, BA9, C9⟩)
    · refine sp_aload_n X (pc := 27) (r := some (A 7)) dX8_carryOut_27 rfl rfl ?_
      refine sp_getfield X (pc := 28) (c := 9) (i := 3) (t := 2) (a := (A 7)) (v := va_rf (some (A 16))) rfl (by first | assumption | omega) (by decide) rfl (congrArg va_rf (hS9.p 579 7 16 (by decide))) fl_Taking_26 dX8_carryOut_28 ?_
      refine sp_callV X (pc := 31) (mc := 0) (ms := 0) (b := (A 16)) (c := 0) (r := (some (A 16))) (As := []) (rest := []) (c_List_size l G _ u16) ok_List_size rfl u16 (by decide) rfl lk_Taking_74 rfl rfl (Nat.zero_le _) (Nat.le_of_ble_eq_true rfl) (Nat.le_of_ble_eq_true rfl) (Nat.zero_le _) (Nat.zero_le _) dX8_carryOut_31 (sp_kI fun v31 m31 hp31 => ?_)
      obtain ⟨hp31v, hp31⟩ := hp31; replace hp31 := (hp31).symm; subst hp31; replace hp31v := (hp31v).symm; subst hp31v
      rw [li16.2.2.1]
      refine sp_sipush X (pc := 34) (v := 512) dX8_carryOut_34 (by decide) ?_
      refine sp_icmp_ge X (pc := 37) (tgt := 69) dX8_carryOut_37 (by decide) (fun hb37 => ?_) (fun hb37 => ?_)
      · exact absurd ((nI_leI (a := 512) (by decide) (by rw [hq9]; omega)).mp hb37) (by rw [hq9]; omega) --stop
      · have hi : Z1.q.length < 512 := by rw [hq9]; exact hq5
        have o16 : A 16 ≠ mm.nx := by have := hwf9 (A 16) (by omega); omega
        have oe : e ≠ mm.nx := by have := hwf9 e (by omega); omega
        have ob : NA9 (pu_nn Z lk al) ≠ mm.nx := by have := hwf9 (NA9 (pu_nn Z lk al)) (by omega); omega
        have oo : (mm.newO 6).ty mm.nx = 7 := by rw [sp_newO_ty, if_pos rfl]
        refine sp_aload_n X (pc := 40) (r := some (A 7)) dX8_carryOut_40 rfl rfl ?_
        refine sp_getfield X (pc := 41) (c := 9) (i := 3) (t := 2) (a := (A 7)) (v := va_rf (some (A 16))) rfl (by first | assumption | omega) (by decide) rfl (congrArg va_rf (hS9.p 579 7 16 (by decide))) fl_Taking_26 dX8_carryOut_41 ?_
        refine sp_new X (pc := 44) (c := 6) (N := 2) (by decide) rfl cl_Taking_82 in_6 it_6 (by decide) (by decide) dX8_carryOut_44 ?_
        refine sp_dup X (pc := 47) dX8_carryOut_47 (sp_cat_rf _) ?_
        refine sp_aload_n X (pc := 48) (r := some (NA9 (pu_nn Z lk al))) dX8_carryOut_48 rfl rfl ?_
        refine sp_aload_n X (pc := 49) (r := some e) dX8_carryOut_49 rfl rfl ?_
        refine sp_getfield X (pc := 50) (c := 3) (i := 3) (t := 0) (a := e) (v := .int va) rfl (by rw [sp_newO_ty, if_neg oe]; exact he9) (by decide) rfl (Eq.trans (by simp [sp_fv, sp_pI_nx, sp_pI_ty, sp_pI_ln, sp_pI_fI, sp_pI_fL, sp_pI_fR, sp_pI_aI, sp_pI_aL, sp_pI_aR, sp_pL_nx, sp_pL_ty, sp_pL_ln, sp_pL_fI, sp_pL_fL, sp_pL_fR, sp_pL_aI, sp_pL_aL, sp_pL_aR, sp_pR_nx, sp_pR_ty, sp_pR_ln, sp_pR_fI, sp_pR_fL, sp_pR_fR, sp_pR_aI, sp_pR_aL, sp_pR_aR, sp_sI_nx, sp_sI_ty, sp_sI_ln, sp_sI_fI, sp_sI_fL, sp_sI_fR, sp_sI_aI, sp_sI_aL, sp_sI_aR, sp_sL_nx, sp_sL_ty, sp_sL_ln, sp_sL_fI, sp_sL_fL, sp_sL_fR, sp_sL_aI, sp_sL_aL, sp_sL_aR, sp_sR_nx, sp_sR_ty, sp_sR_ln, sp_sR_fI, sp_sR_fL, sp_sR_fR, sp_sR_aI, sp_sR_aL, sp_sR_aR, sp_newO_nx, sp_newA_nx, sp_newO_ty, sp_newA_ty, sp_newO_ln, sp_newA_ln, sp_newO_fI, sp_newA_fI, sp_newO_fL, sp_newA_fL, sp_newO_fR, sp_newA_fR, sp_newO_aI, sp_newA_aI, sp_newO_aL, sp_newA_aL, sp_newO_aR, sp_newA_aR, oe]) (congrArg Value.int hva9)) fl_Taking_211 dX8_carryOut_50 ?_
        refine sp_iconst X (pc := 53) (v := 1) dX8_carryOut_53 (by decide) ?_
        refine sp_icmp_ne X (pc := 54) (tgt := 61) dX8_carryOut_54 (by decide) (fun hb54 => ?_) (fun hb54 => ?_)
        · refine sp_iconst X (pc := 61) (v := 0) dX8_carryOut_61 (by decide) ?_
          refine sp_callI X (pc := 62) (mc := 0) (ms := 0) (b := mm.nx) (r := some mm.nx) (As := [va_rf (some (NA9 (pu_nn Z lk al))), .int 0]) (rest := [va_rf (some mm.nx), va_rf (some (A 16))]) (c_Note_init l G _ (o := mm.nx) oo (by first | exact Or.inl rfl | exact Or.inr rfl)) ok_Note_init rfl rfl lk_Taking_214 rfl rfl (by simp [sp_cat_rf, sp_cat_i, sp_cat_l]) (Nat.le_of_ble_eq_true rfl) (Nat.le_of_ble_eq_true rfl) (Nat.zero_le _) (Nat.zero_le _) dX8_carryOut_62 (sp_kV fun m62 hp62 => ?_)
          obtain ⟨sh9, hsh, hm1⟩ : ∃ sh9 : Int32, sh9 = (if va = 1 then 1 else 0) ∧ m62 = sp_mkO (mm.newO 6) mm.nx (some (NA9 (pu_nn Z lk al))) sh9 := by
            first
              | exact ⟨1, (if_pos hb54).symm, hp62⟩
              | exact ⟨0, (if_neg hb54).symm, hp62⟩
          clear hp62
          have hsh1 : sp_b01 sh9 := by rw [hsh]; split <;> first | exact Or.inl rfl | exact Or.inr rfl
          have ht1 : m62.ty mm.nx = 7 := by rw [hm1]; exact oo
          have h384 : m62.fR 384 mm.nx = some (NA9 (pu_nn Z lk al)) := by
            rw [hm1]
            show ((mm.newO 6).pR 384 mm.nx (some (NA9 (pu_nn Z lk al)))).fR 384 mm.nx = _
            rw [sp_pR_fR, if_pos ⟨rfl, rfl⟩]
          have hJ1 : sp_J G P sp_E0 m62 := by
            have h9 : sp_J G P (sp_E1 sp_E0 mm.nx) m62 := by rw [hm1]; exact ((I9.J.newO0 hwf9 6).pR (Or.inr (Or.inr rfl))).pI (by decide)
            refine h9.drop (fun h => by omega) (fun h => by omega) (fun h => by omega) (fun h => by omega) (fun h => by omega) (fun _ => ⟨NA9 (pu_nn Z lk al), h384, ?_⟩)
            rw [hm1]
            show (mm.newO 6).ty (NA9 (pu_nn Z lk al)) = _
            rw [sp_newO_ty, if_neg ob]
            exact hf9
          have hfx1 : sp_fx mm m62 sp_w0 := by rw [hm1]; exact (((sp_fx.refl mm sp_w0).newO 6).pR (Or.inr (Nat.le_refl _))).pI (Or.inr (Nat.le_refl _))
          have hI1 : sp_I G P A m62 := ⟨hJ1, by rw [hm1]; exact hwf9.newO 6, hS9.fx hwf9 hfx1 (fun _ _ z => z.elim) (fun _ _ z => z.elim) (fun _ z => z.elim), fun a ha => Nat.lt_of_lt_of_le (I9.2.2.2 a ha) hfx1.1⟩
          have h385 : m62.fI 385 mm.nx = sh9 := by
            rw [hm1]
            show (((mm.newO 6).pR 384 mm.nx (some (NA9 (pu_nn Z lk al)))).pI 385 mm.nx sh9).fI 385 mm.nx = _
            rw [sp_pI_fI, if_pos ⟨rfl, rfl⟩]
          clear hm1
          have F1 : sp_F m m62 A sp_Tc := F9.w0 hfx1
          have F6 : sp_F mm m62 A (fun _ => False) := (sp_F.refl mm A _).w0 hfx1
          have C6 := C9.F I9 F6 ⟨id, id, id, id, id, id, id⟩
          have l16 : sp_li G m62 (A 16) e16 Z1.q.length := hfx1.li hwf9 li16 (fun z => z) (fun z => z)
          have hlo16 := hI1.lo sp_ix16 l16
          have hlo17 : m62.ln e16 ≤ 1034 := hlo16.1
          have hcl := sp_cap_le (m62.ln e16)
          have hb62 := hfx1.ty hwf9 hf9 (by decide)
          refine sp_callV X (pc := 65) (mc := (if Z1.q.length < m62.ln e16 then 0 else 1)) (ms := (if Z1.q.length < m62.ln e16 then 0 else sp_cap (m62.ln e16))) (b := (A 16)) (c := 0) (r := (some (A 16))) (As := [va_rf (some mm.nx)]) (rest := []) (c_List_add1 l G _ (o := A 16) (ed := e16) (s := Z1.q.length) (b := mm.nx) hG l16 hI1.wf (by omega) (hI1.J.elob l16 (sp_e0 _)) ⟨6, ht1, by decide, ca_6⟩) ok_List_add1 rfl l16.1 (by decide) rfl lk_Taking_217 rfl rfl (Nat.zero_le _) (Nat.le_of_ble_eq_true rfl) (Nat.le_of_ble_eq_true rfl) (by split <;> omega) (by split <;> omega) dX8_carryOut_65 (sp_kI fun v65 m65 hp65 => ?_)
          obtain ⟨hv65, had⟩ := hp65
          have I2 := hI1.add sp_ix16 l16 had (by show Z1.q.length < 512; exact hi) ⟨ht1, fun z => absurd z (by decide)⟩ (fun _ => by rw [h385]; exact hsh1)
          have F2 : sp_F m m65 A sp_Tc := F1.ad hI1.J l16 had sp_ix16 (by unfold sp_Tc; decide)
          have F3 : sp_F m62 m65 A (fun j => j = 16) := (sp_F.refl m62 A _).ad hI1.J l16 had sp_ix16 rfl
          have hb65 := F3.ty hI1.wf hb62 (by decide)
          obtain ⟨d1, d2, d3, d4, d5⟩ := C6
          have C7 : sp_cZ G m65 A R TT (pu_nt Z1 kd va (pu_nn Z lk al)) NA9 BA9 := by
            have l7 := hI1.lt 7 10 (by decide) (by decide)
            refine ⟨d1.F hI1 F3 (by decide) (by decide) (by decide), d2.F hI1 F3 (by decide), ?_, by rw [F3.I l7 (by decide) (by decide)]; exact d4, by rw [F3.L l7 (fun _ => by decide)]; exact d5⟩
            show sp_cQ G m65 A NA9 (if kd = 0 then Z1.q ++ [(pu_nn Z lk al, if va = 1 then 1 else 0)] else Z1.q)
            rw [if_pos hb24, ← hsh]
            exact d3.add hI1 F3 l16 had ht1 h384 h385
          have hnum9 : m65.fI 320 (NA9 (pu_nn Z lk al)) = nI (pu_nn Z lk al) := (C7.1.2.2 _ K9.2).2.1
          refine sp_pop X (pc := 68) dX8_carryOut_68 rfl ?_
          refine sp_aload_n X (pc := 69) (r := some (NA9 (pu_nn Z lk al))) dX8_carryOut_69 rfl rfl ?_
          refine sp_getfield X (pc := 70) (c := 5) (i := 0) (t := 0) (a := (NA9 (pu_nn Z lk al))) (v := .int (m65.fI 320 (NA9 (pu_nn Z lk al)))) rfl (by first | exact hb65 | exact hf9) (by decide) rfl rfl fl_Taking_221 dX8_carryOut_70 ?_
          refine sp_ireturn X (pc := 73) dX8_carryOut_73 rfl ⟨_, rfl, ?_⟩
          rw [hOUT]
          first
            | exact ⟨I2, F2, hnum9, pu_nt.W V9 K9, NA9, BA9, C7⟩
            | (rw [hZno hb24]
               exact ⟨I9, F9, hnum, V9, NA9, BA9, C9⟩)
        · refine sp_iconst X (pc := 57) (v := 1) dX8_carryOut_57 (by decide) ?_
          refine sp_goto X (pc := 58) (tgt := 62) dX8_carryOut_58 (by decide) ?_
          refine sp_callI X (pc := 62) (mc := 0) (ms := 0) (b := mm.nx) (r := some mm.nx) (As := [va_rf (some (NA9 (pu_nn Z lk al))), .int 1]) (rest := [va_rf (some mm.nx), va_rf (some (A 16))]) (c_Note_init l G _ (o := mm.nx) oo (by first | exact Or.inl rfl | exact Or.inr rfl)) ok_Note_init rfl rfl lk_Taking_214 rfl rfl (by simp [sp_cat_rf, sp_cat_i, sp_cat_l]) (Nat.le_of_ble_eq_true rfl) (Nat.le_of_ble_eq_true rfl) (Nat.zero_le _) (Nat.zero_le _) dX8_carryOut_62 (sp_kV fun m62 hp62 => ?_)
          obtain ⟨sh9, hsh, hm1⟩ : ∃ sh9 : Int32, sh9 = (if va = 1 then 1 else 0) ∧ m62 = sp_mkO (mm.newO 6) mm.nx (some (NA9 (pu_nn Z lk al))) sh9 := by
            first
              | exact ⟨1, (if_pos hb54).symm, hp62⟩
              | exact ⟨0, (if_neg hb54).symm, hp62⟩
          clear hp62
          have hsh1 : sp_b01 sh9 := by rw [hsh]; split <;> first | exact Or.inl rfl | exact Or.inr rfl
          have ht1 : m62.ty mm.nx = 7 := by rw [hm1]; exact oo
          have h384 : m62.fR 384 mm.nx = some (NA9 (pu_nn Z lk al)) := by
            rw [hm1]
            show ((mm.newO 6).pR 384 mm.nx (some (NA9 (pu_nn Z lk al)))).fR 384 mm.nx = _
            rw [sp_pR_fR, if_pos ⟨rfl, rfl⟩]
          have hJ1 : sp_J G P sp_E0 m62 := by
            have h9 : sp_J G P (sp_E1 sp_E0 mm.nx) m62 := by rw [hm1]; exact ((I9.J.newO0 hwf9 6).pR (Or.inr (Or.inr rfl))).pI (by decide)
            refine h9.drop (fun h => by omega) (fun h => by omega) (fun h => by omega) (fun h => by omega) (fun h => by omega) (fun _ => ⟨NA9 (pu_nn Z lk al), h384, ?_⟩)
            rw [hm1]
            show (mm.newO 6).ty (NA9 (pu_nn Z lk al)) = _
            rw [sp_newO_ty, if_neg ob]
            exact hf9
          have hfx1 : sp_fx mm m62 sp_w0 := by rw [hm1]; exact (((sp_fx.refl mm sp_w0).newO 6).pR (Or.inr (Nat.le_refl _))).pI (Or.inr (Nat.le_refl _))
          have hI1 : sp_I G P A m62 := ⟨hJ1, by rw [hm1]; exact hwf9.newO 6, hS9.fx hwf9 hfx1 (fun _ _ z => z.elim) (fun _ _ z => z.elim) (fun _ z => z.elim), fun a ha => Nat.lt_of_lt_of_le (I9.2.2.2 a ha) hfx1.1⟩
          have h385 : m62.fI 385 mm.nx = sh9 := by
            rw [hm1]
            show (((mm.newO 6).pR 384 mm.nx (some (NA9 (pu_nn Z lk al)))).pI 385 mm.nx sh9).fI 385 mm.nx = _
            rw [sp_pI_fI, if_pos ⟨rfl, rfl⟩]
          clear hm1
          have F1 : sp_F m m62 A sp_Tc := F9.w0 hfx1
          have F6 : sp_F mm m62 A (fun _ => False) := (sp_F.refl mm A _).w0 hfx1
          have C6 := C9.F I9 F6 ⟨id, id, id, id, id, id, id⟩
          have l16 : sp_li G m62 (A 16) e16 Z1.q.length := hfx1.li hwf9 li16 (fun z => z) (fun z => z)
          have hlo16 := hI1.lo sp_ix16 l16
          have hlo17 : m62.ln e16 ≤ 1034 := hlo16.1
          have hcl := sp_cap_le (m62.ln e16)
          have hb62 := hfx1.ty hwf9 hf9 (by decide)
          refine sp_callV X (pc := 65) (mc := (if Z1.q.length < m62.ln e16 then 0 else 1)) (ms := (if Z1.q.length < m62.ln e16 then 0 else sp_cap (m62.ln e16))) (b := (A 16)) (c := 0) (r := (some (A 16))) (As := [va_rf (some mm.nx)]) (rest := []) (c_List_add1 l G _ (o := A 16) (ed := e16) (s := Z1.q.length) (b := mm.nx) hG l16 hI1.wf (by omega) (hI1.J.elob l16 (sp_e0 _)) ⟨6, ht1, by decide, ca_6⟩) ok_List_add1 rfl l16.1 (by decide) rfl lk_Taking_217 rfl rfl (Nat.zero_le _) (Nat.le_of_ble_eq_true rfl) (Nat.le_of_ble_eq_true rfl) (by split <;> omega) (by split <;> omega) dX8_carryOut_65 (sp_kI fun v65 m65 hp65 => ?_)
          obtain ⟨hv65, had⟩ := hp65
          have I2 := hI1.add sp_ix16 l16 had (by show Z1.q.length < 512; exact hi) ⟨ht1, fun z => absurd z (by decide)⟩ (fun _ => by rw [h385]; exact hsh1)
          have F2 : sp_F m m65 A sp_Tc := F1.ad hI1.J l16 had sp_ix16 (by unfold sp_Tc; decide)
          have F3 : sp_F m62 m65 A (fun j => j = 16) := (sp_F.refl m62 A _).ad hI1.J l16 had sp_ix16 rfl
          have hb65 := F3.ty hI1.wf hb62 (by decide)
          obtain ⟨d1, d2, d3, d4, d5⟩ := C6
          have C7 : sp_cZ G m65 A R TT (pu_nt Z1 kd va (pu_nn Z lk al)) NA9 BA9 := by
            have l7 := hI1.lt 7 10 (by decide) (by decide)
            refine ⟨d1.F hI1 F3 (by decide) (by decide) (by decide), d2.F hI1 F3 (by decide), ?_, by rw [F3.I l7 (by decide) (by decide)]; exact d4, by rw [F3.L l7 (fun _ => by decide)]; exact d5⟩
            show sp_cQ G m65 A NA9 (if kd = 0 then Z1.q ++ [(pu_nn Z lk al, if va = 1 then 1 else 0)] else Z1.q)
            rw [if_pos hb24, ← hsh]
            exact d3.add hI1 F3 l16 had ht1 h384 h385
          have hnum9 : m65.fI 320 (NA9 (pu_nn Z lk al)) = nI (pu_nn Z lk al) := (C7.1.2.2 _ K9.2).2.1
          refine sp_pop X (pc := 68) dX8_carryOut_68 rfl ?_
          refine sp_aload_n X (pc := 69) (r := some (NA9 (pu_nn Z lk al))) dX8_carryOut_69 rfl rfl ?_
          refine sp_getfield X (pc := 70) (c := 5) (i := 0) (t := 0) (a := (NA9 (pu_nn Z lk al))) (v := .int (m65.fI 320 (NA9 (pu_nn Z lk al)))) rfl (by first | exact hb65 | exact hf9) (by decide) rfl rfl fl_Taking_221 dX8_carryOut_70 ?_
          refine sp_ireturn X (pc := 73) dX8_carryOut_73 rfl ⟨_, rfl, ?_⟩
          rw [hOUT]
          first
            | exact ⟨I2, F2, hnum9, pu_nt.W V9 K9, NA9, BA9, C7⟩
            | (rw [hZno hb24]
               exact ⟨I9, F9, hnum, V9, NA9, BA9, C9⟩)
  refine sp_aload_n X (pc := 0) (r := some (A 7)) dX8_carryOut_0 rfl rfl ?_
  refine sp_getfield X (pc := 1) (c := 9) (i := 11) (t := 2) (a := (A 7)) (v := va_rf (m.fR 587 (A 7))) rfl (by first | assumption | omega) (by decide) rfl rfl fl_Taking_63 dX8_carryOut_1 ?_
  refine sp_ifnonnull X (pc := 4) (tgt := 15) dX8_carryOut_4 (by decide) (fun ra4 hb4 => ?_) (fun hb4 => ?_)
  · obtain ⟨j, hj⟩ : ∃ j, al = some j := by
      cases al with
      | none => rw [h7] at hb4; cases hb4
      | some j => exact ⟨j, rfl⟩
    have hra : ra4 = NA j := by rw [h7, hj] at hb4; exact (Option.some.inj hb4).symm
    subst hra
    refine sp_aload_n X (pc := 15) (r := some (A 7)) dX8_carryOut_15 rfl rfl ?_
    refine sp_getfield X (pc := 16) (c := 9) (i := 11) (t := 2) (a := (A 7)) (v := va_rf (some (NA j))) rfl (by first | assumption | omega) (by decide) rfl (congrArg va_rf hb4) fl_Taking_63 dX8_carryOut_16 ?_
    refine sp_less X (k' := 2) (n' := 1040) (by decide) (by decide) ?_
    first
      | (have hnb : pu_nb kd Z.b ≤ Z.n + lk + 1 := by unfold pu_nb; split <;> omega
         have en : NA' (Z.n + lk) = NA' (pu_nn Z lk al) := by rw [hal0]; rfl
         rw [en]
         refine cut19 m9 NA' BA' g1 (g2.mono (fun j h => by unfold sp_Tg at h; unfold sp_Tc; omega)) ?_ ?_ ?_
         · rw [hal0]
           exact ⟨g5, g7, ((hcQ.F hI g2 (by unfold sp_Tg; decide)).A hQ g3), by rw [g8]; congr 1; show Z.n - 4 + (lk + 1) = Z.n + lk + 1 - 4; omega, by rw [g9, hsz5]; rfl⟩
         · rw [hal0]
           exact ⟨g6, hQ.mono (by show Z.n ≤ Z.n + lk + 1; omega), hnb⟩
         · rw [hal0]
           exact ⟨by show 4 ≤ Z.n + lk; omega, by show Z.n + lk < Z.n + lk + 1; omega⟩)
      | (have en : NA j = NA (pu_nn Z lk al) := by rw [hj]; rfl
         rw [en]
         refine cut19 m NA BA hI (sp_F.refl m A sp_Tc) ?_ ?_ ?_
         · rw [hj]; exact hZ
         · rw [hj]; exact hZW
         · rw [hj]; exact hal j hj)
  · refine sp_aload_n X (pc := 7) (r := some (A 7)) dX8_carryOut_7 rfl rfl ?_
    refine sp_aload_n X (pc := 8) (r := some e) dX8_carryOut_8 rfl rfl ?_
    have hal0 : al = none := by
      cases al with
      | none => rfl
      | some j => rw [h7] at hb4; cases hb4
    obtain ⟨hq3, hq4, hq6⟩ := h0 hal0
    have hjs0 := hjs
    rw [hal0] at hjs0
    refine sp_callV X (pc := 9) (mc := 20) (ms := 9600) (b := (A 7)) (c := 9) (r := some (A 7)) (As := [va_rf (some e)]) (rest := []) (c_Taking_bring l G _ hG hI hN hW hjs0 he hkd hkr hsz hva hp1 ho1 hptp hpvp hs8 hus hlk hq3 hfi hth hq4 hq6 hot2 hcB (by omega) hmd) ok_Taking_bring rfl t7 (by decide) rfl lk_Taking_207 rfl rfl (Nat.zero_le _) (Nat.le_of_ble_eq_true rfl) (Nat.le_of_ble_eq_true rfl) (by omega) (by omega) dX8_carryOut_9 (sp_kR fun v9 m9 hp9 => ?_)
    obtain ⟨g1, g2, NA', BA', g3, g4, g5, g6, g7, g8, g9⟩ := hp9
    subst g4
    refine sp_goto X (pc := 12) (tgt := 19) dX8_carryOut_12 (by decide) ?_
    refine sp_less X (k' := 2) (n' := 1040) (by decide) (by decide) ?_
    first
      | (have hnb : pu_nb kd Z.b ≤ Z.n + lk + 1 := by unfold pu_nb; split <;> omega
         have en : NA' (Z.n + lk) = NA' (pu_nn Z lk al) := by rw [hal0]; rfl
         rw [en]
         refine cut19 m9 NA' BA' g1 (g2.mono (fun j h => by unfold sp_Tg at h; unfold sp_Tc; omega)) ?_ ?_ ?_
         · rw [hal0]
           exact ⟨g5, g7, ((hcQ.F hI g2 (by unfold sp_Tg; decide)).A hQ g3), by rw [g8]; congr 1; show Z.n - 4 + (lk + 1) = Z.n + lk + 1 - 4; omega, by rw [g9, hsz5]; rfl⟩
         · rw [hal0]
           exact ⟨g6, hQ.mono (by show Z.n ≤ Z.n + lk + 1; omega), hnb⟩
         · rw [hal0]
           exact ⟨by show 4 ≤ Z.n + lk; omega, by show Z.n + lk < Z.n + lk + 1; omega⟩)
      | (have en : NA j = NA (pu_nn Z lk al) := by rw [hj]; rfl
         rw [en]
         refine cut19 m NA BA hI (sp_F.refl m A sp_Tc) ?_ ?_ ?_
         · rw [hj]; exact hZ
         · rw [hj]; exact hZW
         · rw [hj]; exact hal j hj)
