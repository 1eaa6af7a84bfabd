
theorem sp_sw (x : Int32) (h : Nat) (hh : h < 2 ^ 31) : (x.toInt < 0 ∨ (h : Int) < x.toInt) ∨ ∃ j : Nat, j ≤ h ∧ x = nI j := by
  by_cases h0 : x < 0
  · left; left; exact Int32.lt_iff_toInt_lt.mp h0
  · obtain ⟨j, hj, rfl⟩ := nI_of h0
    by_cases h1 : j ≤ h
    · right; exact ⟨j, h1, rfl⟩
    · left; right; rw [nI_toInt hj]; omega
def sp_bn (G : sp_G) (m : sp_M) (A : Nat → Nat) : Prop := ∃ e9 s9 e10 s10, sp_li G m (A 9) e9 s9 ∧ sp_li G m (A 10) e10 s10 ∧ s10 ≤ s9
theorem sp_F.bn {G : sp_G} {P : Nat → Prop} {m m' : sp_M} {A : Nat → Nat} {T : Nat → Prop} (h : sp_F m m' A T) (hI : sp_I G P A m) (hb : sp_bn G m A) (h9 : ¬ T 9) (h10 : ¬ T 10) : sp_bn G m' A := by
  obtain ⟨e9, s9, e10, s10, a1, a2, a3⟩ := hb
  exact ⟨e9, s9, e10, s10, h.li hI.wf a1 (sp_tl.o hI.S sp_ix9 h9), h.li hI.wf a2 (sp_tl.o hI.S sp_ix10 h10), a3⟩
set_option maxHeartbeats 1000000 in
set_option maxRecDepth 20000 in
theorem c_Taking_carryOut (l : Launch) (G : sp_G) (m : sp_M) {P : Nat → Prop} {A : Nat → Nat} (hG : sp_GS G) (hI : sp_I G P A m) {e ed9 s9 ed10 s10 : Nat} (he : m.ty e = 4) (h0 : m.fR 587 (A 7) = none → ∃ q, m.fI 585 (A 7) = nI q ∧ q ≤ 7 ∧ s9 + q + 1 ≤ 200) (hli9 : sp_li G m (A 9) ed9 s9) (hli10 : sp_li G m (A 10) ed10 s10) (hs10 : s10 ≤ s9) : sp_C l G M_Taking_carryOut 22 10700 [.ref (A 7), .ref e] m (sp_oI fun v m' => sp_I G P A m' ∧ sp_F m m' A sp_Tb ∧ sp_bn G m' A) := by
  refine sp_enter (lv0 := [(0, false, va_rf (some (A 7))), (1, false, va_rf (some e))]) "SafePaths$Taking" false rfl (by decide) (fun h => by cases h) (Nat.le_of_ble_eq_true rfl) rfl ?_
  intro w X
  have hS := hI.S
  have t5 := hS.k 5 11 (by decide)
  have t7 := hS.k 7 10 (by decide)
  have hs200 := (hI.lo sp_ix9 hli9).2.1
  have hs201 : s9 ≤ 200 := hs200
  have cut19 : ∀ (mm : sp_M) (f9 : Nat), sp_I G P A mm → sp_F m mm A sp_Tb → mm.ty f9 = 6 → sp_bn G mm A → w 2 1040 mm 19 [(0, false, va_rf (some (A 7))), (1, false, va_rf (some e))] [va_rf (some f9)] := by
    intro mm f9 I9 F9 hf9 B9
    have hS9 := I9.S
    have u7 := hS9.k 7 10 (by decide)
    have u16 := hS9.k 16 1 (by decide)
    have he9 := F9.ty hI.wf he (by decide)
    obtain ⟨e9, s9', e10, s10', n1, n2, n3⟩ := B9
    obtain ⟨-, e16, s16, li16, hc16, hs16, -⟩ := hS9.2.2.1 16 sp_ix16
    have hz9 := I9.wf.z
    have hwf9 := I9.wf
    refine sp_astore_n X (pc := 19) (lv' := [(2, false, va_rf (some f9)), (0, false, va_rf (some (A 7))), (1, false, va_rf (some e))]) dX8_carryOut_19 rfl (by decide) rfl ?_
    refine sp_aload_n X (pc := 20) (r := some e) dX8_carryOut_20 rfl rfl ?_
    refine sp_getfield X (pc := 21) (c := 3) (i := 0) (t := 0) (a := e) (v := .int (mm.fI 192 e)) rfl he9 (by decide) rfl rfl fl_Taking_173 dX8_carryOut_21 ?_
    refine sp_if_ne X (pc := 24) (tgt := 69) dX8_carryOut_24 (by decide) (fun hb24 => ?_) (fun hb24 => ?_)
    · refine sp_aload_n X (pc := 69) (r := some f9) dX8_carryOut_69 rfl rfl ?_
      refine sp_getfield X (pc := 70) (c := 5) (i := 0) (t := 0) (a := f9) (v := .int (mm.fI 320 f9)) rfl (by first | exact hb65 | exact hf9) (by decide) rfl rfl fl_Taking_221 dX8_carryOut_70 ?_
      refine sp_ireturn X (pc := 73) dX8_carryOut_73 rfl ⟨_, rfl, ?_⟩
      first | exact ⟨I2, F2, e9, s9', e10, s10', b9, b10, n3⟩ | exact ⟨I9, F9, e9, s9', e10, s10', n1, n2, n3⟩
    · refine sp_aload_n X (pc := 27) (r := some (A 7)) dX8_carryOut_27 rfl rfl ?_
      refine sp_getfield X (pc := 28) (c := 9) (i := 3) (t := 2) (a := (A 7)) (v := va_rf (some (A 16))) rfl (by first | assumption | omega) (by decide) rfl (congrArg va_rf (hS9.p 579 7 16 (by decide))) fl_Taking_26 dX8_carryOut_28 ?_
      refine sp_callV X (pc := 31) (mc := 0) (ms := 0) (b := (A 16)) (c := 0) (r := (some (A 16))) (As := []) (rest := []) (c_List_size l G _ u16) ok_List_size rfl u16 (by decide) rfl lk_Taking_74 rfl rfl (Nat.zero_le _) (Nat.le_of_ble_eq_true rfl) (Nat.le_of_ble_eq_true rfl) (Nat.zero_le _) (Nat.zero_le _) dX8_carryOut_31 (sp_kI fun v31 m31 hp31 => ?_)
      obtain ⟨hp31v, hp31⟩ := hp31; replace hp31 := (hp31).symm; subst hp31; replace hp31v := (hp31v).symm; subst hp31v
      rw [li16.2.2.1]
      refine sp_sipush X (pc := 34) (v := 512) dX8_carryOut_34 (by decide) ?_
      refine sp_icmp_ge X (pc := 37) (tgt := 69) dX8_carryOut_37 (by decide) (fun hb37 => ?_) (fun hb37 => ?_)
      · refine sp_aload_n X (pc := 69) (r := some f9) dX8_carryOut_69 rfl rfl ?_
        refine sp_getfield X (pc := 70) (c := 5) (i := 0) (t := 0) (a := f9) (v := .int (mm.fI 320 f9)) rfl (by first | exact hb65 | exact hf9) (by decide) rfl rfl fl_Taking_221 dX8_carryOut_70 ?_
        refine sp_ireturn X (pc := 73) dX8_carryOut_73 rfl ⟨_, rfl, ?_⟩
        first | exact ⟨I2, F2, e9, s9', e10, s10', b9, b10, n3⟩ | exact ⟨I9, F9, e9, s9', e10, s10', n1, n2, n3⟩
      · have hi : s16 < 512 := sp_nlt (a := s16) (b := 512) hb37 (by have := li16.2.2.2.1; have := li16.2.2.2.2.1; omega)
        have o16 : A 16 ≠ mm.nx := by have := hwf9 (A 16) (by omega); omega
        have oe : e ≠ mm.nx := by have := hwf9 e (by omega); omega
        have ob : f9 ≠ mm.nx := by have := hwf9 f9 (by omega); omega
        have oo : (mm.newO 6).ty mm.nx = 7 := by rw [sp_newO_ty, if_pos rfl]
        refine sp_aload_n X (pc := 40) (r := some (A 7)) dX8_carryOut_40 rfl rfl ?_
        refine sp_getfield X (pc := 41) (c := 9) (i := 3) (t := 2) (a := (A 7)) (v := va_rf (some (A 16))) rfl (by first | assumption | omega) (by decide) rfl (congrArg va_rf (hS9.p 579 7 16 (by decide))) fl_Taking_26 dX8_carryOut_41 ?_
        refine sp_new X (pc := 44) (c := 6) (N := 2) (by decide) rfl cl_Taking_82 in_6 it_6 (by decide) (by decide) dX8_carryOut_44 ?_
        refine sp_dup X (pc := 47) dX8_carryOut_47 (sp_cat_rf _) ?_
        refine sp_aload_n X (pc := 48) (r := some f9) dX8_carryOut_48 rfl rfl ?_
        refine sp_aload_n X (pc := 49) (r := some e) dX8_carryOut_49 rfl rfl ?_
        refine sp_getfield X (pc := 50) (c := 3) (i := 3) (t := 0) (a := e) (v := .int (mm.fI 195 e)) rfl (by rw [sp_newO_ty, if_neg oe]; exact he9) (by decide) rfl (by simp [sp_fv, sp_pI_nx, sp_pI_ty, sp_pI_ln, sp_pI_fI, sp_pI_fL, sp_pI_fR, sp_pI_aI, sp_pI_aL, sp_pI_aR, sp_pL_nx, sp_pL_ty, sp_pL_ln, sp_pL_fI, sp_pL_fL, sp_pL_fR, sp_pL_aI, sp_pL_aL, sp_pL_aR, sp_pR_nx, sp_pR_ty, sp_pR_ln, sp_pR_fI, sp_pR_fL, sp_pR_fR, sp_pR_aI, sp_pR_aL, sp_pR_aR, sp_sI_nx, sp_sI_ty, sp_sI_ln, sp_sI_fI, sp_sI_fL, sp_sI_fR, sp_sI_aI, sp_sI_aL, sp_sI_aR, sp_sL_nx, sp_sL_ty, sp_sL_ln, sp_sL_fI, sp_sL_fL, sp_sL_fR, sp_sL_aI, sp_sL_aL, sp_sL_aR, sp_sR_nx, sp_sR_ty, sp_sR_ln, sp_sR_fI, sp_sR_fL, sp_sR_fR, sp_sR_aI, sp_sR_aL, sp_sR_aR, sp_newO_nx, sp_newA_nx, sp_newO_ty, sp_newA_ty, sp_newO_ln, sp_newA_ln, sp_newO_fI, sp_newA_fI, sp_newO_fL, sp_newA_fL, sp_newO_fR, sp_newA_fR, sp_newO_aI, sp_newA_aI, sp_newO_aL, sp_newA_aL, sp_newO_aR, sp_newA_aR, oe]) fl_Taking_211 dX8_carryOut_50 ?_
        refine sp_iconst X (pc := 53) (v := 1) dX8_carryOut_53 (by decide) ?_
        refine sp_icmp_ne X (pc := 54) (tgt := 61) dX8_carryOut_54 (by decide) (fun hb54 => ?_) (fun hb54 => ?_)
        · refine sp_iconst X (pc := 61) (v := 0) dX8_carryOut_61 (by decide) ?_
          refine sp_callI X (pc := 62) (mc := 0) (ms := 0) (b := mm.nx) (r := some mm.nx) (As := [va_rf (some f9), .int 0]) (rest := [va_rf (some mm.nx), va_rf (some (A 16))]) (c_Note_init l G _ (o := mm.nx) oo (by first | exact Or.inl rfl | exact Or.inr rfl)) ok_Note_init rfl rfl lk_Taking_214 rfl rfl (by simp [sp_cat_rf, sp_cat_i, sp_cat_l]) (Nat.le_of_ble_eq_true rfl) (Nat.le_of_ble_eq_true rfl) (Nat.zero_le _) (Nat.zero_le _) dX8_carryOut_62 (sp_kV fun m62 hp62 => ?_)
          obtain ⟨sh, hsh, hm1⟩ : ∃ sh, sp_b01 sh ∧ m62 = sp_mkO (mm.newO 6) mm.nx (some f9) sh := by first | exact ⟨_, Or.inl rfl, hp62⟩ | exact ⟨_, Or.inr rfl, hp62⟩
          clear hp62
          have ht1 : m62.ty mm.nx = 7 := by rw [hm1]; exact oo
          have hJ1 : sp_J G P sp_E0 m62 := by
            have h9 : sp_J G P (sp_E1 sp_E0 mm.nx) m62 := by rw [hm1]; exact ((I9.J.newO0 hwf9 6).pR (Or.inr (Or.inr rfl))).pI (by decide)
            refine h9.drop (fun h => by omega) (fun h => by omega) (fun h => by omega) (fun h => by omega) (fun h => by omega) (fun _ => ⟨f9, ?_, ?_⟩)
            · rw [hm1]
              show ((mm.newO 6).pR 384 mm.nx (some f9)).fR 384 mm.nx = _
              rw [sp_pR_fR, if_pos ⟨rfl, rfl⟩]
            · rw [hm1]
              show (mm.newO 6).ty f9 = _
              rw [sp_newO_ty, if_neg ob]
              exact hf9
          have hfx1 : sp_fx mm m62 sp_w0 := by rw [hm1]; exact (((sp_fx.refl mm sp_w0).newO 6).pR (Or.inr (Nat.le_refl _))).pI (Or.inr (Nat.le_refl _))
          have hI1 : sp_I G P A m62 := ⟨hJ1, by rw [hm1]; exact hwf9.newO 6, hS9.fx hwf9 hfx1 (fun _ _ z => z.elim) (fun _ _ z => z.elim) (fun _ z => z.elim), fun a ha => Nat.lt_of_lt_of_le (I9.2.2.2 a ha) hfx1.1⟩
          have h385 : m62.fI 385 mm.nx = sh := by
            rw [hm1]
            show (((mm.newO 6).pR 384 mm.nx (some f9)).pI 385 mm.nx sh).fI 385 mm.nx = _
            rw [sp_pI_fI, if_pos ⟨rfl, rfl⟩]
          clear hm1
          have F1 : sp_F m m62 A sp_Tb := F9.w0 hfx1
          have l16 : sp_li G m62 (A 16) e16 s16 := hfx1.li hwf9 li16 (fun z => z) (fun z => z)
          have hlo16 := hI1.lo sp_ix16 l16
          have hlo17 : m62.ln e16 ≤ 1034 := hlo16.1
          have hcl := sp_cap_le (m62.ln e16)
          have hb62 := hfx1.ty hwf9 hf9 (by decide)
          have k9 : sp_li G m62 (A 9) e9 s9' := hfx1.li hwf9 n1 (fun z => z) (fun z => z)
          have k10 : sp_li G m62 (A 10) e10 s10' := hfx1.li hwf9 n2 (fun z => z) (fun z => z)
          refine sp_callV X (pc := 65) (mc := (if s16 < m62.ln e16 then 0 else 1)) (ms := (if s16 < m62.ln e16 then 0 else sp_cap (m62.ln e16))) (b := (A 16)) (c := 0) (r := (some (A 16))) (As := [va_rf (some mm.nx)]) (rest := []) (c_List_add1 l G _ (o := A 16) (ed := e16) (s := s16) (b := mm.nx) hG l16 hI1.wf (by omega) (hI1.J.elob l16 (sp_e0 _)) ⟨6, ht1, by decide, ca_6⟩) ok_List_add1 rfl l16.1 (by decide) rfl lk_Taking_217 rfl rfl (Nat.zero_le _) (Nat.le_of_ble_eq_true rfl) (Nat.le_of_ble_eq_true rfl) (by split <;> omega) (by split <;> omega) dX8_carryOut_65 (sp_kI fun v65 m65 hp65 => ?_)
          obtain ⟨hv65, had⟩ := hp65
          have I2 := hI1.add sp_ix16 l16 had (by show s16 < 512; exact hi) ⟨ht1, fun z => absurd z (by decide)⟩ (fun _ => by rw [h385]; exact hsh)
          have F2 : sp_F m m65 A sp_Tb := F1.ad hI1.J l16 had sp_ix16 (by unfold sp_Tb; decide)
          have F3 : sp_F m62 m65 A sp_T16 := (sp_F.refl m62 A sp_T16).ad hI1.J l16 had sp_ix16 (Or.inl rfl)
          have hb65 := F3.ty hI1.wf hb62 (by decide)
          have b9 := F3.li hI1.wf k9 (sp_tl.o hI1.S sp_ix9 (by unfold sp_T16; decide))
          have b10 := F3.li hI1.wf k10 (sp_tl.o hI1.S sp_ix10 (by unfold sp_T16; decide))
          refine sp_pop X (pc := 68) dX8_carryOut_68 rfl ?_
          refine sp_aload_n X (pc := 69) (r := some f9) dX8_carryOut_69 rfl rfl ?_
          refine sp_getfield X (pc := 70) (c := 5) (i := 0) (t := 0) (a := f9) (v := .int (m65.fI 320 f9)) rfl (by first | exact hb65 | exact hf9) (by decide) rfl rfl fl_Taking_221 dX8_carryOut_70 ?_
          refine sp_ireturn X (pc := 73) dX8_carryOut_73 rfl ⟨_, rfl, ?_⟩
          first | exact ⟨I2, F2, e9, s9', e10, s10', b9, b10, n3⟩ | exact ⟨I9, F9, e9, s9', e10, s10', n1, n2, n3⟩
        · refine sp_iconst X (pc := 57) (v := 1) dX8_carryOut_57 (by decide) ?_
          refine sp_goto X (pc := 58) (tgt := 62) dX8_carryOut_58 (by decide) ?_
          refine sp_callI X (pc := 62) (mc := 0) (ms := 0) (b := mm.nx) (r := some mm.nx) (As := [va_rf (some f9), .int 1]) (rest := [va_rf (some mm.nx), va_rf (some (A 16))]) (c_Note_init l G _ (o := mm.nx) oo (by first | exact Or.inl rfl | exact Or.inr rfl)) ok_Note_init rfl rfl lk_Taking_214 rfl rfl (by simp [sp_cat_rf, sp_cat_i, sp_cat_l]) (Nat.le_of_ble_eq_true rfl) (Nat.le_of_ble_eq_true rfl) (Nat.zero_le _) (Nat.zero_le _) dX8_carryOut_62 (sp_kV fun m62 hp62 => ?_)
          obtain ⟨sh, hsh, hm1⟩ : ∃ sh, sp_b01 sh ∧ m62 = sp_mkO (mm.newO 6) mm.nx (some f9) sh := by first | exact ⟨_, Or.inl rfl, hp62⟩ | exact ⟨_, Or.inr rfl, hp62⟩
          clear hp62
          have ht1 : m62.ty mm.nx = 7 := by rw [hm1]; exact oo
          have hJ1 : sp_J G P sp_E0 m62 := by
            have h9 : sp_J G P (sp_E1 sp_E0 mm.nx) m62 := by rw [hm1]; exact ((I9.J.newO0 hwf9 6).pR (Or.inr (Or.inr rfl))).pI (by decide)
            refine h9.drop (fun h => by omega) (fun h => by omega) (fun h => by omega) (fun h => by omega) (fun h => by omega) (fun _ => ⟨f9, ?_, ?_⟩)
            · rw [hm1]
              show ((mm.newO 6).pR 384 mm.nx (some f9)).fR 384 mm.nx = _
              rw [sp_pR_fR, if_pos ⟨rfl, rfl⟩]
            · rw [hm1]
              show (mm.newO 6).ty f9 = _
              rw [sp_newO_ty, if_neg ob]
              exact hf9
          have hfx1 : sp_fx mm m62 sp_w0 := by rw [hm1]; exact (((sp_fx.refl mm sp_w0).newO 6).pR (Or.inr (Nat.le_refl _))).pI (Or.inr (Nat.le_refl _))
          have hI1 : sp_I G P A m62 := ⟨hJ1, by rw [hm1]; exact hwf9.newO 6, hS9.fx hwf9 hfx1 (fun _ _ z => z.elim) (fun _ _ z => z.elim) (fun _ z => z.elim), fun a ha => Nat.lt_of_lt_of_le (I9.2.2.2 a ha) hfx1.1⟩
          have h385 : m62.fI 385 mm.nx = sh := by
            rw [hm1]
            show (((mm.newO 6).pR 384 mm.nx (some f9)).pI 385 mm.nx sh).fI 385 mm.nx = _
            rw [sp_pI_fI, if_pos ⟨rfl, rfl⟩]
          clear hm1
          have F1 : sp_F m m62 A sp_Tb := F9.w0 hfx1
          have l16 : sp_li G m62 (A 16) e16 s16 := hfx1.li hwf9 li16 (fun z => z) (fun z => z)
          have hlo16 := hI1.lo sp_ix16 l16
          have hlo17 : m62.ln e16 ≤ 1034 := hlo16.1
          have hcl := sp_cap_le (m62.ln e16)
          have hb62 := hfx1.ty hwf9 hf9 (by decide)
          have k9 : sp_li G m62 (A 9) e9 s9' := hfx1.li hwf9 n1 (fun z => z) (fun z => z)
          have k10 : sp_li G m62 (A 10) e10 s10' := hfx1.li hwf9 n2 (fun z => z) (fun z => z)
          refine sp_callV X (pc := 65) (mc := (if s16 < m62.ln e16 then 0 else 1)) (ms := (if s16 < m62.ln e16 then 0 else sp_cap (m62.ln e16))) (b := (A 16)) (c := 0) (r := (some (A 16))) (As := [va_rf (some mm.nx)]) (rest := []) (c_List_add1 l G _ (o := A 16) (ed := e16) (s := s16) (b := mm.nx) hG l16 hI1.wf (by omega) (hI1.J.elob l16 (sp_e0 _)) ⟨6, ht1, by decide, ca_6⟩) ok_List_add1 rfl l16.1 (by decide) rfl lk_Taking_217 rfl rfl (Nat.zero_le _) (Nat.le_of_ble_eq_true rfl) (Nat.le_of_ble_eq_true rfl) (by split <;> omega) (by split <;> omega) dX8_carryOut_65 (sp_kI fun v65 m65 hp65 => ?_)
          obtain ⟨hv65, had⟩ := hp65
          have I2 := hI1.add sp_ix16 l16 had (by show s16 < 512; exact hi) ⟨ht1, fun z => absurd z (by decide)⟩ (fun _ => by rw [h385]; exact hsh)
          have F2 : sp_F m m65 A sp_Tb := F1.ad hI1.J l16 had sp_ix16 (by unfold sp_Tb; decide)
          have F3 : sp_F m62 m65 A sp_T16 := (sp_F.refl m62 A sp_T16).ad hI1.J l16 had sp_ix16 (Or.inl rfl)
          have hb65 := F3.ty hI1.wf hb62 (by decide)
          have b9 := F3.li hI1.wf k9 (sp_tl.o hI1.S sp_ix9 (by unfold sp_T16; decide))
          have b10 := F3.li hI1.wf k10 (sp_tl.o hI1.S sp_ix10 (by unfold sp_T16; decide))
          refine sp_pop X (pc := 68) dX8_carryOut_68 rfl ?_
          refine sp_aload_n X (pc := 69) (r := some f9) dX8_carryOut_69 rfl rfl ?_
          refine sp_getfield X (pc := 70) (c := 5) (i := 0) (t := 0) (a := f9) (v := .int (m65.fI 320 f9)) rfl (by first | exact hb65 | exact hf9) (by decide) rfl rfl fl_Taking_221 dX8_carryOut_70 ?_
          refine sp_ireturn X (pc := 73) dX8_carryOut_73 rfl ⟨_, rfl, ?_⟩
          first | exact ⟨I2, F2, e9, s9', e10, s10', b9, b10, n3⟩ | exact ⟨I9, F9, e9, s9', e10, s10', n1, n2, n3⟩
  refine sp_aload_n X (pc := 0) (r := some (A 7)) dX8_carryOut_0 rfl rfl ?_
  refine sp_getfield X (pc := 1) (c := 9) (i := 11) (t := 2) (a := (A 7)) (v := va_rf (m.fR 587 (A 7))) rfl (by first | assumption | omega) (by decide) rfl rfl fl_Taking_63 dX8_carryOut_1 ?_
  refine sp_ifnonnull X (pc := 4) (tgt := 15) dX8_carryOut_4 (by decide) (fun ra4 hb4 => ?_) (fun hb4 => ?_)
  · have hat := hS.2.2.2.2.1.2.2.2.1 _ hb4
    refine sp_aload_n X (pc := 15) (r := some (A 7)) dX8_carryOut_15 rfl rfl ?_
    refine sp_getfield X (pc := 16) (c := 9) (i := 11) (t := 2) (a := (A 7)) (v := va_rf (some ra4)) rfl (by first | assumption | omega) (by decide) rfl (congrArg va_rf hb4) fl_Taking_63 dX8_carryOut_16 ?_
    refine sp_less X (k' := 2) (n' := 1040) (by decide) (by decide) ?_
    first
      | exact cut19 m9 b g1 g2 g4 ⟨ed', _, ed'', s'', g5, g6, by omega⟩
      | exact cut19 m ra4 hI (sp_F.refl m A sp_Tb) hat ⟨ed9, s9, ed10, s10, hli9, hli10, hs10⟩
  · refine sp_aload_n X (pc := 7) (r := some (A 7)) dX8_carryOut_7 rfl rfl ?_
    refine sp_aload_n X (pc := 8) (r := some e) dX8_carryOut_8 rfl rfl ?_
    obtain ⟨q, hq1, hq2, hq3⟩ := h0 hb4
    refine sp_callV X (pc := 9) (mc := 20) (ms := 9600) (b := (A 7)) (c := 9) (r := some (A 7)) (As := [va_rf (some e)]) (rest := []) (c_Taking_bring l G _ hG hI he hq1 hq2 hli9 hq3 hli10 (by omega)) ok_Taking_bring rfl t7 (by decide) rfl lk_Taking_207 rfl rfl (Nat.zero_le _) (Nat.le_of_ble_eq_true rfl) (Nat.le_of_ble_eq_true rfl) (by omega) (by omega) dX8_carryOut_9 (sp_kR fun v9 m9 hp9 => ?_)
    obtain ⟨g1, g2, ⟨b, g3, g4⟩, ⟨ed', g5⟩, ed'', s'', g6, g7⟩ := hp9
    subst g3
    refine sp_goto X (pc := 12) (tgt := 19) dX8_carryOut_12 (by decide) ?_
    refine sp_less X (k' := 2) (n' := 1040) (by decide) (by decide) ?_
    first
      | exact cut19 m9 b g1 g2 g4 ⟨ed', _, ed'', s'', g5, g6, by omega⟩
      | exact cut19 m ra4 hI (sp_F.refl m A sp_Tb) hat ⟨ed9, s9, ed10, s10, hli9, hli10, hs10⟩
