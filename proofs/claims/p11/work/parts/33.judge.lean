
def sp_Tj (j : Nat) : Prop := j = 15 ∨ j = 706 ∨ j = 707 ∨ j = 708 ∨ j = 584 ∨ j = 585 ∨ j = 586 ∨ j = 587 ∨ j = 588 ∨ j = 589
theorem sp_15.j : ∀ j, sp_15 j → sp_Tj j := by unfold sp_15 sp_Tj; omega
theorem sp_ix9 : sp_ix 9 := by unfold sp_ix; omega
theorem sp_ix10 : sp_ix 10 := by unfold sp_ix; omega
theorem sp_I.lt {G : sp_G} {P : Nat → Prop} {A : Nat → Nat} {m : sp_M} (h : sp_I G P A m) (i c : Nat) (hi : (i, c) ∈ sp_knd) (hc : c ≠ 0) : A i < m.nx := h.wf _ (by rw [h.S.k i c hi]; exact hc)
set_option maxRecDepth 20000 in
theorem c_Taking_forgetLastJudgement (l : Launch) (G : sp_G) (m : sp_M) {P : Nat → Prop} {A : Nat → Nat} (hG : sp_GS G) (hI : sp_I G P A m) : sp_C l G M_Taking_forgetLastJudgement 0 0 [.ref (A 7)] m (sp_oV fun m' => sp_I G P A m' ∧ sp_F m m' A sp_Tj ∧ m'.fI 585 (A 7) = nI 0) := by
  refine sp_enter (lv0 := [(0, false, va_rf (some (A 7)))]) "SafePaths$Taking" false rfl (by decide) (fun h => by cases h) (Nat.le_of_ble_eq_true rfl) rfl ?_
  intro w X
  have hS := hI.S
  have t5 := hS.k 5 11 (by decide)
  have t7 := hS.k 7 10 (by decide)
  have t12 := hS.k 12 6 (by decide)
  refine sp_aload_n X (pc := 0) (r := some (A 7)) dX8_forgetLastJudgement_0 rfl rfl ?_
  refine sp_aload_n X (pc := 1) (r := some (A 7)) dX8_forgetLastJudgement_1 rfl rfl ?_
  refine sp_getfield X (pc := 2) (c := 9) (i := 1) (t := 2) (a := (A 7)) (v := va_rf (some (A 5))) rfl (by first | assumption | omega) (by decide) rfl (congrArg va_rf (hS.p 577 7 5 (by decide))) fl_Taking_15 dX8_forgetLastJudgement_2 ?_
  refine sp_getfield X (pc := 5) (c := 10) (i := 4) (t := 2) (a := (A 5)) (v := va_rf (some (A 12))) rfl (by first | assumption | omega) (by decide) rfl (congrArg va_rf (hS.p 644 5 12 (by decide))) fl_Taking_48 dX8_forgetLastJudgement_5 ?_
  refine sp_putR X (pc := 8) (c := 9) (i := 8) (q := 584) (a := (A 7)) rfl (by first | assumption | omega) (by decide) rfl rfl (Or.inl rfl)  fl_Taking_54 dX8_forgetLastJudgement_8 ?_
  refine sp_aload_n X (pc := 11) (r := some (A 7)) dX8_forgetLastJudgement_11 rfl rfl ?_
  refine sp_iconst X (pc := 12) (v := 0) dX8_forgetLastJudgement_12 (by decide) ?_
  refine sp_putI X (pc := 13) (c := 9) (i := 9) (q := 585) (a := (A 7)) rfl (by first | assumption | omega) (by decide) rfl rfl (Or.inl rfl) ⟨rfl, rfl⟩ fl_Taking_57 dX8_forgetLastJudgement_13 ?_
  refine sp_aload_n X (pc := 16) (r := some (A 7)) dX8_forgetLastJudgement_16 rfl rfl ?_
  refine sp_null X (pc := 17) dX8_forgetLastJudgement_17 ?_
  refine sp_putR X (pc := 18) (c := 9) (i := 10) (q := 586) (a := (A 7)) rfl (by first | assumption | omega) (by decide) rfl rfl (Or.inl rfl)  fl_Taking_60 dX8_forgetLastJudgement_18 ?_
  refine sp_aload_n X (pc := 21) (r := some (A 7)) dX8_forgetLastJudgement_21 rfl rfl ?_
  refine sp_null X (pc := 22) dX8_forgetLastJudgement_22 ?_
  refine sp_putR X (pc := 23) (c := 9) (i := 11) (q := 587) (a := (A 7)) rfl (by first | assumption | omega) (by decide) rfl rfl (Or.inl rfl)  fl_Taking_63 dX8_forgetLastJudgement_23 ?_
  refine sp_aload_n X (pc := 26) (r := some (A 7)) dX8_forgetLastJudgement_26 rfl rfl ?_
  refine sp_null X (pc := 27) dX8_forgetLastJudgement_27 ?_
  refine sp_putR X (pc := 28) (c := 9) (i := 12) (q := 588) (a := (A 7)) rfl (by first | assumption | omega) (by decide) rfl rfl (Or.inl rfl)  fl_Taking_66 dX8_forgetLastJudgement_28 ?_
  refine sp_aload_n X (pc := 31) (r := some (A 7)) dX8_forgetLastJudgement_31 rfl rfl ?_
  refine sp_iconst X (pc := 32) (v := 0) dX8_forgetLastJudgement_32 (by decide) ?_
  refine sp_putI X (pc := 33) (c := 9) (i := 13) (q := 589) (a := (A 7)) rfl (by first | assumption | omega) (by decide) rfl rfl (Or.inl rfl) ⟨rfl, rfl⟩ fl_Taking_70 dX8_forgetLastJudgement_33 ?_
  refine sp_return X (pc := 36) dX8_forgetLastJudgement_36 ⟨rfl, ?_⟩
  have q1 : sp_I G P A (m.pR 584 (A 7) (some (A 12))) := hI.pR (Or.inr (Or.inl rfl)) (fun x hx => by cases hx; rw [if_neg (by decide)]; exact t12) (fun _ => by simp)
  have q2 := ((q1.pI (k := 585) (a := A 7) (v := 0) (by decide)).pR (k := 586) (a := A 7) (v := none) (by decide) (fun x hx => by cases hx) (fun z => by omega))
  have q3 := ((q2.pR (k := 587) (a := A 7) (v := none) (by decide) (fun x hx => by cases hx) (fun z => by omega)).pR (k := 588) (a := A 7) (v := none) (by decide) (fun x hx => by cases hx) (fun z => by omega))
  refine ⟨q3.dead (Or.inl rfl), ((((((sp_F.refl m A sp_Tj).pR (by unfold sp_Tj; decide) (by decide)).pI (by unfold sp_Tj; decide) (by decide)).pR (by unfold sp_Tj; decide) (by decide)).pR (by unfold sp_Tj; decide) (by decide)).pR (by unfold sp_Tj; decide) (by decide)).pI (by unfold sp_Tj; decide) (by decide), ?_⟩
  rw [sp_pI_fI, if_neg (by omega)]
  show ((m.pR 584 (A 7) (some (A 12))).pI 585 (A 7) 0).fI 585 (A 7) = _
  rw [sp_pI_fI, if_pos ⟨rfl, rfl⟩]
  rfl
set_option maxRecDepth 20000 in
theorem c_Taking_nextBy (l : Launch) (G : sp_G) (m : sp_M) {P : Nat → Prop} {A : Nat → Nat} (hG : sp_GS G) (hI : sp_I G P A m) {nm : Nat} (hnm : m.ty nm = 5) : sp_C l G M_Taking_nextBy 0 0 [.ref (A 7), .ref nm] m (sp_oR fun v m' => (∀ b, v = some b → m.ty b = 6) ∧ m' = m) := by
  refine sp_enter (lv0 := [(0, false, va_rf (some (A 7))), (1, false, va_rf (some nm))]) "SafePaths$Taking" false rfl (by decide) (fun h => by cases h) (Nat.le_of_ble_eq_true rfl) rfl ?_
  intro w X
  have hS := hI.S
  have t5 := hS.k 5 11 (by decide)
  have t7 := hS.k 7 10 (by decide)
  obtain ⟨fo, hfo, hfot⟩ := hS.2.2.2.2.1.2.1
  refine sp_aload_n X (pc := 0) (r := some (A 7)) dX8_nextBy_0 rfl rfl ?_
  refine sp_getfield X (pc := 1) (c := 9) (i := 9) (t := 0) (a := (A 7)) (v := .int (m.fI 585 (A 7))) rfl (by first | assumption | omega) (by decide) rfl rfl fl_Taking_57 dX8_nextBy_1 ?_
  refine sp_if_le X (pc := 4) (tgt := 11) dX8_nextBy_4 (by decide) (fun hb4 => ?_) (fun hb4 => ?_)
  · refine sp_aload_n X (pc := 11) (r := some (A 7)) dX8_nextBy_11 rfl rfl ?_
    refine sp_getfield X (pc := 12) (c := 9) (i := 1) (t := 2) (a := (A 7)) (v := va_rf (some (A 5))) rfl (by first | assumption | omega) (by decide) rfl (congrArg va_rf (hS.p 577 7 5 (by decide))) fl_Taking_15 dX8_nextBy_12 ?_
    refine sp_aload_n X (pc := 15) (r := some (A 7)) dX8_nextBy_15 rfl rfl ?_
    refine sp_getfield X (pc := 16) (c := 9) (i := 8) (t := 2) (a := (A 7)) (v := va_rf (some fo)) rfl (by first | assumption | omega) (by decide) rfl (congrArg va_rf hfo) fl_Taking_54 dX8_nextBy_16 ?_
    refine sp_aload_n X (pc := 19) (r := some nm) dX8_nextBy_19 rfl rfl ?_
    refine sp_callV X (pc := 20) (mc := 0) (ms := 0) (b := (A 5)) (c := 10) (r := (some (A 5))) (As := [va_rf (some fo), va_rf (some nm)]) (rest := []) (c_Tree_childOf l G _ hI.J hI.tr hfot hnm) ok_Tree_childOf rfl t5 (by decide) rfl lk_Taking_147 rfl rfl (Nat.zero_le _) (Nat.le_of_ble_eq_true rfl) (Nat.le_of_ble_eq_true rfl) (Nat.zero_le _) (Nat.zero_le _) dX8_nextBy_20 (sp_kR fun v20 m20 hp20 => ?_)
    obtain ⟨hp20, hp20m⟩ := hp20; replace hp20m := (hp20m).symm; subst hp20m
    refine sp_areturn X (pc := 23) (by first | exact Or.inl ⟨_, rfl⟩ | exact Or.inr ⟨_, rfl⟩) dX8_nextBy_23 ⟨_, rfl, ?_⟩
    first | exact ⟨fun b h => (hp20 b h).1, rfl⟩ | exact ⟨fun b h => (by cases h), rfl⟩
  · refine sp_null X (pc := 7) dX8_nextBy_7 ?_
    refine sp_goto X (pc := 8) (tgt := 23) dX8_nextBy_8 (by decide) ?_
    refine sp_areturn X (pc := 23) (by first | exact Or.inl ⟨_, rfl⟩ | exact Or.inr ⟨_, rfl⟩) dX8_nextBy_23 ⟨_, rfl, ?_⟩
    first | exact ⟨fun b h => (hp20 b h).1, rfl⟩ | exact ⟨fun b h => (by cases h), rfl⟩
set_option maxRecDepth 20000 in
theorem c_Taking_isShut (l : Launch) (G : sp_G) (m : sp_M) {P : Nat → Prop} {A : Nat → Nat} (hG : sp_GS G) (hI : sp_I G P A m) : sp_C l G M_Taking_isShut 0 0 [.ref (A 7)] m (sp_oI fun v m' => sp_b01 v ∧ m' = m) := by
  refine sp_enter (lv0 := [(0, false, va_rf (some (A 7)))]) "SafePaths$Taking" false rfl (by decide) (fun h => by cases h) (Nat.le_of_ble_eq_true rfl) rfl ?_
  intro w X
  have hS := hI.S
  have t7 := hS.k 7 10 (by decide)
  obtain ⟨fo, hfo, hfot⟩ := hS.2.2.2.2.1.2.1
  refine sp_aload_n X (pc := 0) (r := some (A 7)) dX8_isShut_0 rfl rfl ?_
  refine sp_getfield X (pc := 1) (c := 9) (i := 9) (t := 0) (a := (A 7)) (v := .int (m.fI 585 (A 7))) rfl (by first | assumption | omega) (by decide) rfl rfl fl_Taking_57 dX8_isShut_1 ?_
  refine sp_if_ne X (pc := 4) (tgt := 21) dX8_isShut_4 (by decide) (fun hb4 => ?_) (fun hb4 => ?_)
  · refine sp_iconst X (pc := 21) (v := 0) dX8_isShut_21 (by decide) ?_
    refine sp_ireturn X (pc := 22) dX8_isShut_22 rfl ⟨_, rfl, ?_⟩
    first | exact ⟨Or.inl rfl, rfl⟩ | exact ⟨Or.inr rfl, rfl⟩
  · refine sp_aload_n X (pc := 7) (r := some (A 7)) dX8_isShut_7 rfl rfl ?_
    refine sp_getfield X (pc := 8) (c := 9) (i := 8) (t := 2) (a := (A 7)) (v := va_rf (some fo)) rfl (by first | assumption | omega) (by decide) rfl (congrArg va_rf hfo) fl_Taking_54 dX8_isShut_8 ?_
    refine sp_getfield X (pc := 11) (c := 5) (i := 6) (t := 0) (a := fo) (v := .int (m.fI 326 fo)) rfl hfot (by decide) rfl rfl fl_Taking_88 dX8_isShut_11 ?_
    refine sp_if_eq X (pc := 14) (tgt := 21) dX8_isShut_14 (by decide) (fun hb14 => ?_) (fun hb14 => ?_)
    · refine sp_iconst X (pc := 21) (v := 0) dX8_isShut_21 (by decide) ?_
      refine sp_ireturn X (pc := 22) dX8_isShut_22 rfl ⟨_, rfl, ?_⟩
      first | exact ⟨Or.inl rfl, rfl⟩ | exact ⟨Or.inr rfl, rfl⟩
    · refine sp_iconst X (pc := 17) (v := 1) dX8_isShut_17 (by decide) ?_
      refine sp_goto X (pc := 18) (tgt := 22) dX8_isShut_18 (by decide) ?_
      refine sp_ireturn X (pc := 22) dX8_isShut_22 rfl ⟨_, rfl, ?_⟩
      first | exact ⟨Or.inl rfl, rfl⟩ | exact ⟨Or.inr rfl, rfl⟩
set_option maxRecDepth 20000 in
theorem c_Taking_judgeLack (l : Launch) (G : sp_G) (m : sp_M) {P : Nat → Prop} {A : Nat → Nat} (hG : sp_GS G) (hI : sp_I G P A m) {q : Nat} (hq : m.fI 585 (A 7) = nI q) : sp_C l G M_Taking_judgeLack 0 0 [.ref (A 7)] m (sp_oI fun v m' => sp_I G P A m' ∧ sp_F m m' A sp_Tj ∧ ∃ q', m'.fI 585 (A 7) = nI q' ∧ q' ≤ q + 1) := by
  refine sp_enter (lv0 := [(0, false, va_rf (some (A 7)))]) "SafePaths$Taking" false rfl (by decide) (fun h => by cases h) (Nat.le_of_ble_eq_true rfl) rfl ?_
  intro w X
  have hS := hI.S
  have t0 := hS.k 0 9 (by decide)
  have t7 := hS.k 7 10 (by decide)
  refine sp_aload_n X (pc := 0) (r := some (A 7)) dX8_judgeLack_0 rfl rfl ?_
  refine sp_getfield X (pc := 1) (c := 9) (i := 0) (t := 2) (a := (A 7)) (v := va_rf (some (A 0))) rfl (by first | assumption | omega) (by decide) rfl (congrArg va_rf (hS.p 576 7 0 (by decide))) fl_Taking_9 dX8_judgeLack_1 ?_
  refine sp_getfield X (pc := 4) (c := 8) (i := 5) (t := 0) (a := (A 0)) (v := .int (m.fI 517 (A 0))) rfl (by first | assumption | omega) (by decide) rfl rfl fl_Taking_151 dX8_judgeLack_4 ?_
  refine sp_if_ne X (pc := 7) (tgt := 13) dX8_judgeLack_7 (by decide) (fun hb7 => ?_) (fun hb7 => ?_)
  · refine sp_aload_n X (pc := 13) (r := some (A 7)) dX8_judgeLack_13 rfl rfl ?_
    refine sp_callV X (pc := 14) (mc := 0) (ms := 0) (b := (A 7)) (c := 9) (r := some (A 7)) (As := []) (rest := []) (c_Taking_isShut l G _ hG hI) ok_Taking_isShut rfl t7 (by decide) rfl lk_Taking_156 rfl rfl (Nat.zero_le _) (Nat.le_of_ble_eq_true rfl) (Nat.le_of_ble_eq_true rfl) (Nat.zero_le _) (Nat.zero_le _) dX8_judgeLack_14 (sp_kI fun v14 m14 hp14 => ?_)
    obtain ⟨hp14, hp14m⟩ := hp14; replace hp14m := (hp14m).symm; subst hp14m
    refine sp_if_eq X (pc := 17) (tgt := 23) dX8_judgeLack_17 (by decide) (fun hb17 => ?_) (fun hb17 => ?_)
    · refine sp_aload_n X (pc := 23) (r := some (A 7)) dX8_judgeLack_23 rfl rfl ?_
      refine sp_dup X (pc := 24) dX8_judgeLack_24 (sp_cat_rf _) ?_
      refine sp_getfield X (pc := 25) (c := 9) (i := 9) (t := 0) (a := (A 7)) (v := .int (nI q)) rfl (by first | assumption | omega) (by decide) rfl (congrArg Value.int hq) fl_Taking_57 dX8_judgeLack_25 ?_
      refine sp_iconst X (pc := 28) (v := 1) dX8_judgeLack_28 (by decide) ?_
      refine sp_iadd X (pc := 29) dX8_judgeLack_29 ?_
      rw [show ((nI q) + 1) = nI (q + 1) from nI_1 q]
      refine sp_putI X (pc := 30) (c := 9) (i := 9) (q := 585) (a := (A 7)) rfl (by first | assumption | omega) (by decide) rfl rfl (Or.inl rfl) ⟨rfl, rfl⟩ fl_Taking_57 dX8_judgeLack_30 ?_
      refine sp_iconst X (pc := 33) (v := 0) dX8_judgeLack_33 (by decide) ?_
      refine sp_ireturn X (pc := 34) dX8_judgeLack_34 rfl ⟨_, rfl, ?_⟩
      exact ⟨hI.pI (by decide), (sp_F.refl m A sp_Tj).pI (by unfold sp_Tj; decide) (by decide), q + 1, by rw [sp_pI_fI, if_pos ⟨rfl, rfl⟩], Nat.le_refl _⟩
    · refine sp_bipush X (pc := 20) (v := (-16)) dX8_judgeLack_20 (by decide) ?_
      refine sp_ireturn X (pc := 22) dX8_judgeLack_22 rfl ⟨_, rfl, ?_⟩
      exact ⟨hI, sp_F.refl m A sp_Tj, q, hq, by omega⟩
  · refine sp_bipush X (pc := 10) (v := (-13)) dX8_judgeLack_10 (by decide) ?_
    refine sp_ireturn X (pc := 12) dX8_judgeLack_12 rfl ⟨_, rfl, ?_⟩
    exact ⟨hI, sp_F.refl m A sp_Tj, q, hq, by omega⟩
set_option maxRecDepth 20000 in
theorem c_Taking_isRefusedMeeting (l : Launch) (G : sp_G) (m : sp_M) {P : Nat → Prop} {A : Nat → Nat} (hG : sp_GS G) (hI : sp_I G P A m) {f nm : Nat} (hf : m.ty f = 6) (hnt : m.ty nm = 5) : sp_C l G M_Taking_isRefusedMeeting 0 0 [.ref (A 7), .ref f, .ref nm] m (sp_oI fun v m' => sp_b01 v ∧ m' = m) := by
  refine sp_enter (lv0 := [(0, false, va_rf (some (A 7))), (1, false, va_rf (some f)), (2, false, va_rf (some nm))]) "SafePaths$Taking" false rfl (by decide) (fun h => by cases h) (Nat.le_of_ble_eq_true rfl) rfl ?_
  intro w X
  have hS := hI.S
  have t0 := hS.k 0 9 (by decide)
  have t7 := hS.k 7 10 (by decide)
  obtain ⟨hd1, ⟨nb, hnb, hnbt⟩, hd3, hd4⟩ := hI.J.2.2.2.2.1 _ hf (sp_e0 _)
  obtain ⟨nbb, nbs, hnmb, -⟩ := hI.J.nm hnbt (sp_e0 _)
  obtain ⟨nm2b, nm2s, hnm2, -⟩ := hI.J.nm hnt (sp_e0 _)
  refine sp_aload_n X (pc := 0) (r := some (A 7)) dX8_isRefusedMeeting_0 rfl rfl ?_
  refine sp_getfield X (pc := 1) (c := 9) (i := 0) (t := 2) (a := (A 7)) (v := va_rf (some (A 0))) rfl (by first | assumption | omega) (by decide) rfl (congrArg va_rf (hS.p 576 7 0 (by decide))) fl_Taking_9 dX8_isRefusedMeeting_1 ?_
  refine sp_getfield X (pc := 4) (c := 8) (i := 4) (t := 0) (a := (A 0)) (v := .int (m.fI 516 (A 0))) rfl (by first | assumption | omega) (by decide) rfl rfl fl_Taking_160 dX8_isRefusedMeeting_4 ?_
  refine sp_if_ne X (pc := 7) (tgt := 25) dX8_isRefusedMeeting_7 (by decide) (fun hb7 => ?_) (fun hb7 => ?_)
  · refine sp_iconst X (pc := 25) (v := 0) dX8_isRefusedMeeting_25 (by decide) ?_
    refine sp_ireturn X (pc := 26) dX8_isRefusedMeeting_26 rfl ⟨_, rfl, ?_⟩
    first | exact ⟨Or.inl rfl, rfl⟩ | exact ⟨Or.inr rfl, rfl⟩
  · refine sp_aload_n X (pc := 10) (r := some f) dX8_isRefusedMeeting_10 rfl rfl ?_
    refine sp_getfield X (pc := 11) (c := 5) (i := 2) (t := 2) (a := f) (v := va_rf (some nb)) rfl (by first | assumption | omega) (by decide) rfl (congrArg va_rf hnb) fl_Taking_163 dX8_isRefusedMeeting_11 ?_
    refine sp_aload_n X (pc := 14) (r := some nm) dX8_isRefusedMeeting_14 rfl rfl ?_
    refine sp_callV X (pc := 15) (mc := 0) (ms := 0) (b := nb) (c := 4) (r := (some nb)) (As := [va_rf (some nm)]) (rest := []) (c_Name_isSameAs l G _ hnmb hnm2) ok_Name_isSameAs rfl hnbt (by decide) rfl lk_Taking_167 rfl rfl (Nat.zero_le _) (Nat.le_of_ble_eq_true rfl) (Nat.le_of_ble_eq_true rfl) (Nat.zero_le _) (Nat.zero_le _) dX8_isRefusedMeeting_15 (sp_kI fun v15 m15 hp15 => ?_)
    obtain ⟨hp15, hp15m⟩ := hp15; replace hp15m := (hp15m).symm; subst hp15m
    refine sp_if_ne X (pc := 18) (tgt := 25) dX8_isRefusedMeeting_18 (by decide) (fun hb18 => ?_) (fun hb18 => ?_)
    · refine sp_iconst X (pc := 25) (v := 0) dX8_isRefusedMeeting_25 (by decide) ?_
      refine sp_ireturn X (pc := 26) dX8_isRefusedMeeting_26 rfl ⟨_, rfl, ?_⟩
      first | exact ⟨Or.inl rfl, rfl⟩ | exact ⟨Or.inr rfl, rfl⟩
    · refine sp_iconst X (pc := 21) (v := 1) dX8_isRefusedMeeting_21 (by decide) ?_
      refine sp_goto X (pc := 22) (tgt := 26) dX8_isRefusedMeeting_22 (by decide) ?_
      refine sp_ireturn X (pc := 26) dX8_isRefusedMeeting_26 rfl ⟨_, rfl, ?_⟩
      first | exact ⟨Or.inl rfl, rfl⟩ | exact ⟨Or.inr rfl, rfl⟩
set_option maxRecDepth 20000 in
theorem c_Taking_judgeWayPart (l : Launch) (G : sp_G) (m : sp_M) {P : Nat → Prop} {A : Nat → Nat} (hG : sp_GS G) (hI : sp_I G P A m) {nm q : Nat} (hnm : m.ty nm = 5) (hq : m.fI 585 (A 7) = nI q) : sp_C l G M_Taking_judgeWayPart 0 0 [.ref (A 7), .ref nm] m (sp_oI fun v m' => sp_I G P A m' ∧ sp_F m m' A sp_Tj ∧ ∃ q', m'.fI 585 (A 7) = nI q' ∧ q' ≤ q + 1) := by
  refine sp_enter (lv0 := [(0, false, va_rf (some (A 7))), (1, false, va_rf (some nm))]) "SafePaths$Taking" false rfl (by decide) (fun h => by cases h) (Nat.le_of_ble_eq_true rfl) rfl ?_
  intro w X
  have hS := hI.S
  have t0 := hS.k 0 9 (by decide)
  have t7 := hS.k 7 10 (by decide)
  refine sp_aload_n X (pc := 0) (r := some (A 7)) dX8_judgeWayPart_0 rfl rfl ?_
  refine sp_aload_n X (pc := 1) (r := some nm) dX8_judgeWayPart_1 rfl rfl ?_
  refine sp_callV X (pc := 2) (mc := 0) (ms := 0) (b := (A 7)) (c := 9) (r := some (A 7)) (As := [va_rf (some nm)]) (rest := []) (c_Taking_nextBy l G _ hG hI hnm) ok_Taking_nextBy rfl t7 (by decide) rfl lk_Taking_130 rfl rfl (Nat.zero_le _) (Nat.le_of_ble_eq_true rfl) (Nat.le_of_ble_eq_true rfl) (Nat.zero_le _) (Nat.zero_le _) dX8_judgeWayPart_2 (sp_kR fun v2 m2 hp2 => ?_)
  obtain ⟨hp2, hp2m⟩ := hp2; replace hp2m := (hp2m).symm; subst hp2m
  refine sp_astore_n X (pc := 5) (lv' := [(2, false, va_rf v2), (0, false, va_rf (some (A 7))), (1, false, va_rf (some nm))]) dX8_judgeWayPart_5 rfl (by decide) rfl ?_
  refine sp_aload_n X (pc := 6) (r := v2) dX8_judgeWayPart_6 rfl rfl ?_
  refine sp_ifnonnull X (pc := 7) (tgt := 15) dX8_judgeWayPart_7 (by decide) (fun ra7 hb7 => ?_) (fun hb7 => ?_)
  · have hnt := hp2 _ hb7
    subst hb7
    refine sp_aload_n X (pc := 15) (r := some (A 7)) dX8_judgeWayPart_15 rfl rfl ?_
    refine sp_aload_n X (pc := 16) (r := (some ra7)) dX8_judgeWayPart_16 rfl rfl ?_
    refine sp_aload_n X (pc := 17) (r := some nm) dX8_judgeWayPart_17 rfl rfl ?_
    refine sp_callV X (pc := 18) (mc := 0) (ms := 0) (b := (A 7)) (c := 9) (r := some (A 7)) (As := [va_rf (some ra7), va_rf (some nm)]) (rest := []) (c_Taking_isRefusedMeeting l G _ hG hI hnt hnm) ok_Taking_isRefusedMeeting rfl t7 (by decide) rfl lk_Taking_137 rfl rfl (Nat.zero_le _) (Nat.le_of_ble_eq_true rfl) (Nat.le_of_ble_eq_true rfl) (Nat.zero_le _) (Nat.zero_le _) dX8_judgeWayPart_18 (sp_kI fun v18 m18 hp18 => ?_)
    obtain ⟨hp18, hp18m⟩ := hp18; replace hp18m := (hp18m).symm; subst hp18m
    refine sp_if_eq X (pc := 21) (tgt := 27) dX8_judgeWayPart_21 (by decide) (fun hb21 => ?_) (fun hb21 => ?_)
    · refine sp_aload_n X (pc := 27) (r := (some ra7)) dX8_judgeWayPart_27 rfl rfl ?_
      refine sp_getfield X (pc := 28) (c := 5) (i := 4) (t := 2) (a := ra7) (v := va_rf (m.fR 324 ra7)) rfl (by first | assumption | omega) (by decide) rfl rfl fl_Taking_141 dX8_judgeWayPart_28 ?_
      refine sp_ifnull X (pc := 31) (tgt := 37) dX8_judgeWayPart_31 (by decide) (fun hb31 => ?_) (fun ra31 hb31 => ?_)
      · refine sp_aload_n X (pc := 37) (r := (some ra7)) dX8_judgeWayPart_37 rfl rfl ?_
        refine sp_getfield X (pc := 38) (c := 5) (i := 3) (t := 2) (a := ra7) (v := va_rf (m.fR 323 ra7)) rfl (by first | assumption | omega) (by decide) rfl rfl fl_Taking_144 dX8_judgeWayPart_38 ?_
        refine sp_ifnull X (pc := 41) (tgt := 47) dX8_judgeWayPart_41 (by decide) (fun hb41 => ?_) (fun ra41 hb41 => ?_)
        · refine sp_aload_n X (pc := 47) (r := some (A 7)) dX8_judgeWayPart_47 rfl rfl ?_
          refine sp_aload_n X (pc := 48) (r := (some ra7)) dX8_judgeWayPart_48 rfl rfl ?_
          refine sp_putR X (pc := 49) (c := 9) (i := 8) (q := 584) (a := (A 7)) rfl (by first | assumption | omega) (by decide) rfl rfl (Or.inl rfl)  fl_Taking_54 dX8_judgeWayPart_49 ?_
          refine sp_iconst X (pc := 52) (v := 0) dX8_judgeWayPart_52 (by decide) ?_
          refine sp_ireturn X (pc := 53) dX8_judgeWayPart_53 rfl ⟨_, rfl, ?_⟩
          exact ⟨hI.pR (Or.inr (Or.inl rfl)) (fun x hx => by cases hx; rw [if_neg (by decide)]; exact hnt) (fun _ => by simp), (sp_F.refl m A sp_Tj).pR (by unfold sp_Tj; decide) (by decide), q, hq, by omega⟩
        · refine sp_bipush X (pc := 44) (v := (-15)) dX8_judgeWayPart_44 (by decide) ?_
          refine sp_ireturn X (pc := 46) dX8_judgeWayPart_46 rfl ⟨_, rfl, ?_⟩
          exact ⟨hI, sp_F.refl m A sp_Tj, q, hq, by omega⟩
      · refine sp_bipush X (pc := 34) (v := (-14)) dX8_judgeWayPart_34 (by decide) ?_
        refine sp_ireturn X (pc := 36) dX8_judgeWayPart_36 rfl ⟨_, rfl, ?_⟩
        exact ⟨hI, sp_F.refl m A sp_Tj, q, hq, by omega⟩
    · refine sp_bipush X (pc := 24) (v := (-12)) dX8_judgeWayPart_24 (by decide) ?_
      refine sp_ireturn X (pc := 26) dX8_judgeWayPart_26 rfl ⟨_, rfl, ?_⟩
      exact ⟨hI, sp_F.refl m A sp_Tj, q, hq, by omega⟩
  · refine sp_aload_n X (pc := 10) (r := some (A 7)) dX8_judgeWayPart_10 rfl rfl ?_
    refine sp_callV X (pc := 11) (mc := 0) (ms := 0) (b := (A 7)) (c := 9) (r := some (A 7)) (As := []) (rest := []) (c_Taking_judgeLack l G _ hG hI hq) ok_Taking_judgeLack rfl t7 (by decide) rfl lk_Taking_134 rfl rfl (Nat.zero_le _) (Nat.le_of_ble_eq_true rfl) (Nat.le_of_ble_eq_true rfl) (Nat.zero_le _) (Nat.zero_le _) dX8_judgeWayPart_11 (sp_kI fun v11 m11 hp11 => ?_)
    refine sp_ireturn X (pc := 14) dX8_judgeWayPart_14 rfl ⟨_, rfl, ?_⟩
    exact hp11
set_option maxRecDepth 20000 in
theorem c_Taking_judgeWay (l : Launch) (G : sp_G) (m : sp_M) {P : Nat → Prop} {A : Nat → Nat} (hG : sp_GS G) (hI : sp_I G P A m) {p L edp sp : Nat} (hp : sp_pt G m p L edp sp) (hs8 : sp ≤ 8) (hq : m.fI 585 (A 7) = nI 0) : sp_C l G M_Taking_judgeWay 0 0 [.ref (A 7), .ref p] m (sp_oI fun v m' => sp_I G P A m' ∧ sp_F m m' A sp_Tj ∧ ∃ q', m'.fI 585 (A 7) = nI q' ∧ q' ≤ 7) := by
  refine sp_enter (lv0 := [(0, false, va_rf (some (A 7))), (1, false, va_rf (some p))]) "SafePaths$Taking" false rfl (by decide) (fun h => by cases h) (Nat.le_of_ble_eq_true rfl) rfl ?_
  intro w X
  refine sp_iconst X (pc := 0) (v := 0) dX8_judgeWay_0 (by decide) ?_
  refine sp_istore_n X (pc := 1) (lv' := [(2, false, .int 0), (0, false, va_rf (some (A 7))), (1, false, va_rf (some p))]) dX8_judgeWay_1 rfl (by decide) rfl ?_
  have loop2 : ∀ (dz : Nat) (mm : sp_M) (i q : Nat), sp_I G P A mm → sp_F m mm A sp_Tj → sp_pt G mm p L edp sp → mm.fI 585 (A 7) = nI q → q ≤ i → (i = 0 ∨ i + 1 ≤ sp) → sp - i = dz → w 0 0 mm 2 [(0, false, va_rf (some (A 7))), (1, false, va_rf (some p)), (2, false, .int (nI i))] [] := by
    intro dz
    induction dz using Nat.strongRecOn with
    | ind dz ih =>
      intro mm i q I9 F9 hp9 hq9 hqi hi0 hdz
      have hS9 := I9.S
      have t7 := hS9.k 7 10 (by decide)
      refine sp_iload_n X (pc := 2) (x := nI i) dX8_judgeWay_2 rfl rfl ?_
      refine sp_iconst X (pc := 3) (v := 1) dX8_judgeWay_3 (by decide) ?_
      refine sp_iadd X (pc := 4) dX8_judgeWay_4 ?_
      rw [show ((nI i) + 1) = nI (i + 1) from nI_1 i]
      refine sp_aload_n X (pc := 5) (r := some p) dX8_judgeWay_5 rfl rfl ?_
      refine sp_callV X (pc := 6) (mc := 0) (ms := 0) (b := p) (c := 7) (r := some p) (As := []) (rest := [.int (nI (i + 1))]) (c_Parted_count l G _ hp9) ok_Parted_count rfl hp9.1 (by decide) rfl lk_Taking_107 rfl rfl (by simp [sp_cat_rf, sp_cat_i, sp_cat_l]) (Nat.le_of_ble_eq_true rfl) (Nat.le_of_ble_eq_true rfl) (Nat.zero_le _) (Nat.zero_le _) dX8_judgeWay_6 (sp_kI fun v6 m6 hp6 => ?_)
      obtain ⟨hp6v, hp6⟩ := hp6; replace hp6 := (hp6).symm; subst hp6; replace hp6v := (hp6v).symm; subst hp6v
      refine sp_icmp_ge X (pc := 9) (tgt := 34) dX8_judgeWay_9 (by decide) (fun hb9 => ?_) (fun hb9 => ?_)
      · refine sp_iconst X (pc := 34) (v := 0) dX8_judgeWay_34 (by decide) ?_
        refine sp_ireturn X (pc := 35) dX8_judgeWay_35 rfl ⟨_, rfl, ?_⟩
        exact ⟨I9, F9, q, hq9, by omega⟩
      · have hi9 : i + 1 < sp := sp_nlt hb9 (by omega)
        refine sp_aload_n X (pc := 12) (r := some (A 7)) dX8_judgeWay_12 rfl rfl ?_
        refine sp_aload_n X (pc := 13) (r := some p) dX8_judgeWay_13 rfl rfl ?_
        refine sp_iload_n X (pc := 14) (x := nI i) dX8_judgeWay_14 rfl rfl ?_
        refine sp_callV X (pc := 15) (mc := 0) (ms := 0) (b := p) (c := 7) (r := some p) (As := [.int (nI i)]) (rest := [va_rf (some (A 7))]) (c_Parted_at l G _ hp9) ok_Parted_at rfl hp9.1 (by decide) rfl lk_Taking_112 rfl rfl (by simp [sp_cat_rf, sp_cat_i, sp_cat_l]) (Nat.le_of_ble_eq_true rfl) (Nat.le_of_ble_eq_true rfl) (Nat.zero_le _) (Nat.zero_le _) dX8_judgeWay_15 (sp_kR fun v15 m15 hp15 => ?_)
        obtain ⟨hp15, hp15m⟩ := hp15; replace hp15m := (hp15m).symm; subst hp15m
        obtain ⟨nm, rfl, hnmt, -⟩ := hp15
        refine sp_callV X (pc := 18) (mc := 0) (ms := 0) (b := (A 7)) (c := 9) (r := some (A 7)) (As := [va_rf (some nm)]) (rest := []) (c_Taking_judgeWayPart l G _ hG I9 hnmt hq9) ok_Taking_judgeWayPart rfl t7 (by decide) rfl lk_Taking_127 rfl rfl (Nat.zero_le _) (Nat.le_of_ble_eq_true rfl) (Nat.le_of_ble_eq_true rfl) (Nat.zero_le _) (Nat.zero_le _) dX8_judgeWay_18 (sp_kI fun v18 m18 hp18 => ?_)
        obtain ⟨k1, k2, q', k3, k4⟩ := hp18
        refine sp_istore_n X (pc := 21) (lv' := [(3, false, .int v18), (0, false, va_rf (some (A 7))), (1, false, va_rf (some p)), (2, false, .int (nI i))]) dX8_judgeWay_21 rfl (by decide) rfl ?_
        refine sp_iload_n X (pc := 22) (x := v18) dX8_judgeWay_22 rfl rfl ?_
        refine sp_if_eq X (pc := 23) (tgt := 28) dX8_judgeWay_23 (by decide) (fun hb23 => ?_) (fun hb23 => ?_)
        · refine sp_iinc X (pc := 28) (v := nI (i + 1)) (lv' := [(2, false, .int (nI (i + 1))), (3, false, .int v18), (0, false, va_rf (some (A 7))), (1, false, va_rf (some p))]) dX8_judgeWay_28 rfl (nI_1 i) (by decide) rfl ?_
          refine sp_goto X (pc := 31) (tgt := 2) dX8_judgeWay_31 (by decide) ?_
          refine sp_pick X [2, 3, 0] (lv' := [(0, false, va_rf (some (A 7))), (1, false, va_rf (some p)), (2, false, .int (nI (i + 1)))]) rfl ?_
          exact ih (sp - (i + 1)) (by omega) m18 (i + 1) q' k1 (F9.tr k2) ((F9.tr k2).pt hI k1 hp) k3 (by omega) (by omega) rfl
        · refine sp_iload_n X (pc := 26) (x := v18) dX8_judgeWay_26 rfl rfl ?_
          refine sp_ireturn X (pc := 27) dX8_judgeWay_27 rfl ⟨_, rfl, ?_⟩
          exact ⟨k1, F9.tr k2, q', k3, by omega⟩
  refine sp_pick X [1, 2, 0] (lv' := [(0, false, va_rf (some (A 7))), (1, false, va_rf (some p)), (2, false, .int 0)]) rfl ?_
  exact loop2 _ m 0 0 hI (sp_F.refl m A sp_Tj) hp hq (Nat.le_refl _) (Or.inl rfl) rfl
set_option maxRecDepth 20000 in
theorem c_Taking_judgeLast (l : Launch) (G : sp_G) (m : sp_M) {P : Nat → Prop} {A : Nat → Nat} (hG : sp_GS G) (hI : sp_I G P A m) {nm : Nat} (hnm : m.ty nm = 5) : sp_C l G M_Taking_judgeLast 0 0 [.ref (A 7), .ref nm] m (sp_oI fun v m' => sp_I G P A m' ∧ sp_F m m' A sp_Tj ∧ m'.fI 585 (A 7) = m.fI 585 (A 7)) := by
  refine sp_enter (lv0 := [(0, false, va_rf (some (A 7))), (1, false, va_rf (some nm))]) "SafePaths$Taking" false rfl (by decide) (fun h => by cases h) (Nat.le_of_ble_eq_true rfl) rfl ?_
  intro w X
  have hS := hI.S
  have t0 := hS.k 0 9 (by decide)
  have t7 := hS.k 7 10 (by decide)
  refine sp_aload_n X (pc := 0) (r := some (A 7)) dX8_judgeLast_0 rfl rfl ?_
  refine sp_aload_n X (pc := 1) (r := some (A 7)) dX8_judgeLast_1 rfl rfl ?_
  refine sp_aload_n X (pc := 2) (r := some nm) dX8_judgeLast_2 rfl rfl ?_
  refine sp_callV X (pc := 3) (mc := 0) (ms := 0) (b := (A 7)) (c := 9) (r := some (A 7)) (As := [va_rf (some nm)]) (rest := [va_rf (some (A 7))]) (c_Taking_nextBy l G _ hG hI hnm) ok_Taking_nextBy rfl t7 (by decide) rfl lk_Taking_130 rfl rfl (by simp [sp_cat_rf, sp_cat_i, sp_cat_l]) (Nat.le_of_ble_eq_true rfl) (Nat.le_of_ble_eq_true rfl) (Nat.zero_le _) (Nat.zero_le _) dX8_judgeLast_3 (sp_kR fun v3 m3 hp3 => ?_)
  obtain ⟨hp3, hp3m⟩ := hp3; replace hp3m := (hp3m).symm; subst hp3m
  refine sp_putR X (pc := 6) (c := 9) (i := 10) (q := 586) (a := (A 7)) rfl (by first | assumption | omega) (by decide) rfl rfl (Or.inl rfl)  fl_Taking_60 dX8_judgeLast_6 ?_
  have hI1 : sp_I G P A (m.pR 586 (A 7) v3) := hI.pR (by decide) (fun x hx => by rw [if_neg (by decide)]; exact hp3 x hx) (fun z => by omega)
  have hF1 : sp_F m (m.pR 586 (A 7) v3) A sp_Tj := (sp_F.refl m A sp_Tj).pR (by unfold sp_Tj; decide) (by decide)
  refine sp_aload_n X (pc := 9) (r := some (A 7)) dX8_judgeLast_9 rfl rfl ?_
  refine sp_getfield X (pc := 10) (c := 9) (i := 10) (t := 2) (a := (A 7)) (v := va_rf v3) rfl (by first | assumption | omega) (by decide) rfl (by simp [sp_fv, sp_pI_nx, sp_pI_ty, sp_pI_ln, sp_pI_fI, sp_pI_fL, sp_pI_fR, sp_pI_aI, sp_pI_aL, sp_pI_aR, sp_pL_nx, sp_pL_ty, sp_pL_ln, sp_pL_fI, sp_pL_fL, sp_pL_fR, sp_pL_aI, sp_pL_aL, sp_pL_aR, sp_pR_nx, sp_pR_ty, sp_pR_ln, sp_pR_fI, sp_pR_fL, sp_pR_fR, sp_pR_aI, sp_pR_aL, sp_pR_aR, sp_sI_nx, sp_sI_ty, sp_sI_ln, sp_sI_fI, sp_sI_fL, sp_sI_fR, sp_sI_aI, sp_sI_aL, sp_sI_aR, sp_sL_nx, sp_sL_ty, sp_sL_ln, sp_sL_fI, sp_sL_fL, sp_sL_fR, sp_sL_aI, sp_sL_aL, sp_sL_aR, sp_sR_nx, sp_sR_ty, sp_sR_ln, sp_sR_fI, sp_sR_fL, sp_sR_fR, sp_sR_aI, sp_sR_aL, sp_sR_aR, sp_newO_nx, sp_newA_nx, sp_newO_ty, sp_newA_ty, sp_newO_ln, sp_newA_ln, sp_newO_fI, sp_newA_fI, sp_newO_fL, sp_newA_fL, sp_newO_fR, sp_newA_fR, sp_newO_aI, sp_newA_aI, sp_newO_aL, sp_newA_aL, sp_newO_aR, sp_newA_aR]) fl_Taking_60 dX8_judgeLast_10 ?_
  refine sp_ifnull X (pc := 13) (tgt := 33) dX8_judgeLast_13 (by decide) (fun hb13 => ?_) (fun ra13 hb13 => ?_)
  · refine sp_iconst X (pc := 33) (v := 0) dX8_judgeLast_33 (by decide) ?_
    refine sp_ireturn X (pc := 34) dX8_judgeLast_34 rfl ⟨_, rfl, ?_⟩
    exact ⟨hI1, hF1, rfl⟩
  · have hnt := hp3 _ hb13
    subst hb13
    refine sp_aload_n X (pc := 16) (r := some (A 7)) dX8_judgeLast_16 rfl rfl ?_
    refine sp_aload_n X (pc := 17) (r := some (A 7)) dX8_judgeLast_17 rfl rfl ?_
    refine sp_getfield X (pc := 18) (c := 9) (i := 10) (t := 2) (a := (A 7)) (v := va_rf (some ra13)) rfl (by first | assumption | omega) (by decide) rfl (by simp [sp_fv, sp_pI_nx, sp_pI_ty, sp_pI_ln, sp_pI_fI, sp_pI_fL, sp_pI_fR, sp_pI_aI, sp_pI_aL, sp_pI_aR, sp_pL_nx, sp_pL_ty, sp_pL_ln, sp_pL_fI, sp_pL_fL, sp_pL_fR, sp_pL_aI, sp_pL_aL, sp_pL_aR, sp_pR_nx, sp_pR_ty, sp_pR_ln, sp_pR_fI, sp_pR_fL, sp_pR_fR, sp_pR_aI, sp_pR_aL, sp_pR_aR, sp_sI_nx, sp_sI_ty, sp_sI_ln, sp_sI_fI, sp_sI_fL, sp_sI_fR, sp_sI_aI, sp_sI_aL, sp_sI_aR, sp_sL_nx, sp_sL_ty, sp_sL_ln, sp_sL_fI, sp_sL_fL, sp_sL_fR, sp_sL_aI, sp_sL_aL, sp_sL_aR, sp_sR_nx, sp_sR_ty, sp_sR_ln, sp_sR_fI, sp_sR_fL, sp_sR_fR, sp_sR_aI, sp_sR_aL, sp_sR_aR, sp_newO_nx, sp_newA_nx, sp_newO_ty, sp_newA_ty, sp_newO_ln, sp_newA_ln, sp_newO_fI, sp_newA_fI, sp_newO_fL, sp_newA_fL, sp_newO_fR, sp_newA_fR, sp_newO_aI, sp_newA_aI, sp_newO_aL, sp_newA_aL, sp_newO_aR, sp_newA_aR]) fl_Taking_60 dX8_judgeLast_18 ?_
    refine sp_aload_n X (pc := 21) (r := some nm) dX8_judgeLast_21 rfl rfl ?_
    refine sp_callV X (pc := 22) (mc := 0) (ms := 0) (b := (A 7)) (c := 9) (r := some (A 7)) (As := [va_rf (some ra13), va_rf (some nm)]) (rest := []) (c_Taking_isRefusedMeeting l G _ hG hI1 hnt hnm) ok_Taking_isRefusedMeeting rfl t7 (by decide) rfl lk_Taking_137 rfl rfl (Nat.zero_le _) (Nat.le_of_ble_eq_true rfl) (Nat.le_of_ble_eq_true rfl) (Nat.zero_le _) (Nat.zero_le _) dX8_judgeLast_22 (sp_kI fun v22 m22 hp22 => ?_)
    obtain ⟨hp22, hp22m⟩ := hp22; replace hp22m := (hp22m).symm; subst hp22m
    refine sp_if_eq X (pc := 25) (tgt := 33) dX8_judgeLast_25 (by decide) (fun hb25 => ?_) (fun hb25 => ?_)
    · refine sp_iconst X (pc := 33) (v := 0) dX8_judgeLast_33 (by decide) ?_
      refine sp_ireturn X (pc := 34) dX8_judgeLast_34 rfl ⟨_, rfl, ?_⟩
      exact ⟨hI1, hF1, rfl⟩
    · refine sp_bipush X (pc := 28) (v := (-12)) dX8_judgeLast_28 (by decide) ?_
      refine sp_goto X (pc := 30) (tgt := 34) dX8_judgeLast_30 (by decide) ?_
      refine sp_ireturn X (pc := 34) dX8_judgeLast_34 rfl ⟨_, rfl, ?_⟩
      exact ⟨hI1, hF1, rfl⟩
set_option maxRecDepth 20000 in
theorem c_Taking_isPlaceTaken (l : Launch) (G : sp_G) (m : sp_M) {P : Nat → Prop} {A : Nat → Nat} (hG : sp_GS G) (hI : sp_I G P A m) {kd : Int32} : sp_C l G M_Taking_isPlaceTaken 0 0 [.ref (A 7), .int kd] m (sp_oI fun v m' => sp_b01 v ∧ m' = m) := by
  refine sp_enter (lv0 := [(0, false, va_rf (some (A 7))), (1, false, .int kd)]) "SafePaths$Taking" false rfl (by decide) (fun h => by cases h) (Nat.le_of_ble_eq_true rfl) rfl ?_
  intro w X
  have hS := hI.S
  have t7 := hS.k 7 10 (by decide)
  refine sp_aload_n X (pc := 0) (r := some (A 7)) dX8_isPlaceTaken_0 rfl rfl ?_
  refine sp_getfield X (pc := 1) (c := 9) (i := 10) (t := 2) (a := (A 7)) (v := va_rf (m.fR 586 (A 7))) rfl (by first | assumption | omega) (by decide) rfl rfl fl_Taking_60 dX8_isPlaceTaken_1 ?_
  refine sp_ifnull X (pc := 4) (tgt := 25) dX8_isPlaceTaken_4 (by decide) (fun hb4 => ?_) (fun ra4 hb4 => ?_)
  · refine sp_iconst X (pc := 25) (v := 0) dX8_isPlaceTaken_25 (by decide) ?_
    refine sp_ireturn X (pc := 26) dX8_isPlaceTaken_26 rfl ⟨_, rfl, ?_⟩
    first | exact ⟨Or.inl rfl, rfl⟩ | exact ⟨Or.inr rfl, rfl⟩
  · have hnt := hS.2.2.2.2.1.2.2.1 _ hb4
    refine sp_iload_n X (pc := 7) (x := kd) dX8_isPlaceTaken_7 rfl rfl ?_
    refine sp_if_eq X (pc := 8) (tgt := 21) dX8_isPlaceTaken_8 (by decide) (fun hb8 => ?_) (fun hb8 => ?_)
    · refine sp_iconst X (pc := 21) (v := 1) dX8_isPlaceTaken_21 (by decide) ?_
      refine sp_goto X (pc := 22) (tgt := 26) dX8_isPlaceTaken_22 (by decide) ?_
      refine sp_ireturn X (pc := 26) dX8_isPlaceTaken_26 rfl ⟨_, rfl, ?_⟩
      first | exact ⟨Or.inl rfl, rfl⟩ | exact ⟨Or.inr rfl, rfl⟩
    · refine sp_aload_n X (pc := 11) (r := some (A 7)) dX8_isPlaceTaken_11 rfl rfl ?_
      refine sp_getfield X (pc := 12) (c := 9) (i := 10) (t := 2) (a := (A 7)) (v := va_rf (some ra4)) rfl (by first | assumption | omega) (by decide) rfl (congrArg va_rf hb4) fl_Taking_60 dX8_isPlaceTaken_12 ?_
      refine sp_callV X (pc := 15) (mc := 0) (ms := 0) (b := ra4) (c := 5) (r := (some ra4)) (As := []) (rest := []) (c_Node_isFolder l G _ hnt) ok_Node_isFolder rfl hnt (by decide) rfl lk_Taking_176 rfl rfl (Nat.zero_le _) (Nat.le_of_ble_eq_true rfl) (Nat.le_of_ble_eq_true rfl) (Nat.zero_le _) (Nat.zero_le _) dX8_isPlaceTaken_15 (sp_kI fun v15 m15 hp15 => ?_)
      obtain ⟨hp15v, hp15⟩ := hp15; replace hp15 := (hp15).symm; subst hp15; replace hp15v := (hp15v).symm; subst hp15v
      refine sp_if_eq X (pc := 18) (tgt := 25) dX8_isPlaceTaken_18 (by decide) (fun hb18 => ?_) (fun hb18 => ?_)
      · refine sp_iconst X (pc := 25) (v := 0) dX8_isPlaceTaken_25 (by decide) ?_
        refine sp_ireturn X (pc := 26) dX8_isPlaceTaken_26 rfl ⟨_, rfl, ?_⟩
        first | exact ⟨Or.inl rfl, rfl⟩ | exact ⟨Or.inr rfl, rfl⟩
      · refine sp_iconst X (pc := 21) (v := 1) dX8_isPlaceTaken_21 (by decide) ?_
        refine sp_goto X (pc := 22) (tgt := 26) dX8_isPlaceTaken_22 (by decide) ?_
        refine sp_ireturn X (pc := 26) dX8_isPlaceTaken_26 rfl ⟨_, rfl, ?_⟩
        first | exact ⟨Or.inl rfl, rfl⟩ | exact ⟨Or.inr rfl, rfl⟩
set_option maxRecDepth 20000 in
theorem c_Taking_judgeSharing (l : Launch) (G : sp_G) (m : sp_M) {P : Nat → Prop} {A : Nat → Nat} (hG : sp_GS G) (hI : sp_I G P A m) {p L edp sp : Nat} (hp : sp_pt G m p L edp sp) : sp_C l G M_Taking_judgeSharing 0 0 [.ref (A 7), .ref p] m (sp_oI fun v m' => sp_I G P A m' ∧ sp_F m m' A sp_Tj ∧ m'.fI 585 (A 7) = m.fI 585 (A 7)) := by
  refine sp_enter (lv0 := [(0, false, va_rf (some (A 7))), (1, false, va_rf (some p))]) "SafePaths$Taking" false rfl (by decide) (fun h => by cases h) (Nat.le_of_ble_eq_true rfl) rfl ?_
  intro w X
  have hS := hI.S
  have t0 := hS.k 0 9 (by decide)
  have t5 := hS.k 5 11 (by decide)
  have t7 := hS.k 7 10 (by decide)
  refine sp_aload_n X (pc := 0) (r := some (A 7)) dX8_judgeSharing_0 rfl rfl ?_
  refine sp_getfield X (pc := 1) (c := 9) (i := 1) (t := 2) (a := (A 7)) (v := va_rf (some (A 5))) rfl (by first | assumption | omega) (by decide) rfl (congrArg va_rf (hS.p 577 7 5 (by decide))) fl_Taking_15 dX8_judgeSharing_1 ?_
  refine sp_aload_n X (pc := 4) (r := some p) dX8_judgeSharing_4 rfl rfl ?_
  refine sp_aload_n X (pc := 5) (r := some (A 7)) dX8_judgeSharing_5 rfl rfl ?_
  refine sp_getfield X (pc := 6) (c := 9) (i := 0) (t := 2) (a := (A 7)) (v := va_rf (some (A 0))) rfl (by first | assumption | omega) (by decide) rfl (congrArg va_rf (hS.p 576 7 0 (by decide))) fl_Taking_9 dX8_judgeSharing_6 ?_
  refine sp_getfield X (pc := 9) (c := 8) (i := 4) (t := 0) (a := (A 0)) (v := .int (m.fI 516 (A 0))) rfl (by first | assumption | omega) (by decide) rfl rfl fl_Taking_160 dX8_judgeSharing_9 ?_
  refine sp_if_ne X (pc := 12) (tgt := 19) dX8_judgeSharing_12 (by decide) (fun hb12 => ?_) (fun hb12 => ?_)
  · refine sp_iconst X (pc := 19) (v := 0) dX8_judgeSharing_19 (by decide) ?_
    refine sp_callV X (pc := 20) (mc := 0) (ms := 0) (b := (A 5)) (c := 10) (r := (some (A 5))) (As := [va_rf (some p), .int 0]) (rest := []) (c_Tree_reach l G _ hI.J hI.tr hp) ok_Tree_reach rfl t5 (by decide) rfl lk_Taking_198 rfl rfl (Nat.zero_le _) (Nat.le_of_ble_eq_true rfl) (Nat.le_of_ble_eq_true rfl) (Nat.zero_le _) (Nat.zero_le _) dX8_judgeSharing_20 (sp_kR fun v20 m20 hp20 => ?_)
    obtain ⟨hp20, hp20m⟩ := hp20; replace hp20m := (hp20m).symm; subst hp20m
    refine sp_astore_n X (pc := 23) (lv' := [(2, false, va_rf v20), (0, false, va_rf (some (A 7))), (1, false, va_rf (some p))]) dX8_judgeSharing_23 rfl (by decide) rfl ?_
    refine sp_aload_n X (pc := 24) (r := v20) dX8_judgeSharing_24 rfl rfl ?_
    refine sp_ifnull X (pc := 25) (tgt := 35) dX8_judgeSharing_25 (by decide) (fun hb25 => ?_) (fun ra25 hb25 => ?_)
    · refine sp_bipush X (pc := 35) (v := (-19)) dX8_judgeSharing_35 (by decide) ?_
      refine sp_ireturn X (pc := 37) dX8_judgeSharing_37 rfl ⟨_, rfl, ?_⟩
      exact ⟨hI, sp_F.refl m A sp_Tj, rfl⟩
    · have hnt := hp20 _ hb25
      obtain ⟨hd1, hd2, hd3, hd4⟩ := hI.J.2.2.2.2.1 _ hnt (sp_e0 _)
      refine sp_aload_n X (pc := 28) (r := v20) dX8_judgeSharing_28 rfl rfl ?_
      refine sp_getfield X (pc := 29) (c := 5) (i := 3) (t := 2) (a := ra25) (v := va_rf (m.fR 323 ra25)) hb25 hnt (by decide) rfl rfl fl_Taking_144 dX8_judgeSharing_29 ?_
      refine sp_ifnonnull X (pc := 32) (tgt := 38) dX8_judgeSharing_32 (by decide) (fun ra32 hb32 => ?_) (fun hb32 => ?_)
      · have hbt := hd3 _ hb32
        refine sp_aload_n X (pc := 38) (r := some (A 7)) dX8_judgeSharing_38 rfl rfl ?_
        refine sp_aload_n X (pc := 39) (r := v20) dX8_judgeSharing_39 rfl rfl ?_
        refine sp_getfield X (pc := 40) (c := 5) (i := 3) (t := 2) (a := ra25) (v := va_rf (some ra32)) hb25 hnt (by decide) rfl (congrArg va_rf hb32) fl_Taking_144 dX8_judgeSharing_40 ?_
        refine sp_putR X (pc := 43) (c := 9) (i := 12) (q := 588) (a := (A 7)) rfl (by first | assumption | omega) (by decide) rfl rfl (Or.inl rfl)  fl_Taking_66 dX8_judgeSharing_43 ?_
        have hI1 : sp_I G P A (m.pR 588 (A 7) (some ra32)) := hI.pR (by decide) (fun x hx => by cases hx; rw [if_pos rfl]; exact hbt) (fun z => by omega)
        have hF1 : sp_F m (m.pR 588 (A 7) (some ra32)) A sp_Tj := (sp_F.refl m A sp_Tj).pR (by unfold sp_Tj; decide) (by decide)
        refine sp_aload_n X (pc := 46) (r := v20) dX8_judgeSharing_46 rfl rfl ?_
        refine sp_aload_n X (pc := 47) (r := some (A 7)) dX8_judgeSharing_47 rfl rfl ?_
        refine sp_getfield X (pc := 48) (c := 9) (i := 10) (t := 2) (a := (A 7)) (v := va_rf (m.fR 586 (A 7))) rfl (by first | assumption | omega) (by decide) rfl rfl fl_Taking_60 dX8_judgeSharing_48 ?_
        refine sp_acmp_ne X (pc := 51) (tgt := 59) dX8_judgeSharing_51 (by decide) (fun hb51 => ?_) (fun hb51 => ?_)
        · refine sp_iconst X (pc := 59) (v := 0) dX8_judgeSharing_59 (by decide) ?_
          refine sp_ireturn X (pc := 60) dX8_judgeSharing_60 rfl ⟨_, rfl, ?_⟩
          first
            | exact ⟨hI1, hF1, rfl⟩
            | exact ⟨hI1.pR (by decide) (fun x hx => by rw [if_neg (by decide)]; exact hp20 x hx) (fun z => by omega), hF1.pR (by unfold sp_Tj; decide) (by decide), rfl⟩
        · refine sp_aload_n X (pc := 54) (r := some (A 7)) dX8_judgeSharing_54 rfl rfl ?_
          refine sp_aload_n X (pc := 55) (r := v20) dX8_judgeSharing_55 rfl rfl ?_
          refine sp_putR X (pc := 56) (c := 9) (i := 11) (q := 587) (a := (A 7)) rfl (by first | assumption | omega) (by decide) rfl rfl (Or.inl rfl)  fl_Taking_63 dX8_judgeSharing_56 ?_
          refine sp_iconst X (pc := 59) (v := 0) dX8_judgeSharing_59 (by decide) ?_
          refine sp_ireturn X (pc := 60) dX8_judgeSharing_60 rfl ⟨_, rfl, ?_⟩
          first
            | exact ⟨hI1, hF1, rfl⟩
            | exact ⟨hI1.pR (by decide) (fun x hx => by rw [if_neg (by decide)]; exact hp20 x hx) (fun z => by omega), hF1.pR (by unfold sp_Tj; decide) (by decide), rfl⟩
      · refine sp_bipush X (pc := 35) (v := (-19)) dX8_judgeSharing_35 (by decide) ?_
        refine sp_ireturn X (pc := 37) dX8_judgeSharing_37 rfl ⟨_, rfl, ?_⟩
        exact ⟨hI, sp_F.refl m A sp_Tj, rfl⟩
  · refine sp_iconst X (pc := 15) (v := 1) dX8_judgeSharing_15 (by decide) ?_
    refine sp_goto X (pc := 16) (tgt := 20) dX8_judgeSharing_16 (by decide) ?_
    refine sp_callV X (pc := 20) (mc := 0) (ms := 0) (b := (A 5)) (c := 10) (r := (some (A 5))) (As := [va_rf (some p), .int 1]) (rest := []) (c_Tree_reach l G _ hI.J hI.tr hp) ok_Tree_reach rfl t5 (by decide) rfl lk_Taking_198 rfl rfl (Nat.zero_le _) (Nat.le_of_ble_eq_true rfl) (Nat.le_of_ble_eq_true rfl) (Nat.zero_le _) (Nat.zero_le _) dX8_judgeSharing_20 (sp_kR fun v20 m20 hp20 => ?_)
    obtain ⟨hp20, hp20m⟩ := hp20; replace hp20m := (hp20m).symm; subst hp20m
    refine sp_astore_n X (pc := 23) (lv' := [(2, false, va_rf v20), (0, false, va_rf (some (A 7))), (1, false, va_rf (some p))]) dX8_judgeSharing_23 rfl (by decide) rfl ?_
    refine sp_aload_n X (pc := 24) (r := v20) dX8_judgeSharing_24 rfl rfl ?_
    refine sp_ifnull X (pc := 25) (tgt := 35) dX8_judgeSharing_25 (by decide) (fun hb25 => ?_) (fun ra25 hb25 => ?_)
    · refine sp_bipush X (pc := 35) (v := (-19)) dX8_judgeSharing_35 (by decide) ?_
      refine sp_ireturn X (pc := 37) dX8_judgeSharing_37 rfl ⟨_, rfl, ?_⟩
      exact ⟨hI, sp_F.refl m A sp_Tj, rfl⟩
    · have hnt := hp20 _ hb25
      obtain ⟨hd1, hd2, hd3, hd4⟩ := hI.J.2.2.2.2.1 _ hnt (sp_e0 _)
      refine sp_aload_n X (pc := 28) (r := v20) dX8_judgeSharing_28 rfl rfl ?_
      refine sp_getfield X (pc := 29) (c := 5) (i := 3) (t := 2) (a := ra25) (v := va_rf (m.fR 323 ra25)) hb25 hnt (by decide) rfl rfl fl_Taking_144 dX8_judgeSharing_29 ?_
      refine sp_ifnonnull X (pc := 32) (tgt := 38) dX8_judgeSharing_32 (by decide) (fun ra32 hb32 => ?_) (fun hb32 => ?_)
      · have hbt := hd3 _ hb32
        refine sp_aload_n X (pc := 38) (r := some (A 7)) dX8_judgeSharing_38 rfl rfl ?_
        refine sp_aload_n X (pc := 39) (r := v20) dX8_judgeSharing_39 rfl rfl ?_
        refine sp_getfield X (pc := 40) (c := 5) (i := 3) (t := 2) (a := ra25) (v := va_rf (some ra32)) hb25 hnt (by decide) rfl (congrArg va_rf hb32) fl_Taking_144 dX8_judgeSharing_40 ?_
        refine sp_putR X (pc := 43) (c := 9) (i := 12) (q := 588) (a := (A 7)) rfl (by first | assumption | omega) (by decide) rfl rfl (Or.inl rfl)  fl_Taking_66 dX8_judgeSharing_43 ?_
        have hI1 : sp_I G P A (m.pR 588 (A 7) (some ra32)) := hI.pR (by decide) (fun x hx => by cases hx; rw [if_pos rfl]; exact hbt) (fun z => by omega)
        have hF1 : sp_F m (m.pR 588 (A 7) (some ra32)) A sp_Tj := (sp_F.refl m A sp_Tj).pR (by unfold sp_Tj; decide) (by decide)
        refine sp_aload_n X (pc := 46) (r := v20) dX8_judgeSharing_46 rfl rfl ?_
        refine sp_aload_n X (pc := 47) (r := some (A 7)) dX8_judgeSharing_47 rfl rfl ?_
        refine sp_getfield X (pc := 48) (c := 9) (i := 10) (t := 2) (a := (A 7)) (v := va_rf (m.fR 586 (A 7))) rfl (by first | assumption | omega) (by decide) rfl rfl fl_Taking_60 dX8_judgeSharing_48 ?_
        refine sp_acmp_ne X (pc := 51) (tgt := 59) dX8_judgeSharing_51 (by decide) (fun hb51 => ?_) (fun hb51 => ?_)
        · refine sp_iconst X (pc := 59) (v := 0) dX8_judgeSharing_59 (by decide) ?_
          refine sp_ireturn X (pc := 60) dX8_judgeSharing_60 rfl ⟨_, rfl, ?_⟩
          first
            | exact ⟨hI1, hF1, rfl⟩
            | exact ⟨hI1.pR (by decide) (fun x hx => by rw [if_neg (by decide)]; exact hp20 x hx) (fun z => by omega), hF1.pR (by unfold sp_Tj; decide) (by decide), rfl⟩
        · refine sp_aload_n X (pc := 54) (r := some (A 7)) dX8_judgeSharing_54 rfl rfl ?_
          refine sp_aload_n X (pc := 55) (r := v20) dX8_judgeSharing_55 rfl rfl ?_
          refine sp_putR X (pc := 56) (c := 9) (i := 11) (q := 587) (a := (A 7)) rfl (by first | assumption | omega) (by decide) rfl rfl (Or.inl rfl)  fl_Taking_63 dX8_judgeSharing_56 ?_
          refine sp_iconst X (pc := 59) (v := 0) dX8_judgeSharing_59 (by decide) ?_
          refine sp_ireturn X (pc := 60) dX8_judgeSharing_60 rfl ⟨_, rfl, ?_⟩
          first
            | exact ⟨hI1, hF1, rfl⟩
            | exact ⟨hI1.pR (by decide) (fun x hx => by rw [if_neg (by decide)]; exact hp20 x hx) (fun z => by omega), hF1.pR (by unfold sp_Tj; decide) (by decide), rfl⟩
      · refine sp_bipush X (pc := 35) (v := (-19)) dX8_judgeSharing_35 (by decide) ?_
        refine sp_ireturn X (pc := 37) dX8_judgeSharing_37 rfl ⟨_, rfl, ?_⟩
        exact ⟨hI, sp_F.refl m A sp_Tj, rfl⟩
set_option maxHeartbeats 1000000 in
set_option maxRecDepth 20000 in
theorem c_Taking_judgeKind (l : Launch) (G : sp_G) (m : sp_M) {P : Nat → Prop} {A : Nat → Nat} (hG : sp_GS G) (hI : sp_I G P A m) {e : Nat} (he : m.ty e = 4) : sp_C l G M_Taking_judgeKind 6810 27240 [.ref (A 7), .ref e] m (sp_oI fun v m' => sp_I G P A m' ∧ sp_F m m' A sp_Tj ∧ m'.fI 585 (A 7) = m.fI 585 (A 7)) := by
  refine sp_enter (lv0 := [(0, false, va_rf (some (A 7))), (1, false, va_rf (some e))]) "SafePaths$Taking" false rfl (by decide) (fun h => by cases h) (Nat.le_of_ble_eq_true rfl) rfl ?_
  intro w X
  have hS := hI.S
  have t0 := hS.k 0 9 (by decide)
  have t5 := hS.k 5 11 (by decide)
  have t6 := hS.k 6 12 (by decide)
  have t7 := hS.k 7 10 (by decide)
  obtain ⟨fo, hfo, hfot⟩ := hS.2.2.2.2.1.2.1
  obtain ⟨p, o, hp1, hpt, hp8, ho1, hot⟩ := hI.J.2.2.2.2.2.2.1 e he (sp_e0 _)
  obtain ⟨L9, ed9, n9, hpto⟩ := hI.J.pt hot
  obtain ⟨-, e15, s15, hli15, -⟩ := hS.2.2.1 15 sp_ix15
  have hth := hS.2.2.2.2.1.2.2.1
  refine sp_aload_n X (pc := 0) (r := some e) dX8_judgeKind_0 rfl rfl ?_
  refine sp_getfield X (pc := 1) (c := 3) (i := 0) (t := 0) (a := e) (v := .int (m.fI 192 e)) rfl (by first | assumption | omega) (by decide) rfl rfl fl_Taking_173 dX8_judgeKind_1 ?_
  refine sp_iconst X (pc := 4) (v := 4) dX8_judgeKind_4 (by decide) ?_
  refine sp_icmp_ne X (pc := 5) (tgt := 11) dX8_judgeKind_5 (by decide) (fun hb5 => ?_) (fun hb5 => ?_)
  · refine sp_aload_n X (pc := 11) (r := some e) dX8_judgeKind_11 rfl rfl ?_
    refine sp_getfield X (pc := 12) (c := 3) (i := 0) (t := 0) (a := e) (v := .int (m.fI 192 e)) rfl (by first | assumption | omega) (by decide) rfl rfl fl_Taking_173 dX8_judgeKind_12 ?_
    refine sp_if_ne X (pc := 15) (tgt := 45) dX8_judgeKind_15 (by decide) (fun hb15 => ?_) (fun hb15 => ?_)
    · refine sp_aload_n X (pc := 45) (r := some (A 7)) dX8_judgeKind_45 rfl rfl ?_
      refine sp_aload_n X (pc := 46) (r := some e) dX8_judgeKind_46 rfl rfl ?_
      refine sp_getfield X (pc := 47) (c := 3) (i := 0) (t := 0) (a := e) (v := .int (m.fI 192 e)) rfl (by first | assumption | omega) (by decide) rfl rfl fl_Taking_173 dX8_judgeKind_47 ?_
      refine sp_callV X (pc := 50) (mc := 0) (ms := 0) (b := (A 7)) (c := 9) (r := some (A 7)) (As := [.int (m.fI 192 e)]) (rest := []) (c_Taking_isPlaceTaken l G _ hG hI) ok_Taking_isPlaceTaken rfl t7 (by decide) rfl lk_Taking_179 rfl rfl (Nat.zero_le _) (Nat.le_of_ble_eq_true rfl) (Nat.le_of_ble_eq_true rfl) (Nat.zero_le _) (Nat.zero_le _) dX8_judgeKind_50 (sp_kI fun v50 m50 hp50 => ?_)
      obtain ⟨hp50, hp50m⟩ := hp50; replace hp50m := (hp50m).symm; subst hp50m
      refine sp_if_eq X (pc := 53) (tgt := 59) dX8_judgeKind_53 (by decide) (fun hb53 => ?_) (fun hb53 => ?_)
      · refine sp_aload_n X (pc := 59) (r := some (A 7)) dX8_judgeKind_59 rfl rfl ?_
        refine sp_callV X (pc := 60) (mc := 0) (ms := 0) (b := (A 7)) (c := 9) (r := some (A 7)) (As := []) (rest := []) (c_Taking_isShut l G _ hG hI) ok_Taking_isShut rfl t7 (by decide) rfl lk_Taking_156 rfl rfl (Nat.zero_le _) (Nat.le_of_ble_eq_true rfl) (Nat.le_of_ble_eq_true rfl) (Nat.zero_le _) (Nat.zero_le _) dX8_judgeKind_60 (sp_kI fun v60 m60 hp60 => ?_)
        obtain ⟨hp60, hp60m⟩ := hp60; replace hp60m := (hp60m).symm; subst hp60m
        refine sp_if_eq X (pc := 63) (tgt := 69) dX8_judgeKind_63 (by decide) (fun hb63 => ?_) (fun hb63 => ?_)
        · refine sp_aload_n X (pc := 69) (r := some e) dX8_judgeKind_69 rfl rfl ?_
          refine sp_getfield X (pc := 70) (c := 3) (i := 0) (t := 0) (a := e) (v := .int (m.fI 192 e)) rfl (by first | assumption | omega) (by decide) rfl rfl fl_Taking_173 dX8_judgeKind_70 ?_
          refine sp_iconst X (pc := 73) (v := 2) dX8_judgeKind_73 (by decide) ?_
          refine sp_icmp_ne X (pc := 74) (tgt := 133) dX8_judgeKind_74 (by decide) (fun hb74 => ?_) (fun hb74 => ?_)
          · refine sp_aload_n X (pc := 133) (r := some e) dX8_judgeKind_133 rfl rfl ?_
            refine sp_getfield X (pc := 134) (c := 3) (i := 0) (t := 0) (a := e) (v := .int (m.fI 192 e)) rfl (by first | assumption | omega) (by decide) rfl rfl fl_Taking_173 dX8_judgeKind_134 ?_
            refine sp_iconst X (pc := 137) (v := 3) dX8_judgeKind_137 (by decide) ?_
            refine sp_icmp_ne X (pc := 138) (tgt := 152) dX8_judgeKind_138 (by decide) (fun hb138 => ?_) (fun hb138 => ?_)
            · refine sp_iconst X (pc := 152) (v := 0) dX8_judgeKind_152 (by decide) ?_
              refine sp_ireturn X (pc := 153) dX8_judgeKind_153 rfl ⟨_, rfl, ?_⟩
              first | exact hp146 | exact ⟨hI, sp_F.refl m A sp_Tj, rfl⟩
            · refine sp_aload_n X (pc := 141) (r := some (A 7)) dX8_judgeKind_141 rfl rfl ?_
              refine sp_aload_n X (pc := 142) (r := some e) dX8_judgeKind_142 rfl rfl ?_
              refine sp_getfield X (pc := 143) (c := 3) (i := 2) (t := 2) (a := e) (v := va_rf (some o)) rfl (by first | assumption | omega) (by decide) rfl (congrArg va_rf ho1) fl_Taking_183 dX8_judgeKind_143 ?_
              refine sp_callV X (pc := 146) (mc := 0) (ms := 0) (b := (A 7)) (c := 9) (r := some (A 7)) (As := [va_rf (some o)]) (rest := []) (c_Taking_judgeSharing l G _ hG hI hpto) ok_Taking_judgeSharing rfl t7 (by decide) rfl lk_Taking_195 rfl rfl (Nat.zero_le _) (Nat.le_of_ble_eq_true rfl) (Nat.le_of_ble_eq_true rfl) (Nat.zero_le _) (Nat.zero_le _) dX8_judgeKind_146 (sp_kI fun v146 m146 hp146 => ?_)
              refine sp_goto X (pc := 149) (tgt := 153) dX8_judgeKind_149 (by decide) ?_
              refine sp_ireturn X (pc := 153) dX8_judgeKind_153 rfl ⟨_, rfl, ?_⟩
              first | exact hp146 | exact ⟨hI, sp_F.refl m A sp_Tj, rfl⟩
          · refine sp_aload_n X (pc := 77) (r := some (A 7)) dX8_judgeKind_77 rfl rfl ?_
            refine sp_aload_n X (pc := 78) (r := some (A 7)) dX8_judgeKind_78 rfl rfl ?_
            refine sp_getfield X (pc := 79) (c := 9) (i := 2) (t := 2) (a := (A 7)) (v := va_rf (some (A 6))) rfl (by first | assumption | omega) (by decide) rfl (congrArg va_rf (hS.p 578 7 6 (by decide))) fl_Taking_19 dX8_judgeKind_79 ?_
            refine sp_aload_n X (pc := 82) (r := some e) dX8_judgeKind_82 rfl rfl ?_
            refine sp_getfield X (pc := 83) (c := 3) (i := 2) (t := 2) (a := e) (v := va_rf (some o)) rfl (by first | assumption | omega) (by decide) rfl (congrArg va_rf ho1) fl_Taking_183 dX8_judgeKind_83 ?_
            refine sp_aload_n X (pc := 86) (r := some (A 7)) dX8_judgeKind_86 rfl rfl ?_
            refine sp_getfield X (pc := 87) (c := 9) (i := 8) (t := 2) (a := (A 7)) (v := va_rf (some fo)) rfl (by first | assumption | omega) (by decide) rfl (congrArg va_rf hfo) fl_Taking_54 dX8_judgeKind_87 ?_
            refine sp_aload_n X (pc := 90) (r := some (A 7)) dX8_judgeKind_90 rfl rfl ?_
            refine sp_getfield X (pc := 91) (c := 9) (i := 9) (t := 0) (a := (A 7)) (v := .int (m.fI 585 (A 7))) rfl (by first | assumption | omega) (by decide) rfl rfl fl_Taking_57 dX8_judgeKind_91 ?_
            refine sp_callV X (pc := 94) (mc := 6810 - m.ln e15) (ms := 4 * (6810 - m.ln e15)) (b := (A 6)) (c := 11) (r := (some (A 6))) (As := [va_rf (some o), va_rf (some fo), .int (m.fI 585 (A 7))]) (rest := [va_rf (some (A 7))]) (c_Walk_goThrough l G _ hG hI hpto hfot hli15) ok_Walk_goThrough rfl t6 (by decide) rfl lk_Taking_186 rfl rfl (by simp [sp_cat_rf, sp_cat_i, sp_cat_l]) (Nat.le_of_ble_eq_true rfl) (Nat.le_of_ble_eq_true rfl) (by omega) (by omega) dX8_judgeKind_94 (sp_kI fun v94 m94 hp94 => ?_)
            obtain ⟨k1, k2⟩ := hp94
            have hS94 := k1.S
            have v7 := hS94.k 7 10 (by decide)
            have v0 := hS94.k 0 9 (by decide)
            have k3 : sp_F m m94 A sp_Tj := (sp_F.refl m A sp_Tj).trans k2 sp_15.j
            have k4 : m94.fI 585 (A 7) = m.fI 585 (A 7) := k2.I (hI.lt 7 10 (by decide) (by decide)) (by decide) (by unfold sp_15; decide)
            refine sp_iconst X (pc := 97) (v := (-1)) dX8_judgeKind_97 (by decide) ?_
            refine sp_icmp_ne X (pc := 98) (tgt := 105) dX8_judgeKind_98 (by decide) (fun hb98 => ?_) (fun hb98 => ?_)
            · refine sp_iconst X (pc := 105) (v := 0) dX8_judgeKind_105 (by decide) ?_
              refine sp_putI X (pc := 106) (c := 9) (i := 13) (q := 589) (a := (A 7)) rfl (by first | assumption | omega) (by decide) rfl rfl (Or.inl rfl) ⟨rfl, rfl⟩ fl_Taking_70 dX8_judgeKind_106 ?_
              refine sp_aload_n X (pc := 109) (r := some (A 7)) dX8_judgeKind_109 rfl rfl ?_
              refine sp_getfield X (pc := 110) (c := 9) (i := 13) (t := 0) (a := (A 7)) (v := .int 0) rfl (by first | assumption | omega) (by decide) rfl (by simp [sp_fv, sp_pI_nx, sp_pI_ty, sp_pI_ln, sp_pI_fI, sp_pI_fL, sp_pI_fR, sp_pI_aI, sp_pI_aL, sp_pI_aR, sp_pL_nx, sp_pL_ty, sp_pL_ln, sp_pL_fI, sp_pL_fL, sp_pL_fR, sp_pL_aI, sp_pL_aL, sp_pL_aR, sp_pR_nx, sp_pR_ty, sp_pR_ln, sp_pR_fI, sp_pR_fL, sp_pR_fR, sp_pR_aI, sp_pR_aL, sp_pR_aR, sp_sI_nx, sp_sI_ty, sp_sI_ln, sp_sI_fI, sp_sI_fL, sp_sI_fR, sp_sI_aI, sp_sI_aL, sp_sI_aR, sp_sL_nx, sp_sL_ty, sp_sL_ln, sp_sL_fI, sp_sL_fL, sp_sL_fR, sp_sL_aI, sp_sL_aL, sp_sL_aR, sp_sR_nx, sp_sR_ty, sp_sR_ln, sp_sR_fI, sp_sR_fL, sp_sR_fR, sp_sR_aI, sp_sR_aL, sp_sR_aR, sp_newO_nx, sp_newA_nx, sp_newO_ty, sp_newA_ty, sp_newO_ln, sp_newA_ln, sp_newO_fI, sp_newA_fI, sp_newO_fL, sp_newA_fL, sp_newO_fR, sp_newA_fR, sp_newO_aI, sp_newA_aI, sp_newO_aL, sp_newA_aL, sp_newO_aR, sp_newA_aR]) fl_Taking_70 dX8_judgeKind_110 ?_
              refine sp_if_eq X (pc := 113) (tgt := 131) dX8_judgeKind_113 (by decide) (fun hb113 => ?_) (fun hb113 => ?_)
              · refine sp_iconst X (pc := 131) (v := 0) dX8_judgeKind_131 (by decide) ?_
                refine sp_ireturn X (pc := 132) dX8_judgeKind_132 rfl ⟨_, rfl, ?_⟩
                first
                  | exact ⟨k1.dead (Or.inl rfl), k3.pI (by unfold sp_Tj; decide) (by decide), by rw [sp_pI_fI, if_neg (by omega)]; exact k4⟩
                  | exact ⟨k1.dead (Or.inr rfl), k3.pI (by unfold sp_Tj; decide) (by decide), by rw [sp_pI_fI, if_neg (by omega)]; exact k4⟩
              · refine sp_aload_n X (pc := 116) (r := some (A 7)) dX8_judgeKind_116 rfl rfl ?_
                refine sp_getfield X (pc := 117) (c := 9) (i := 0) (t := 2) (a := (A 7)) (v := va_rf (some (A 0))) rfl (by first | assumption | omega) (by decide) rfl (congrArg va_rf (hS94.p 576 7 0 (by decide))) fl_Taking_9 dX8_judgeKind_117 ?_
                refine sp_getfield X (pc := 120) (c := 8) (i := 2) (t := 0) (a := (A 0)) (v := .int (m94.fI 514 (A 0))) rfl (by first | assumption | omega) (by decide) rfl rfl fl_Taking_192 dX8_judgeKind_120 ?_
                refine sp_if_ne X (pc := 123) (tgt := 131) dX8_judgeKind_123 (by decide) (fun hb123 => ?_) (fun hb123 => ?_)
                · refine sp_iconst X (pc := 131) (v := 0) dX8_judgeKind_131 (by decide) ?_
                  refine sp_ireturn X (pc := 132) dX8_judgeKind_132 rfl ⟨_, rfl, ?_⟩
                  first
                    | exact ⟨k1.dead (Or.inl rfl), k3.pI (by unfold sp_Tj; decide) (by decide), by rw [sp_pI_fI, if_neg (by omega)]; exact k4⟩
                    | exact ⟨k1.dead (Or.inr rfl), k3.pI (by unfold sp_Tj; decide) (by decide), by rw [sp_pI_fI, if_neg (by omega)]; exact k4⟩
                · refine sp_bipush X (pc := 126) (v := (-18)) dX8_judgeKind_126 (by decide) ?_
                  refine sp_goto X (pc := 128) (tgt := 132) dX8_judgeKind_128 (by decide) ?_
                  refine sp_ireturn X (pc := 132) dX8_judgeKind_132 rfl ⟨_, rfl, ?_⟩
                  first
                    | exact ⟨k1.dead (Or.inl rfl), k3.pI (by unfold sp_Tj; decide) (by decide), by rw [sp_pI_fI, if_neg (by omega)]; exact k4⟩
                    | exact ⟨k1.dead (Or.inr rfl), k3.pI (by unfold sp_Tj; decide) (by decide), by rw [sp_pI_fI, if_neg (by omega)]; exact k4⟩
            · refine sp_iconst X (pc := 101) (v := 1) dX8_judgeKind_101 (by decide) ?_
              refine sp_goto X (pc := 102) (tgt := 106) dX8_judgeKind_102 (by decide) ?_
              refine sp_putI X (pc := 106) (c := 9) (i := 13) (q := 589) (a := (A 7)) rfl (by first | assumption | omega) (by decide) rfl rfl (Or.inl rfl) ⟨rfl, rfl⟩ fl_Taking_70 dX8_judgeKind_106 ?_
              refine sp_aload_n X (pc := 109) (r := some (A 7)) dX8_judgeKind_109 rfl rfl ?_
              refine sp_getfield X (pc := 110) (c := 9) (i := 13) (t := 0) (a := (A 7)) (v := .int 1) rfl (by first | assumption | omega) (by decide) rfl (by simp [sp_fv, sp_pI_nx, sp_pI_ty, sp_pI_ln, sp_pI_fI, sp_pI_fL, sp_pI_fR, sp_pI_aI, sp_pI_aL, sp_pI_aR, sp_pL_nx, sp_pL_ty, sp_pL_ln, sp_pL_fI, sp_pL_fL, sp_pL_fR, sp_pL_aI, sp_pL_aL, sp_pL_aR, sp_pR_nx, sp_pR_ty, sp_pR_ln, sp_pR_fI, sp_pR_fL, sp_pR_fR, sp_pR_aI, sp_pR_aL, sp_pR_aR, sp_sI_nx, sp_sI_ty, sp_sI_ln, sp_sI_fI, sp_sI_fL, sp_sI_fR, sp_sI_aI, sp_sI_aL, sp_sI_aR, sp_sL_nx, sp_sL_ty, sp_sL_ln, sp_sL_fI, sp_sL_fL, sp_sL_fR, sp_sL_aI, sp_sL_aL, sp_sL_aR, sp_sR_nx, sp_sR_ty, sp_sR_ln, sp_sR_fI, sp_sR_fL, sp_sR_fR, sp_sR_aI, sp_sR_aL, sp_sR_aR, sp_newO_nx, sp_newA_nx, sp_newO_ty, sp_newA_ty, sp_newO_ln, sp_newA_ln, sp_newO_fI, sp_newA_fI, sp_newO_fL, sp_newA_fL, sp_newO_fR, sp_newA_fR, sp_newO_aI, sp_newA_aI, sp_newO_aL, sp_newA_aL, sp_newO_aR, sp_newA_aR]) fl_Taking_70 dX8_judgeKind_110 ?_
              refine sp_if_eq X (pc := 113) (tgt := 131) dX8_judgeKind_113 (by decide) (fun hb113 => ?_) (fun hb113 => ?_)
              · refine sp_iconst X (pc := 131) (v := 0) dX8_judgeKind_131 (by decide) ?_
                refine sp_ireturn X (pc := 132) dX8_judgeKind_132 rfl ⟨_, rfl, ?_⟩
                first
                  | exact ⟨k1.dead (Or.inl rfl), k3.pI (by unfold sp_Tj; decide) (by decide), by rw [sp_pI_fI, if_neg (by omega)]; exact k4⟩
                  | exact ⟨k1.dead (Or.inr rfl), k3.pI (by unfold sp_Tj; decide) (by decide), by rw [sp_pI_fI, if_neg (by omega)]; exact k4⟩
              · refine sp_aload_n X (pc := 116) (r := some (A 7)) dX8_judgeKind_116 rfl rfl ?_
                refine sp_getfield X (pc := 117) (c := 9) (i := 0) (t := 2) (a := (A 7)) (v := va_rf (some (A 0))) rfl (by first | assumption | omega) (by decide) rfl (congrArg va_rf (hS94.p 576 7 0 (by decide))) fl_Taking_9 dX8_judgeKind_117 ?_
                refine sp_getfield X (pc := 120) (c := 8) (i := 2) (t := 0) (a := (A 0)) (v := .int (m94.fI 514 (A 0))) rfl (by first | assumption | omega) (by decide) rfl rfl fl_Taking_192 dX8_judgeKind_120 ?_
                refine sp_if_ne X (pc := 123) (tgt := 131) dX8_judgeKind_123 (by decide) (fun hb123 => ?_) (fun hb123 => ?_)
                · refine sp_iconst X (pc := 131) (v := 0) dX8_judgeKind_131 (by decide) ?_
                  refine sp_ireturn X (pc := 132) dX8_judgeKind_132 rfl ⟨_, rfl, ?_⟩
                  first
                    | exact ⟨k1.dead (Or.inl rfl), k3.pI (by unfold sp_Tj; decide) (by decide), by rw [sp_pI_fI, if_neg (by omega)]; exact k4⟩
                    | exact ⟨k1.dead (Or.inr rfl), k3.pI (by unfold sp_Tj; decide) (by decide), by rw [sp_pI_fI, if_neg (by omega)]; exact k4⟩
                · refine sp_bipush X (pc := 126) (v := (-18)) dX8_judgeKind_126 (by decide) ?_
                  refine sp_goto X (pc := 128) (tgt := 132) dX8_judgeKind_128 (by decide) ?_
                  refine sp_ireturn X (pc := 132) dX8_judgeKind_132 rfl ⟨_, rfl, ?_⟩
                  first
                    | exact ⟨k1.dead (Or.inl rfl), k3.pI (by unfold sp_Tj; decide) (by decide), by rw [sp_pI_fI, if_neg (by omega)]; exact k4⟩
                    | exact ⟨k1.dead (Or.inr rfl), k3.pI (by unfold sp_Tj; decide) (by decide), by rw [sp_pI_fI, if_neg (by omega)]; exact k4⟩
        · refine sp_bipush X (pc := 66) (v := (-16)) dX8_judgeKind_66 (by decide) ?_
          refine sp_ireturn X (pc := 68) dX8_judgeKind_68 rfl ⟨_, rfl, ?_⟩
          exact ⟨hI, sp_F.refl m A sp_Tj, rfl⟩
      · refine sp_bipush X (pc := 56) (v := (-17)) dX8_judgeKind_56 (by decide) ?_
        refine sp_ireturn X (pc := 58) dX8_judgeKind_58 rfl ⟨_, rfl, ?_⟩
        exact ⟨hI, sp_F.refl m A sp_Tj, rfl⟩
    · refine sp_aload_n X (pc := 18) (r := some (A 7)) dX8_judgeKind_18 rfl rfl ?_
      refine sp_getfield X (pc := 19) (c := 9) (i := 10) (t := 2) (a := (A 7)) (v := va_rf (m.fR 586 (A 7))) rfl (by first | assumption | omega) (by decide) rfl rfl fl_Taking_60 dX8_judgeKind_19 ?_
      refine sp_ifnull X (pc := 22) (tgt := 45) dX8_judgeKind_22 (by decide) (fun hb22 => ?_) (fun ra22 hb22 => ?_)
      · refine sp_aload_n X (pc := 45) (r := some (A 7)) dX8_judgeKind_45 rfl rfl ?_
        refine sp_aload_n X (pc := 46) (r := some e) dX8_judgeKind_46 rfl rfl ?_
        refine sp_getfield X (pc := 47) (c := 3) (i := 0) (t := 0) (a := e) (v := .int (m.fI 192 e)) rfl (by first | assumption | omega) (by decide) rfl rfl fl_Taking_173 dX8_judgeKind_47 ?_
        refine sp_callV X (pc := 50) (mc := 0) (ms := 0) (b := (A 7)) (c := 9) (r := some (A 7)) (As := [.int (m.fI 192 e)]) (rest := []) (c_Taking_isPlaceTaken l G _ hG hI) ok_Taking_isPlaceTaken rfl t7 (by decide) rfl lk_Taking_179 rfl rfl (Nat.zero_le _) (Nat.le_of_ble_eq_true rfl) (Nat.le_of_ble_eq_true rfl) (Nat.zero_le _) (Nat.zero_le _) dX8_judgeKind_50 (sp_kI fun v50 m50 hp50 => ?_)
        obtain ⟨hp50, hp50m⟩ := hp50; replace hp50m := (hp50m).symm; subst hp50m
        refine sp_if_eq X (pc := 53) (tgt := 59) dX8_judgeKind_53 (by decide) (fun hb53 => ?_) (fun hb53 => ?_)
        · refine sp_aload_n X (pc := 59) (r := some (A 7)) dX8_judgeKind_59 rfl rfl ?_
          refine sp_callV X (pc := 60) (mc := 0) (ms := 0) (b := (A 7)) (c := 9) (r := some (A 7)) (As := []) (rest := []) (c_Taking_isShut l G _ hG hI) ok_Taking_isShut rfl t7 (by decide) rfl lk_Taking_156 rfl rfl (Nat.zero_le _) (Nat.le_of_ble_eq_true rfl) (Nat.le_of_ble_eq_true rfl) (Nat.zero_le _) (Nat.zero_le _) dX8_judgeKind_60 (sp_kI fun v60 m60 hp60 => ?_)
          obtain ⟨hp60, hp60m⟩ := hp60; replace hp60m := (hp60m).symm; subst hp60m
          refine sp_if_eq X (pc := 63) (tgt := 69) dX8_judgeKind_63 (by decide) (fun hb63 => ?_) (fun hb63 => ?_)
          · refine sp_aload_n X (pc := 69) (r := some e) dX8_judgeKind_69 rfl rfl ?_
            refine sp_getfield X (pc := 70) (c := 3) (i := 0) (t := 0) (a := e) (v := .int (m.fI 192 e)) rfl (by first | assumption | omega) (by decide) rfl rfl fl_Taking_173 dX8_judgeKind_70 ?_
            refine sp_iconst X (pc := 73) (v := 2) dX8_judgeKind_73 (by decide) ?_
            refine sp_icmp_ne X (pc := 74) (tgt := 133) dX8_judgeKind_74 (by decide) (fun hb74 => ?_) (fun hb74 => ?_)
            · refine sp_aload_n X (pc := 133) (r := some e) dX8_judgeKind_133 rfl rfl ?_
              refine sp_getfield X (pc := 134) (c := 3) (i := 0) (t := 0) (a := e) (v := .int (m.fI 192 e)) rfl (by first | assumption | omega) (by decide) rfl rfl fl_Taking_173 dX8_judgeKind_134 ?_
              refine sp_iconst X (pc := 137) (v := 3) dX8_judgeKind_137 (by decide) ?_
              refine sp_icmp_ne X (pc := 138) (tgt := 152) dX8_judgeKind_138 (by decide) (fun hb138 => ?_) (fun hb138 => ?_)
              · refine sp_iconst X (pc := 152) (v := 0) dX8_judgeKind_152 (by decide) ?_
                refine sp_ireturn X (pc := 153) dX8_judgeKind_153 rfl ⟨_, rfl, ?_⟩
                first | exact hp146 | exact ⟨hI, sp_F.refl m A sp_Tj, rfl⟩
              · refine sp_aload_n X (pc := 141) (r := some (A 7)) dX8_judgeKind_141 rfl rfl ?_
                refine sp_aload_n X (pc := 142) (r := some e) dX8_judgeKind_142 rfl rfl ?_
                refine sp_getfield X (pc := 143) (c := 3) (i := 2) (t := 2) (a := e) (v := va_rf (some o)) rfl (by first | assumption | omega) (by decide) rfl (congrArg va_rf ho1) fl_Taking_183 dX8_judgeKind_143 ?_
                refine sp_callV X (pc := 146) (mc := 0) (ms := 0) (b := (A 7)) (c := 9) (r := some (A 7)) (As := [va_rf (some o)]) (rest := []) (c_Taking_judgeSharing l G _ hG hI hpto) ok_Taking_judgeSharing rfl t7 (by decide) rfl lk_Taking_195 rfl rfl (Nat.zero_le _) (Nat.le_of_ble_eq_true rfl) (Nat.le_of_ble_eq_true rfl) (Nat.zero_le _) (Nat.zero_le _) dX8_judgeKind_146 (sp_kI fun v146 m146 hp146 => ?_)
                refine sp_goto X (pc := 149) (tgt := 153) dX8_judgeKind_149 (by decide) ?_
                refine sp_ireturn X (pc := 153) dX8_judgeKind_153 rfl ⟨_, rfl, ?_⟩
                first | exact hp146 | exact ⟨hI, sp_F.refl m A sp_Tj, rfl⟩
            · refine sp_aload_n X (pc := 77) (r := some (A 7)) dX8_judgeKind_77 rfl rfl ?_
              refine sp_aload_n X (pc := 78) (r := some (A 7)) dX8_judgeKind_78 rfl rfl ?_
              refine sp_getfield X (pc := 79) (c := 9) (i := 2) (t := 2) (a := (A 7)) (v := va_rf (some (A 6))) rfl (by first | assumption | omega) (by decide) rfl (congrArg va_rf (hS.p 578 7 6 (by decide))) fl_Taking_19 dX8_judgeKind_79 ?_
              refine sp_aload_n X (pc := 82) (r := some e) dX8_judgeKind_82 rfl rfl ?_
              refine sp_getfield X (pc := 83) (c := 3) (i := 2) (t := 2) (a := e) (v := va_rf (some o)) rfl (by first | assumption | omega) (by decide) rfl (congrArg va_rf ho1) fl_Taking_183 dX8_judgeKind_83 ?_
              refine sp_aload_n X (pc := 86) (r := some (A 7)) dX8_judgeKind_86 rfl rfl ?_
              refine sp_getfield X (pc := 87) (c := 9) (i := 8) (t := 2) (a := (A 7)) (v := va_rf (some fo)) rfl (by first | assumption | omega) (by decide) rfl (congrArg va_rf hfo) fl_Taking_54 dX8_judgeKind_87 ?_
              refine sp_aload_n X (pc := 90) (r := some (A 7)) dX8_judgeKind_90 rfl rfl ?_
              refine sp_getfield X (pc := 91) (c := 9) (i := 9) (t := 0) (a := (A 7)) (v := .int (m.fI 585 (A 7))) rfl (by first | assumption | omega) (by decide) rfl rfl fl_Taking_57 dX8_judgeKind_91 ?_
              refine sp_callV X (pc := 94) (mc := 6810 - m.ln e15) (ms := 4 * (6810 - m.ln e15)) (b := (A 6)) (c := 11) (r := (some (A 6))) (As := [va_rf (some o), va_rf (some fo), .int (m.fI 585 (A 7))]) (rest := [va_rf (some (A 7))]) (c_Walk_goThrough l G _ hG hI hpto hfot hli15) ok_Walk_goThrough rfl t6 (by decide) rfl lk_Taking_186 rfl rfl (by simp [sp_cat_rf, sp_cat_i, sp_cat_l]) (Nat.le_of_ble_eq_true rfl) (Nat.le_of_ble_eq_true rfl) (by omega) (by omega) dX8_judgeKind_94 (sp_kI fun v94 m94 hp94 => ?_)
              obtain ⟨k1, k2⟩ := hp94
              have hS94 := k1.S
              have v7 := hS94.k 7 10 (by decide)
              have v0 := hS94.k 0 9 (by decide)
              have k3 : sp_F m m94 A sp_Tj := (sp_F.refl m A sp_Tj).trans k2 sp_15.j
              have k4 : m94.fI 585 (A 7) = m.fI 585 (A 7) := k2.I (hI.lt 7 10 (by decide) (by decide)) (by decide) (by unfold sp_15; decide)
              refine sp_iconst X (pc := 97) (v := (-1)) dX8_judgeKind_97 (by decide) ?_
              refine sp_icmp_ne X (pc := 98) (tgt := 105) dX8_judgeKind_98 (by decide) (fun hb98 => ?_) (fun hb98 => ?_)
              · refine sp_iconst X (pc := 105) (v := 0) dX8_judgeKind_105 (by decide) ?_
                refine sp_putI X (pc := 106) (c := 9) (i := 13) (q := 589) (a := (A 7)) rfl (by first | assumption | omega) (by decide) rfl rfl (Or.inl rfl) ⟨rfl, rfl⟩ fl_Taking_70 dX8_judgeKind_106 ?_
                refine sp_aload_n X (pc := 109) (r := some (A 7)) dX8_judgeKind_109 rfl rfl ?_
                refine sp_getfield X (pc := 110) (c := 9) (i := 13) (t := 0) (a := (A 7)) (v := .int 0) rfl (by first | assumption | omega) (by decide) rfl (by simp [sp_fv, sp_pI_nx, sp_pI_ty, sp_pI_ln, sp_pI_fI, sp_pI_fL, sp_pI_fR, sp_pI_aI, sp_pI_aL, sp_pI_aR, sp_pL_nx, sp_pL_ty, sp_pL_ln, sp_pL_fI, sp_pL_fL, sp_pL_fR, sp_pL_aI, sp_pL_aL, sp_pL_aR, sp_pR_nx, sp_pR_ty, sp_pR_ln, sp_pR_fI, sp_pR_fL, sp_pR_fR, sp_pR_aI, sp_pR_aL, sp_pR_aR, sp_sI_nx, sp_sI_ty, sp_sI_ln, sp_sI_fI, sp_sI_fL, sp_sI_fR, sp_sI_aI, sp_sI_aL, sp_sI_aR, sp_sL_nx, sp_sL_ty, sp_sL_ln, sp_sL_fI, sp_sL_fL, sp_sL_fR, sp_sL_aI, sp_sL_aL, sp_sL_aR, sp_sR_nx, sp_sR_ty, sp_sR_ln, sp_sR_fI, sp_sR_fL, sp_sR_fR, sp_sR_aI, sp_sR_aL, sp_sR_aR, sp_newO_nx, sp_newA_nx, sp_newO_ty, sp_newA_ty, sp_newO_ln, sp_newA_ln, sp_newO_fI, sp_newA_fI, sp_newO_fL, sp_newA_fL, sp_newO_fR, sp_newA_fR, sp_newO_aI, sp_newA_aI, sp_newO_aL, sp_newA_aL, sp_newO_aR, sp_newA_aR]) fl_Taking_70 dX8_judgeKind_110 ?_
                refine sp_if_eq X (pc := 113) (tgt := 131) dX8_judgeKind_113 (by decide) (fun hb113 => ?_) (fun hb113 => ?_)
                · refine sp_iconst X (pc := 131) (v := 0) dX8_judgeKind_131 (by decide) ?_
                  refine sp_ireturn X (pc := 132) dX8_judgeKind_132 rfl ⟨_, rfl, ?_⟩
                  first
                    | exact ⟨k1.dead (Or.inl rfl), k3.pI (by unfold sp_Tj; decide) (by decide), by rw [sp_pI_fI, if_neg (by omega)]; exact k4⟩
                    | exact ⟨k1.dead (Or.inr rfl), k3.pI (by unfold sp_Tj; decide) (by decide), by rw [sp_pI_fI, if_neg (by omega)]; exact k4⟩
                · refine sp_aload_n X (pc := 116) (r := some (A 7)) dX8_judgeKind_116 rfl rfl ?_
                  refine sp_getfield X (pc := 117) (c := 9) (i := 0) (t := 2) (a := (A 7)) (v := va_rf (some (A 0))) rfl (by first | assumption | omega) (by decide) rfl (congrArg va_rf (hS94.p 576 7 0 (by decide))) fl_Taking_9 dX8_judgeKind_117 ?_
                  refine sp_getfield X (pc := 120) (c := 8) (i := 2) (t := 0) (a := (A 0)) (v := .int (m94.fI 514 (A 0))) rfl (by first | assumption | omega) (by decide) rfl rfl fl_Taking_192 dX8_judgeKind_120 ?_
                  refine sp_if_ne X (pc := 123) (tgt := 131) dX8_judgeKind_123 (by decide) (fun hb123 => ?_) (fun hb123 => ?_)
                  · refine sp_iconst X (pc := 131) (v := 0) dX8_judgeKind_131 (by decide) ?_
                    refine sp_ireturn X (pc := 132) dX8_judgeKind_132 rfl ⟨_, rfl, ?_⟩
                    first
                      | exact ⟨k1.dead (Or.inl rfl), k3.pI (by unfold sp_Tj; decide) (by decide), by rw [sp_pI_fI, if_neg (by omega)]; exact k4⟩
                      | exact ⟨k1.dead (Or.inr rfl), k3.pI (by unfold sp_Tj; decide) (by decide), by rw [sp_pI_fI, if_neg (by omega)]; exact k4⟩
                  · refine sp_bipush X (pc := 126) (v := (-18)) dX8_judgeKind_126 (by decide) ?_
                    refine sp_goto X (pc := 128) (tgt := 132) dX8_judgeKind_128 (by decide) ?_
                    refine sp_ireturn X (pc := 132) dX8_judgeKind_132 rfl ⟨_, rfl, ?_⟩
                    first
                      | exact ⟨k1.dead (Or.inl rfl), k3.pI (by unfold sp_Tj; decide) (by decide), by rw [sp_pI_fI, if_neg (by omega)]; exact k4⟩
                      | exact ⟨k1.dead (Or.inr rfl), k3.pI (by unfold sp_Tj; decide) (by decide), by rw [sp_pI_fI, if_neg (by omega)]; exact k4⟩
              · refine sp_iconst X (pc := 101) (v := 1) dX8_judgeKind_101 (by decide) ?_
                refine sp_goto X (pc := 102) (tgt := 106) dX8_judgeKind_102 (by decide) ?_
                refine sp_putI X (pc := 106) (c := 9) (i := 13) (q := 589) (a := (A 7)) rfl (by first | assumption | omega) (by decide) rfl rfl (Or.inl rfl) ⟨rfl, rfl⟩ fl_Taking_70 dX8_judgeKind_106 ?_
                refine sp_aload_n X (pc := 109) (r := some (A 7)) dX8_judgeKind_109 rfl rfl ?_
                refine sp_getfield X (pc := 110) (c := 9) (i := 13) (t := 0) (a := (A 7)) (v := .int 1) rfl (by first | assumption | omega) (by decide) rfl (by simp [sp_fv, sp_pI_nx, sp_pI_ty, sp_pI_ln, sp_pI_fI, sp_pI_fL, sp_pI_fR, sp_pI_aI, sp_pI_aL, sp_pI_aR, sp_pL_nx, sp_pL_ty, sp_pL_ln, sp_pL_fI, sp_pL_fL, sp_pL_fR, sp_pL_aI, sp_pL_aL, sp_pL_aR, sp_pR_nx, sp_pR_ty, sp_pR_ln, sp_pR_fI, sp_pR_fL, sp_pR_fR, sp_pR_aI, sp_pR_aL, sp_pR_aR, sp_sI_nx, sp_sI_ty, sp_sI_ln, sp_sI_fI, sp_sI_fL, sp_sI_fR, sp_sI_aI, sp_sI_aL, sp_sI_aR, sp_sL_nx, sp_sL_ty, sp_sL_ln, sp_sL_fI, sp_sL_fL, sp_sL_fR, sp_sL_aI, sp_sL_aL, sp_sL_aR, sp_sR_nx, sp_sR_ty, sp_sR_ln, sp_sR_fI, sp_sR_fL, sp_sR_fR, sp_sR_aI, sp_sR_aL, sp_sR_aR, sp_newO_nx, sp_newA_nx, sp_newO_ty, sp_newA_ty, sp_newO_ln, sp_newA_ln, sp_newO_fI, sp_newA_fI, sp_newO_fL, sp_newA_fL, sp_newO_fR, sp_newA_fR, sp_newO_aI, sp_newA_aI, sp_newO_aL, sp_newA_aL, sp_newO_aR, sp_newA_aR]) fl_Taking_70 dX8_judgeKind_110 ?_
                refine sp_if_eq X (pc := 113) (tgt := 131) dX8_judgeKind_113 (by decide) (fun hb113 => ?_) (fun hb113 => ?_)
                · refine sp_iconst X (pc := 131) (v := 0) dX8_judgeKind_131 (by decide) ?_
                  refine sp_ireturn X (pc := 132) dX8_judgeKind_132 rfl ⟨_, rfl, ?_⟩
                  first
                    | exact ⟨k1.dead (Or.inl rfl), k3.pI (by unfold sp_Tj; decide) (by decide), by rw [sp_pI_fI, if_neg (by omega)]; exact k4⟩
                    | exact ⟨k1.dead (Or.inr rfl), k3.pI (by unfold sp_Tj; decide) (by decide), by rw [sp_pI_fI, if_neg (by omega)]; exact k4⟩
                · refine sp_aload_n X (pc := 116) (r := some (A 7)) dX8_judgeKind_116 rfl rfl ?_
                  refine sp_getfield X (pc := 117) (c := 9) (i := 0) (t := 2) (a := (A 7)) (v := va_rf (some (A 0))) rfl (by first | assumption | omega) (by decide) rfl (congrArg va_rf (hS94.p 576 7 0 (by decide))) fl_Taking_9 dX8_judgeKind_117 ?_
                  refine sp_getfield X (pc := 120) (c := 8) (i := 2) (t := 0) (a := (A 0)) (v := .int (m94.fI 514 (A 0))) rfl (by first | assumption | omega) (by decide) rfl rfl fl_Taking_192 dX8_judgeKind_120 ?_
                  refine sp_if_ne X (pc := 123) (tgt := 131) dX8_judgeKind_123 (by decide) (fun hb123 => ?_) (fun hb123 => ?_)
                  · refine sp_iconst X (pc := 131) (v := 0) dX8_judgeKind_131 (by decide) ?_
                    refine sp_ireturn X (pc := 132) dX8_judgeKind_132 rfl ⟨_, rfl, ?_⟩
                    first
                      | exact ⟨k1.dead (Or.inl rfl), k3.pI (by unfold sp_Tj; decide) (by decide), by rw [sp_pI_fI, if_neg (by omega)]; exact k4⟩
                      | exact ⟨k1.dead (Or.inr rfl), k3.pI (by unfold sp_Tj; decide) (by decide), by rw [sp_pI_fI, if_neg (by omega)]; exact k4⟩
                  · refine sp_bipush X (pc := 126) (v := (-18)) dX8_judgeKind_126 (by decide) ?_
                    refine sp_goto X (pc := 128) (tgt := 132) dX8_judgeKind_128 (by decide) ?_
                    refine sp_ireturn X (pc := 132) dX8_judgeKind_132 rfl ⟨_, rfl, ?_⟩
                    first
                      | exact ⟨k1.dead (Or.inl rfl), k3.pI (by unfold sp_Tj; decide) (by decide), by rw [sp_pI_fI, if_neg (by omega)]; exact k4⟩
                      | exact ⟨k1.dead (Or.inr rfl), k3.pI (by unfold sp_Tj; decide) (by decide), by rw [sp_pI_fI, if_neg (by omega)]; exact k4⟩
          · refine sp_bipush X (pc := 66) (v := (-16)) dX8_judgeKind_66 (by decide) ?_
            refine sp_ireturn X (pc := 68) dX8_judgeKind_68 rfl ⟨_, rfl, ?_⟩
            exact ⟨hI, sp_F.refl m A sp_Tj, rfl⟩
        · refine sp_bipush X (pc := 56) (v := (-17)) dX8_judgeKind_56 (by decide) ?_
          refine sp_ireturn X (pc := 58) dX8_judgeKind_58 rfl ⟨_, rfl, ?_⟩
          exact ⟨hI, sp_F.refl m A sp_Tj, rfl⟩
      · have hnt := hth _ hb22
        refine sp_aload_n X (pc := 25) (r := some (A 7)) dX8_judgeKind_25 rfl rfl ?_
        refine sp_getfield X (pc := 26) (c := 9) (i := 10) (t := 2) (a := (A 7)) (v := va_rf (some ra22)) rfl (by first | assumption | omega) (by decide) rfl (congrArg va_rf hb22) fl_Taking_60 dX8_judgeKind_26 ?_
        refine sp_callV X (pc := 29) (mc := 0) (ms := 0) (b := ra22) (c := 5) (r := (some ra22)) (As := []) (rest := []) (c_Node_isFolder l G _ hnt) ok_Node_isFolder rfl hnt (by decide) rfl lk_Taking_176 rfl rfl (Nat.zero_le _) (Nat.le_of_ble_eq_true rfl) (Nat.le_of_ble_eq_true rfl) (Nat.zero_le _) (Nat.zero_le _) dX8_judgeKind_29 (sp_kI fun v29 m29 hp29 => ?_)
        obtain ⟨hp29v, hp29⟩ := hp29; replace hp29 := (hp29).symm; subst hp29; replace hp29v := (hp29v).symm; subst hp29v
        refine sp_if_eq X (pc := 32) (tgt := 45) dX8_judgeKind_32 (by decide) (fun hb32 => ?_) (fun hb32 => ?_)
        · refine sp_aload_n X (pc := 45) (r := some (A 7)) dX8_judgeKind_45 rfl rfl ?_
          refine sp_aload_n X (pc := 46) (r := some e) dX8_judgeKind_46 rfl rfl ?_
          refine sp_getfield X (pc := 47) (c := 3) (i := 0) (t := 0) (a := e) (v := .int (m.fI 192 e)) rfl (by first | assumption | omega) (by decide) rfl rfl fl_Taking_173 dX8_judgeKind_47 ?_
          refine sp_callV X (pc := 50) (mc := 0) (ms := 0) (b := (A 7)) (c := 9) (r := some (A 7)) (As := [.int (m.fI 192 e)]) (rest := []) (c_Taking_isPlaceTaken l G _ hG hI) ok_Taking_isPlaceTaken rfl t7 (by decide) rfl lk_Taking_179 rfl rfl (Nat.zero_le _) (Nat.le_of_ble_eq_true rfl) (Nat.le_of_ble_eq_true rfl) (Nat.zero_le _) (Nat.zero_le _) dX8_judgeKind_50 (sp_kI fun v50 m50 hp50 => ?_)
          obtain ⟨hp50, hp50m⟩ := hp50; replace hp50m := (hp50m).symm; subst hp50m
          refine sp_if_eq X (pc := 53) (tgt := 59) dX8_judgeKind_53 (by decide) (fun hb53 => ?_) (fun hb53 => ?_)
          · refine sp_aload_n X (pc := 59) (r := some (A 7)) dX8_judgeKind_59 rfl rfl ?_
            refine sp_callV X (pc := 60) (mc := 0) (ms := 0) (b := (A 7)) (c := 9) (r := some (A 7)) (As := []) (rest := []) (c_Taking_isShut l G _ hG hI) ok_Taking_isShut rfl t7 (by decide) rfl lk_Taking_156 rfl rfl (Nat.zero_le _) (Nat.le_of_ble_eq_true rfl) (Nat.le_of_ble_eq_true rfl) (Nat.zero_le _) (Nat.zero_le _) dX8_judgeKind_60 (sp_kI fun v60 m60 hp60 => ?_)
            obtain ⟨hp60, hp60m⟩ := hp60; replace hp60m := (hp60m).symm; subst hp60m
            refine sp_if_eq X (pc := 63) (tgt := 69) dX8_judgeKind_63 (by decide) (fun hb63 => ?_) (fun hb63 => ?_)
            · refine sp_aload_n X (pc := 69) (r := some e) dX8_judgeKind_69 rfl rfl ?_
              refine sp_getfield X (pc := 70) (c := 3) (i := 0) (t := 0) (a := e) (v := .int (m.fI 192 e)) rfl (by first | assumption | omega) (by decide) rfl rfl fl_Taking_173 dX8_judgeKind_70 ?_
              refine sp_iconst X (pc := 73) (v := 2) dX8_judgeKind_73 (by decide) ?_
              refine sp_icmp_ne X (pc := 74) (tgt := 133) dX8_judgeKind_74 (by decide) (fun hb74 => ?_) (fun hb74 => ?_)
              · refine sp_aload_n X (pc := 133) (r := some e) dX8_judgeKind_133 rfl rfl ?_
                refine sp_getfield X (pc := 134) (c := 3) (i := 0) (t := 0) (a := e) (v := .int (m.fI 192 e)) rfl (by first | assumption | omega) (by decide) rfl rfl fl_Taking_173 dX8_judgeKind_134 ?_
                refine sp_iconst X (pc := 137) (v := 3) dX8_judgeKind_137 (by decide) ?_
                refine sp_icmp_ne X (pc := 138) (tgt := 152) dX8_judgeKind_138 (by decide) (fun hb138 => ?_) (fun hb138 => ?_)
                · refine sp_iconst X (pc := 152) (v := 0) dX8_judgeKind_152 (by decide) ?_
                  refine sp_ireturn X (pc := 153) dX8_judgeKind_153 rfl ⟨_, rfl, ?_⟩
                  first | exact hp146 | exact ⟨hI, sp_F.refl m A sp_Tj, rfl⟩
                · refine sp_aload_n X (pc := 141) (r := some (A 7)) dX8_judgeKind_141 rfl rfl ?_
                  refine sp_aload_n X (pc := 142) (r := some e) dX8_judgeKind_142 rfl rfl ?_
                  refine sp_getfield X (pc := 143) (c := 3) (i := 2) (t := 2) (a := e) (v := va_rf (some o)) rfl (by first | assumption | omega) (by decide) rfl (congrArg va_rf ho1) fl_Taking_183 dX8_judgeKind_143 ?_
                  refine sp_callV X (pc := 146) (mc := 0) (ms := 0) (b := (A 7)) (c := 9) (r := some (A 7)) (As := [va_rf (some o)]) (rest := []) (c_Taking_judgeSharing l G _ hG hI hpto) ok_Taking_judgeSharing rfl t7 (by decide) rfl lk_Taking_195 rfl rfl (Nat.zero_le _) (Nat.le_of_ble_eq_true rfl) (Nat.le_of_ble_eq_true rfl) (Nat.zero_le _) (Nat.zero_le _) dX8_judgeKind_146 (sp_kI fun v146 m146 hp146 => ?_)
                  refine sp_goto X (pc := 149) (tgt := 153) dX8_judgeKind_149 (by decide) ?_
                  refine sp_ireturn X (pc := 153) dX8_judgeKind_153 rfl ⟨_, rfl, ?_⟩
                  first | exact hp146 | exact ⟨hI, sp_F.refl m A sp_Tj, rfl⟩
              · refine sp_aload_n X (pc := 77) (r := some (A 7)) dX8_judgeKind_77 rfl rfl ?_
                refine sp_aload_n X (pc := 78) (r := some (A 7)) dX8_judgeKind_78 rfl rfl ?_
                refine sp_getfield X (pc := 79) (c := 9) (i := 2) (t := 2) (a := (A 7)) (v := va_rf (some (A 6))) rfl (by first | assumption | omega) (by decide) rfl (congrArg va_rf (hS.p 578 7 6 (by decide))) fl_Taking_19 dX8_judgeKind_79 ?_
                refine sp_aload_n X (pc := 82) (r := some e) dX8_judgeKind_82 rfl rfl ?_
                refine sp_getfield X (pc := 83) (c := 3) (i := 2) (t := 2) (a := e) (v := va_rf (some o)) rfl (by first | assumption | omega) (by decide) rfl (congrArg va_rf ho1) fl_Taking_183 dX8_judgeKind_83 ?_
                refine sp_aload_n X (pc := 86) (r := some (A 7)) dX8_judgeKind_86 rfl rfl ?_
                refine sp_getfield X (pc := 87) (c := 9) (i := 8) (t := 2) (a := (A 7)) (v := va_rf (some fo)) rfl (by first | assumption | omega) (by decide) rfl (congrArg va_rf hfo) fl_Taking_54 dX8_judgeKind_87 ?_
                refine sp_aload_n X (pc := 90) (r := some (A 7)) dX8_judgeKind_90 rfl rfl ?_
                refine sp_getfield X (pc := 91) (c := 9) (i := 9) (t := 0) (a := (A 7)) (v := .int (m.fI 585 (A 7))) rfl (by first | assumption | omega) (by decide) rfl rfl fl_Taking_57 dX8_judgeKind_91 ?_
                refine sp_callV X (pc := 94) (mc := 6810 - m.ln e15) (ms := 4 * (6810 - m.ln e15)) (b := (A 6)) (c := 11) (r := (some (A 6))) (As := [va_rf (some o), va_rf (some fo), .int (m.fI 585 (A 7))]) (rest := [va_rf (some (A 7))]) (c_Walk_goThrough l G _ hG hI hpto hfot hli15) ok_Walk_goThrough rfl t6 (by decide) rfl lk_Taking_186 rfl rfl (by simp [sp_cat_rf, sp_cat_i, sp_cat_l]) (Nat.le_of_ble_eq_true rfl) (Nat.le_of_ble_eq_true rfl) (by omega) (by omega) dX8_judgeKind_94 (sp_kI fun v94 m94 hp94 => ?_)
                obtain ⟨k1, k2⟩ := hp94
                have hS94 := k1.S
                have v7 := hS94.k 7 10 (by decide)
                have v0 := hS94.k 0 9 (by decide)
                have k3 : sp_F m m94 A sp_Tj := (sp_F.refl m A sp_Tj).trans k2 sp_15.j
                have k4 : m94.fI 585 (A 7) = m.fI 585 (A 7) := k2.I (hI.lt 7 10 (by decide) (by decide)) (by decide) (by unfold sp_15; decide)
                refine sp_iconst X (pc := 97) (v := (-1)) dX8_judgeKind_97 (by decide) ?_
                refine sp_icmp_ne X (pc := 98) (tgt := 105) dX8_judgeKind_98 (by decide) (fun hb98 => ?_) (fun hb98 => ?_)
                · refine sp_iconst X (pc := 105) (v := 0) dX8_judgeKind_105 (by decide) ?_
                  refine sp_putI X (pc := 106) (c := 9) (i := 13) (q := 589) (a := (A 7)) rfl (by first | assumption | omega) (by decide) rfl rfl (Or.inl rfl) ⟨rfl, rfl⟩ fl_Taking_70 dX8_judgeKind_106 ?_
                  refine sp_aload_n X (pc := 109) (r := some (A 7)) dX8_judgeKind_109 rfl rfl ?_
                  refine sp_getfield X (pc := 110) (c := 9) (i := 13) (t := 0) (a := (A 7)) (v := .int 0) rfl (by first | assumption | omega) (by decide) rfl (by simp [sp_fv, sp_pI_nx, sp_pI_ty, sp_pI_ln, sp_pI_fI, sp_pI_fL, sp_pI_fR, sp_pI_aI, sp_pI_aL, sp_pI_aR, sp_pL_nx, sp_pL_ty, sp_pL_ln, sp_pL_fI, sp_pL_fL, sp_pL_fR, sp_pL_aI, sp_pL_aL, sp_pL_aR, sp_pR_nx, sp_pR_ty, sp_pR_ln, sp_pR_fI, sp_pR_fL, sp_pR_fR, sp_pR_aI, sp_pR_aL, sp_pR_aR, sp_sI_nx, sp_sI_ty, sp_sI_ln, sp_sI_fI, sp_sI_fL, sp_sI_fR, sp_sI_aI, sp_sI_aL, sp_sI_aR, sp_sL_nx, sp_sL_ty, sp_sL_ln, sp_sL_fI, sp_sL_fL, sp_sL_fR, sp_sL_aI, sp_sL_aL, sp_sL_aR, sp_sR_nx, sp_sR_ty, sp_sR_ln, sp_sR_fI, sp_sR_fL, sp_sR_fR, sp_sR_aI, sp_sR_aL, sp_sR_aR, sp_newO_nx, sp_newA_nx, sp_newO_ty, sp_newA_ty, sp_newO_ln, sp_newA_ln, sp_newO_fI, sp_newA_fI, sp_newO_fL, sp_newA_fL, sp_newO_fR, sp_newA_fR, sp_newO_aI, sp_newA_aI, sp_newO_aL, sp_newA_aL, sp_newO_aR, sp_newA_aR]) fl_Taking_70 dX8_judgeKind_110 ?_
                  refine sp_if_eq X (pc := 113) (tgt := 131) dX8_judgeKind_113 (by decide) (fun hb113 => ?_) (fun hb113 => ?_)
                  · refine sp_iconst X (pc := 131) (v := 0) dX8_judgeKind_131 (by decide) ?_
                    refine sp_ireturn X (pc := 132) dX8_judgeKind_132 rfl ⟨_, rfl, ?_⟩
                    first
                      | exact ⟨k1.dead (Or.inl rfl), k3.pI (by unfold sp_Tj; decide) (by decide), by rw [sp_pI_fI, if_neg (by omega)]; exact k4⟩
                      | exact ⟨k1.dead (Or.inr rfl), k3.pI (by unfold sp_Tj; decide) (by decide), by rw [sp_pI_fI, if_neg (by omega)]; exact k4⟩
                  · refine sp_aload_n X (pc := 116) (r := some (A 7)) dX8_judgeKind_116 rfl rfl ?_
                    refine sp_getfield X (pc := 117) (c := 9) (i := 0) (t := 2) (a := (A 7)) (v := va_rf (some (A 0))) rfl (by first | assumption | omega) (by decide) rfl (congrArg va_rf (hS94.p 576 7 0 (by decide))) fl_Taking_9 dX8_judgeKind_117 ?_
                    refine sp_getfield X (pc := 120) (c := 8) (i := 2) (t := 0) (a := (A 0)) (v := .int (m94.fI 514 (A 0))) rfl (by first | assumption | omega) (by decide) rfl rfl fl_Taking_192 dX8_judgeKind_120 ?_
                    refine sp_if_ne X (pc := 123) (tgt := 131) dX8_judgeKind_123 (by decide) (fun hb123 => ?_) (fun hb123 => ?_)
                    · refine sp_iconst X (pc := 131) (v := 0) dX8_judgeKind_131 (by decide) ?_
                      refine sp_ireturn X (pc := 132) dX8_judgeKind_132 rfl ⟨_, rfl, ?_⟩
                      first
                        | exact ⟨k1.dead (Or.inl rfl), k3.pI (by unfold sp_Tj; decide) (by decide), by rw [sp_pI_fI, if_neg (by omega)]; exact k4⟩
                        | exact ⟨k1.dead (Or.inr rfl), k3.pI (by unfold sp_Tj; decide) (by decide), by rw [sp_pI_fI, if_neg (by omega)]; exact k4⟩
                    · refine sp_bipush X (pc := 126) (v := (-18)) dX8_judgeKind_126 (by decide) ?_
                      refine sp_goto X (pc := 128) (tgt := 132) dX8_judgeKind_128 (by decide) ?_
                      refine sp_ireturn X (pc := 132) dX8_judgeKind_132 rfl ⟨_, rfl, ?_⟩
                      first
                        | exact ⟨k1.dead (Or.inl rfl), k3.pI (by unfold sp_Tj; decide) (by decide), by rw [sp_pI_fI, if_neg (by omega)]; exact k4⟩
                        | exact ⟨k1.dead (Or.inr rfl), k3.pI (by unfold sp_Tj; decide) (by decide), by rw [sp_pI_fI, if_neg (by omega)]; exact k4⟩
                · refine sp_iconst X (pc := 101) (v := 1) dX8_judgeKind_101 (by decide) ?_
                  refine sp_goto X (pc := 102) (tgt := 106) dX8_judgeKind_102 (by decide) ?_
                  refine sp_putI X (pc := 106) (c := 9) (i := 13) (q := 589) (a := (A 7)) rfl (by first | assumption | omega) (by decide) rfl rfl (Or.inl rfl) ⟨rfl, rfl⟩ fl_Taking_70 dX8_judgeKind_106 ?_
                  refine sp_aload_n X (pc := 109) (r := some (A 7)) dX8_judgeKind_109 rfl rfl ?_
                  refine sp_getfield X (pc := 110) (c := 9) (i := 13) (t := 0) (a := (A 7)) (v := .int 1) rfl (by first | assumption | omega) (by decide) rfl (by simp [sp_fv, sp_pI_nx, sp_pI_ty, sp_pI_ln, sp_pI_fI, sp_pI_fL, sp_pI_fR, sp_pI_aI, sp_pI_aL, sp_pI_aR, sp_pL_nx, sp_pL_ty, sp_pL_ln, sp_pL_fI, sp_pL_fL, sp_pL_fR, sp_pL_aI, sp_pL_aL, sp_pL_aR, sp_pR_nx, sp_pR_ty, sp_pR_ln, sp_pR_fI, sp_pR_fL, sp_pR_fR, sp_pR_aI, sp_pR_aL, sp_pR_aR, sp_sI_nx, sp_sI_ty, sp_sI_ln, sp_sI_fI, sp_sI_fL, sp_sI_fR, sp_sI_aI, sp_sI_aL, sp_sI_aR, sp_sL_nx, sp_sL_ty, sp_sL_ln, sp_sL_fI, sp_sL_fL, sp_sL_fR, sp_sL_aI, sp_sL_aL, sp_sL_aR, sp_sR_nx, sp_sR_ty, sp_sR_ln, sp_sR_fI, sp_sR_fL, sp_sR_fR, sp_sR_aI, sp_sR_aL, sp_sR_aR, sp_newO_nx, sp_newA_nx, sp_newO_ty, sp_newA_ty, sp_newO_ln, sp_newA_ln, sp_newO_fI, sp_newA_fI, sp_newO_fL, sp_newA_fL, sp_newO_fR, sp_newA_fR, sp_newO_aI, sp_newA_aI, sp_newO_aL, sp_newA_aL, sp_newO_aR, sp_newA_aR]) fl_Taking_70 dX8_judgeKind_110 ?_
                  refine sp_if_eq X (pc := 113) (tgt := 131) dX8_judgeKind_113 (by decide) (fun hb113 => ?_) (fun hb113 => ?_)
                  · refine sp_iconst X (pc := 131) (v := 0) dX8_judgeKind_131 (by decide) ?_
                    refine sp_ireturn X (pc := 132) dX8_judgeKind_132 rfl ⟨_, rfl, ?_⟩
                    first
                      | exact ⟨k1.dead (Or.inl rfl), k3.pI (by unfold sp_Tj; decide) (by decide), by rw [sp_pI_fI, if_neg (by omega)]; exact k4⟩
                      | exact ⟨k1.dead (Or.inr rfl), k3.pI (by unfold sp_Tj; decide) (by decide), by rw [sp_pI_fI, if_neg (by omega)]; exact k4⟩
                  · refine sp_aload_n X (pc := 116) (r := some (A 7)) dX8_judgeKind_116 rfl rfl ?_
                    refine sp_getfield X (pc := 117) (c := 9) (i := 0) (t := 2) (a := (A 7)) (v := va_rf (some (A 0))) rfl (by first | assumption | omega) (by decide) rfl (congrArg va_rf (hS94.p 576 7 0 (by decide))) fl_Taking_9 dX8_judgeKind_117 ?_
                    refine sp_getfield X (pc := 120) (c := 8) (i := 2) (t := 0) (a := (A 0)) (v := .int (m94.fI 514 (A 0))) rfl (by first | assumption | omega) (by decide) rfl rfl fl_Taking_192 dX8_judgeKind_120 ?_
                    refine sp_if_ne X (pc := 123) (tgt := 131) dX8_judgeKind_123 (by decide) (fun hb123 => ?_) (fun hb123 => ?_)
                    · refine sp_iconst X (pc := 131) (v := 0) dX8_judgeKind_131 (by decide) ?_
                      refine sp_ireturn X (pc := 132) dX8_judgeKind_132 rfl ⟨_, rfl, ?_⟩
                      first
                        | exact ⟨k1.dead (Or.inl rfl), k3.pI (by unfold sp_Tj; decide) (by decide), by rw [sp_pI_fI, if_neg (by omega)]; exact k4⟩
                        | exact ⟨k1.dead (Or.inr rfl), k3.pI (by unfold sp_Tj; decide) (by decide), by rw [sp_pI_fI, if_neg (by omega)]; exact k4⟩
                    · refine sp_bipush X (pc := 126) (v := (-18)) dX8_judgeKind_126 (by decide) ?_
                      refine sp_goto X (pc := 128) (tgt := 132) dX8_judgeKind_128 (by decide) ?_
                      refine sp_ireturn X (pc := 132) dX8_judgeKind_132 rfl ⟨_, rfl, ?_⟩
                      first
                        | exact ⟨k1.dead (Or.inl rfl), k3.pI (by unfold sp_Tj; decide) (by decide), by rw [sp_pI_fI, if_neg (by omega)]; exact k4⟩
                        | exact ⟨k1.dead (Or.inr rfl), k3.pI (by unfold sp_Tj; decide) (by decide), by rw [sp_pI_fI, if_neg (by omega)]; exact k4⟩
            · refine sp_bipush X (pc := 66) (v := (-16)) dX8_judgeKind_66 (by decide) ?_
              refine sp_ireturn X (pc := 68) dX8_judgeKind_68 rfl ⟨_, rfl, ?_⟩
              exact ⟨hI, sp_F.refl m A sp_Tj, rfl⟩
          · refine sp_bipush X (pc := 56) (v := (-17)) dX8_judgeKind_56 (by decide) ?_
            refine sp_ireturn X (pc := 58) dX8_judgeKind_58 rfl ⟨_, rfl, ?_⟩
            exact ⟨hI, sp_F.refl m A sp_Tj, rfl⟩
        · refine sp_aload_n X (pc := 35) (r := some (A 7)) dX8_judgeKind_35 rfl rfl ?_
          refine sp_aload_n X (pc := 36) (r := some (A 7)) dX8_judgeKind_36 rfl rfl ?_
          refine sp_getfield X (pc := 37) (c := 9) (i := 10) (t := 2) (a := (A 7)) (v := va_rf (some ra22)) rfl (by first | assumption | omega) (by decide) rfl (congrArg va_rf hb22) fl_Taking_60 dX8_judgeKind_37 ?_
          refine sp_putR X (pc := 40) (c := 9) (i := 11) (q := 587) (a := (A 7)) rfl (by first | assumption | omega) (by decide) rfl rfl (Or.inl rfl)  fl_Taking_63 dX8_judgeKind_40 ?_
          refine sp_iconst X (pc := 43) (v := 0) dX8_judgeKind_43 (by decide) ?_
          refine sp_ireturn X (pc := 44) dX8_judgeKind_44 rfl ⟨_, rfl, ?_⟩
          exact ⟨hI.pR (by decide) (fun x hx => by cases hx; rw [if_neg (by decide)]; exact hnt) (fun z => by omega), (sp_F.refl m A sp_Tj).pR (by unfold sp_Tj; decide) (by decide), rfl⟩
  · refine sp_bipush X (pc := 8) (v := (-20)) dX8_judgeKind_8 (by decide) ?_
    refine sp_ireturn X (pc := 10) dX8_judgeKind_10 rfl ⟨_, rfl, ?_⟩
    exact ⟨hI, sp_F.refl m A sp_Tj, rfl⟩
set_option maxRecDepth 20000 in
theorem c_Taking_judgeLimits (l : Launch) (G : sp_G) (m : sp_M) {P : Nat → Prop} {A : Nat → Nat} (hG : sp_GS G) (hI : sp_I G P A m) {e q ed9 s9 : Nat} (he : m.ty e = 4) (hq : m.fI 585 (A 7) = nI q) (hq7 : q ≤ 7) (hli9 : sp_li G m (A 9) ed9 s9) : sp_C l G M_Taking_judgeLimits 0 0 [.ref (A 7), .ref e] m (sp_oI fun v m' => (v = 0 → s9 + q + 1 ≤ 200) ∧ m' = m) := by
  refine sp_enter (lv0 := [(0, false, va_rf (some (A 7))), (1, false, va_rf (some e))]) "SafePaths$Taking" false rfl (by decide) (fun h => by cases h) (Nat.le_of_ble_eq_true rfl) rfl ?_
  intro w X
  have hS := hI.S
  have t5 := hS.k 5 11 (by decide)
  have t7 := hS.k 7 10 (by decide)
  have hs9 : s9 ≤ 100000 := by have := hli9.2.2.2.1; have := hli9.2.2.2.2.1; omega
  refine sp_aload_n X (pc := 0) (r := some (A 7)) dX8_judgeLimits_0 rfl rfl ?_
  refine sp_getfield X (pc := 1) (c := 9) (i := 9) (t := 0) (a := (A 7)) (v := .int (nI q)) rfl (by first | assumption | omega) (by decide) rfl (congrArg Value.int hq) fl_Taking_57 dX8_judgeLimits_1 ?_
  refine sp_iconst X (pc := 4) (v := 1) dX8_judgeLimits_4 (by decide) ?_
  refine sp_iadd X (pc := 5) dX8_judgeLimits_5 ?_
  rw [show ((nI q) + 1) = nI (q + 1) from nI_1 q]
  refine sp_istore_n X (pc := 6) (lv' := [(2, false, .int (nI (q + 1))), (0, false, va_rf (some (A 7))), (1, false, va_rf (some e))]) dX8_judgeLimits_6 rfl (by decide) rfl ?_
  refine sp_aload_n X (pc := 7) (r := some (A 7)) dX8_judgeLimits_7 rfl rfl ?_
  refine sp_getfield X (pc := 8) (c := 9) (i := 6) (t := 0) (a := (A 7)) (v := .int (m.fI 582 (A 7))) rfl (by first | assumption | omega) (by decide) rfl rfl fl_Taking_41 dX8_judgeLimits_8 ?_
  refine sp_iload_n X (pc := 11) (x := nI (q + 1)) dX8_judgeLimits_11 rfl rfl ?_
  refine sp_iadd X (pc := 12) dX8_judgeLimits_12 ?_
  refine sp_i2l X (pc := 13) dX8_judgeLimits_13 ?_
  refine sp_aload_n X (pc := 14) (r := some (A 7)) dX8_judgeLimits_14 rfl rfl ?_
  refine sp_getfield X (pc := 15) (c := 9) (i := 4) (t := 1) (a := (A 7)) (v := .long (m.fL 580 (A 7))) rfl (by first | assumption | omega) (by decide) rfl rfl fl_Taking_32 dX8_judgeLimits_15 ?_
  refine sp_lcmp X (pc := 18) dX8_judgeLimits_18 ?_
  refine sp_if_le X (pc := 19) (tgt := 25) dX8_judgeLimits_19 (by decide) (fun hb19 => ?_) (fun hb19 => ?_)
  · refine sp_aload_n X (pc := 25) (r := some e) dX8_judgeLimits_25 rfl rfl ?_
    refine sp_getfield X (pc := 26) (c := 3) (i := 0) (t := 0) (a := e) (v := .int (m.fI 192 e)) rfl (by first | assumption | omega) (by decide) rfl rfl fl_Taking_173 dX8_judgeLimits_26 ?_
    refine sp_iconst X (pc := 29) (v := 1) dX8_judgeLimits_29 (by decide) ?_
    refine sp_icmp_ne X (pc := 30) (tgt := 53) dX8_judgeLimits_30 (by decide) (fun hb30 => ?_) (fun hb30 => ?_)
    · refine sp_aload_n X (pc := 53) (r := some (A 7)) dX8_judgeLimits_53 rfl rfl ?_
      refine sp_getfield X (pc := 54) (c := 9) (i := 1) (t := 2) (a := (A 7)) (v := va_rf (some (A 5))) rfl (by first | assumption | omega) (by decide) rfl (congrArg va_rf (hS.p 577 7 5 (by decide))) fl_Taking_15 dX8_judgeLimits_54 ?_
      refine sp_callV X (pc := 57) (mc := 0) (ms := 0) (b := (A 5)) (c := 10) (r := (some (A 5))) (As := []) (rest := []) (c_Tree_nodeCount l G _ hI.tr) ok_Tree_nodeCount rfl t5 (by decide) rfl lk_Taking_204 rfl rfl (Nat.zero_le _) (Nat.le_of_ble_eq_true rfl) (Nat.le_of_ble_eq_true rfl) (Nat.zero_le _) (Nat.zero_le _) dX8_judgeLimits_57 (sp_kI fun v57 m57 hp57 => ?_)
      obtain ⟨hp57v, hp57⟩ := hp57; replace hp57 := (hp57).symm; subst hp57; replace hp57v := (hp57v).symm; subst hp57v
      rw [hli9.2.2.1]
      refine sp_iload_n X (pc := 60) (x := nI (q + 1)) dX8_judgeLimits_60 rfl rfl ?_
      refine sp_iadd X (pc := 61) dX8_judgeLimits_61 ?_
      rw [show ((nI s9) + (nI (q + 1))) = nI (s9 + (q + 1)) from nI_add s9 (q + 1)]
      refine sp_sipush X (pc := 62) (v := 200) dX8_judgeLimits_62 (by decide) ?_
      refine sp_icmp_le X (pc := 65) (tgt := 73) dX8_judgeLimits_65 (by decide) (fun hb65 => ?_) (fun hb65 => ?_)
      · have h200 : s9 + (q + 1) ≤ 200 := (nI_leI (b := 200) (by omega) (by omega)).mp hb65
        refine sp_iconst X (pc := 73) (v := 0) dX8_judgeLimits_73 (by decide) ?_
        refine sp_ireturn X (pc := 74) dX8_judgeLimits_74 rfl ⟨_, rfl, ?_⟩
        first | exact ⟨fun z => absurd z (by decide), rfl⟩ | exact ⟨fun _ => (by omega), rfl⟩
      · refine sp_bipush X (pc := 68) (v := (-6)) dX8_judgeLimits_68 (by decide) ?_
        refine sp_goto X (pc := 70) (tgt := 74) dX8_judgeLimits_70 (by decide) ?_
        refine sp_ireturn X (pc := 74) dX8_judgeLimits_74 rfl ⟨_, rfl, ?_⟩
        first | exact ⟨fun z => absurd z (by decide), rfl⟩ | exact ⟨fun _ => (by omega), rfl⟩
    · refine sp_aload_n X (pc := 33) (r := some (A 7)) dX8_judgeLimits_33 rfl rfl ?_
      refine sp_getfield X (pc := 34) (c := 9) (i := 7) (t := 1) (a := (A 7)) (v := .long (m.fL 583 (A 7))) rfl (by first | assumption | omega) (by decide) rfl rfl fl_Taking_45 dX8_judgeLimits_34 ?_
      refine sp_aload_n X (pc := 37) (r := some e) dX8_judgeLimits_37 rfl rfl ?_
      refine sp_getfield X (pc := 38) (c := 3) (i := 4) (t := 1) (a := e) (v := .long (m.fL 196 e)) rfl (by first | assumption | omega) (by decide) rfl rfl fl_Taking_202 dX8_judgeLimits_38 ?_
      refine sp_ladd X (pc := 41) dX8_judgeLimits_41 ?_
      refine sp_aload_n X (pc := 42) (r := some (A 7)) dX8_judgeLimits_42 rfl rfl ?_
      refine sp_getfield X (pc := 43) (c := 9) (i := 5) (t := 1) (a := (A 7)) (v := .long (m.fL 581 (A 7))) rfl (by first | assumption | omega) (by decide) rfl rfl fl_Taking_38 dX8_judgeLimits_43 ?_
      refine sp_lcmp X (pc := 46) dX8_judgeLimits_46 ?_
      refine sp_if_le X (pc := 47) (tgt := 53) dX8_judgeLimits_47 (by decide) (fun hb47 => ?_) (fun hb47 => ?_)
      · refine sp_aload_n X (pc := 53) (r := some (A 7)) dX8_judgeLimits_53 rfl rfl ?_
        refine sp_getfield X (pc := 54) (c := 9) (i := 1) (t := 2) (a := (A 7)) (v := va_rf (some (A 5))) rfl (by first | assumption | omega) (by decide) rfl (congrArg va_rf (hS.p 577 7 5 (by decide))) fl_Taking_15 dX8_judgeLimits_54 ?_
        refine sp_callV X (pc := 57) (mc := 0) (ms := 0) (b := (A 5)) (c := 10) (r := (some (A 5))) (As := []) (rest := []) (c_Tree_nodeCount l G _ hI.tr) ok_Tree_nodeCount rfl t5 (by decide) rfl lk_Taking_204 rfl rfl (Nat.zero_le _) (Nat.le_of_ble_eq_true rfl) (Nat.le_of_ble_eq_true rfl) (Nat.zero_le _) (Nat.zero_le _) dX8_judgeLimits_57 (sp_kI fun v57 m57 hp57 => ?_)
        obtain ⟨hp57v, hp57⟩ := hp57; replace hp57 := (hp57).symm; subst hp57; replace hp57v := (hp57v).symm; subst hp57v
        rw [hli9.2.2.1]
        refine sp_iload_n X (pc := 60) (x := nI (q + 1)) dX8_judgeLimits_60 rfl rfl ?_
        refine sp_iadd X (pc := 61) dX8_judgeLimits_61 ?_
        rw [show ((nI s9) + (nI (q + 1))) = nI (s9 + (q + 1)) from nI_add s9 (q + 1)]
        refine sp_sipush X (pc := 62) (v := 200) dX8_judgeLimits_62 (by decide) ?_
        refine sp_icmp_le X (pc := 65) (tgt := 73) dX8_judgeLimits_65 (by decide) (fun hb65 => ?_) (fun hb65 => ?_)
        · have h200 : s9 + (q + 1) ≤ 200 := (nI_leI (b := 200) (by omega) (by omega)).mp hb65
          refine sp_iconst X (pc := 73) (v := 0) dX8_judgeLimits_73 (by decide) ?_
          refine sp_ireturn X (pc := 74) dX8_judgeLimits_74 rfl ⟨_, rfl, ?_⟩
          first | exact ⟨fun z => absurd z (by decide), rfl⟩ | exact ⟨fun _ => (by omega), rfl⟩
        · refine sp_bipush X (pc := 68) (v := (-6)) dX8_judgeLimits_68 (by decide) ?_
          refine sp_goto X (pc := 70) (tgt := 74) dX8_judgeLimits_70 (by decide) ?_
          refine sp_ireturn X (pc := 74) dX8_judgeLimits_74 rfl ⟨_, rfl, ?_⟩
          first | exact ⟨fun z => absurd z (by decide), rfl⟩ | exact ⟨fun _ => (by omega), rfl⟩
      · refine sp_bipush X (pc := 50) (v := (-21)) dX8_judgeLimits_50 (by decide) ?_
        refine sp_ireturn X (pc := 52) dX8_judgeLimits_52 rfl ⟨_, rfl, ?_⟩
        exact ⟨fun z => absurd z (by decide), rfl⟩
  · refine sp_bipush X (pc := 22) (v := (-21)) dX8_judgeLimits_22 (by decide) ?_
    refine sp_ireturn X (pc := 24) dX8_judgeLimits_24 rfl ⟨_, rfl, ?_⟩
    exact ⟨fun z => absurd z (by decide), rfl⟩
set_option maxRecDepth 20000 in
theorem c_Taking_judge (l : Launch) (G : sp_G) (m : sp_M) {P : Nat → Prop} {A : Nat → Nat} (hG : sp_GS G) (hI : sp_I G P A m) {e ed9 s9 : Nat} (he : m.ty e = 4) (hli9 : sp_li G m (A 9) ed9 s9) : sp_C l G M_Taking_judge 6810 27240 [.ref (A 7), .ref e] m (sp_oI fun v m' => sp_I G P A m' ∧ sp_F m m' A sp_Tj ∧ (v = 0 → m'.fR 587 (A 7) = none → ∃ q, m'.fI 585 (A 7) = nI q ∧ q ≤ 7 ∧ s9 + q + 1 ≤ 200)) := by
  refine sp_enter (lv0 := [(0, false, va_rf (some (A 7))), (1, false, va_rf (some e))]) "SafePaths$Taking" false rfl (by decide) (fun h => by cases h) (Nat.le_of_ble_eq_true rfl) rfl ?_
  intro w X
  have hS := hI.S
  have t7 := hS.k 7 10 (by decide)
  have cut65 : ∀ (mm : sp_M) (x : Int32), sp_I G P A mm → sp_F m mm A sp_Tj → (x = 0 → mm.fR 587 (A 7) = none → ∃ q, mm.fI 585 (A 7) = nI q ∧ q ≤ 7 ∧ s9 + q + 1 ≤ 200) → w 0 0 mm 65 [(0, false, va_rf (some (A 7))), (1, false, va_rf (some e)), (2, false, .int x)] [] := by
    intro mm x I9 F9 h9
    refine sp_iload_n X (pc := 65) (x := x) dX8_judge_65 rfl rfl ?_
    refine sp_ireturn X (pc := 66) dX8_judge_66 rfl ⟨_, rfl, ?_⟩
    exact ⟨I9, F9, h9⟩
  have cut48 : ∀ (mm : sp_M) (x : Int32) (q : Nat), sp_I G P A mm → sp_F m mm A sp_Tj → mm.fI 585 (A 7) = nI q → q ≤ 7 → w 0 0 mm 48 [(0, false, va_rf (some (A 7))), (1, false, va_rf (some e)), (2, false, .int x)] [] := by
    intro mm x q I9 F9 hq9 hq7
    have u7 := I9.S.k 7 10 (by decide)
    refine sp_iload_n X (pc := 48) (x := x) dX8_judge_48 rfl rfl ?_
    refine sp_if_ne X (pc := 49) (tgt := 65) dX8_judge_49 (by decide) (fun hb49 => ?_) (fun hb49 => ?_)
    · first
        | exact cut65 mm v61 I9 F9 (fun z _ => ⟨q, hq9, hq7, hp61 z⟩)
        | exact cut65 mm x I9 F9 (fun z => absurd z hb49)
        | exact cut65 mm x I9 F9 (fun _ z => by rw [hb56] at z; cases z)
    · refine sp_aload_n X (pc := 52) (r := some (A 7)) dX8_judge_52 rfl rfl ?_
      refine sp_getfield X (pc := 53) (c := 9) (i := 11) (t := 2) (a := (A 7)) (v := va_rf (mm.fR 587 (A 7))) rfl u7 (by decide) rfl rfl fl_Taking_63 dX8_judge_53 ?_
      refine sp_ifnonnull X (pc := 56) (tgt := 65) dX8_judge_56 (by decide) (fun ra56 hb56 => ?_) (fun hb56 => ?_)
      · first
          | exact cut65 mm v61 I9 F9 (fun z _ => ⟨q, hq9, hq7, hp61 z⟩)
          | exact cut65 mm x I9 F9 (fun z => absurd z hb49)
          | exact cut65 mm x I9 F9 (fun _ z => by rw [hb56] at z; cases z)
      · refine sp_aload_n X (pc := 59) (r := some (A 7)) dX8_judge_59 rfl rfl ?_
        refine sp_aload_n X (pc := 60) (r := some e) dX8_judge_60 rfl rfl ?_
        refine sp_callV X (pc := 61) (mc := 0) (ms := 0) (b := (A 7)) (c := 9) (r := some (A 7)) (As := [va_rf (some e)]) (rest := []) (c_Taking_judgeLimits l G _ hG I9 (F9.ty hI.wf he (by decide)) hq9 hq7 (F9.li hI.wf hli9 (sp_tl.o hS sp_ix9 (by unfold sp_Tj; decide)))) ok_Taking_judgeLimits rfl u7 (by decide) rfl lk_Taking_124 rfl rfl (Nat.zero_le _) (Nat.le_of_ble_eq_true rfl) (Nat.le_of_ble_eq_true rfl) (Nat.zero_le _) (Nat.zero_le _) dX8_judge_61 (sp_kI fun v61 m61 hp61 => ?_)
        obtain ⟨hp61, hp61m⟩ := hp61; replace hp61m := (hp61m).symm; subst hp61m
        refine sp_istore_n X (pc := 64) (lv' := [(2, false, .int v61), (0, false, va_rf (some (A 7))), (1, false, va_rf (some e))]) dX8_judge_64 rfl (by decide) rfl ?_
        refine sp_pick X [1, 2, 0] (lv' := [(0, false, va_rf (some (A 7))), (1, false, va_rf (some e)), (2, false, .int v61)]) rfl ?_
        first
          | exact cut65 mm v61 I9 F9 (fun z _ => ⟨q, hq9, hq7, hp61 z⟩)
          | exact cut65 mm x I9 F9 (fun z => absurd z hb49)
          | exact cut65 mm x I9 F9 (fun _ z => by rw [hb56] at z; cases z)
  have cut38 : ∀ (mm : sp_M) (x : Int32) (q : Nat), sp_I G P A mm → sp_F m mm A sp_Tj → mm.fI 585 (A 7) = nI q → q ≤ 7 → w 6810 27240 mm 38 [(0, false, va_rf (some (A 7))), (1, false, va_rf (some e)), (2, false, .int x)] [] := by
    intro mm x q I9 F9 hq9 hq7
    have u7 := I9.S.k 7 10 (by decide)
    refine sp_iload_n X (pc := 38) (x := x) dX8_judge_38 rfl rfl ?_
    refine sp_if_ne X (pc := 39) (tgt := 48) dX8_judge_39 (by decide) (fun hb39 => ?_) (fun hb39 => ?_)
    · refine sp_less X (k' := 0) (n' := 0) (Nat.zero_le _) (Nat.zero_le _) ?_
      first | exact cut48 m44 v44 q k1 (F9.tr k2) (k3.trans hq9) hq7 | exact cut48 mm x q I9 F9 hq9 hq7
    · refine sp_aload_n X (pc := 42) (r := some (A 7)) dX8_judge_42 rfl rfl ?_
      refine sp_aload_n X (pc := 43) (r := some e) dX8_judge_43 rfl rfl ?_
      refine sp_callV X (pc := 44) (mc := 6810) (ms := 27240) (b := (A 7)) (c := 9) (r := some (A 7)) (As := [va_rf (some e)]) (rest := []) (c_Taking_judgeKind l G _ hG I9 (F9.ty hI.wf he (by decide))) ok_Taking_judgeKind rfl u7 (by decide) rfl lk_Taking_120 rfl rfl (Nat.zero_le _) (Nat.le_of_ble_eq_true rfl) (Nat.le_of_ble_eq_true rfl) (by omega) (by omega) dX8_judge_44 (sp_kI fun v44 m44 hp44 => ?_)
      obtain ⟨k1, k2, k3⟩ := hp44
      refine sp_istore_n X (pc := 47) (lv' := [(2, false, .int v44), (0, false, va_rf (some (A 7))), (1, false, va_rf (some e))]) dX8_judge_47 rfl (by decide) rfl ?_
      refine sp_pick X [1, 2, 0] (lv' := [(0, false, va_rf (some (A 7))), (1, false, va_rf (some e)), (2, false, .int v44)]) rfl ?_
      refine sp_less X (k' := 0) (n' := 0) (Nat.zero_le _) (Nat.zero_le _) ?_
      first | exact cut48 m44 v44 q k1 (F9.tr k2) (k3.trans hq9) hq7 | exact cut48 mm x q I9 F9 hq9 hq7
  refine sp_aload_n X (pc := 0) (r := some (A 7)) dX8_judge_0 rfl rfl ?_
  refine sp_callV X (pc := 1) (mc := 0) (ms := 0) (b := (A 7)) (c := 9) (r := some (A 7)) (As := []) (rest := []) (c_Taking_forgetLastJudgement l G _ hG hI) ok_Taking_forgetLastJudgement rfl t7 (by decide) rfl lk_Taking_94 rfl rfl (Nat.zero_le _) (Nat.le_of_ble_eq_true rfl) (Nat.le_of_ble_eq_true rfl) (Nat.zero_le _) (Nat.zero_le _) dX8_judge_1 (sp_kV fun m1 hp1 => ?_)
  obtain ⟨f1, f2, f3⟩ := hp1
  have he1 := f2.ty hI.wf he (by decide)
  have x7 := f1.S.k 7 10 (by decide)
  obtain ⟨p, o, hp1, hpt, hp8, ho1, hot⟩ := f1.J.2.2.2.2.2.2.1 e he1 (sp_e0 _)
  obtain ⟨L9, edp, n9, hptp⟩ := f1.J.pt hpt
  have hn8 : n9 ≤ 8 := by have := hptp.2.2.2.2.2.1; omega
  refine sp_aload_n X (pc := 4) (r := some (A 7)) dX8_judge_4 rfl rfl ?_
  refine sp_aload_n X (pc := 5) (r := some e) dX8_judge_5 rfl rfl ?_
  refine sp_getfield X (pc := 6) (c := 3) (i := 1) (t := 2) (a := e) (v := va_rf (some p)) rfl he1 (by decide) rfl (congrArg va_rf hp1) fl_Taking_97 dX8_judge_6 ?_
  refine sp_callV X (pc := 9) (mc := 0) (ms := 0) (b := (A 7)) (c := 9) (r := some (A 7)) (As := [va_rf (some p)]) (rest := []) (c_Taking_judgeWay l G _ hG f1 hptp hn8 f3) ok_Taking_judgeWay rfl x7 (by decide) rfl lk_Taking_103 rfl rfl (Nat.zero_le _) (Nat.le_of_ble_eq_true rfl) (Nat.le_of_ble_eq_true rfl) (Nat.zero_le _) (Nat.zero_le _) dX8_judge_9 (sp_kI fun v9 m9 hp9 => ?_)
  obtain ⟨g1, g2, q', g3, g4⟩ := hp9
  have g5 := f2.tr g2
  have he2 := g5.ty hI.wf he (by decide)
  have hpt2 := g2.pt f1 g1 hptp
  have hp9 : m9.fR 193 e = some p := by rw [g2.R (f1.wf e (by omega)) (by decide)]; exact hp1
  have y7 := g1.S.k 7 10 (by decide)
  refine sp_istore_n X (pc := 12) (lv' := [(2, false, .int v9), (0, false, va_rf (some (A 7))), (1, false, va_rf (some e))]) dX8_judge_12 rfl (by decide) rfl ?_
  refine sp_iload_n X (pc := 13) (x := v9) dX8_judge_13 rfl rfl ?_
  refine sp_if_ne X (pc := 14) (tgt := 38) dX8_judge_14 (by decide) (fun hb14 => ?_) (fun hb14 => ?_)
  · refine sp_pick X [1, 2, 0] (lv' := [(0, false, va_rf (some (A 7))), (1, false, va_rf (some e)), (2, false, .int v9)]) rfl ?_
    first | exact cut38 m9 v9 q' g1 g5 g3 g4 | exact cut38 m34 v34 q' j1 (g5.tr j2) (j3.trans g3) g4
  · refine sp_aload_n X (pc := 17) (r := some (A 7)) dX8_judge_17 rfl rfl ?_
    refine sp_aload_n X (pc := 18) (r := some e) dX8_judge_18 rfl rfl ?_
    refine sp_getfield X (pc := 19) (c := 3) (i := 1) (t := 2) (a := e) (v := va_rf (some p)) rfl he2 (by decide) rfl (congrArg va_rf hp9) fl_Taking_97 dX8_judge_19 ?_
    refine sp_aload_n X (pc := 22) (r := some e) dX8_judge_22 rfl rfl ?_
    refine sp_getfield X (pc := 23) (c := 3) (i := 1) (t := 2) (a := e) (v := va_rf (some p)) rfl he2 (by decide) rfl (congrArg va_rf hp9) fl_Taking_97 dX8_judge_23 ?_
    refine sp_callV X (pc := 26) (mc := 0) (ms := 0) (b := p) (c := 7) (r := (some p)) (As := []) (rest := [va_rf (some p), va_rf (some (A 7))]) (c_Parted_count l G _ hpt2) ok_Parted_count rfl hpt2.1 (by decide) rfl lk_Taking_107 rfl rfl (by simp [sp_cat_rf, sp_cat_i, sp_cat_l]) (Nat.le_of_ble_eq_true rfl) (Nat.le_of_ble_eq_true rfl) (Nat.zero_le _) (Nat.zero_le _) dX8_judge_26 (sp_kI fun v26 m26 hp26 => ?_)
    obtain ⟨hp26v, hp26⟩ := hp26; replace hp26 := (hp26).symm; subst hp26; replace hp26v := (hp26v).symm; subst hp26v
    refine sp_iconst X (pc := 29) (v := 1) dX8_judge_29 (by decide) ?_
    refine sp_isub X (pc := 30) dX8_judge_30 ?_
    refine sp_callV X (pc := 31) (mc := 0) (ms := 0) (b := p) (c := 7) (r := (some p)) (As := [.int ((nI n9) - 1)]) (rest := [va_rf (some (A 7))]) (c_Parted_at l G _ hpt2) ok_Parted_at rfl hpt2.1 (by decide) rfl lk_Taking_112 rfl rfl (by simp [sp_cat_rf, sp_cat_i, sp_cat_l]) (Nat.le_of_ble_eq_true rfl) (Nat.le_of_ble_eq_true rfl) (Nat.zero_le _) (Nat.zero_le _) dX8_judge_31 (sp_kR fun v31 m31 hp31 => ?_)
    obtain ⟨hp31, hp31m⟩ := hp31; replace hp31m := (hp31m).symm; subst hp31m
    obtain ⟨nm, rfl, hnmt, -⟩ := hp31
    refine sp_callV X (pc := 34) (mc := 0) (ms := 0) (b := (A 7)) (c := 9) (r := some (A 7)) (As := [va_rf (some nm)]) (rest := []) (c_Taking_judgeLast l G _ hG g1 hnmt) ok_Taking_judgeLast rfl y7 (by decide) rfl lk_Taking_116 rfl rfl (Nat.zero_le _) (Nat.le_of_ble_eq_true rfl) (Nat.le_of_ble_eq_true rfl) (Nat.zero_le _) (Nat.zero_le _) dX8_judge_34 (sp_kI fun v34 m34 hp34 => ?_)
    obtain ⟨j1, j2, j3⟩ := hp34
    refine sp_istore_n X (pc := 37) (lv' := [(2, false, .int v34), (0, false, va_rf (some (A 7))), (1, false, va_rf (some e))]) dX8_judge_37 rfl (by decide) rfl ?_
    refine sp_pick X [1, 2, 0] (lv' := [(0, false, va_rf (some (A 7))), (1, false, va_rf (some e)), (2, false, .int v34)]) rfl ?_
    first | exact cut38 m9 v9 q' g1 g5 g3 g4 | exact cut38 m34 v34 q' j1 (g5.tr j2) (j3.trans g3) g4
