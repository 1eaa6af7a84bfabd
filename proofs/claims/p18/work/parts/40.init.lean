set_option maxRecDepth 20000 in
theorem c_Walk_init (l : Launch) (G : sp_G) (m : sp_M) {P : Nat → Prop} {m0 : sp_M} (hG : sp_GS G) (hJ : sp_J G P sp_E0 m) (hwf : sp_wf m) (hP : ∀ a, P a → a < m.nx) (hfx : sp_fx m0 m sp_w0) {wk t r : Nat} (hw : m.ty wk = 12) (hw0 : m0.nx ≤ wk) (ht : m.ty t = 11) (hr : m.fR 644 t = some r) (hrt : m.ty r = 6) : sp_C l G M_Walk_init 1 3 [.ref wk, .ref t] m (sp_oV fun m' => ∃ a15, sp_J G P sp_E0 m' ∧ sp_wf m' ∧ sp_fx m0 m' sp_w0 ∧ m'.fR 704 wk = some t ∧ m'.fR 705 wk = some a15 ∧ m'.fR 706 wk = some r ∧ m'.ty a15 = 1 ∧ m'.ln a15 = 5 ∧ sp_li G m' a15 (G.sk 3) 0 ∧ m0.nx ≤ a15 ∧ m'.ty wk = 12) := by
  refine sp_enter (lv0 := [(0, false, va_rf (some wk)), (1, false, va_rf (some t))]) "SafePaths$Walk" true rfl (by decide) (fun _ => rfl) (Nat.le_of_ble_eq_true rfl) rfl ?_
  intro w X
  refine sp_aload_n X (pc := 0) (r := some wk) dX10_init_0 rfl rfl ?_
  refine sp_objInit X (pc := 1) (a := wk) rfl lk_Walk_3 oi_1 oi_2 (Nat.le_of_ble_eq_true rfl) (Nat.le_of_ble_eq_true rfl) dX10_init_1 ?_
  refine sp_aload_n X (pc := 4) (r := some wk) dX10_init_4 rfl rfl ?_
  refine sp_aload_n X (pc := 5) (r := some t) dX10_init_5 rfl rfl ?_
  refine sp_putR X (pc := 6) (c := 11) (i := 0) (q := 704) (a := wk) rfl (by first | assumption | omega) (by decide) rfl rfl (Or.inr ⟨rfl, rfl, rfl⟩)  fl_Walk_9 dX10_init_6 ?_
  obtain ⟨c1, hc1⟩ : ∃ c, c = m.pR 704 wk (some t) := ⟨_, rfl⟩
  rw [← hc1]
  have Jc1 : sp_J G P (sp_E0) c1 := by rw [hc1]; exact hJ.pR (Or.inl (by unfold sp_fk; omega))
  have wc1 : sp_wf c1 := by rw [hc1]; exact hwf
  have fc1 : sp_fx m0 c1 sp_w0 := by rw [hc1]; exact hfx.pR (Or.inr hw0)
  have tw_1 : c1.ty wk = 12 := by rw [hc1]; exact hw
  have tt_1 : c1.ty t = 11 := by rw [hc1]; exact ht
  have rr_1 : c1.fR 644 t = some r := by rw [hc1, sp_pR_fR, if_neg (fun z => absurd z.1 (by decide))]; exact hr
  have tr_1 : c1.ty r = 6 := by rw [hc1]; exact hrt
  have nnc1 : m.nx ≤ c1.nx := by rw [hc1]; exact (Nat.le_refl m.nx)
  have p704_wk_1 : c1.fR 704 wk = (some t) := by rw [hc1, sp_pR_fR, if_pos ⟨rfl, rfl⟩]
  clear hc1
  refine sp_aload_n X (pc := 9) (r := some wk) dX10_init_9 rfl rfl ?_
  obtain ⟨a15, ha15⟩ : ∃ a, a = c1.nx := ⟨_, rfl⟩
  refine sp_new X (pc := 10) (c := 0) (N := 3) (by decide) rfl cl_Walk_15 in_0 it_0 (by decide) (by decide) dX10_init_10 ?_
  rw [← ha15]
  refine sp_ghost X a15 5 (by rw [ha15, sp_newO_ty, if_pos rfl]; decide) (by rw [ha15, sp_newO_ty, if_pos rfl]; decide) ?_
  refine sp_dup X (pc := 13) dX10_init_13 (sp_cat_rf _) ?_
  refine sp_callI X (pc := 14) (mc := 0) (ms := 0) (b := a15) (r := some a15) (As := []) (rest := [va_rf (some a15), va_rf (some wk)]) (c_List_init l G _ (o := a15) hG (by show (c1.newO 0).ty a15 = _; rw [ha15, sp_newO_ty, if_pos rfl])) ok_List_init rfl rfl lk_Walk_17 rfl rfl (by simp [sp_cat_rf, sp_cat_i, sp_cat_l]) (Nat.le_of_ble_eq_true rfl) (Nat.le_of_ble_eq_true rfl) (Nat.zero_le _) (Nat.zero_le _) dX10_init_14 (sp_kV fun m14 hp14 => ?_)
  subst hp14
  obtain ⟨c2, hc2⟩ : ∃ c, c = (((c1.newO 0).gh a15 5).pI 0 a15 0).pR 1 a15 (some (G.sk 3)) := ⟨_, rfl⟩
  rw [show (((c1.newO 0).gh a15 5).pI 0 a15 0).pR 1 a15 (some (G.sk 3)) = c2 from hc2.symm]
  have jc2 : sp_J G P (sp_E1 (sp_E0) a15) c2 := by
    subst ha15; rw [hc2]
    exact ((Jc1.newO wc1 0 5).pI (by decide)).pR (Or.inr (Or.inr rfl))
  have tc2 : c2.ty a15 = 1 := by
    subst ha15; rw [hc2]
    show (c1.newO 0).ty c1.nx = 1
    rw [sp_newO_ty, if_pos rfl]
  have lc2 : c2.ln a15 = 5 := by
    subst ha15; rw [hc2]
    show (if c1.nx = c1.nx then 5 else _) = _
    rw [if_pos rfl]
  have ec2 : c2.fR 1 a15 = some (G.sk 3) := by rw [hc2, sp_pR_fR, if_pos ⟨rfl, rfl⟩]
  have sc2 : c2.fI 2 a15 = 0 := by
    subst ha15; rw [hc2]
    show (((c1.newO 0).gh c1.nx 5).pI 0 c1.nx 0).fI 2 c1.nx = 0
    rw [sp_pI_fI, if_neg (by simp)]
    show (c1.newO 0).fI 2 c1.nx = 0
    rw [sp_newO_fI, if_pos rfl]
  obtain ⟨Jc2, Lc2⟩ := jc2.list tc2 lc2 (by unfold sp_rl; omega) ec2 sc2
  have wc2 : sp_wf c2 := by rw [hc2]; exact wc1.newO 0
  have xc2 : sp_fx c1 c2 sp_w0 := by
    subst ha15; rw [hc2]
    exact (((((sp_fx.refl c1 sp_w0).newO 0).gh (Nat.le_refl _)).pI (Or.inr (Nat.le_refl _))).pR (Or.inr (Nat.le_refl _)))
  clear hc2 jc2 ec2 sc2
  have ga15 : m0.nx ≤ a15 := by rw [ha15]; exact fc1.1
  have tw_2 := xc2.ty wc1 tw_1 (by decide)
  have tt_2 := xc2.ty wc1 tt_1 (by decide)
  have rr_2 := (xc2.2.2.2.2.1 644 t (wc1 t (by rw [tt_1]; decide)) (fun z => z)).trans rr_1
  have tr_2 := xc2.ty wc1 tr_1 (by decide)
  have p704_wk_2 := (xc2.2.2.2.2.1 704 wk (wc1 wk (by rw [tw_1]; decide)) (fun z => z)).trans p704_wk_1
  have fc2 : sp_fx m0 c2 sp_w0 := fc1.tr0 xc2
  have nnc2 : m.nx ≤ c2.nx := Nat.le_trans nnc1 xc2.1
  clear tw_1 tt_1 rr_1 tr_1 p704_wk_1
  refine sp_putR X (pc := 17) (c := 11) (i := 1) (q := 705) (a := wk) rfl (by first | assumption | omega) (by decide) rfl rfl (Or.inr ⟨rfl, rfl, rfl⟩)  fl_Walk_18 dX10_init_17 ?_
  obtain ⟨c3, hc3⟩ : ∃ c, c = c2.pR 705 wk (some a15) := ⟨_, rfl⟩
  rw [← hc3]
  have Jc3 : sp_J G P (sp_E0) c3 := by rw [hc3]; exact Jc2.pR (Or.inl (by unfold sp_fk; omega))
  have wc3 : sp_wf c3 := by rw [hc3]; exact wc2
  have fc3 : sp_fx m0 c3 sp_w0 := by rw [hc3]; exact fc2.pR (Or.inr hw0)
  have tw_3 : c3.ty wk = 12 := by rw [hc3]; exact tw_2
  have tt_3 : c3.ty t = 11 := by rw [hc3]; exact tt_2
  have rr_3 : c3.fR 644 t = some r := by rw [hc3, sp_pR_fR, if_neg (fun z => absurd z.1 (by decide))]; exact rr_2
  have tr_3 : c3.ty r = 6 := by rw [hc3]; exact tr_2
  have p704_wk_3 : c3.fR 704 wk = (some t) := by rw [hc3, sp_pR_fR, if_neg (fun z => absurd z.1 (by decide))]; exact p704_wk_2
  have ta15_3 : c3.ty a15 = 1 := by rw [hc3]; exact tc2
  have la15_3 : c3.ln a15 = 5 := by rw [hc3]; exact lc2
  have La15_3 : sp_li G c3 a15 (G.sk 3) 0 := by rw [hc3]; exact Lc2.pR (by decide)
  have ga15_3 : m0.nx ≤ a15 := ga15
  have nnc3 : m.nx ≤ c3.nx := by rw [hc3]; exact nnc2
  have p705_wk_3 : c3.fR 705 wk = (some a15) := by rw [hc3, sp_pR_fR, if_pos ⟨rfl, rfl⟩]
  clear hc3
  clear tw_2 tt_2 rr_2 tr_2 p704_wk_2
  refine sp_aload_n X (pc := 20) (r := some wk) dX10_init_20 rfl rfl ?_
  refine sp_aload_n X (pc := 21) (r := some t) dX10_init_21 rfl rfl ?_
  refine sp_getfield X (pc := 22) (c := 10) (i := 4) (t := 2) (a := t) (v := va_rf (some r)) rfl tt_3 (by decide) rfl (congrArg va_rf rr_3) fl_Walk_22 dX10_init_22 ?_
  refine sp_putR X (pc := 25) (c := 11) (i := 2) (q := 706) (a := wk) rfl (by first | assumption | omega) (by decide) rfl rfl (Or.inl rfl)  fl_Walk_28 dX10_init_25 ?_
  obtain ⟨c4, hc4⟩ : ∃ c, c = c3.pR 706 wk (some r) := ⟨_, rfl⟩
  rw [← hc4]
  have Jc4 : sp_J G P (sp_E0) c4 := by rw [hc4]; exact Jc3.pR (Or.inl (by unfold sp_fk; omega))
  have wc4 : sp_wf c4 := by rw [hc4]; exact wc3
  have fc4 : sp_fx m0 c4 sp_w0 := by rw [hc4]; exact fc3.pR (Or.inr hw0)
  have tw_4 : c4.ty wk = 12 := by rw [hc4]; exact tw_3
  have tt_4 : c4.ty t = 11 := by rw [hc4]; exact tt_3
  have rr_4 : c4.fR 644 t = some r := by rw [hc4, sp_pR_fR, if_neg (fun z => absurd z.1 (by decide))]; exact rr_3
  have tr_4 : c4.ty r = 6 := by rw [hc4]; exact tr_3
  have p704_wk_4 : c4.fR 704 wk = (some t) := by rw [hc4, sp_pR_fR, if_neg (fun z => absurd z.1 (by decide))]; exact p704_wk_3
  have ta15_4 : c4.ty a15 = 1 := by rw [hc4]; exact ta15_3
  have la15_4 : c4.ln a15 = 5 := by rw [hc4]; exact la15_3
  have La15_4 : sp_li G c4 a15 (G.sk 3) 0 := by rw [hc4]; exact La15_3.pR (by decide)
  have ga15_4 : m0.nx ≤ a15 := ga15_3
  have p705_wk_4 : c4.fR 705 wk = (some a15) := by rw [hc4, sp_pR_fR, if_neg (fun z => absurd z.1 (by decide))]; exact p705_wk_3
  have nnc4 : m.nx ≤ c4.nx := by rw [hc4]; exact nnc3
  have p706_wk_4 : c4.fR 706 wk = (some r) := by rw [hc4, sp_pR_fR, if_pos ⟨rfl, rfl⟩]
  clear hc4
  clear tw_3 tt_3 rr_3 tr_3 p704_wk_3 ta15_3 la15_3 La15_3 ga15_3 p705_wk_3
  refine sp_aload_n X (pc := 28) (r := some wk) dX10_init_28 rfl rfl ?_
  refine sp_iconst X (pc := 29) (v := 0) dX10_init_29 (by decide) ?_
  refine sp_putI X (pc := 30) (c := 11) (i := 3) (q := 707) (a := wk) rfl (by first | assumption | omega) (by decide) rfl rfl (Or.inl rfl) ⟨rfl, rfl⟩ fl_Walk_31 dX10_init_30 ?_
  obtain ⟨c5, hc5⟩ : ∃ c, c = c4.pI 707 wk 0 := ⟨_, rfl⟩
  rw [← hc5]
  have Jc5 : sp_J G P (sp_E0) c5 := by rw [hc5]; exact Jc4.pI (by decide)
  have wc5 : sp_wf c5 := by rw [hc5]; exact wc4
  have fc5 : sp_fx m0 c5 sp_w0 := by rw [hc5]; exact fc4.pI (Or.inr hw0)
  have tw_5 : c5.ty wk = 12 := by rw [hc5]; exact tw_4
  have tt_5 : c5.ty t = 11 := by rw [hc5]; exact tt_4
  have rr_5 : c5.fR 644 t = some r := by rw [hc5]; exact rr_4
  have tr_5 : c5.ty r = 6 := by rw [hc5]; exact tr_4
  have p704_wk_5 : c5.fR 704 wk = (some t) := by rw [hc5]; exact p704_wk_4
  have ta15_5 : c5.ty a15 = 1 := by rw [hc5]; exact ta15_4
  have la15_5 : c5.ln a15 = 5 := by rw [hc5]; exact la15_4
  have La15_5 : sp_li G c5 a15 (G.sk 3) 0 := by rw [hc5]; exact La15_4.pI (by decide)
  have ga15_5 : m0.nx ≤ a15 := ga15_4
  have p705_wk_5 : c5.fR 705 wk = (some a15) := by rw [hc5]; exact p705_wk_4
  have p706_wk_5 : c5.fR 706 wk = (some r) := by rw [hc5]; exact p706_wk_4
  have nnc5 : m.nx ≤ c5.nx := by rw [hc5]; exact nnc4
  have p707_wk_5 : c5.fI 707 wk = 0 := by rw [hc5, sp_pI_fI, if_pos ⟨rfl, rfl⟩]
  clear hc5
  clear tw_4 tt_4 rr_4 tr_4 p704_wk_4 ta15_4 la15_4 La15_4 ga15_4 p705_wk_4 p706_wk_4
  refine sp_aload_n X (pc := 33) (r := some wk) dX10_init_33 rfl rfl ?_
  refine sp_iconst X (pc := 34) (v := 0) dX10_init_34 (by decide) ?_
  refine sp_putI X (pc := 35) (c := 11) (i := 4) (q := 708) (a := wk) rfl (by first | assumption | omega) (by decide) rfl rfl (Or.inl rfl) ⟨rfl, rfl⟩ fl_Walk_35 dX10_init_35 ?_
  obtain ⟨c6, hc6⟩ : ∃ c, c = c5.pI 708 wk 0 := ⟨_, rfl⟩
  rw [← hc6]
  have Jc6 : sp_J G P (sp_E0) c6 := by rw [hc6]; exact Jc5.pI (by decide)
  have wc6 : sp_wf c6 := by rw [hc6]; exact wc5
  have fc6 : sp_fx m0 c6 sp_w0 := by rw [hc6]; exact fc5.pI (Or.inr hw0)
  have tw_6 : c6.ty wk = 12 := by rw [hc6]; exact tw_5
  have tt_6 : c6.ty t = 11 := by rw [hc6]; exact tt_5
  have rr_6 : c6.fR 644 t = some r := by rw [hc6]; exact rr_5
  have tr_6 : c6.ty r = 6 := by rw [hc6]; exact tr_5
  have p704_wk_6 : c6.fR 704 wk = (some t) := by rw [hc6]; exact p704_wk_5
  have ta15_6 : c6.ty a15 = 1 := by rw [hc6]; exact ta15_5
  have la15_6 : c6.ln a15 = 5 := by rw [hc6]; exact la15_5
  have La15_6 : sp_li G c6 a15 (G.sk 3) 0 := by rw [hc6]; exact La15_5.pI (by decide)
  have ga15_6 : m0.nx ≤ a15 := ga15_5
  have p705_wk_6 : c6.fR 705 wk = (some a15) := by rw [hc6]; exact p705_wk_5
  have p706_wk_6 : c6.fR 706 wk = (some r) := by rw [hc6]; exact p706_wk_5
  have p707_wk_6 : c6.fI 707 wk = 0 := by rw [hc6, sp_pI_fI, if_neg (fun z => absurd z.1 (by decide))]; exact p707_wk_5
  have nnc6 : m.nx ≤ c6.nx := by rw [hc6]; exact nnc5
  have p708_wk_6 : c6.fI 708 wk = 0 := by rw [hc6, sp_pI_fI, if_pos ⟨rfl, rfl⟩]
  clear hc6
  clear tw_5 tt_5 rr_5 tr_5 p704_wk_5 ta15_5 la15_5 La15_5 ga15_5 p705_wk_5 p706_wk_5 p707_wk_5
  refine sp_return X (pc := 38) dX10_init_38 ⟨rfl, ?_⟩
  exact ⟨a15, Jc6, wc6, fc6, p704_wk_6, p705_wk_6, p706_wk_6, ta15_6, la15_6, La15_6, ga15_6, tw_6⟩
set_option maxRecDepth 20000 in
theorem c_Taking_init (l : Launch) (G : sp_G) (m : sp_M) {P : Nat → Prop} {m0 : sp_M} (hG : sp_GS G) (hJ : sp_J G P sp_E0 m) (hwf : sp_wf m) (hP : ∀ a, P a → a < m.nx) (hfx : sp_fx m0 m sp_w0) {tk rl t wk r : Nat} (hk : m.ty tk = 10) (hk0 : m0.nx ≤ tk) (ht : m.ty t = 11) (hr : m.fR 644 t = some r) (hrt : m.ty r = 6) : sp_C l G M_Taking_init 1 3 [.ref tk, .ref rl, .ref t, .ref wk] m (sp_oV fun m' => ∃ a16, sp_J G P sp_E0 m' ∧ sp_wf m' ∧ sp_fx m0 m' sp_w0 ∧ m'.fR 576 tk = some rl ∧ m'.fR 577 tk = some t ∧ m'.fR 578 tk = some wk ∧ m'.fR 579 tk = some a16 ∧ m'.fR 584 tk = some r ∧ m'.fR 586 tk = none ∧ m'.fR 587 tk = none ∧ m'.fR 588 tk = none ∧ m'.fI 589 tk = 0 ∧ m'.fL 580 tk = 1000000 ∧ m'.fL 581 tk = 4611686018427387904 ∧ m'.fI 582 tk = 0 ∧ m'.fL 583 tk = 0 ∧ m'.ty a16 = 1 ∧ m'.ln a16 = 7 ∧ sp_li G m' a16 (G.sk 3) 0 ∧ m0.nx ≤ a16 ∧ m'.ty tk = 10) := by
  refine sp_enter (lv0 := [(0, false, va_rf (some tk)), (1, false, va_rf (some rl)), (2, false, va_rf (some t)), (3, false, va_rf (some wk))]) "SafePaths$Taking" true rfl (by decide) (fun _ => rfl) (Nat.le_of_ble_eq_true rfl) rfl ?_
  intro w X
  refine sp_aload_n X (pc := 0) (r := some tk) dX8_init_0 rfl rfl ?_
  refine sp_objInit X (pc := 1) (a := tk) rfl lk_Taking_3 oi_1 oi_2 (Nat.le_of_ble_eq_true rfl) (Nat.le_of_ble_eq_true rfl) dX8_init_1 ?_
  refine sp_aload_n X (pc := 4) (r := some tk) dX8_init_4 rfl rfl ?_
  refine sp_aload_n X (pc := 5) (r := some rl) dX8_init_5 rfl rfl ?_
  refine sp_putR X (pc := 6) (c := 9) (i := 0) (q := 576) (a := tk) rfl hk (by decide) rfl rfl (Or.inr ⟨rfl, rfl, rfl⟩)  fl_Taking_9 dX8_init_6 ?_
  obtain ⟨c1, hc1⟩ : ∃ c, c = m.pR 576 tk (some rl) := ⟨_, rfl⟩
  rw [← hc1]
  have Jc1 : sp_J G P (sp_E0) c1 := by rw [hc1]; exact hJ.pR (Or.inl (by unfold sp_fk; omega))
  have wc1 : sp_wf c1 := by rw [hc1]; exact hwf
  have fc1 : sp_fx m0 c1 sp_w0 := by rw [hc1]; exact hfx.pR (Or.inr hk0)
  have tk_1 : c1.ty tk = 10 := by rw [hc1]; exact hk
  have tt_1 : c1.ty t = 11 := by rw [hc1]; exact ht
  have rr_1 : c1.fR 644 t = some r := by rw [hc1, sp_pR_fR, if_neg (fun z => absurd z.1 (by decide))]; exact hr
  have tr_1 : c1.ty r = 6 := by rw [hc1]; exact hrt
  have nnc1 : m.nx ≤ c1.nx := by rw [hc1]; exact (Nat.le_refl m.nx)
  have p576_tk_1 : c1.fR 576 tk = (some rl) := by rw [hc1, sp_pR_fR, if_pos ⟨rfl, rfl⟩]
  clear hc1
  refine sp_aload_n X (pc := 9) (r := some tk) dX8_init_9 rfl rfl ?_
  refine sp_aload_n X (pc := 10) (r := some t) dX8_init_10 rfl rfl ?_
  refine sp_putR X (pc := 11) (c := 9) (i := 1) (q := 577) (a := tk) rfl tk_1 (by decide) rfl rfl (Or.inr ⟨rfl, rfl, rfl⟩)  fl_Taking_15 dX8_init_11 ?_
  obtain ⟨c2, hc2⟩ : ∃ c, c = c1.pR 577 tk (some t) := ⟨_, rfl⟩
  rw [← hc2]
  have Jc2 : sp_J G P (sp_E0) c2 := by rw [hc2]; exact Jc1.pR (Or.inl (by unfold sp_fk; omega))
  have wc2 : sp_wf c2 := by rw [hc2]; exact wc1
  have fc2 : sp_fx m0 c2 sp_w0 := by rw [hc2]; exact fc1.pR (Or.inr hk0)
  have tk_2 : c2.ty tk = 10 := by rw [hc2]; exact tk_1
  have tt_2 : c2.ty t = 11 := by rw [hc2]; exact tt_1
  have rr_2 : c2.fR 644 t = some r := by rw [hc2, sp_pR_fR, if_neg (fun z => absurd z.1 (by decide))]; exact rr_1
  have tr_2 : c2.ty r = 6 := by rw [hc2]; exact tr_1
  have p576_tk_2 : c2.fR 576 tk = (some rl) := by rw [hc2, sp_pR_fR, if_neg (fun z => absurd z.1 (by decide))]; exact p576_tk_1
  have nnc2 : m.nx ≤ c2.nx := by rw [hc2]; exact nnc1
  have p577_tk_2 : c2.fR 577 tk = (some t) := by rw [hc2, sp_pR_fR, if_pos ⟨rfl, rfl⟩]
  clear hc2
  clear tk_1 tt_1 rr_1 tr_1 p576_tk_1
  refine sp_aload_n X (pc := 14) (r := some tk) dX8_init_14 rfl rfl ?_
  refine sp_aload_n X (pc := 15) (r := some wk) dX8_init_15 rfl rfl ?_
  refine sp_putR X (pc := 16) (c := 9) (i := 2) (q := 578) (a := tk) rfl tk_2 (by decide) rfl rfl (Or.inr ⟨rfl, rfl, rfl⟩)  fl_Taking_19 dX8_init_16 ?_
  obtain ⟨c3, hc3⟩ : ∃ c, c = c2.pR 578 tk (some wk) := ⟨_, rfl⟩
  rw [← hc3]
  have Jc3 : sp_J G P (sp_E0) c3 := by rw [hc3]; exact Jc2.pR (Or.inl (by unfold sp_fk; omega))
  have wc3 : sp_wf c3 := by rw [hc3]; exact wc2
  have fc3 : sp_fx m0 c3 sp_w0 := by rw [hc3]; exact fc2.pR (Or.inr hk0)
  have tk_3 : c3.ty tk = 10 := by rw [hc3]; exact tk_2
  have tt_3 : c3.ty t = 11 := by rw [hc3]; exact tt_2
  have rr_3 : c3.fR 644 t = some r := by rw [hc3, sp_pR_fR, if_neg (fun z => absurd z.1 (by decide))]; exact rr_2
  have tr_3 : c3.ty r = 6 := by rw [hc3]; exact tr_2
  have p576_tk_3 : c3.fR 576 tk = (some rl) := by rw [hc3, sp_pR_fR, if_neg (fun z => absurd z.1 (by decide))]; exact p576_tk_2
  have p577_tk_3 : c3.fR 577 tk = (some t) := by rw [hc3, sp_pR_fR, if_neg (fun z => absurd z.1 (by decide))]; exact p577_tk_2
  have nnc3 : m.nx ≤ c3.nx := by rw [hc3]; exact nnc2
  have p578_tk_3 : c3.fR 578 tk = (some wk) := by rw [hc3, sp_pR_fR, if_pos ⟨rfl, rfl⟩]
  clear hc3
  clear tk_2 tt_2 rr_2 tr_2 p576_tk_2 p577_tk_2
  refine sp_aload_n X (pc := 19) (r := some tk) dX8_init_19 rfl rfl ?_
  obtain ⟨a16, ha16⟩ : ∃ a, a = c3.nx := ⟨_, rfl⟩
  refine sp_new X (pc := 20) (c := 0) (N := 3) (by decide) rfl cl_Taking_23 in_0 it_0 (by decide) (by decide) dX8_init_20 ?_
  rw [← ha16]
  refine sp_ghost X a16 7 (by rw [ha16, sp_newO_ty, if_pos rfl]; decide) (by rw [ha16, sp_newO_ty, if_pos rfl]; decide) ?_
  refine sp_dup X (pc := 23) dX8_init_23 (sp_cat_rf _) ?_
  refine sp_callI X (pc := 24) (mc := 0) (ms := 0) (b := a16) (r := some a16) (As := []) (rest := [va_rf (some a16), va_rf (some tk)]) (c_List_init l G _ (o := a16) hG (by show (c3.newO 0).ty a16 = _; rw [ha16, sp_newO_ty, if_pos rfl])) ok_List_init rfl rfl lk_Taking_25 rfl rfl (by simp [sp_cat_rf, sp_cat_i, sp_cat_l]) (Nat.le_of_ble_eq_true rfl) (Nat.le_of_ble_eq_true rfl) (Nat.zero_le _) (Nat.zero_le _) dX8_init_24 (sp_kV fun m24 hp24 => ?_)
  subst hp24
  obtain ⟨c4, hc4⟩ : ∃ c, c = (((c3.newO 0).gh a16 7).pI 0 a16 0).pR 1 a16 (some (G.sk 3)) := ⟨_, rfl⟩
  rw [show (((c3.newO 0).gh a16 7).pI 0 a16 0).pR 1 a16 (some (G.sk 3)) = c4 from hc4.symm]
  have jc4 : sp_J G P (sp_E1 (sp_E0) a16) c4 := by
    subst ha16; rw [hc4]
    exact ((Jc3.newO wc3 0 7).pI (by decide)).pR (Or.inr (Or.inr rfl))
  have tc4 : c4.ty a16 = 1 := by
    subst ha16; rw [hc4]
    show (c3.newO 0).ty c3.nx = 1
    rw [sp_newO_ty, if_pos rfl]
  have lc4 : c4.ln a16 = 7 := by
    subst ha16; rw [hc4]
    show (if c3.nx = c3.nx then 7 else _) = _
    rw [if_pos rfl]
  have ec4 : c4.fR 1 a16 = some (G.sk 3) := by rw [hc4, sp_pR_fR, if_pos ⟨rfl, rfl⟩]
  have sc4 : c4.fI 2 a16 = 0 := by
    subst ha16; rw [hc4]
    show (((c3.newO 0).gh c3.nx 7).pI 0 c3.nx 0).fI 2 c3.nx = 0
    rw [sp_pI_fI, if_neg (by simp)]
    show (c3.newO 0).fI 2 c3.nx = 0
    rw [sp_newO_fI, if_pos rfl]
  obtain ⟨Jc4, Lc4⟩ := jc4.list tc4 lc4 (by unfold sp_rl; omega) ec4 sc4
  have wc4 : sp_wf c4 := by rw [hc4]; exact wc3.newO 0
  have xc4 : sp_fx c3 c4 sp_w0 := by
    subst ha16; rw [hc4]
    exact (((((sp_fx.refl c3 sp_w0).newO 0).gh (Nat.le_refl _)).pI (Or.inr (Nat.le_refl _))).pR (Or.inr (Nat.le_refl _)))
  clear hc4 jc4 ec4 sc4
  have ga16 : m0.nx ≤ a16 := by rw [ha16]; exact fc3.1
  have tk_4 := xc4.ty wc3 tk_3 (by decide)
  have tt_4 := xc4.ty wc3 tt_3 (by decide)
  have rr_4 := (xc4.2.2.2.2.1 644 t (wc3 t (by rw [tt_3]; decide)) (fun z => z)).trans rr_3
  have tr_4 := xc4.ty wc3 tr_3 (by decide)
  have p576_tk_4 := (xc4.2.2.2.2.1 576 tk (wc3 tk (by rw [tk_3]; decide)) (fun z => z)).trans p576_tk_3
  have p577_tk_4 := (xc4.2.2.2.2.1 577 tk (wc3 tk (by rw [tk_3]; decide)) (fun z => z)).trans p577_tk_3
  have p578_tk_4 := (xc4.2.2.2.2.1 578 tk (wc3 tk (by rw [tk_3]; decide)) (fun z => z)).trans p578_tk_3
  have fc4 : sp_fx m0 c4 sp_w0 := fc3.tr0 xc4
  have nnc4 : m.nx ≤ c4.nx := Nat.le_trans nnc3 xc4.1
  clear tk_3 tt_3 rr_3 tr_3 p576_tk_3 p577_tk_3 p578_tk_3
  refine sp_putR X (pc := 27) (c := 9) (i := 3) (q := 579) (a := tk) rfl tk_4 (by decide) rfl rfl (Or.inr ⟨rfl, rfl, rfl⟩)  fl_Taking_26 dX8_init_27 ?_
  obtain ⟨c5, hc5⟩ : ∃ c, c = c4.pR 579 tk (some a16) := ⟨_, rfl⟩
  rw [← hc5]
  have Jc5 : sp_J G P (sp_E0) c5 := by rw [hc5]; exact Jc4.pR (Or.inl (by unfold sp_fk; omega))
  have wc5 : sp_wf c5 := by rw [hc5]; exact wc4
  have fc5 : sp_fx m0 c5 sp_w0 := by rw [hc5]; exact fc4.pR (Or.inr hk0)
  have tk_5 : c5.ty tk = 10 := by rw [hc5]; exact tk_4
  have tt_5 : c5.ty t = 11 := by rw [hc5]; exact tt_4
  have rr_5 : c5.fR 644 t = some r := by rw [hc5, sp_pR_fR, if_neg (fun z => absurd z.1 (by decide))]; exact rr_4
  have tr_5 : c5.ty r = 6 := by rw [hc5]; exact tr_4
  have p576_tk_5 : c5.fR 576 tk = (some rl) := by rw [hc5, sp_pR_fR, if_neg (fun z => absurd z.1 (by decide))]; exact p576_tk_4
  have p577_tk_5 : c5.fR 577 tk = (some t) := by rw [hc5, sp_pR_fR, if_neg (fun z => absurd z.1 (by decide))]; exact p577_tk_4
  have p578_tk_5 : c5.fR 578 tk = (some wk) := by rw [hc5, sp_pR_fR, if_neg (fun z => absurd z.1 (by decide))]; exact p578_tk_4
  have ta16_5 : c5.ty a16 = 1 := by rw [hc5]; exact tc4
  have la16_5 : c5.ln a16 = 7 := by rw [hc5]; exact lc4
  have La16_5 : sp_li G c5 a16 (G.sk 3) 0 := by rw [hc5]; exact Lc4.pR (by decide)
  have ga16_5 : m0.nx ≤ a16 := ga16
  have nnc5 : m.nx ≤ c5.nx := by rw [hc5]; exact nnc4
  have p579_tk_5 : c5.fR 579 tk = (some a16) := by rw [hc5, sp_pR_fR, if_pos ⟨rfl, rfl⟩]
  clear hc5
  clear tk_4 tt_4 rr_4 tr_4 p576_tk_4 p577_tk_4 p578_tk_4
  refine sp_aload_n X (pc := 30) (r := some tk) dX8_init_30 rfl rfl ?_
  refine sp_ldc2 X (pc := 31) (v := 1000000) kl_Taking_30 dX8_init_31 ?_
  refine sp_putL X (pc := 34) (c := 9) (i := 4) (q := 580) (a := tk) rfl tk_5 (by decide) rfl rfl (Or.inl rfl)  fl_Taking_32 dX8_init_34 ?_
  obtain ⟨c6, hc6⟩ : ∃ c, c = c5.pL 580 tk 1000000 := ⟨_, rfl⟩
  rw [← hc6]
  have Jc6 : sp_J G P (sp_E0) c6 := by rw [hc6]; exact Jc5.pL
  have wc6 : sp_wf c6 := by rw [hc6]; exact wc5
  have fc6 : sp_fx m0 c6 sp_w0 := by rw [hc6]; exact fc5.pL (Or.inr hk0)
  have tk_6 : c6.ty tk = 10 := by rw [hc6]; exact tk_5
  have tt_6 : c6.ty t = 11 := by rw [hc6]; exact tt_5
  have rr_6 : c6.fR 644 t = some r := by rw [hc6]; exact rr_5
  have tr_6 : c6.ty r = 6 := by rw [hc6]; exact tr_5
  have p576_tk_6 : c6.fR 576 tk = (some rl) := by rw [hc6]; exact p576_tk_5
  have p577_tk_6 : c6.fR 577 tk = (some t) := by rw [hc6]; exact p577_tk_5
  have p578_tk_6 : c6.fR 578 tk = (some wk) := by rw [hc6]; exact p578_tk_5
  have ta16_6 : c6.ty a16 = 1 := by rw [hc6]; exact ta16_5
  have la16_6 : c6.ln a16 = 7 := by rw [hc6]; exact la16_5
  have La16_6 : sp_li G c6 a16 (G.sk 3) 0 := by rw [hc6]; exact La16_5
  have ga16_6 : m0.nx ≤ a16 := ga16_5
  have p579_tk_6 : c6.fR 579 tk = (some a16) := by rw [hc6]; exact p579_tk_5
  have nnc6 : m.nx ≤ c6.nx := by rw [hc6]; exact nnc5
  have p580_tk_6 : c6.fL 580 tk = 1000000 := by rw [hc6, sp_pL_fL, if_pos ⟨rfl, rfl⟩]
  clear hc6
  clear tk_5 tt_5 rr_5 tr_5 p576_tk_5 p577_tk_5 p578_tk_5 ta16_5 la16_5 La16_5 ga16_5 p579_tk_5
  refine sp_aload_n X (pc := 37) (r := some tk) dX8_init_37 rfl rfl ?_
  refine sp_ldc2 X (pc := 38) (v := 4611686018427387904) kl_Taking_36 dX8_init_38 ?_
  refine sp_putL X (pc := 41) (c := 9) (i := 5) (q := 581) (a := tk) rfl tk_6 (by decide) rfl rfl (Or.inl rfl)  fl_Taking_38 dX8_init_41 ?_
  obtain ⟨c7, hc7⟩ : ∃ c, c = c6.pL 581 tk 4611686018427387904 := ⟨_, rfl⟩
  rw [← hc7]
  have Jc7 : sp_J G P (sp_E0) c7 := by rw [hc7]; exact Jc6.pL
  have wc7 : sp_wf c7 := by rw [hc7]; exact wc6
  have fc7 : sp_fx m0 c7 sp_w0 := by rw [hc7]; exact fc6.pL (Or.inr hk0)
  have tk_7 : c7.ty tk = 10 := by rw [hc7]; exact tk_6
  have tt_7 : c7.ty t = 11 := by rw [hc7]; exact tt_6
  have rr_7 : c7.fR 644 t = some r := by rw [hc7]; exact rr_6
  have tr_7 : c7.ty r = 6 := by rw [hc7]; exact tr_6
  have p576_tk_7 : c7.fR 576 tk = (some rl) := by rw [hc7]; exact p576_tk_6
  have p577_tk_7 : c7.fR 577 tk = (some t) := by rw [hc7]; exact p577_tk_6
  have p578_tk_7 : c7.fR 578 tk = (some wk) := by rw [hc7]; exact p578_tk_6
  have ta16_7 : c7.ty a16 = 1 := by rw [hc7]; exact ta16_6
  have la16_7 : c7.ln a16 = 7 := by rw [hc7]; exact la16_6
  have La16_7 : sp_li G c7 a16 (G.sk 3) 0 := by rw [hc7]; exact La16_6
  have ga16_7 : m0.nx ≤ a16 := ga16_6
  have p579_tk_7 : c7.fR 579 tk = (some a16) := by rw [hc7]; exact p579_tk_6
  have p580_tk_7 : c7.fL 580 tk = 1000000 := by rw [hc7, sp_pL_fL, if_neg (fun z => absurd z.1 (by decide))]; exact p580_tk_6
  have nnc7 : m.nx ≤ c7.nx := by rw [hc7]; exact nnc6
  have p581_tk_7 : c7.fL 581 tk = 4611686018427387904 := by rw [hc7, sp_pL_fL, if_pos ⟨rfl, rfl⟩]
  clear hc7
  clear tk_6 tt_6 rr_6 tr_6 p576_tk_6 p577_tk_6 p578_tk_6 ta16_6 la16_6 La16_6 ga16_6 p579_tk_6 p580_tk_6
  refine sp_aload_n X (pc := 44) (r := some tk) dX8_init_44 rfl rfl ?_
  refine sp_iconst X (pc := 45) (v := 0) dX8_init_45 (by decide) ?_
  refine sp_putI X (pc := 46) (c := 9) (i := 6) (q := 582) (a := tk) rfl tk_7 (by decide) rfl rfl (Or.inl rfl) ⟨rfl, rfl⟩ fl_Taking_41 dX8_init_46 ?_
  obtain ⟨c8, hc8⟩ : ∃ c, c = c7.pI 582 tk 0 := ⟨_, rfl⟩
  rw [← hc8]
  have Jc8 : sp_J G P (sp_E0) c8 := by rw [hc8]; exact Jc7.pI (by decide)
  have wc8 : sp_wf c8 := by rw [hc8]; exact wc7
  have fc8 : sp_fx m0 c8 sp_w0 := by rw [hc8]; exact fc7.pI (Or.inr hk0)
  have tk_8 : c8.ty tk = 10 := by rw [hc8]; exact tk_7
  have tt_8 : c8.ty t = 11 := by rw [hc8]; exact tt_7
  have rr_8 : c8.fR 644 t = some r := by rw [hc8]; exact rr_7
  have tr_8 : c8.ty r = 6 := by rw [hc8]; exact tr_7
  have p576_tk_8 : c8.fR 576 tk = (some rl) := by rw [hc8]; exact p576_tk_7
  have p577_tk_8 : c8.fR 577 tk = (some t) := by rw [hc8]; exact p577_tk_7
  have p578_tk_8 : c8.fR 578 tk = (some wk) := by rw [hc8]; exact p578_tk_7
  have ta16_8 : c8.ty a16 = 1 := by rw [hc8]; exact ta16_7
  have la16_8 : c8.ln a16 = 7 := by rw [hc8]; exact la16_7
  have La16_8 : sp_li G c8 a16 (G.sk 3) 0 := by rw [hc8]; exact La16_7.pI (by decide)
  have ga16_8 : m0.nx ≤ a16 := ga16_7
  have p579_tk_8 : c8.fR 579 tk = (some a16) := by rw [hc8]; exact p579_tk_7
  have p580_tk_8 : c8.fL 580 tk = 1000000 := by rw [hc8]; exact p580_tk_7
  have p581_tk_8 : c8.fL 581 tk = 4611686018427387904 := by rw [hc8]; exact p581_tk_7
  have nnc8 : m.nx ≤ c8.nx := by rw [hc8]; exact nnc7
  have p582_tk_8 : c8.fI 582 tk = 0 := by rw [hc8, sp_pI_fI, if_pos ⟨rfl, rfl⟩]
  clear hc8
  clear tk_7 tt_7 rr_7 tr_7 p576_tk_7 p577_tk_7 p578_tk_7 ta16_7 la16_7 La16_7 ga16_7 p579_tk_7 p580_tk_7 p581_tk_7
  refine sp_aload_n X (pc := 49) (r := some tk) dX8_init_49 rfl rfl ?_
  refine sp_lconst X (pc := 50) (v := 0) dX8_init_50 (by decide) ?_
  refine sp_putL X (pc := 51) (c := 9) (i := 7) (q := 583) (a := tk) rfl tk_8 (by decide) rfl rfl (Or.inl rfl)  fl_Taking_45 dX8_init_51 ?_
  obtain ⟨c9, hc9⟩ : ∃ c, c = c8.pL 583 tk 0 := ⟨_, rfl⟩
  rw [← hc9]
  have Jc9 : sp_J G P (sp_E0) c9 := by rw [hc9]; exact Jc8.pL
  have wc9 : sp_wf c9 := by rw [hc9]; exact wc8
  have fc9 : sp_fx m0 c9 sp_w0 := by rw [hc9]; exact fc8.pL (Or.inr hk0)
  have tk_9 : c9.ty tk = 10 := by rw [hc9]; exact tk_8
  have tt_9 : c9.ty t = 11 := by rw [hc9]; exact tt_8
  have rr_9 : c9.fR 644 t = some r := by rw [hc9]; exact rr_8
  have tr_9 : c9.ty r = 6 := by rw [hc9]; exact tr_8
  have p576_tk_9 : c9.fR 576 tk = (some rl) := by rw [hc9]; exact p576_tk_8
  have p577_tk_9 : c9.fR 577 tk = (some t) := by rw [hc9]; exact p577_tk_8
  have p578_tk_9 : c9.fR 578 tk = (some wk) := by rw [hc9]; exact p578_tk_8
  have ta16_9 : c9.ty a16 = 1 := by rw [hc9]; exact ta16_8
  have la16_9 : c9.ln a16 = 7 := by rw [hc9]; exact la16_8
  have La16_9 : sp_li G c9 a16 (G.sk 3) 0 := by rw [hc9]; exact La16_8
  have ga16_9 : m0.nx ≤ a16 := ga16_8
  have p579_tk_9 : c9.fR 579 tk = (some a16) := by rw [hc9]; exact p579_tk_8
  have p580_tk_9 : c9.fL 580 tk = 1000000 := by rw [hc9, sp_pL_fL, if_neg (fun z => absurd z.1 (by decide))]; exact p580_tk_8
  have p581_tk_9 : c9.fL 581 tk = 4611686018427387904 := by rw [hc9, sp_pL_fL, if_neg (fun z => absurd z.1 (by decide))]; exact p581_tk_8
  have p582_tk_9 : c9.fI 582 tk = 0 := by rw [hc9]; exact p582_tk_8
  have nnc9 : m.nx ≤ c9.nx := by rw [hc9]; exact nnc8
  have p583_tk_9 : c9.fL 583 tk = 0 := by rw [hc9, sp_pL_fL, if_pos ⟨rfl, rfl⟩]
  clear hc9
  clear tk_8 tt_8 rr_8 tr_8 p576_tk_8 p577_tk_8 p578_tk_8 ta16_8 la16_8 La16_8 ga16_8 p579_tk_8 p580_tk_8 p581_tk_8 p582_tk_8
  refine sp_aload_n X (pc := 54) (r := some tk) dX8_init_54 rfl rfl ?_
  refine sp_aload_n X (pc := 55) (r := some t) dX8_init_55 rfl rfl ?_
  refine sp_getfield X (pc := 56) (c := 10) (i := 4) (t := 2) (a := t) (v := va_rf (some r)) rfl tt_9 (by decide) rfl (congrArg va_rf rr_9) fl_Taking_48 dX8_init_56 ?_
  refine sp_putR X (pc := 59) (c := 9) (i := 8) (q := 584) (a := tk) rfl tk_9 (by decide) rfl rfl (Or.inl rfl)  fl_Taking_54 dX8_init_59 ?_
  obtain ⟨c10, hc10⟩ : ∃ c, c = c9.pR 584 tk (some r) := ⟨_, rfl⟩
  rw [← hc10]
  have Jc10 : sp_J G P (sp_E0) c10 := by rw [hc10]; exact Jc9.pR (Or.inl (by unfold sp_fk; omega))
  have wc10 : sp_wf c10 := by rw [hc10]; exact wc9
  have fc10 : sp_fx m0 c10 sp_w0 := by rw [hc10]; exact fc9.pR (Or.inr hk0)
  have tk_10 : c10.ty tk = 10 := by rw [hc10]; exact tk_9
  have tt_10 : c10.ty t = 11 := by rw [hc10]; exact tt_9
  have rr_10 : c10.fR 644 t = some r := by rw [hc10, sp_pR_fR, if_neg (fun z => absurd z.1 (by decide))]; exact rr_9
  have tr_10 : c10.ty r = 6 := by rw [hc10]; exact tr_9
  have p576_tk_10 : c10.fR 576 tk = (some rl) := by rw [hc10, sp_pR_fR, if_neg (fun z => absurd z.1 (by decide))]; exact p576_tk_9
  have p577_tk_10 : c10.fR 577 tk = (some t) := by rw [hc10, sp_pR_fR, if_neg (fun z => absurd z.1 (by decide))]; exact p577_tk_9
  have p578_tk_10 : c10.fR 578 tk = (some wk) := by rw [hc10, sp_pR_fR, if_neg (fun z => absurd z.1 (by decide))]; exact p578_tk_9
  have ta16_10 : c10.ty a16 = 1 := by rw [hc10]; exact ta16_9
  have la16_10 : c10.ln a16 = 7 := by rw [hc10]; exact la16_9
  have La16_10 : sp_li G c10 a16 (G.sk 3) 0 := by rw [hc10]; exact La16_9.pR (by decide)
  have ga16_10 : m0.nx ≤ a16 := ga16_9
  have p579_tk_10 : c10.fR 579 tk = (some a16) := by rw [hc10, sp_pR_fR, if_neg (fun z => absurd z.1 (by decide))]; exact p579_tk_9
  have p580_tk_10 : c10.fL 580 tk = 1000000 := by rw [hc10]; exact p580_tk_9
  have p581_tk_10 : c10.fL 581 tk = 4611686018427387904 := by rw [hc10]; exact p581_tk_9
  have p582_tk_10 : c10.fI 582 tk = 0 := by rw [hc10]; exact p582_tk_9
  have p583_tk_10 : c10.fL 583 tk = 0 := by rw [hc10]; exact p583_tk_9
  have nnc10 : m.nx ≤ c10.nx := by rw [hc10]; exact nnc9
  have p584_tk_10 : c10.fR 584 tk = (some r) := by rw [hc10, sp_pR_fR, if_pos ⟨rfl, rfl⟩]
  clear hc10
  clear tk_9 tt_9 rr_9 tr_9 p576_tk_9 p577_tk_9 p578_tk_9 ta16_9 la16_9 La16_9 ga16_9 p579_tk_9 p580_tk_9 p581_tk_9 p582_tk_9 p583_tk_9
  refine sp_aload_n X (pc := 62) (r := some tk) dX8_init_62 rfl rfl ?_
  refine sp_iconst X (pc := 63) (v := 0) dX8_init_63 (by decide) ?_
  refine sp_putI X (pc := 64) (c := 9) (i := 9) (q := 585) (a := tk) rfl tk_10 (by decide) rfl rfl (Or.inl rfl) ⟨rfl, rfl⟩ fl_Taking_57 dX8_init_64 ?_
  obtain ⟨c11, hc11⟩ : ∃ c, c = c10.pI 585 tk 0 := ⟨_, rfl⟩
  rw [← hc11]
  have Jc11 : sp_J G P (sp_E0) c11 := by rw [hc11]; exact Jc10.pI (by decide)
  have wc11 : sp_wf c11 := by rw [hc11]; exact wc10
  have fc11 : sp_fx m0 c11 sp_w0 := by rw [hc11]; exact fc10.pI (Or.inr hk0)
  have tk_11 : c11.ty tk = 10 := by rw [hc11]; exact tk_10
  have tt_11 : c11.ty t = 11 := by rw [hc11]; exact tt_10
  have rr_11 : c11.fR 644 t = some r := by rw [hc11]; exact rr_10
  have tr_11 : c11.ty r = 6 := by rw [hc11]; exact tr_10
  have p576_tk_11 : c11.fR 576 tk = (some rl) := by rw [hc11]; exact p576_tk_10
  have p577_tk_11 : c11.fR 577 tk = (some t) := by rw [hc11]; exact p577_tk_10
  have p578_tk_11 : c11.fR 578 tk = (some wk) := by rw [hc11]; exact p578_tk_10
  have ta16_11 : c11.ty a16 = 1 := by rw [hc11]; exact ta16_10
  have la16_11 : c11.ln a16 = 7 := by rw [hc11]; exact la16_10
  have La16_11 : sp_li G c11 a16 (G.sk 3) 0 := by rw [hc11]; exact La16_10.pI (by decide)
  have ga16_11 : m0.nx ≤ a16 := ga16_10
  have p579_tk_11 : c11.fR 579 tk = (some a16) := by rw [hc11]; exact p579_tk_10
  have p580_tk_11 : c11.fL 580 tk = 1000000 := by rw [hc11]; exact p580_tk_10
  have p581_tk_11 : c11.fL 581 tk = 4611686018427387904 := by rw [hc11]; exact p581_tk_10
  have p582_tk_11 : c11.fI 582 tk = 0 := by rw [hc11, sp_pI_fI, if_neg (fun z => absurd z.1 (by decide))]; exact p582_tk_10
  have p583_tk_11 : c11.fL 583 tk = 0 := by rw [hc11]; exact p583_tk_10
  have p584_tk_11 : c11.fR 584 tk = (some r) := by rw [hc11]; exact p584_tk_10
  have nnc11 : m.nx ≤ c11.nx := by rw [hc11]; exact nnc10
  have p585_tk_11 : c11.fI 585 tk = 0 := by rw [hc11, sp_pI_fI, if_pos ⟨rfl, rfl⟩]
  clear hc11
  clear tk_10 tt_10 rr_10 tr_10 p576_tk_10 p577_tk_10 p578_tk_10 ta16_10 la16_10 La16_10 ga16_10 p579_tk_10 p580_tk_10 p581_tk_10 p582_tk_10 p583_tk_10 p584_tk_10
  refine sp_aload_n X (pc := 67) (r := some tk) dX8_init_67 rfl rfl ?_
  refine sp_null X (pc := 68) dX8_init_68 ?_
  refine sp_putR X (pc := 69) (c := 9) (i := 10) (q := 586) (a := tk) rfl tk_11 (by decide) rfl rfl (Or.inl rfl)  fl_Taking_60 dX8_init_69 ?_
  obtain ⟨c12, hc12⟩ : ∃ c, c = c11.pR 586 tk none := ⟨_, rfl⟩
  rw [← hc12]
  have Jc12 : sp_J G P (sp_E0) c12 := by rw [hc12]; exact Jc11.pR (Or.inl (by unfold sp_fk; omega))
  have wc12 : sp_wf c12 := by rw [hc12]; exact wc11
  have fc12 : sp_fx m0 c12 sp_w0 := by rw [hc12]; exact fc11.pR (Or.inr hk0)
  have tk_12 : c12.ty tk = 10 := by rw [hc12]; exact tk_11
  have tt_12 : c12.ty t = 11 := by rw [hc12]; exact tt_11
  have rr_12 : c12.fR 644 t = some r := by rw [hc12, sp_pR_fR, if_neg (fun z => absurd z.1 (by decide))]; exact rr_11
  have tr_12 : c12.ty r = 6 := by rw [hc12]; exact tr_11
  have p576_tk_12 : c12.fR 576 tk = (some rl) := by rw [hc12, sp_pR_fR, if_neg (fun z => absurd z.1 (by decide))]; exact p576_tk_11
  have p577_tk_12 : c12.fR 577 tk = (some t) := by rw [hc12, sp_pR_fR, if_neg (fun z => absurd z.1 (by decide))]; exact p577_tk_11
  have p578_tk_12 : c12.fR 578 tk = (some wk) := by rw [hc12, sp_pR_fR, if_neg (fun z => absurd z.1 (by decide))]; exact p578_tk_11
  have ta16_12 : c12.ty a16 = 1 := by rw [hc12]; exact ta16_11
  have la16_12 : c12.ln a16 = 7 := by rw [hc12]; exact la16_11
  have La16_12 : sp_li G c12 a16 (G.sk 3) 0 := by rw [hc12]; exact La16_11.pR (by decide)
  have ga16_12 : m0.nx ≤ a16 := ga16_11
  have p579_tk_12 : c12.fR 579 tk = (some a16) := by rw [hc12, sp_pR_fR, if_neg (fun z => absurd z.1 (by decide))]; exact p579_tk_11
  have p580_tk_12 : c12.fL 580 tk = 1000000 := by rw [hc12]; exact p580_tk_11
  have p581_tk_12 : c12.fL 581 tk = 4611686018427387904 := by rw [hc12]; exact p581_tk_11
  have p582_tk_12 : c12.fI 582 tk = 0 := by rw [hc12]; exact p582_tk_11
  have p583_tk_12 : c12.fL 583 tk = 0 := by rw [hc12]; exact p583_tk_11
  have p584_tk_12 : c12.fR 584 tk = (some r) := by rw [hc12, sp_pR_fR, if_neg (fun z => absurd z.1 (by decide))]; exact p584_tk_11
  have p585_tk_12 : c12.fI 585 tk = 0 := by rw [hc12]; exact p585_tk_11
  have nnc12 : m.nx ≤ c12.nx := by rw [hc12]; exact nnc11
  have p586_tk_12 : c12.fR 586 tk = none := by rw [hc12, sp_pR_fR, if_pos ⟨rfl, rfl⟩]
  clear hc12
  clear tk_11 tt_11 rr_11 tr_11 p576_tk_11 p577_tk_11 p578_tk_11 ta16_11 la16_11 La16_11 ga16_11 p579_tk_11 p580_tk_11 p581_tk_11 p582_tk_11 p583_tk_11 p584_tk_11 p585_tk_11
  refine sp_aload_n X (pc := 72) (r := some tk) dX8_init_72 rfl rfl ?_
  refine sp_null X (pc := 73) dX8_init_73 ?_
  refine sp_putR X (pc := 74) (c := 9) (i := 11) (q := 587) (a := tk) rfl tk_12 (by decide) rfl rfl (Or.inl rfl)  fl_Taking_63 dX8_init_74 ?_
  obtain ⟨c13, hc13⟩ : ∃ c, c = c12.pR 587 tk none := ⟨_, rfl⟩
  rw [← hc13]
  have Jc13 : sp_J G P (sp_E0) c13 := by rw [hc13]; exact Jc12.pR (Or.inl (by unfold sp_fk; omega))
  have wc13 : sp_wf c13 := by rw [hc13]; exact wc12
  have fc13 : sp_fx m0 c13 sp_w0 := by rw [hc13]; exact fc12.pR (Or.inr hk0)
  have tk_13 : c13.ty tk = 10 := by rw [hc13]; exact tk_12
  have tt_13 : c13.ty t = 11 := by rw [hc13]; exact tt_12
  have rr_13 : c13.fR 644 t = some r := by rw [hc13, sp_pR_fR, if_neg (fun z => absurd z.1 (by decide))]; exact rr_12
  have tr_13 : c13.ty r = 6 := by rw [hc13]; exact tr_12
  have p576_tk_13 : c13.fR 576 tk = (some rl) := by rw [hc13, sp_pR_fR, if_neg (fun z => absurd z.1 (by decide))]; exact p576_tk_12
  have p577_tk_13 : c13.fR 577 tk = (some t) := by rw [hc13, sp_pR_fR, if_neg (fun z => absurd z.1 (by decide))]; exact p577_tk_12
  have p578_tk_13 : c13.fR 578 tk = (some wk) := by rw [hc13, sp_pR_fR, if_neg (fun z => absurd z.1 (by decide))]; exact p578_tk_12
  have ta16_13 : c13.ty a16 = 1 := by rw [hc13]; exact ta16_12
  have la16_13 : c13.ln a16 = 7 := by rw [hc13]; exact la16_12
  have La16_13 : sp_li G c13 a16 (G.sk 3) 0 := by rw [hc13]; exact La16_12.pR (by decide)
  have ga16_13 : m0.nx ≤ a16 := ga16_12
  have p579_tk_13 : c13.fR 579 tk = (some a16) := by rw [hc13, sp_pR_fR, if_neg (fun z => absurd z.1 (by decide))]; exact p579_tk_12
  have p580_tk_13 : c13.fL 580 tk = 1000000 := by rw [hc13]; exact p580_tk_12
  have p581_tk_13 : c13.fL 581 tk = 4611686018427387904 := by rw [hc13]; exact p581_tk_12
  have p582_tk_13 : c13.fI 582 tk = 0 := by rw [hc13]; exact p582_tk_12
  have p583_tk_13 : c13.fL 583 tk = 0 := by rw [hc13]; exact p583_tk_12
  have p584_tk_13 : c13.fR 584 tk = (some r) := by rw [hc13, sp_pR_fR, if_neg (fun z => absurd z.1 (by decide))]; exact p584_tk_12
  have p585_tk_13 : c13.fI 585 tk = 0 := by rw [hc13]; exact p585_tk_12
  have p586_tk_13 : c13.fR 586 tk = none := by rw [hc13, sp_pR_fR, if_neg (fun z => absurd z.1 (by decide))]; exact p586_tk_12
  have nnc13 : m.nx ≤ c13.nx := by rw [hc13]; exact nnc12
  have p587_tk_13 : c13.fR 587 tk = none := by rw [hc13, sp_pR_fR, if_pos ⟨rfl, rfl⟩]
  clear hc13
  clear tk_12 tt_12 rr_12 tr_12 p576_tk_12 p577_tk_12 p578_tk_12 ta16_12 la16_12 La16_12 ga16_12 p579_tk_12 p580_tk_12 p581_tk_12 p582_tk_12 p583_tk_12 p584_tk_12 p585_tk_12 p586_tk_12
  refine sp_aload_n X (pc := 77) (r := some tk) dX8_init_77 rfl rfl ?_
  refine sp_null X (pc := 78) dX8_init_78 ?_
  refine sp_putR X (pc := 79) (c := 9) (i := 12) (q := 588) (a := tk) rfl tk_13 (by decide) rfl rfl (Or.inl rfl)  fl_Taking_66 dX8_init_79 ?_
  obtain ⟨c14, hc14⟩ : ∃ c, c = c13.pR 588 tk none := ⟨_, rfl⟩
  rw [← hc14]
  have Jc14 : sp_J G P (sp_E0) c14 := by rw [hc14]; exact Jc13.pR (Or.inl (by unfold sp_fk; omega))
  have wc14 : sp_wf c14 := by rw [hc14]; exact wc13
  have fc14 : sp_fx m0 c14 sp_w0 := by rw [hc14]; exact fc13.pR (Or.inr hk0)
  have tk_14 : c14.ty tk = 10 := by rw [hc14]; exact tk_13
  have tt_14 : c14.ty t = 11 := by rw [hc14]; exact tt_13
  have rr_14 : c14.fR 644 t = some r := by rw [hc14, sp_pR_fR, if_neg (fun z => absurd z.1 (by decide))]; exact rr_13
  have tr_14 : c14.ty r = 6 := by rw [hc14]; exact tr_13
  have p576_tk_14 : c14.fR 576 tk = (some rl) := by rw [hc14, sp_pR_fR, if_neg (fun z => absurd z.1 (by decide))]; exact p576_tk_13
  have p577_tk_14 : c14.fR 577 tk = (some t) := by rw [hc14, sp_pR_fR, if_neg (fun z => absurd z.1 (by decide))]; exact p577_tk_13
  have p578_tk_14 : c14.fR 578 tk = (some wk) := by rw [hc14, sp_pR_fR, if_neg (fun z => absurd z.1 (by decide))]; exact p578_tk_13
  have ta16_14 : c14.ty a16 = 1 := by rw [hc14]; exact ta16_13
  have la16_14 : c14.ln a16 = 7 := by rw [hc14]; exact la16_13
  have La16_14 : sp_li G c14 a16 (G.sk 3) 0 := by rw [hc14]; exact La16_13.pR (by decide)
  have ga16_14 : m0.nx ≤ a16 := ga16_13
  have p579_tk_14 : c14.fR 579 tk = (some a16) := by rw [hc14, sp_pR_fR, if_neg (fun z => absurd z.1 (by decide))]; exact p579_tk_13
  have p580_tk_14 : c14.fL 580 tk = 1000000 := by rw [hc14]; exact p580_tk_13
  have p581_tk_14 : c14.fL 581 tk = 4611686018427387904 := by rw [hc14]; exact p581_tk_13
  have p582_tk_14 : c14.fI 582 tk = 0 := by rw [hc14]; exact p582_tk_13
  have p583_tk_14 : c14.fL 583 tk = 0 := by rw [hc14]; exact p583_tk_13
  have p584_tk_14 : c14.fR 584 tk = (some r) := by rw [hc14, sp_pR_fR, if_neg (fun z => absurd z.1 (by decide))]; exact p584_tk_13
  have p585_tk_14 : c14.fI 585 tk = 0 := by rw [hc14]; exact p585_tk_13
  have p586_tk_14 : c14.fR 586 tk = none := by rw [hc14, sp_pR_fR, if_neg (fun z => absurd z.1 (by decide))]; exact p586_tk_13
  have p587_tk_14 : c14.fR 587 tk = none := by rw [hc14, sp_pR_fR, if_neg (fun z => absurd z.1 (by decide))]; exact p587_tk_13
  have nnc14 : m.nx ≤ c14.nx := by rw [hc14]; exact nnc13
  have p588_tk_14 : c14.fR 588 tk = none := by rw [hc14, sp_pR_fR, if_pos ⟨rfl, rfl⟩]
  clear hc14
  clear tk_13 tt_13 rr_13 tr_13 p576_tk_13 p577_tk_13 p578_tk_13 ta16_13 la16_13 La16_13 ga16_13 p579_tk_13 p580_tk_13 p581_tk_13 p582_tk_13 p583_tk_13 p584_tk_13 p585_tk_13 p586_tk_13 p587_tk_13
  refine sp_aload_n X (pc := 82) (r := some tk) dX8_init_82 rfl rfl ?_
  refine sp_iconst X (pc := 83) (v := 0) dX8_init_83 (by decide) ?_
  refine sp_putI X (pc := 84) (c := 9) (i := 13) (q := 589) (a := tk) rfl tk_14 (by decide) rfl rfl (Or.inl rfl) ⟨rfl, rfl⟩ fl_Taking_70 dX8_init_84 ?_
  obtain ⟨c15, hc15⟩ : ∃ c, c = c14.pI 589 tk 0 := ⟨_, rfl⟩
  rw [← hc15]
  have Jc15 : sp_J G P (sp_E0) c15 := by rw [hc15]; exact Jc14.pI (by decide)
  have wc15 : sp_wf c15 := by rw [hc15]; exact wc14
  have fc15 : sp_fx m0 c15 sp_w0 := by rw [hc15]; exact fc14.pI (Or.inr hk0)
  have tk_15 : c15.ty tk = 10 := by rw [hc15]; exact tk_14
  have tt_15 : c15.ty t = 11 := by rw [hc15]; exact tt_14
  have rr_15 : c15.fR 644 t = some r := by rw [hc15]; exact rr_14
  have tr_15 : c15.ty r = 6 := by rw [hc15]; exact tr_14
  have p576_tk_15 : c15.fR 576 tk = (some rl) := by rw [hc15]; exact p576_tk_14
  have p577_tk_15 : c15.fR 577 tk = (some t) := by rw [hc15]; exact p577_tk_14
  have p578_tk_15 : c15.fR 578 tk = (some wk) := by rw [hc15]; exact p578_tk_14
  have ta16_15 : c15.ty a16 = 1 := by rw [hc15]; exact ta16_14
  have la16_15 : c15.ln a16 = 7 := by rw [hc15]; exact la16_14
  have La16_15 : sp_li G c15 a16 (G.sk 3) 0 := by rw [hc15]; exact La16_14.pI (by decide)
  have ga16_15 : m0.nx ≤ a16 := ga16_14
  have p579_tk_15 : c15.fR 579 tk = (some a16) := by rw [hc15]; exact p579_tk_14
  have p580_tk_15 : c15.fL 580 tk = 1000000 := by rw [hc15]; exact p580_tk_14
  have p581_tk_15 : c15.fL 581 tk = 4611686018427387904 := by rw [hc15]; exact p581_tk_14
  have p582_tk_15 : c15.fI 582 tk = 0 := by rw [hc15, sp_pI_fI, if_neg (fun z => absurd z.1 (by decide))]; exact p582_tk_14
  have p583_tk_15 : c15.fL 583 tk = 0 := by rw [hc15]; exact p583_tk_14
  have p584_tk_15 : c15.fR 584 tk = (some r) := by rw [hc15]; exact p584_tk_14
  have p585_tk_15 : c15.fI 585 tk = 0 := by rw [hc15, sp_pI_fI, if_neg (fun z => absurd z.1 (by decide))]; exact p585_tk_14
  have p586_tk_15 : c15.fR 586 tk = none := by rw [hc15]; exact p586_tk_14
  have p587_tk_15 : c15.fR 587 tk = none := by rw [hc15]; exact p587_tk_14
  have p588_tk_15 : c15.fR 588 tk = none := by rw [hc15]; exact p588_tk_14
  have nnc15 : m.nx ≤ c15.nx := by rw [hc15]; exact nnc14
  have p589_tk_15 : c15.fI 589 tk = 0 := by rw [hc15, sp_pI_fI, if_pos ⟨rfl, rfl⟩]
  clear hc15
  clear tk_14 tt_14 rr_14 tr_14 p576_tk_14 p577_tk_14 p578_tk_14 ta16_14 la16_14 La16_14 ga16_14 p579_tk_14 p580_tk_14 p581_tk_14 p582_tk_14 p583_tk_14 p584_tk_14 p585_tk_14 p586_tk_14 p587_tk_14 p588_tk_14
  refine sp_return X (pc := 87) dX8_init_87 ⟨rfl, ?_⟩
  exact ⟨a16, Jc15, wc15, fc15, p576_tk_15, p577_tk_15, p578_tk_15, p579_tk_15, p584_tk_15, p586_tk_15, p587_tk_15, p588_tk_15, p589_tk_15, p580_tk_15, p581_tk_15, p582_tk_15, p583_tk_15, ta16_15, la16_15, La16_15, ga16_15, tk_15⟩
