set_option maxRecDepth 20000 in
theorem c_Walk_init (l : Launch) (G : sp_G) (m : sp_M) {P : Nat → Prop} {m0 : sp_M} (hG : sp_GS G) (hJ : sp_J G P sp_E0 m) (hwf : sp_wf m) (hP : ∀ a, P a → a < m.nx) (hfx : sp_fx m0 m sp_w0) {wk t r : Nat} (hw : m.ty wk = 12) (hw0 : m0.nx ≤ wk) (ht : m.ty t = 11) (hr : m.fR 644 t = some r) (hrt : m.ty r = 6) : sp_C l G M_Walk_init 1 3 [.ref wk, .ref t] m (sp_oV fun m' => ∃ a15, sp_J G P sp_E0 m' ∧ sp_wf m' ∧ sp_fx m0 m' sp_w0 ∧ m'.fR 704 wk = some t ∧ m'.fR 705 wk = some a15 ∧ m'.fR 706 wk = some r ∧ m'.ty a15 = 1 ∧ m'.ln a15 = 5 ∧ sp_li G m' a15 (G.sk 3) 0 ∧ m0.nx ≤ a15) := by
  refine sp_enter (lv0 := [(0, false, va_rf (some wk)), (1, false, va_rf (some t))]) "SafePaths$Walk" true rfl (by decide) (fun _ => rfl) (Nat.le_of_ble_eq_true rfl) rfl ?_
  intro w X
  refine sp_aload_n X (pc := 0) (r := some wk) dX10_init_0 rfl rfl ?_
  refine sp_objInit X (pc := 1) (a := wk) rfl lk_Walk_3 oi_1 oi_2 (Nat.le_of_ble_eq_true rfl) (Nat.le_of_ble_eq_true rfl) dX10_init_1 ?_
  refine sp_aload_n X (pc := 4) (r := some wk) dX10_init_4 rfl rfl ?_
  refine sp_aload_n X (pc := 5) (r := some t) dX10_init_5 rfl rfl ?_
  refine sp_putR X (pc := 6) (c := 11) (i := 0) (q := 704) (a := wk) rfl (by first | assumption | omega) (by decide) rfl rfl (Or.inr ⟨rfl, rfl, rfl⟩)  fl_Walk_9 dX10_init_6 ?_
  obtain ⟨c1, hc1⟩ : ∃ c, c = m.pR 704 wk (some t) := ⟨_, rfl⟩
  rw [← hc1]
  have Jc1 : sp_J G P (sp_E0) c1 := by rw [hc1]; exact hJ.pR (Or.inl (by unfold sp_fk; omega))
  have wc1 : sp_wf c1 := by rw [hc1]; exact hwf
  have fc1 : sp_fx m0 c1 sp_w0 := by rw [hc1]; exact hfx.pR (Or.inr hw0)
  have tw_1 : c1.ty wk = 12 := by rw [hc1]; exact hw
  have tt_1 : c1.ty t = 11 := by rw [hc1]; exact ht
  have rr_1 : c1.fR 644 t = some r := by rw [hc1, sp_pR_fR, if_neg (by omega)]; exact hr
  have tr_1 : c1.ty r = 6 := by rw [hc1]; exact hrt
  have p704_wk_1 : c1.fR 704 wk = (some t) := by rw [hc1, sp_pR_fR, if_pos ⟨rfl, rfl⟩]
  clear hc1
  refine sp_aload_n X (pc := 9) (r := some wk) dX10_init_9 rfl rfl ?_
  obtain ⟨a15, ha15⟩ : ∃ a, a = c1.nx := ⟨_, rfl⟩
  refine sp_new X (pc := 10) (c := 0) (N := 3) (by decide) rfl cl_Walk_15 in_0 it_0 (by decide) (by decide) dX10_init_10 ?_
  rw [← ha15]
  refine sp_ghost X a15 5 (by rw [ha15, sp_newO_ty, if_pos rfl]; decide) (by rw [ha15, sp_newO_ty, if_pos rfl]; decide) ?_
  refine sp_dup X (pc := 13) dX10_init_13 (sp_cat_rf _) ?_
  refine sp_callI X (pc := 14) (mc := 0) (ms := 0) (b := a15) (r := some a15) (As := []) (rest := [va_rf (some a15), va_rf (some wk)]) (c_List_init l G _ (o := a15) hG (by show (c1.newO 0).ty a15 = _; rw [ha15, sp_newO_ty, if_pos rfl])) ok_List_init rfl rfl lk_Walk_17 rfl rfl (by simp [sp_cat_rf, sp_cat_i, sp_cat_l]) (Nat.le_of_ble_eq_true rfl) (Nat.le_of_ble_eq_true rfl) (Nat.zero_le _) (Nat.zero_le _) dX10_init_14 (sp_kV fun m14 hp14 => ?_)
  subst hp14
  obtain ⟨c2, hc2⟩ : ∃ c, c = (((c1.newO 0).gh a15 5).pI 0 a15 0).pR 1 a15 (some (G.sk 3)) := ⟨_, rfl⟩
  rw [show (((c1.newO 0).gh a15 5).pI 0 a15 0).pR 1 a15 (some (G.sk 3)) = c2 from hc2.symm]
  have jc2 : sp_J G P (sp_E1 (sp_E0) a15) c2 := by
    subst ha15; rw [hc2]
    exact ((Jc1.newO wc1 0 5).pI (by decide)).pR (Or.inr (Or.inr rfl))
  have tc2 : c2.ty a15 = 1 := by
    subst ha15; rw [hc2]
    show (c1.newO 0).ty c1.nx = 1
    rw [sp_newO_ty, if_pos rfl]
  have lc2 : c2.ln a15 = 5 := by
    subst ha15; rw [hc2]
    show (if c1.nx = c1.nx then 5 else _) = _
    rw [if_pos rfl]
  have ec2 : c2.fR 1 a15 = some (G.sk 3) := by rw [hc2, sp_pR_fR, if_pos ⟨rfl, rfl⟩]
  have sc2 : c2.fI 2 a15 = 0 := by
    subst ha15; rw [hc2]
    show (((c1.newO 0).gh c1.nx 5).pI 0 c1.nx 0).fI 2 c1.nx = 0
    rw [sp_pI_fI, if_neg (by simp)]
    show (c1.newO 0).fI 2 c1.nx = 0
    rw [sp_newO_fI, if_pos rfl]
  obtain ⟨Jc2, Lc2⟩ := jc2.list tc2 lc2 (by unfold sp_rl; omega) ec2 sc2
  have wc2 : sp_wf c2 := by rw [hc2]; exact wc1.newO 0
  have xc2 : sp_fx c1 c2 sp_w0 := by
    subst ha15; rw [hc2]
    exact (((((sp_fx.refl c1 sp_w0).newO 0).gh (Nat.le_refl _)).pI (Or.inr (Nat.le_refl _))).pR (Or.inr (Nat.le_refl _)))
  clear hc2 jc2 ec2 sc2
  have ga15 : m0.nx ≤ a15 := by rw [ha15]; exact fc1.1
  have tw_2 := xc2.ty wc1 tw_1 (by decide)
  have tt_2 := xc2.ty wc1 tt_1 (by decide)
  have rr_2 := (xc2.2.2.2.2.1 644 t (wc1 t (by rw [tt_1]; decide)) (fun z => z)).trans rr_1
  have tr_2 := xc2.ty wc1 tr_1 (by decide)
  have p704_wk_2 := (xc2.2.2.2.2.1 704 wk (wc1 wk (by rw [tw_1]; decide)) (fun z => z)).trans p704_wk_1
  have fc2 : sp_fx m0 c2 sp_w0 := fc1.tr0 xc2
  refine sp_putR X (pc := 17) (c := 11) (i := 1) (q := 705) (a := wk) rfl (by first | assumption | omega) (by decide) rfl rfl (Or.inr ⟨rfl, rfl, rfl⟩)  fl_Walk_18 dX10_init_17 ?_
  obtain ⟨c3, hc3⟩ : ∃ c, c = c2.pR 705 wk (some a15) := ⟨_, rfl⟩
  rw [← hc3]
  have Jc3 : sp_J G P (sp_E0) c3 := by rw [hc3]; exact Jc2.pR (Or.inl (by unfold sp_fk; omega))
  have wc3 : sp_wf c3 := by rw [hc3]; exact wc2
  have fc3 : sp_fx m0 c3 sp_w0 := by rw [hc3]; exact fc2.pR (Or.inr hw0)
  have tw_3 : c3.ty wk = 12 := by rw [hc3]; exact tw_2
  have tt_3 : c3.ty t = 11 := by rw [hc3]; exact tt_2
  have rr_3 : c3.fR 644 t = some r := by rw [hc3, sp_pR_fR, if_neg (by omega)]; exact rr_2
  have tr_3 : c3.ty r = 6 := by rw [hc3]; exact tr_2
  have p704_wk_3 : c3.fR 704 wk = (some t) := by rw [hc3, sp_pR_fR, if_neg (by omega)]; exact p704_wk_2
  have ta15_3 : c3.ty a15 = 1 := by rw [hc3]; exact tc2
  have la15_3 : c3.ln a15 = 5 := by rw [hc3]; exact lc2
  have La15_3 : sp_li G c3 a15 (G.sk 3) 0 := by rw [hc3]; exact Lc2.pR (by decide)
  have ga15_3 : m0.nx ≤ a15 := ga15
  have p705_wk_3 : c3.fR 705 wk = (some a15) := by rw [hc3, sp_pR_fR, if_pos ⟨rfl, rfl⟩]
  clear hc3
  refine sp_aload_n X (pc := 20) (r := some wk) dX10_init_20 rfl rfl ?_
  refine sp_aload_n X (pc := 21) (r := some t) dX10_init_21 rfl rfl ?_
  refine sp_getfield X (pc := 22) (c := 10) (i := 4) (t := 2) (a := t) (v := va_rf (some r)) rfl tt_3 (by decide) rfl (congrArg va_rf rr_3) fl_Walk_22 dX10_init_22 ?_
  refine sp_putR X (pc := 25) (c := 11) (i := 2) (q := 706) (a := wk) rfl (by first | assumption | omega) (by decide) rfl rfl (Or.inl rfl)  fl_Walk_28 dX10_init_25 ?_
  obtain ⟨c4, hc4⟩ : ∃ c, c = c3.pR 706 wk (some r) := ⟨_, rfl⟩
  rw [← hc4]
  have Jc4 : sp_J G P (sp_E0) c4 := by rw [hc4]; exact Jc3.pR (Or.inl (by unfold sp_fk; omega))
  have wc4 : sp_wf c4 := by rw [hc4]; exact wc3
  have fc4 : sp_fx m0 c4 sp_w0 := by rw [hc4]; exact fc3.pR (Or.inr hw0)
  have tw_4 : c4.ty wk = 12 := by rw [hc4]; exact tw_3
  have tt_4 : c4.ty t = 11 := by rw [hc4]; exact tt_3
  have rr_4 : c4.fR 644 t = some r := by rw [hc4, sp_pR_fR, if_neg (by omega)]; exact rr_3
  have tr_4 : c4.ty r = 6 := by rw [hc4]; exact tr_3
  have p704_wk_4 : c4.fR 704 wk = (some t) := by rw [hc4, sp_pR_fR, if_neg (by omega)]; exact p704_wk_3
  have ta15_4 : c4.ty a15 = 1 := by rw [hc4]; exact ta15_3
  have la15_4 : c4.ln a15 = 5 := by rw [hc4]; exact la15_3
  have La15_4 : sp_li G c4 a15 (G.sk 3) 0 := by rw [hc4]; exact La15_3.pR (by decide)
  have ga15_4 : m0.nx ≤ a15 := ga15_3
  have p705_wk_4 : c4.fR 705 wk = (some a15) := by rw [hc4, sp_pR_fR, if_neg (by omega)]; exact p705_wk_3
  have p706_wk_4 : c4.fR 706 wk = (some r) := by rw [hc4, sp_pR_fR, if_pos ⟨rfl, rfl⟩]
  clear hc4
  refine sp_aload_n X (pc := 28) (r := some wk) dX10_init_28 rfl rfl ?_
  refine sp_iconst X (pc := 29) (v := 0) dX10_init_29 (by decide) ?_
  refine sp_putI X (pc := 30) (c := 11) (i := 3) (q := 707) (a := wk) rfl (by first | assumption | omega) (by decide) rfl rfl (Or.inl rfl) ⟨rfl, rfl⟩ fl_Walk_31 dX10_init_30 ?_
  obtain ⟨c5, hc5⟩ : ∃ c, c = c4.pI 707 wk 0 := ⟨_, rfl⟩
  rw [← hc5]
  have Jc5 : sp_J G P (sp_E0) c5 := by rw [hc5]; exact Jc4.pI (by decide)
  have wc5 : sp_wf c5 := by rw [hc5]; exact wc4
  have fc5 : sp_fx m0 c5 sp_w0 := by rw [hc5]; exact fc4.pI (Or.inr hw0)
  have tw_5 : c5.ty wk = 12 := by rw [hc5]; exact tw_4
  have tt_5 : c5.ty t = 11 := by rw [hc5]; exact tt_4
  have rr_5 : c5.fR 644 t = some r := by rw [hc5]; exact rr_4
  have tr_5 : c5.ty r = 6 := by rw [hc5]; exact tr_4
  have p704_wk_5 : c5.fR 704 wk = (some t) := by rw [hc5]; exact p704_wk_4
  have ta15_5 : c5.ty a15 = 1 := by rw [hc5]; exact ta15_4
  have la15_5 : c5.ln a15 = 5 := by rw [hc5]; exact la15_4
  have La15_5 : sp_li G c5 a15 (G.sk 3) 0 := by rw [hc5]; exact La15_4.pI (by decide)
  have ga15_5 : m0.nx ≤ a15 := ga15_4
  have p705_wk_5 : c5.fR 705 wk = (some a15) := by rw [hc5]; exact p705_wk_4
  have p706_wk_5 : c5.fR 706 wk = (some r) := by rw [hc5]; exact p706_wk_4
  have p707_wk_5 : c5.fI 707 wk = 0 := by rw [hc5, sp_pI_fI, if_pos ⟨rfl, rfl⟩]
  clear hc5
  refine sp_aload_n X (pc := 33) (r := some wk) dX10_init_33 rfl rfl ?_
  refine sp_iconst X (pc := 34) (v := 0) dX10_init_34 (by decide) ?_
  refine sp_putI X (pc := 35) (c := 11) (i := 4) (q := 708) (a := wk) rfl (by first | assumption | omega) (by decide) rfl rfl (Or.inl rfl) ⟨rfl, rfl⟩ fl_Walk_35 dX10_init_35 ?_
  obtain ⟨c6, hc6⟩ : ∃ c, c = c5.pI 708 wk 0 := ⟨_, rfl⟩
  rw [← hc6]
  have Jc6 : sp_J G P (sp_E0) c6 := by rw [hc6]; exact Jc5.pI (by decide)
  have wc6 : sp_wf c6 := by rw [hc6]; exact wc5
  have fc6 : sp_fx m0 c6 sp_w0 := by rw [hc6]; exact fc5.pI (Or.inr hw0)
  have tw_6 : c6.ty wk = 12 := by rw [hc6]; exact tw_5
  have tt_6 : c6.ty t = 11 := by rw [hc6]; exact tt_5
  have rr_6 : c6.fR 644 t = some r := by rw [hc6]; exact rr_5
  have tr_6 : c6.ty r = 6 := by rw [hc6]; exact tr_5
  have p704_wk_6 : c6.fR 704 wk = (some t) := by rw [hc6]; exact p704_wk_5
  have ta15_6 : c6.ty a15 = 1 := by rw [hc6]; exact ta15_5
  have la15_6 : c6.ln a15 = 5 := by rw [hc6]; exact la15_5
  have La15_6 : sp_li G c6 a15 (G.sk 3) 0 := by rw [hc6]; exact La15_5.pI (by decide)
  have ga15_6 : m0.nx ≤ a15 := ga15_5
  have p705_wk_6 : c6.fR 705 wk = (some a15) := by rw [hc6]; exact p705_wk_5
  have p706_wk_6 : c6.fR 706 wk = (some r) := by rw [hc6]; exact p706_wk_5
  have p707_wk_6 : c6.fI 707 wk = 0 := by rw [hc6, sp_pI_fI, if_neg (by omega)]; exact p707_wk_5
  have p708_wk_6 : c6.fI 708 wk = 0 := by rw [hc6, sp_pI_fI, if_pos ⟨rfl, rfl⟩]
  clear hc6
  refine sp_return X (pc := 38) dX10_init_38 ⟨rfl, ?_⟩
  exact ⟨a15, Jc6, wc6, fc6, p704_wk_6, p705_wk_6, p706_wk_6, ta15_6, la15_6, La15_6, ga15_6⟩
