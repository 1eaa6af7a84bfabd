
theorem sp_J.newO0 {G : sp_G} {P E : Nat → Prop} {m : sp_M} (hJ : sp_J G P E m) (hwf : sp_wf m) (c : Nat) : sp_J G P (sp_E1 E m.nx) (m.newO c) := by
  have h9 := hJ.newO hwf c (m.ln m.nx)
  rw [show (m.newO c).gh m.nx (m.ln m.nx) = m.newO c by
    refine sp_M_ext rfl rfl ?_ rfl rfl rfl rfl rfl rfl
    funext b
    rw [sp_gh_ln]
    split
    · rename_i q; rw [q]; rfl
    · rfl] at h9
  exact h9
theorem sp_mkD_fR (m : sp_M) (o : Nat) (num : Int32) (f nm b t : Option Nat) (dd : Int32) (k a : Nat) : (sp_mkD m o num f nm b t dd).fR k a = if k = 324 ∧ a = o then t else if k = 323 ∧ a = o then b else if k = 322 ∧ a = o then nm else if k = 321 ∧ a = o then f else m.fR k a := rfl
theorem sp_mkD_fI (m : sp_M) (o : Nat) (num : Int32) (f nm b t : Option Nat) (dd : Int32) (k a : Nat) : (sp_mkD m o num f nm b t dd).fI k a = if k = 327 ∧ a = o then 0 else if k = 326 ∧ a = o then 0 else if k = 325 ∧ a = o then dd else if k = 320 ∧ a = o then num else m.fI k a := rfl
theorem sp_J.mkD {G : sp_G} {P E : Nat → Prop} {m : sp_M} {o : Nat} (hJ : sp_J G P (sp_E1 E o) m) (ho : m.ty o = 6) (num dd : Int32) (f nm b t : Option Nat) (hf : ∀ x, f = some x → m.ty x = 6 ∧ x < o) (hnm : ∃ x, nm = some x ∧ m.ty x = 5) (hb : ∀ x, b = some x → m.ty x = 2) (ht : ∀ x, t = some x → m.ty x = 8) : sp_J G P E (sp_mkD m o num f nm b t dd) := by
  have h1 : sp_J G P (sp_E1 E o) (sp_mkD m o num f nm b t dd) := (((((((hJ.pI (by decide)).pR (Or.inr (Or.inr rfl))).pR (Or.inr (Or.inr rfl))).pR (Or.inr (Or.inr rfl))).pR (Or.inr (Or.inr rfl))).pI (by decide)).pI (by decide)).pI (by decide)
  have hty : (sp_mkD m o num f nm b t dd).ty = m.ty := rfl
  refine h1.drop (fun h => by rw [hty] at h; omega) (fun h => by rw [hty] at h; omega) (fun _ => ⟨fun x hx => ?_, ?_, fun x hx => ?_, fun x hx => ?_⟩) (fun h => by rw [hty] at h; omega) (fun h => by rw [hty] at h; omega) (fun h => by rw [hty] at h; omega)
  · rw [sp_mkD_fR, if_neg (by omega), if_neg (by omega), if_neg (by omega), if_pos ⟨rfl, rfl⟩] at hx
    exact hf x hx
  · obtain ⟨x, q1, q2⟩ := hnm
    refine ⟨x, ?_, q2⟩
    rw [sp_mkD_fR, if_neg (by omega), if_neg (by omega), if_pos ⟨rfl, rfl⟩]
    exact q1
  · rw [sp_mkD_fR, if_neg (by omega), if_pos ⟨rfl, rfl⟩] at hx
    exact hb x hx
  · rw [sp_mkD_fR, if_pos ⟨rfl, rfl⟩] at hx
    exact ht x hx
theorem sp_fx.mkD {m m1 : sp_M} {w : sp_W} (h : sp_fx m m1 w) {o : Nat} (ho : m.nx ≤ o) (num dd : Int32) (f nm b t : Option Nat) : sp_fx m (sp_mkD m1 o num f nm b t dd) w :=
  (((((((h.pI (Or.inr ho)).pR (Or.inr ho)).pR (Or.inr ho)).pR (Or.inr ho)).pR (Or.inr ho)).pI (Or.inr ho)).pI (Or.inr ho)).pI (Or.inr ho)
theorem sp_fx.tr {m m' : sp_M} {w : sp_W} {A : Nat → Nat} (h : sp_fx m m' w) (hwf : sp_wf m) (ht : sp_tr m A) (hw : ∀ k a, w.2.2.1 k a → k < 640 ∨ 646 < k) : sp_tr m' A := by
  obtain ⟨t0, t1, t2, t3, t4, t5, t6, t7, t8, t9, t10, t11, t12, t13, t14, t15, t16⟩ := ht
  have q5 : A 5 < m.nx := hwf _ (by omega)
  have fr : ∀ k, 640 ≤ k → k ≤ 646 → m'.fR k (A 5) = m.fR k (A 5) := fun k h1 h2 => h.2.2.2.2.1 k _ q5 (fun z => by have := hw _ _ z; omega)
  refine ⟨h.ty hwf t0 (by decide), ?_, h.ty hwf t2 (by decide), ?_, h.ty hwf t4 (by decide), ?_, ?_, h.ty hwf t7 (by decide), ?_, ?_, h.ty hwf t10 (by decide), ?_, h.ty hwf t12 (by decide), ?_, h.ty hwf t14 (by decide), ?_, h.ty hwf t16 (by decide)⟩
  · rw [fr _ (by omega) (by omega)]; exact t1
  · rw [fr _ (by omega) (by omega)]; exact t3
  · rw [h.ln hwf t4 (by decide)]; exact t5
  · rw [fr _ (by omega) (by omega)]; exact t6
  · rw [h.ln hwf t7 (by decide)]; exact t8
  · rw [fr _ (by omega) (by omega)]; exact t9
  · rw [fr _ (by omega) (by omega)]; exact t11
  · rw [fr _ (by omega) (by omega)]; exact t13
  · rw [fr _ (by omega) (by omega)]; exact t15
theorem sp_J.npt {G : sp_G} {P : Nat → Prop} {m : sp_M} (hJ : sp_J G P sp_E0 m) {L : Nat} (hL : m.ln L ≠ 105) : ∀ a, m.ty a = 8 → ¬ sp_E0 a → m.fR 450 a ≠ some L := by
  intro a h1 h2 h3
  obtain ⟨L', nn, s, q1, q2, q3, -⟩ := hJ.2.2.2.2.2.1 a h1 h2
  cases q1.symm.trans h3
  exact hL q3
theorem sp_E10 {o : Nat} {E : Nat → Prop} : sp_E1 E o o := Or.inr rfl
set_option maxHeartbeats 2000000 in
set_option maxRecDepth 20000 in
theorem c_Tree_addNode (l : Launch) (G : sp_G) (m : sp_M) {P : Nat → Prop} {A : Nat → Nat} (hJ : sp_J G P sp_E0 m) (ht : sp_tr m A) {f nm ed s : Nat} {ob ot : Option Nat} {dd : Int32} (hG : sp_GS G) (hwf : sp_wf m) (hli : sp_li G m (A 9) ed s) (hs : s < 200) (hcap : m.ln ed ≤ 410) (hf : m.ty f = 6) (hnm : m.ty nm = 5) (hob : ∀ x, ob = some x → m.ty x = 2) (hot : ∀ x, ot = some x → m.ty x = 8) (hdd : sp_b01 dd) : sp_C l G M_Tree_addNode 2 1000 [.ref (A 5), .ref f, .ref nm, va_rf ob, va_rf ot, .int dd] m (sp_oR fun v m' => v = some m.nx ∧ sp_J G P sp_E0 m' ∧ sp_wf m' ∧ sp_fx m m' (sp_wl (A 9) ed) ∧ (∃ ed', sp_li G m' (A 9) ed' (s + 1) ∧ m'.ln ed' ≤ 410 ∧ (ed' = ed ∨ m.nx ≤ ed') ∧ (∀ j, j < s → m'.aR ed' j = m.aR ed j) ∧ m'.aR ed' s = some m.nx) ∧ m'.ty m.nx = 6 ∧ m'.fI 320 m.nx = nI s ∧ m'.fR 321 m.nx = some f ∧ m'.fR 322 m.nx = some nm ∧ m'.fR 323 m.nx = ob ∧ m'.fR 324 m.nx = ot ∧ m'.fI 325 m.nx = dd ∧ m'.fI 326 m.nx = 0 ∧ m'.fI 327 m.nx = 0) := by
  refine sp_enter (lv0 := [(0, false, va_rf (some (A 5))), (1, false, va_rf (some f)), (2, false, va_rf (some nm)), (3, false, va_rf ob), (4, false, va_rf ot), (5, false, .int dd)]) "SafePaths$Tree" false rfl (by decide) (fun h => by cases h) (by simp [lg_sl, sp_cat_rf, sp_cat_i, sp_cat_l, sp_cat_ref]) (by simp [sp_args, sp_cat_rf, sp_cat_i, sp_cat_l, sp_beq12, sp_beq22, sp_cat_ref, sp_rf_some]; done) ?_
  intro w X
  obtain ⟨t0, t1, t2, t3, t4, t5, t6, t7, t8, t9, t10, t11, t12, t13, t14, t15, t16⟩ := ht
  have hz := hwf.z
  have h5n : ¬ A 5 = m.nx := by have := hwf (A 5) (by omega); omega
  have h9n : ¬ A 9 = m.nx := by have := hwf (A 9) (by omega); omega
  have hfn : f < m.nx := hwf f (by omega)
  have hnn : nm < m.nx := hwf nm (by omega)
  have hcl := sp_cap_le (m.ln ed)
  have o5 : (m.newO 5).ty (A 5) = 11 := by rw [sp_newO_ty, if_neg h5n]; exact t0
  have o9 : (m.newO 5).ty (A 9) = 1 := by rw [sp_newO_ty, if_neg h9n]; exact t4
  have oo : (m.newO 5).ty m.nx = 6 := by rw [sp_newO_ty, if_pos rfl]
  refine sp_new X (pc := 0) (c := 5) (N := 8) (by decide) rfl cl_Tree_30 in_5 it_5 (by decide) (by decide) dX9_addNode_0 ?_
  refine sp_dup X (pc := 3) dX9_addNode_3 (sp_cat_rf _) ?_
  refine sp_aload_n X (pc := 4) (r := some (A 5)) dX9_addNode_4 rfl rfl ?_
  refine sp_getfield X (pc := 5) (c := 10) (i := 1) (t := 2) (a := (A 5)) (v := va_rf (some (A 9))) rfl o5 (by decide) rfl (Eq.trans (by simp [sp_fv, sp_pI_nx, sp_pI_ty, sp_pI_ln, sp_pI_fI, sp_pI_fL, sp_pI_fR, sp_pI_aI, sp_pI_aL, sp_pI_aR, sp_pL_nx, sp_pL_ty, sp_pL_ln, sp_pL_fI, sp_pL_fL, sp_pL_fR, sp_pL_aI, sp_pL_aL, sp_pL_aR, sp_pR_nx, sp_pR_ty, sp_pR_ln, sp_pR_fI, sp_pR_fL, sp_pR_fR, sp_pR_aI, sp_pR_aL, sp_pR_aR, sp_sI_nx, sp_sI_ty, sp_sI_ln, sp_sI_fI, sp_sI_fL, sp_sI_fR, sp_sI_aI, sp_sI_aL, sp_sI_aR, sp_sL_nx, sp_sL_ty, sp_sL_ln, sp_sL_fI, sp_sL_fL, sp_sL_fR, sp_sL_aI, sp_sL_aL, sp_sL_aR, sp_sR_nx, sp_sR_ty, sp_sR_ln, sp_sR_fI, sp_sR_fL, sp_sR_fR, sp_sR_aI, sp_sR_aL, sp_sR_aR, sp_newO_nx, sp_newA_nx, sp_newO_ty, sp_newA_ty, sp_newO_ln, sp_newA_ln, sp_newO_fI, sp_newA_fI, sp_newO_fL, sp_newA_fL, sp_newO_fR, sp_newA_fR, sp_newO_aI, sp_newA_aI, sp_newO_aL, sp_newA_aL, sp_newO_aR, sp_newA_aR, h5n]) (congrArg va_rf t3)) fl_Tree_16 dX9_addNode_5 ?_
  refine sp_callV X (pc := 8) (mc := 0) (ms := 0) (b := (A 9)) (c := 0) (r := (some (A 9))) (As := []) (rest := [va_rf (some m.nx), va_rf (some m.nx)]) (c_List_size l G _ o9) ok_List_size rfl o9 (by decide) rfl lk_Tree_72 rfl rfl (by simp [sp_cat_rf, sp_cat_i, sp_cat_l]) (Nat.le_of_ble_eq_true rfl) (Nat.le_of_ble_eq_true rfl) (Nat.zero_le _) (Nat.zero_le _) dX9_addNode_8 (sp_kI fun v8 m8 hp8 => ?_)
  obtain ⟨hp8v, hp8⟩ := hp8; replace hp8 := (hp8).symm; subst hp8; replace hp8v := (hp8v).symm; subst hp8v
  rw [show (m.newO 5).fI 2 (A 9) = nI s by rw [sp_newO_fI, if_neg h9n]; exact hli.2.2.1]
  refine sp_aload_n X (pc := 11) (r := some f) dX9_addNode_11 rfl rfl ?_
  refine sp_aload_n X (pc := 12) (r := some nm) dX9_addNode_12 rfl rfl ?_
  refine sp_aload_n X (pc := 13) (r := ob) dX9_addNode_13 rfl rfl ?_
  refine sp_aload X (pc := 14) (r := ot) dX9_addNode_14 rfl ?_
  refine sp_iload X (pc := 16) (x := dd) dX9_addNode_16 rfl ?_
  refine sp_callI X (pc := 18) (mc := 0) (ms := 0) (b := m.nx) (r := some m.nx) (As := [.int (nI s), va_rf (some f), va_rf (some nm), va_rf ob, va_rf ot, .int dd]) (rest := [va_rf (some m.nx)]) (c_Node_init l G _ (o := m.nx) oo hdd) ok_Node_init rfl rfl lk_Tree_43 rfl rfl (by simp [sp_cat_rf, sp_cat_i, sp_cat_l]) (Nat.le_of_ble_eq_true rfl) (Nat.le_of_ble_eq_true rfl) (Nat.zero_le _) (Nat.zero_le _) dX9_addNode_18 (sp_kV fun m18 hp18 => ?_)
  subst hp18
  have hJo := hJ.newO0 hwf 5
  obtain ⟨m1, hm1⟩ : ∃ m1, m1 = sp_mkD (m.newO 5) m.nx (nI s) (some f) (some nm) ob ot dd := ⟨_, rfl⟩
  have hcv : ∀ x k, m.ty x = k → k ≠ 0 → (m.newO 5).ty x = k ∧ x < m.nx := fun x k h1 h2 => by
    have := hwf x (by rw [h1]; exact h2)
    exact ⟨by rw [sp_newO_ty, if_neg (by omega)]; exact h1, this⟩
  have hJ1 : sp_J G P sp_E0 m1 := by
    rw [hm1]
    exact hJo.mkD oo _ _ _ _ _ _ (fun x hx => by cases hx; exact hcv f _ hf (by decide)) ⟨nm, rfl, (hcv nm _ hnm (by decide)).1⟩ (fun x hx => (hcv x _ (hob x hx) (by decide)).1) (fun x hx => (hcv x _ (hot x hx) (by decide)).1)
  have hw1 : sp_wf m1 := by rw [hm1]; exact hwf.newO 5
  have hfx : sp_fx m m1 sp_w0 := by rw [hm1]; exact ((sp_fx.refl m sp_w0).newO 5).mkD (Nat.le_refl _) _ _ _ _ _ _
  have hL1 : sp_li G m1 (A 9) ed s := hfx.li hwf hli (fun z => z) (fun z => z)
  have hled : m1.ln ed = m.ln ed := (hfx.2.1 ed (hwf ed (by have := hli.2.2.2.2.2; omega))).2
  have h1t : m1.ty m.nx = 6 := by rw [hm1]; exact oo
  have h1n : m1.nx = m.nx + 1 := by rw [hm1]; rfl
  have n1 : m1.fI 320 m.nx = nI s := by rw [hm1, sp_mkD_fI]; simp
  have n2 : m1.fR 321 m.nx = some f := by rw [hm1, sp_mkD_fR]; simp
  have n3 : m1.fR 322 m.nx = some nm := by rw [hm1, sp_mkD_fR]; simp
  have n4 : m1.fR 323 m.nx = ob := by rw [hm1, sp_mkD_fR]; simp
  have n5 : m1.fR 324 m.nx = ot := by rw [hm1, sp_mkD_fR]; simp
  have n6 : m1.fI 325 m.nx = dd := by rw [hm1, sp_mkD_fI]; simp
  have n7 : m1.fI 326 m.nx = 0 := by rw [hm1, sp_mkD_fI]; simp
  have n8 : m1.fI 327 m.nx = 0 := by rw [hm1, sp_mkD_fI]; simp
  rw [show sp_mkD (m.newO 5) m.nx (nI s) (some f) (some nm) ob ot dd = m1 from hm1.symm]
  clear hm1
  refine sp_astore X (pc := 21) (lv' := [(6, false, va_rf (some m.nx)), (0, false, va_rf (some (A 5))), (1, false, va_rf (some f)), (2, false, va_rf (some nm)), (3, false, va_rf ob), (4, false, va_rf ot), (5, false, .int dd)]) dX9_addNode_21  (by decide) rfl ?_
  refine sp_aload_n X (pc := 23) (r := some (A 5)) dX9_addNode_23 rfl rfl ?_
  refine sp_getfield X (pc := 24) (c := 10) (i := 1) (t := 2) (a := (A 5)) (v := va_rf (some (A 9))) rfl (hfx.ty hwf t0 (by decide)) (by decide) rfl (congrArg va_rf ((hfx.2.2.2.2.1 _ _ (hwf (A 5) (by omega)) (fun z => z)).trans t3)) fl_Tree_16 dX9_addNode_24 ?_
  refine sp_aload X (pc := 27) (r := some m.nx) dX9_addNode_27 rfl ?_
  refine sp_callV X (pc := 29) (mc := (if s < m1.ln ed then 0 else 1)) (ms := (if s < m1.ln ed then 0 else sp_cap (m1.ln ed))) (b := (A 9)) (c := 0) (r := (some (A 9))) (As := [va_rf (some m.nx)]) (rest := []) (c_List_add1 l G _ (o := A 9) (ed := ed) (s := s) (b := m.nx) hG hL1 hw1 (by omega) (hJ1.elob hL1 (sp_e0 _)) ⟨5, h1t, by decide, ca_5⟩) ok_List_add1 rfl hL1.1 (by decide) rfl lk_Tree_68 rfl rfl (Nat.zero_le _) (Nat.le_of_ble_eq_true rfl) (Nat.le_of_ble_eq_true rfl) (by split <;> omega) (by rw [hled]; split <;> omega) dX9_addNode_29 (sp_kI fun v29 m29 hp29 => ?_)
  obtain ⟨hv29, had⟩ := hp29
  refine sp_pop X (pc := 32) dX9_addNode_32 rfl ?_
  refine sp_aload X (pc := 33) (r := some m.nx) dX9_addNode_33 rfl ?_
  refine sp_areturn X (pc := 35) (by first | exact Or.inl ⟨_, rfl⟩ | exact Or.inr ⟨_, rfl⟩) dX9_addNode_35 ⟨_, rfl, ?_⟩
  have hl9 : m1.ln (A 9) = 6 := by rw [hfx.ln hwf t4 (by decide)]; exact t5
  have hJ2 := hJ1.add hw1 hL1 (sp_e0 _) (hJ1.npt (by omega)) (by rw [hl9]; exact ⟨h1t, fun z => by omega⟩) had
  have hfx2 : sp_fx m m29 (sp_wl (A 9) ed) := sp_fx.ad (hfx.mono (fun _ _ _ z => z.elim) (fun _ _ _ z => z.elim) (fun _ _ _ z => z.elim) (fun _ _ z => z.elim)) had (Or.inr ⟨⟨Or.inl rfl, rfl⟩, ⟨Or.inr rfl, rfl⟩, ⟨rfl, rfl⟩⟩) (Or.inr (Or.inl rfl))
  have hw2 := hw1.ad had
  obtain ⟨ed', q1, q2, q3, q4, q5, q6, q7, q8, q9⟩ := had
  have hne : m.nx ≠ A 9 := fun z => h9n z.symm
  have ht2 : m29.ty m.nx = 6 := by
    rcases q4 with q | q
    · rw [q.2.2.2.1]; exact h1t
    · rw [q.2.2.2.1]
      unfold sp_u1
      rw [if_neg (by omega)]
      exact h1t
  have hfi : ∀ k, m29.fI k m.nx = m1.fI k m.nx := fun k => q6 k _ (by omega) (by omega)
  have hfr : ∀ k, m29.fR k m.nx = m1.fR k m.nx := fun k => q5 k _ (by omega)
  refine ⟨rfl, hJ2, hw2, hfx2, ⟨ed', q1, ?_, ?_, fun j hj => ?_, q3⟩, ht2, (hfi _).trans n1, (hfr _).trans n2, (hfr _).trans n3, (hfr _).trans n4, (hfr _).trans n5, (hfi _).trans n6, (hfi _).trans n7, (hfi _).trans n8⟩
  · rcases q4 with q | q
    · rw [q.2.2.2.2, q.2.1, hled]; exact hcap
    · rw [q.2.2.2.2, q.2.1]
      unfold sp_u1
      rw [if_pos rfl, hled]
      have := q.1
      have := hli.2.2.2.1
      omega
  · rcases q4 with q | q
    · exact Or.inl q.2.1
    · right; omega
  · rw [q2 j hj]
    have := hli.2.2.2.2.2
    rw [(hfx.2.2.2.2.2 ed (hwf ed (by omega)) (fun z => z)).2.2]
set_option maxHeartbeats 2000000 in
set_option maxRecDepth 20000 in
theorem c_Tree_addBody (l : Launch) (G : sp_G) (m : sp_M) {P : Nat → Prop} {A : Nat → Nat} (hJ : sp_J G P sp_E0 m) (ht : sp_tr m A) {ed s : Nat} {sz : Int64} {va : Int32} (hG : sp_GS G) (hwf : sp_wf m) (hli : sp_li G m (A 10) ed s) (hs : s < 300) (hcap : m.ln ed ≤ 610) : sp_C l G M_Tree_addBody 2 1500 [.ref (A 5), .long sz, .int va] m (sp_oR fun v m' => v = some m.nx ∧ sp_J G P sp_E0 m' ∧ sp_wf m' ∧ sp_fx m m' (sp_wl (A 10) ed) ∧ (∃ ed', sp_li G m' (A 10) ed' (s + 1) ∧ m'.ln ed' ≤ 610 ∧ (ed' = ed ∨ m.nx ≤ ed') ∧ (∀ j, j < s → m'.aR ed' j = m.aR ed j) ∧ m'.aR ed' s = some m.nx) ∧ m'.ty m.nx = 2 ∧ m'.fI 64 m.nx = nI s ∧ m'.fL 65 m.nx = sz ∧ m'.fI 66 m.nx = va) := by
  refine sp_enter (lv0 := [(0, false, va_rf (some (A 5))), (1, true, .long sz), (3, false, .int va)]) "SafePaths$Tree" false rfl (by decide) (fun h => by cases h) (Nat.le_of_ble_eq_true rfl) rfl ?_
  intro w X
  obtain ⟨t0, t1, t2, t3, t4, t5, t6, t7, t8, t9, t10, t11, t12, t13, t14, t15, t16⟩ := ht
  have hz := hwf.z
  have h5n : ¬ A 5 = m.nx := by have := hwf (A 5) (by omega); omega
  have h9n : ¬ A 10 = m.nx := by have := hwf (A 10) (by omega); omega
  have hcl := sp_cap_le (m.ln ed)
  have o5 : (m.newO 1).ty (A 5) = 11 := by rw [sp_newO_ty, if_neg h5n]; exact t0
  have o9 : (m.newO 1).ty (A 10) = 1 := by rw [sp_newO_ty, if_neg h9n]; exact t7
  have oo : (m.newO 1).ty m.nx = 2 := by rw [sp_newO_ty, if_pos rfl]
  refine sp_new X (pc := 0) (c := 1) (N := 3) (by decide) rfl cl_Tree_23 in_1 it_1 (by decide) (by decide) dX9_addBody_0 ?_
  refine sp_dup X (pc := 3) dX9_addBody_3 (sp_cat_rf _) ?_
  refine sp_aload_n X (pc := 4) (r := some (A 5)) dX9_addBody_4 rfl rfl ?_
  refine sp_getfield X (pc := 5) (c := 10) (i := 2) (t := 2) (a := (A 5)) (v := va_rf (some (A 10))) rfl o5 (by decide) rfl (Eq.trans (by simp [sp_fv, sp_pI_nx, sp_pI_ty, sp_pI_ln, sp_pI_fI, sp_pI_fL, sp_pI_fR, sp_pI_aI, sp_pI_aL, sp_pI_aR, sp_pL_nx, sp_pL_ty, sp_pL_ln, sp_pL_fI, sp_pL_fL, sp_pL_fR, sp_pL_aI, sp_pL_aL, sp_pL_aR, sp_pR_nx, sp_pR_ty, sp_pR_ln, sp_pR_fI, sp_pR_fL, sp_pR_fR, sp_pR_aI, sp_pR_aL, sp_pR_aR, sp_sI_nx, sp_sI_ty, sp_sI_ln, sp_sI_fI, sp_sI_fL, sp_sI_fR, sp_sI_aI, sp_sI_aL, sp_sI_aR, sp_sL_nx, sp_sL_ty, sp_sL_ln, sp_sL_fI, sp_sL_fL, sp_sL_fR, sp_sL_aI, sp_sL_aL, sp_sL_aR, sp_sR_nx, sp_sR_ty, sp_sR_ln, sp_sR_fI, sp_sR_fL, sp_sR_fR, sp_sR_aI, sp_sR_aL, sp_sR_aR, sp_newO_nx, sp_newA_nx, sp_newO_ty, sp_newA_ty, sp_newO_ln, sp_newA_ln, sp_newO_fI, sp_newA_fI, sp_newO_fL, sp_newA_fL, sp_newO_fR, sp_newA_fR, sp_newO_aI, sp_newA_aI, sp_newO_aL, sp_newA_aL, sp_newO_aR, sp_newA_aR, h5n]) (congrArg va_rf t6)) fl_Tree_20 dX9_addBody_5 ?_
  refine sp_callV X (pc := 8) (mc := 0) (ms := 0) (b := (A 10)) (c := 0) (r := (some (A 10))) (As := []) (rest := [va_rf (some m.nx), va_rf (some m.nx)]) (c_List_size l G _ o9) ok_List_size rfl o9 (by decide) rfl lk_Tree_72 rfl rfl (by simp [sp_cat_rf, sp_cat_i, sp_cat_l]) (Nat.le_of_ble_eq_true rfl) (Nat.le_of_ble_eq_true rfl) (Nat.zero_le _) (Nat.zero_le _) dX9_addBody_8 (sp_kI fun v8 m8 hp8 => ?_)
  obtain ⟨hp8v, hp8⟩ := hp8; replace hp8 := (hp8).symm; subst hp8; replace hp8v := (hp8v).symm; subst hp8v
  rw [show (m.newO 1).fI 2 (A 10) = nI s by rw [sp_newO_fI, if_neg h9n]; exact hli.2.2.1]
  refine sp_lload_n X (pc := 11) (x := sz) dX9_addBody_11 rfl rfl ?_
  refine sp_iload_n X (pc := 12) (x := va) dX9_addBody_12 rfl rfl ?_
  refine sp_callI X (pc := 13) (mc := 0) (ms := 0) (b := m.nx) (r := some m.nx) (As := [.int (nI s), .long sz, .int va]) (rest := [va_rf (some m.nx)]) (c_Body_init l G _ (o := m.nx) oo) ok_Body_init rfl rfl lk_Tree_27 rfl rfl (by simp [sp_cat_rf, sp_cat_i, sp_cat_l]) (Nat.le_of_ble_eq_true rfl) (Nat.le_of_ble_eq_true rfl) (Nat.zero_le _) (Nat.zero_le _) dX9_addBody_13 (sp_kV fun m13 hp13 => ?_)
  subst hp13
  have hJo := hJ.newO0 hwf 1
  obtain ⟨m1, hm1⟩ : ∃ m1, m1 = sp_mkB (m.newO 1) m.nx (nI s) sz va := ⟨_, rfl⟩
  have h1t : m1.ty m.nx = 2 := by rw [hm1]; exact oo
  have hJ1 : sp_J G P sp_E0 m1 := by
    have h9 : sp_J G P (sp_E1 sp_E0 m.nx) m1 := by rw [hm1]; exact ((hJo.pI (by decide)).pL).pI (by decide)
    exact h9.drop (fun h => by omega) (fun h => by omega) (fun h => by omega) (fun h => by omega) (fun h => by omega) (fun h => by omega)
  have hw1 : sp_wf m1 := by rw [hm1]; exact hwf.newO 1
  have hfx : sp_fx m m1 sp_w0 := by rw [hm1]; exact ((((sp_fx.refl m sp_w0).newO 1).pI (Or.inr (Nat.le_refl _))).pL (Or.inr (Nat.le_refl _))).pI (Or.inr (Nat.le_refl _))
  have hL1 : sp_li G m1 (A 10) ed s := hfx.li hwf hli (fun z => z) (fun z => z)
  have hled : m1.ln ed = m.ln ed := (hfx.2.1 ed (hwf ed (by have := hli.2.2.2.2.2; omega))).2
  have h1n : m1.nx = m.nx + 1 := by rw [hm1]; rfl
  have n1 : m1.fI 64 m.nx = nI s := by rw [hm1]; show (((m.newO 1).pI 64 m.nx (nI s)).pI 66 m.nx va).fI 64 m.nx = _; rw [sp_pI_fI, if_neg (by omega), sp_pI_fI, if_pos ⟨rfl, rfl⟩]
  have n2 : m1.fL 65 m.nx = sz := by rw [hm1]; show ((m.newO 1).pL 65 m.nx sz).fL 65 m.nx = _; rw [sp_pL_fL, if_pos ⟨rfl, rfl⟩]
  have n3 : m1.fI 66 m.nx = va := by rw [hm1]; show (((m.newO 1).pI 64 m.nx (nI s)).pI 66 m.nx va).fI 66 m.nx = _; rw [sp_pI_fI, if_pos ⟨rfl, rfl⟩]
  rw [show sp_mkB (m.newO 1) m.nx (nI s) sz va = m1 from hm1.symm]
  clear hm1
  refine sp_astore X (pc := 16) (lv' := [(4, false, va_rf (some m.nx)), (0, false, va_rf (some (A 5))), (1, true, .long sz), (3, false, .int va)]) dX9_addBody_16  (by decide) rfl ?_
  refine sp_aload_n X (pc := 18) (r := some (A 5)) dX9_addBody_18 rfl rfl ?_
  refine sp_getfield X (pc := 19) (c := 10) (i := 2) (t := 2) (a := (A 5)) (v := va_rf (some (A 10))) rfl (hfx.ty hwf t0 (by decide)) (by decide) rfl (congrArg va_rf ((hfx.2.2.2.2.1 _ _ (hwf (A 5) (by omega)) (fun z => z)).trans t6)) fl_Tree_20 dX9_addBody_19 ?_
  refine sp_aload X (pc := 22) (r := some m.nx) dX9_addBody_22 rfl ?_
  refine sp_callV X (pc := 24) (mc := (if s < m1.ln ed then 0 else 1)) (ms := (if s < m1.ln ed then 0 else sp_cap (m1.ln ed))) (b := (A 10)) (c := 0) (r := (some (A 10))) (As := [va_rf (some m.nx)]) (rest := []) (c_List_add1 l G _ (o := A 10) (ed := ed) (s := s) (b := m.nx) hG hL1 hw1 (by omega) (hJ1.elob hL1 (sp_e0 _)) ⟨1, h1t, by decide, ca_1⟩) ok_List_add1 rfl hL1.1 (by decide) rfl lk_Tree_68 rfl rfl (Nat.zero_le _) (Nat.le_of_ble_eq_true rfl) (Nat.le_of_ble_eq_true rfl) (by split <;> omega) (by rw [hled]; split <;> omega) dX9_addBody_24 (sp_kI fun v24 m24 hp24 => ?_)
  obtain ⟨hv24, had⟩ := hp24
  refine sp_pop X (pc := 27) dX9_addBody_27 rfl ?_
  refine sp_aload X (pc := 28) (r := some m.nx) dX9_addBody_28 rfl ?_
  refine sp_areturn X (pc := 30) (by first | exact Or.inl ⟨_, rfl⟩ | exact Or.inr ⟨_, rfl⟩) dX9_addBody_30 ⟨_, rfl, ?_⟩
  have hl9 : m1.ln (A 10) = 2 := by rw [hfx.ln hwf t7 (by decide)]; exact t8
  have hJ2 := hJ1.add hw1 hL1 (sp_e0 _) (hJ1.npt (by omega)) (by rw [hl9]; exact ⟨h1t, fun z => by omega⟩) had
  have hfx2 : sp_fx m m24 (sp_wl (A 10) ed) := sp_fx.ad (hfx.mono (fun _ _ _ z => z.elim) (fun _ _ _ z => z.elim) (fun _ _ _ z => z.elim) (fun _ _ z => z.elim)) had (Or.inr ⟨⟨Or.inl rfl, rfl⟩, ⟨Or.inr rfl, rfl⟩, ⟨rfl, rfl⟩⟩) (Or.inr (Or.inl rfl))
  have hw2 := hw1.ad had
  obtain ⟨ed', q1, q2, q3, q4, q5, q6, q7, q8, q9⟩ := had
  have ht2 : m24.ty m.nx = 2 := by
    rcases q4 with q | q
    · rw [q.2.2.2.1]; exact h1t
    · rw [q.2.2.2.1]
      unfold sp_u1
      rw [if_neg (by omega)]
      exact h1t
  have hne : m.nx ≠ A 10 := fun z => h9n z.symm
  refine ⟨rfl, hJ2, hw2, hfx2, ⟨ed', q1, ?_, ?_, fun j hj => ?_, q3⟩, ht2, (q6 _ _ (by omega) (by omega)).trans n1, (by rw [q7]; exact n2), (q6 _ _ (by omega) (by omega)).trans n3⟩
  · rcases q4 with q | q
    · rw [q.2.2.2.2, q.2.1, hled]; exact hcap
    · rw [q.2.2.2.2, q.2.1]
      unfold sp_u1
      rw [if_pos rfl, hled]
      have := q.1
      have := hli.2.2.2.1
      omega
  · rcases q4 with q | q
    · exact Or.inl q.2.1
    · right; omega
  · rw [q2 j hj]
    have := hli.2.2.2.2.2
    rw [(hfx.2.2.2.2.2 ed (hwf ed (by omega)) (fun z => z)).2.2]
