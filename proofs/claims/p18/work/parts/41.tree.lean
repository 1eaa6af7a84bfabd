
/-- a node as it is made -/
def sp_nq (m : sp_M) (a : Nat) (num : Int32) (f : Option Nat) (u : List Int32) (b : Option Nat) : Prop := m.ty a = 6 ∧ m.fI 320 a = num ∧ m.fR 321 a = f ∧ (∃ nm, m.fR 322 a = some nm ∧ sp_nv m nm u) ∧ (m.fI 325 a = 0 ∧ m.fI 326 a = 0 ∧ m.fI 327 a = 0) ∧ m.fR 323 a = b ∧ m.fR 324 a = none
def sp_bq (m : sp_M) (a : Nat) (num : Int32) (sz : Int64) (va : Int32) : Prop := m.ty a = 2 ∧ m.fI 64 a = num ∧ m.fL 65 a = sz ∧ m.fI 66 a = va
theorem sp_nv.w0 {m m' : sp_M} {nm : Nat} {u : List Int32} (h : sp_nv m nm u) (hwf : sp_wf m) (hf : sp_fx m m' sp_w0) : sp_nv m' nm u := h.fx hwf hf (fun z => z) (fun z => z) (fun _ z => z.elim)
theorem sp_nv.wl {m m' : sp_M} {nm L ed : Nat} {u : List Int32} (h : sp_nv m nm u) (hwf : sp_wf m) (hf : sp_fx m m' (sp_wl L ed)) (he : m.ty ed ≠ 20) : sp_nv m' nm u := h.fx hwf hf (by rintro ⟨z, -⟩; omega) (by rintro ⟨z, -⟩; omega) (fun a z => by have z : a = ed := z; rw [z]; exact he)
theorem sp_nv.pR {m : sp_M} {nm k a : Nat} {u : List Int32} {v : Option Nat} (h : sp_nv m nm u) (hk : k ≠ 256 ∧ k ≠ 257) : sp_nv (m.pR k a v) nm u := by
  obtain ⟨b, s, ⟨h1, h2, h3, h4⟩, h5⟩ := h
  exact ⟨b, s, ⟨h1, by rw [sp_pR_fR, if_neg (by omega)]; exact h2, by rw [sp_pR_fR, if_neg (by omega)]; exact h3, h4⟩, h5⟩
theorem sp_nv.pI {m : sp_M} {nm k a : Nat} {u : List Int32} {v : Int32} (h : sp_nv m nm u) (hk : k ≠ 256) : sp_nv (m.pI k a v) nm u := h
theorem sp_nq.gen {m m' : sp_M} {w : sp_W} {a : Nat} {num : Int32} {f b : Option Nat} {u : List Int32} (h : sp_nq m a num f u b) (hwf : sp_wf m) (hf : sp_fx m m' w) (h1 : ∀ k, 320 ≤ k → ¬ w.1 k a) (h2 : ∀ k, 320 ≤ k → ¬ w.2.2.1 k a) (h3 : ∀ nm, sp_nv m nm u → sp_nv m' nm u) : sp_nq m' a num f u b := by
  obtain ⟨n1, n2, n3, ⟨nm, n4, n5⟩, ⟨n6, n7, n8⟩, n9, n10⟩ := h
  have hl : a < m.nx := hwf _ (by omega)
  exact ⟨hf.ty hwf n1 (by decide), by rw [hf.2.2.1 _ _ hl (h1 _ (by decide))]; exact n2, by rw [hf.2.2.2.2.1 _ _ hl (h2 _ (by decide))]; exact n3, ⟨nm, by rw [hf.2.2.2.2.1 _ _ hl (h2 _ (by decide))]; exact n4, h3 nm n5⟩, ⟨by rw [hf.2.2.1 _ _ hl (h1 _ (by decide))]; exact n6, by rw [hf.2.2.1 _ _ hl (h1 _ (by decide))]; exact n7, by rw [hf.2.2.1 _ _ hl (h1 _ (by decide))]; exact n8⟩, by rw [hf.2.2.2.2.1 _ _ hl (h2 _ (by decide))]; exact n9, by rw [hf.2.2.2.2.1 _ _ hl (h2 _ (by decide))]; exact n10⟩
theorem sp_nq.w0 {m m' : sp_M} {a : Nat} {num : Int32} {f b : Option Nat} {u : List Int32} (h : sp_nq m a num f u b) (hwf : sp_wf m) (hf : sp_fx m m' sp_w0) : sp_nq m' a num f u b := h.gen hwf hf (fun _ _ z => z) (fun _ _ z => z) (fun _ z => z.w0 hwf hf)
theorem sp_nq.wl {m m' : sp_M} {a L ed : Nat} {num : Int32} {f b : Option Nat} {u : List Int32} (h : sp_nq m a num f u b) (hwf : sp_wf m) (hf : sp_fx m m' (sp_wl L ed)) (he : m.ty ed ≠ 20) : sp_nq m' a num f u b := h.gen hwf hf (by rintro k hk ⟨z, -⟩; omega) (by rintro k hk ⟨z, -⟩; omega) (fun _ z => z.wl hwf hf he)
theorem sp_nq.pR {m : sp_M} {a k x : Nat} {num : Int32} {f b v : Option Nat} {u : List Int32} (h : sp_nq m a num f u b) (hk : k ≠ 256 ∧ k ≠ 257 ∧ (k < 320 ∨ 327 < k)) : sp_nq (m.pR k x v) a num f u b := by
  obtain ⟨n1, n2, n3, ⟨nm, n4, n5⟩, n6, n9, n10⟩ := h
  exact ⟨n1, n2, by rw [sp_pR_fR, if_neg (by omega)]; exact n3, ⟨nm, by rw [sp_pR_fR, if_neg (by omega)]; exact n4, n5.pR ⟨hk.1, hk.2.1⟩⟩, n6, by rw [sp_pR_fR, if_neg (by omega)]; exact n9, by rw [sp_pR_fR, if_neg (by omega)]; exact n10⟩
theorem sp_nq.pI {m : sp_M} {a k x : Nat} {num v : Int32} {f b : Option Nat} {u : List Int32} (h : sp_nq m a num f u b) (hk : k < 320 ∨ 327 < k) : sp_nq (m.pI k x v) a num f u b := by
  obtain ⟨n1, n2, n3, ⟨nm, n4, n5⟩, ⟨n6, n7, n8⟩, n9, n10⟩ := h
  exact ⟨n1, by rw [sp_pI_fI, if_neg (by omega)]; exact n2, n3, ⟨nm, n4, n5⟩, ⟨by rw [sp_pI_fI, if_neg (by omega)]; exact n6, by rw [sp_pI_fI, if_neg (by omega)]; exact n7, by rw [sp_pI_fI, if_neg (by omega)]; exact n8⟩, n9, n10⟩
theorem sp_bq.w0 {m m' : sp_M} {a : Nat} {num va : Int32} {sz : Int64} (h : sp_bq m a num sz va) (hwf : sp_wf m) (hf : sp_fx m m' sp_w0) : sp_bq m' a num sz va := by
  obtain ⟨n1, n2, n3, n4⟩ := h
  have hl : a < m.nx := hwf _ (by omega)
  exact ⟨hf.ty hwf n1 (by decide), by rw [hf.2.2.1 _ _ hl (fun z => z)]; exact n2, by rw [hf.2.2.2.1 _ _ hl (fun z => z)]; exact n3, by rw [hf.2.2.1 _ _ hl (fun z => z)]; exact n4⟩
theorem sp_bq.wl {m m' : sp_M} {a L ed : Nat} {num va : Int32} {sz : Int64} (h : sp_bq m a num sz va) (hwf : sp_wf m) (hf : sp_fx m m' (sp_wl L ed)) : sp_bq m' a num sz va := by
  obtain ⟨n1, n2, n3, n4⟩ := h
  have hl : a < m.nx := hwf _ (by omega)
  exact ⟨hf.ty hwf n1 (by decide), by rw [hf.2.2.1 _ _ hl (by rintro ⟨z, -⟩; omega)]; exact n2, by rw [hf.2.2.2.1 _ _ hl (fun z => z)]; exact n3, by rw [hf.2.2.1 _ _ hl (by rintro ⟨z, -⟩; omega)]; exact n4⟩
theorem sp_bq.pR {m : sp_M} {a k x : Nat} {num va : Int32} {sz : Int64} {v : Option Nat} (h : sp_bq m a num sz va) (_ : k ≠ 0) : sp_bq (m.pR k x v) a num sz va := h
theorem sp_bq.pI {m : sp_M} {a k x : Nat} {num va v : Int32} {sz : Int64} (h : sp_bq m a num sz va) (hk : k ≠ 64 ∧ k ≠ 66) : sp_bq (m.pI k x v) a num sz va :=
  ⟨h.1, by rw [sp_pI_fI, if_neg (by omega)]; exact h.2.1, h.2.2.1, by rw [sp_pI_fI, if_neg (by omega)]; exact h.2.2.2⟩
theorem sp_mkB_bq (m : sp_M) (o : Nat) (num : Int32) (sz : Int64) (va : Int32) (h : m.ty o = 2) : sp_bq (sp_mkB m o num sz va) o num sz va := by
  refine ⟨h, ?_, ?_, ?_⟩
  · show ((m.pI 64 o num).pI 66 o va).fI 64 o = _
    rw [sp_pI_fI, if_neg (by omega), sp_pI_fI, if_pos ⟨rfl, rfl⟩]
  · show (m.pL 65 o sz).fL 65 o = _
    rw [sp_pL_fL, if_pos ⟨rfl, rfl⟩]
  · show ((m.pI 64 o num).pI 66 o va).fI 66 o = _
    rw [sp_pI_fI, if_pos ⟨rfl, rfl⟩]
theorem sp_mkN_nv (m : sp_M) (o n : Nat) (g : Nat → Int32) (u : List Int32) (ho : m.ty o = 5) (hon : o < m.nx) (hn : n ≤ 160) (hu : u.length = n) (hg : ∀ i, i < n → g i = u.getD i 0) : sp_nv (sp_mkN m o n g) o u := by
  refine ⟨_, _, sp_mkN_nm m o n g ho hon hn, ?_, fun i hi => ?_⟩
  · rw [sp_mkN_ln, if_neg (by omega), if_pos rfl, hu]
  · rw [sp_mkN_aI, if_neg (by omega), if_pos rfl, if_pos (by omega)]
    exact hg i (by omega)
theorem sp_mkD_ty (m : sp_M) (o : Nat) (num : Int32) (f nm b t : Option Nat) (dd : Int32) : (sp_mkD m o num f nm b t dd).ty = m.ty := by
  unfold sp_mkD
  rw [sp_pI_ty, sp_pI_ty, sp_pI_ty, sp_pR_ty, sp_pR_ty, sp_pR_ty, sp_pR_ty, sp_pI_ty]
theorem sp_mkD_nx (m : sp_M) (o : Nat) (num : Int32) (f nm b t : Option Nat) (dd : Int32) : (sp_mkD m o num f nm b t dd).nx = m.nx := by
  unfold sp_mkD
  rw [sp_pI_nx, sp_pI_nx, sp_pI_nx, sp_pR_nx, sp_pR_nx, sp_pR_nx, sp_pR_nx, sp_pI_nx]
theorem sp_mkD_wf {m : sp_M} (h : sp_wf m) (o : Nat) (num : Int32) (f nm b t : Option Nat) (dd : Int32) : sp_wf (sp_mkD m o num f nm b t dd) := fun a ha => by
  rw [sp_mkD_ty] at ha
  rw [sp_mkD_nx]
  exact h a ha
theorem sp_mkD_nq {m : sp_M} {o : Nat} {num : Int32} {f : Option Nat} {nm : Nat} {b : Option Nat} {u : List Int32} (hwf : sp_wf m) (ho : m.ty o = 6) (hnv : sp_nv m nm u) : sp_nq (sp_mkD m o num f (some nm) b none 0) o num f u b := by
  have hne : nm ≠ o := fun z => by
    obtain ⟨b1, s1, q1, -⟩ := hnv
    have := q1.1
    rw [z] at this
    omega
  have hfx : sp_fx m (sp_mkD m o num f (some nm) b none 0) (sp_wo o) := ((((((((sp_fx.refl m (sp_wo o)).pI (Or.inl rfl)).pR (Or.inl rfl)).pR (Or.inl rfl)).pR (Or.inl rfl)).pR (Or.inl rfl)).pI (Or.inl rfl)).pI (Or.inl rfl)).pI (Or.inl rfl)
  have hnv' : sp_nv (sp_mkD m o num f (some nm) b none 0) nm u := hnv.fx hwf hfx (fun z => hne z) (fun z => hne z) (fun _ z => z.elim)
  exact ⟨ho, by rw [sp_mkD_fI]; simp, by rw [sp_mkD_fR]; simp, ⟨nm, by rw [sp_mkD_fR]; simp, hnv'⟩, ⟨by rw [sp_mkD_fI]; simp, by rw [sp_mkD_fI]; simp, by rw [sp_mkD_fI]; simp⟩, by rw [sp_mkD_fR]; simp, by rw [sp_mkD_fR]; simp⟩
set_option maxHeartbeats 4000000 in
set_option maxRecDepth 20000 in
theorem c_Tree_init (l : Launch) (G : sp_G) (m : sp_M) {P : Nat → Prop} {m0 : sp_M} (hG : sp_GS G) (hJ : sp_J G P sp_E0 m) (hwf : sp_wf m) (hP : ∀ a, P a → a < m.nx) (hfx : sp_fx m0 m sp_w0) {t rl : Nat} (ht : m.ty t = 11) (ht0 : m0.nx ≤ t) (h4t : m.ty (G.sk 4) = 24) (h4l : m.ln (G.sk 4) = 0) (h5t : m.ty (G.sk 5) = 24) (h5l : m.ln (G.sk 5) = 3) (h6t : m.ty (G.sk 6) = 24) (h6l : m.ln (G.sk 6) = 4) (h7t : m.ty (G.sk 7) = 24) (h7l : m.ln (G.sk 7) = 3) (h5c : ∀ j, j < 3 → m.aI (G.sk 5) j = ([111, 117, 116] : List Int32).getD j 0) (h6c : ∀ j, j < 4 → m.aI (G.sk 6) j = ([104, 111, 109, 101] : List Int32).getD j 0) (h7c : ∀ j, j < 3 → m.aI (G.sk 7) j = ([107, 101, 121] : List Int32).getD j 0) : sp_C l G M_Tree_init 21 89 [.ref t, .ref rl] m (sp_oV fun m' => ∃ a9 a10 n11 n12 n13 n14 e9 e10 bd, sp_J G P sp_E0 m' ∧ sp_wf m' ∧ sp_fx m0 m' sp_w0 ∧ m'.fR 640 t = some rl ∧ m'.fR 641 t = some a9 ∧ m'.fR 642 t = some a10 ∧ m'.fR 643 t = some n11 ∧ m'.fR 644 t = some n12 ∧ m'.fR 645 t = some n13 ∧ m'.fR 646 t = some n14 ∧ m'.ty a9 = 1 ∧ m'.ty a10 = 1 ∧ m'.ty n11 = 6 ∧ m'.ty n12 = 6 ∧ m'.ty n13 = 6 ∧ m'.ty n14 = 6 ∧ m'.ln a9 = 6 ∧ m'.ln a10 = 2 ∧ sp_li G m' a9 e9 4 ∧ m'.ln e9 = 10 ∧ sp_li G m' a10 e10 1 ∧ m'.ln e10 = 10 ∧ m'.fI 320 n14 = 3 ∧ m0.nx ≤ a9 ∧ m0.nx ≤ a10 ∧ m'.ty t = 11 ∧ sp_nq m' n11 0 none ([] : List Int32) none ∧ sp_nq m' n12 1 (some n11) ([111, 117, 116] : List Int32) none ∧ sp_nq m' n13 2 (some n11) ([104, 111, 109, 101] : List Int32) none ∧ sp_nq m' n14 3 (some n13) ([107, 101, 121] : List Int32) (some bd) ∧ sp_bq m' bd 0 8 42 ∧ m'.aR e9 0 = some n11 ∧ m'.aR e9 1 = some n12 ∧ m'.aR e9 2 = some n13 ∧ m'.aR e9 3 = some n14 ∧ m'.aR e10 0 = some bd) := by
  refine sp_enter (lv0 := [(0, false, va_rf (some t)), (1, false, va_rf (some rl))]) "SafePaths$Tree" true rfl (by decide) (fun _ => rfl) (Nat.le_of_ble_eq_true rfl) rfl ?_
  intro w X
  refine sp_aload_n X (pc := 0) (r := some t) dX9_init_0 rfl rfl ?_
  refine sp_objInit X (pc := 1) (a := t) rfl lk_Tree_1 oi_1 oi_2 (Nat.le_of_ble_eq_true rfl) (Nat.le_of_ble_eq_true rfl) dX9_init_1 ?_
  refine sp_aload_n X (pc := 4) (r := some t) dX9_init_4 rfl rfl ?_
  refine sp_aload_n X (pc := 5) (r := some rl) dX9_init_5 rfl rfl ?_
  refine sp_putR X (pc := 6) (c := 10) (i := 0) (q := 640) (a := t) rfl (by first | assumption | omega) (by decide) rfl rfl (Or.inr ⟨rfl, rfl, rfl⟩)  fl_Tree_7 dX9_init_6 ?_
  obtain ⟨c1, hc1⟩ : ∃ c, c = m.pR 640 t (some rl) := ⟨_, rfl⟩
  rw [← hc1]
  have Jc1 : sp_J G P (sp_E0) c1 := by rw [hc1]; exact hJ.pR (Or.inl (by unfold sp_fk; omega))
  have wc1 : sp_wf c1 := by rw [hc1]; exact hwf
  have fc1 : sp_fx m0 c1 sp_w0 := by rw [hc1]; exact hfx.pR (Or.inr ht0)
  have tt_1 : c1.ty t = 11 := by rw [hc1]; exact ht
  have T4_1 : c1.ty (G.sk 4) = 24 := by rw [hc1]; exact h4t
  have N4_1 : c1.ln (G.sk 4) = 0 := by rw [hc1]; exact h4l
  have C4_1 : ∀ j, j < 0 → c1.aI (G.sk 4) j = (([] : List Int32) : List Int32).getD j 0 := by rw [hc1]; exact (fun j hj => absurd hj (Nat.not_lt_zero _))
  have T5_1 : c1.ty (G.sk 5) = 24 := by rw [hc1]; exact h5t
  have N5_1 : c1.ln (G.sk 5) = 3 := by rw [hc1]; exact h5l
  have C5_1 : ∀ j, j < 3 → c1.aI (G.sk 5) j = (([111, 117, 116] : List Int32) : List Int32).getD j 0 := by rw [hc1]; exact h5c
  have T6_1 : c1.ty (G.sk 6) = 24 := by rw [hc1]; exact h6t
  have N6_1 : c1.ln (G.sk 6) = 4 := by rw [hc1]; exact h6l
  have C6_1 : ∀ j, j < 4 → c1.aI (G.sk 6) j = (([104, 111, 109, 101] : List Int32) : List Int32).getD j 0 := by rw [hc1]; exact h6c
  have T7_1 : c1.ty (G.sk 7) = 24 := by rw [hc1]; exact h7t
  have N7_1 : c1.ln (G.sk 7) = 3 := by rw [hc1]; exact h7l
  have C7_1 : ∀ j, j < 3 → c1.aI (G.sk 7) j = (([107, 101, 121] : List Int32) : List Int32).getD j 0 := by rw [hc1]; exact h7c
  have nnc1 : m.nx ≤ c1.nx := by rw [hc1]; exact (Nat.le_refl m.nx)
  have p640_t_1 : c1.fR 640 t = (some rl) := by rw [hc1, sp_pR_fR, if_pos ⟨rfl, rfl⟩]
  clear hc1
  refine sp_aload_n X (pc := 9) (r := some t) dX9_init_9 rfl rfl ?_
  obtain ⟨a9, ha9⟩ : ∃ a, a = c1.nx := ⟨_, rfl⟩
  refine sp_new X (pc := 10) (c := 0) (N := 3) (by decide) rfl cl_Tree_13 in_0 it_0 (by decide) (by decide) dX9_init_10 ?_
  rw [← ha9]
  refine sp_ghost X a9 6 (by rw [ha9, sp_newO_ty, if_pos rfl]; decide) (by rw [ha9, sp_newO_ty, if_pos rfl]; decide) ?_
  refine sp_dup X (pc := 13) dX9_init_13 (sp_cat_rf _) ?_
  refine sp_callI X (pc := 14) (mc := 0) (ms := 0) (b := a9) (r := some a9) (As := []) (rest := [va_rf (some a9), va_rf (some t)]) (c_List_init l G _ (o := a9) hG (by show (c1.newO 0).ty a9 = _; rw [ha9, sp_newO_ty, if_pos rfl])) ok_List_init rfl rfl lk_Tree_15 rfl rfl (by simp [sp_cat_rf, sp_cat_i, sp_cat_l]) (Nat.le_of_ble_eq_true rfl) (Nat.le_of_ble_eq_true rfl) (Nat.zero_le _) (Nat.zero_le _) dX9_init_14 (sp_kV fun m14 hp14 => ?_)
  subst hp14
  obtain ⟨c2, hc2⟩ : ∃ c, c = (((c1.newO 0).gh a9 6).pI 0 a9 0).pR 1 a9 (some (G.sk 3)) := ⟨_, rfl⟩
  rw [show (((c1.newO 0).gh a9 6).pI 0 a9 0).pR 1 a9 (some (G.sk 3)) = c2 from hc2.symm]
  have jc2 : sp_J G P (sp_E1 (sp_E0) a9) c2 := by
    subst ha9; rw [hc2]
    exact ((Jc1.newO wc1 0 6).pI (by decide)).pR (Or.inr (Or.inr rfl))
  have tc2 : c2.ty a9 = 1 := by
    subst ha9; rw [hc2]
    show (c1.newO 0).ty c1.nx = 1
    rw [sp_newO_ty, if_pos rfl]
  have lc2 : c2.ln a9 = 6 := by
    subst ha9; rw [hc2]
    show (if c1.nx = c1.nx then 6 else _) = _
    rw [if_pos rfl]
  have ec2 : c2.fR 1 a9 = some (G.sk 3) := by rw [hc2, sp_pR_fR, if_pos ⟨rfl, rfl⟩]
  have sc2 : c2.fI 2 a9 = 0 := by
    subst ha9; rw [hc2]
    show (((c1.newO 0).gh c1.nx 6).pI 0 c1.nx 0).fI 2 c1.nx = 0
    rw [sp_pI_fI, if_neg (by simp)]
    show (c1.newO 0).fI 2 c1.nx = 0
    rw [sp_newO_fI, if_pos rfl]
  obtain ⟨Jc2, Lc2⟩ := jc2.list tc2 lc2 (by unfold sp_rl; omega) ec2 sc2
  have wc2 : sp_wf c2 := by rw [hc2]; exact wc1.newO 0
  have xc2 : sp_fx c1 c2 sp_w0 := by
    subst ha9; rw [hc2]
    exact (((((sp_fx.refl c1 sp_w0).newO 0).gh (Nat.le_refl _)).pI (Or.inr (Nat.le_refl _))).pR (Or.inr (Nat.le_refl _)))
  clear hc2 jc2 ec2 sc2
  have ga9 : m0.nx ≤ a9 := by rw [ha9]; exact fc1.1
  have tt_2 := xc2.ty wc1 tt_1 (by decide)
  have T4_2 := xc2.ty wc1 T4_1 (by decide)
  have N4_2 := (xc2.ln wc1 T4_1 (by decide)).trans N4_1
  have C4_2 : ∀ j, j < 0 → c2.aI (G.sk 4) j = (([] : List Int32) : List Int32).getD j 0 := fun j hj => by rw [(xc2.2.2.2.2.2 (G.sk 4) (wc1 (G.sk 4) (by rw [T4_1]; decide)) (fun z => z)).1]; exact C4_1 j hj
  have T5_2 := xc2.ty wc1 T5_1 (by decide)
  have N5_2 := (xc2.ln wc1 T5_1 (by decide)).trans N5_1
  have C5_2 : ∀ j, j < 3 → c2.aI (G.sk 5) j = (([111, 117, 116] : List Int32) : List Int32).getD j 0 := fun j hj => by rw [(xc2.2.2.2.2.2 (G.sk 5) (wc1 (G.sk 5) (by rw [T5_1]; decide)) (fun z => z)).1]; exact C5_1 j hj
  have T6_2 := xc2.ty wc1 T6_1 (by decide)
  have N6_2 := (xc2.ln wc1 T6_1 (by decide)).trans N6_1
  have C6_2 : ∀ j, j < 4 → c2.aI (G.sk 6) j = (([104, 111, 109, 101] : List Int32) : List Int32).getD j 0 := fun j hj => by rw [(xc2.2.2.2.2.2 (G.sk 6) (wc1 (G.sk 6) (by rw [T6_1]; decide)) (fun z => z)).1]; exact C6_1 j hj
  have T7_2 := xc2.ty wc1 T7_1 (by decide)
  have N7_2 := (xc2.ln wc1 T7_1 (by decide)).trans N7_1
  have C7_2 : ∀ j, j < 3 → c2.aI (G.sk 7) j = (([107, 101, 121] : List Int32) : List Int32).getD j 0 := fun j hj => by rw [(xc2.2.2.2.2.2 (G.sk 7) (wc1 (G.sk 7) (by rw [T7_1]; decide)) (fun z => z)).1]; exact C7_1 j hj
  have p640_t_2 := (xc2.2.2.2.2.1 640 t (wc1 t (by rw [tt_1]; decide)) (fun z => z)).trans p640_t_1
  have fc2 : sp_fx m0 c2 sp_w0 := fc1.tr0 xc2
  have nnc2 : m.nx ≤ c2.nx := Nat.le_trans nnc1 xc2.1
  clear tt_1 T4_1 N4_1 C4_1 T5_1 N5_1 C5_1 T6_1 N6_1 C6_1 T7_1 N7_1 C7_1 p640_t_1
  refine sp_putR X (pc := 17) (c := 10) (i := 1) (q := 641) (a := t) rfl (by first | assumption | omega) (by decide) rfl rfl (Or.inr ⟨rfl, rfl, rfl⟩)  fl_Tree_16 dX9_init_17 ?_
  obtain ⟨c3, hc3⟩ : ∃ c, c = c2.pR 641 t (some a9) := ⟨_, rfl⟩
  rw [← hc3]
  have Jc3 : sp_J G P (sp_E0) c3 := by rw [hc3]; exact Jc2.pR (Or.inl (by unfold sp_fk; omega))
  have wc3 : sp_wf c3 := by rw [hc3]; exact wc2
  have fc3 : sp_fx m0 c3 sp_w0 := by rw [hc3]; exact fc2.pR (Or.inr ht0)
  have tt_3 : c3.ty t = 11 := by rw [hc3]; exact tt_2
  have T4_3 : c3.ty (G.sk 4) = 24 := by rw [hc3]; exact T4_2
  have N4_3 : c3.ln (G.sk 4) = 0 := by rw [hc3]; exact N4_2
  have C4_3 : ∀ j, j < 0 → c3.aI (G.sk 4) j = (([] : List Int32) : List Int32).getD j 0 := by rw [hc3]; exact C4_2
  have T5_3 : c3.ty (G.sk 5) = 24 := by rw [hc3]; exact T5_2
  have N5_3 : c3.ln (G.sk 5) = 3 := by rw [hc3]; exact N5_2
  have C5_3 : ∀ j, j < 3 → c3.aI (G.sk 5) j = (([111, 117, 116] : List Int32) : List Int32).getD j 0 := by rw [hc3]; exact C5_2
  have T6_3 : c3.ty (G.sk 6) = 24 := by rw [hc3]; exact T6_2
  have N6_3 : c3.ln (G.sk 6) = 4 := by rw [hc3]; exact N6_2
  have C6_3 : ∀ j, j < 4 → c3.aI (G.sk 6) j = (([104, 111, 109, 101] : List Int32) : List Int32).getD j 0 := by rw [hc3]; exact C6_2
  have T7_3 : c3.ty (G.sk 7) = 24 := by rw [hc3]; exact T7_2
  have N7_3 : c3.ln (G.sk 7) = 3 := by rw [hc3]; exact N7_2
  have C7_3 : ∀ j, j < 3 → c3.aI (G.sk 7) j = (([107, 101, 121] : List Int32) : List Int32).getD j 0 := by rw [hc3]; exact C7_2
  have p640_t_3 : c3.fR 640 t = (some rl) := by rw [hc3, sp_pR_fR, if_neg (fun z => absurd z.1 (by decide))]; exact p640_t_2
  have ta9_3 : c3.ty a9 = 1 := by rw [hc3]; exact tc2
  have la9_3 : c3.ln a9 = 6 := by rw [hc3]; exact lc2
  have La9_3 : sp_li G c3 a9 (G.sk 3) 0 := by rw [hc3]; exact Lc2.pR (by decide)
  have ga9_3 : m0.nx ≤ a9 := ga9
  have nnc3 : m.nx ≤ c3.nx := by rw [hc3]; exact nnc2
  have p641_t_3 : c3.fR 641 t = (some a9) := by rw [hc3, sp_pR_fR, if_pos ⟨rfl, rfl⟩]
  clear hc3
  clear tt_2 T4_2 N4_2 C4_2 T5_2 N5_2 C5_2 T6_2 N6_2 C6_2 T7_2 N7_2 C7_2 p640_t_2
  refine sp_aload_n X (pc := 20) (r := some t) dX9_init_20 rfl rfl ?_
  obtain ⟨a10, ha10⟩ : ∃ a, a = c3.nx := ⟨_, rfl⟩
  refine sp_new X (pc := 21) (c := 0) (N := 3) (by decide) rfl cl_Tree_13 in_0 it_0 (by decide) (by decide) dX9_init_21 ?_
  rw [← ha10]
  refine sp_ghost X a10 2 (by rw [ha10, sp_newO_ty, if_pos rfl]; decide) (by rw [ha10, sp_newO_ty, if_pos rfl]; decide) ?_
  refine sp_dup X (pc := 24) dX9_init_24 (sp_cat_rf _) ?_
  refine sp_callI X (pc := 25) (mc := 0) (ms := 0) (b := a10) (r := some a10) (As := []) (rest := [va_rf (some a10), va_rf (some t)]) (c_List_init l G _ (o := a10) hG (by show (c3.newO 0).ty a10 = _; rw [ha10, sp_newO_ty, if_pos rfl])) ok_List_init rfl rfl lk_Tree_15 rfl rfl (by simp [sp_cat_rf, sp_cat_i, sp_cat_l]) (Nat.le_of_ble_eq_true rfl) (Nat.le_of_ble_eq_true rfl) (Nat.zero_le _) (Nat.zero_le _) dX9_init_25 (sp_kV fun m25 hp25 => ?_)
  subst hp25
  obtain ⟨c4, hc4⟩ : ∃ c, c = (((c3.newO 0).gh a10 2).pI 0 a10 0).pR 1 a10 (some (G.sk 3)) := ⟨_, rfl⟩
  rw [show (((c3.newO 0).gh a10 2).pI 0 a10 0).pR 1 a10 (some (G.sk 3)) = c4 from hc4.symm]
  have jc4 : sp_J G P (sp_E1 (sp_E0) a10) c4 := by
    subst ha10; rw [hc4]
    exact ((Jc3.newO wc3 0 2).pI (by decide)).pR (Or.inr (Or.inr rfl))
  have tc4 : c4.ty a10 = 1 := by
    subst ha10; rw [hc4]
    show (c3.newO 0).ty c3.nx = 1
    rw [sp_newO_ty, if_pos rfl]
  have lc4 : c4.ln a10 = 2 := by
    subst ha10; rw [hc4]
    show (if c3.nx = c3.nx then 2 else _) = _
    rw [if_pos rfl]
  have ec4 : c4.fR 1 a10 = some (G.sk 3) := by rw [hc4, sp_pR_fR, if_pos ⟨rfl, rfl⟩]
  have sc4 : c4.fI 2 a10 = 0 := by
    subst ha10; rw [hc4]
    show (((c3.newO 0).gh c3.nx 2).pI 0 c3.nx 0).fI 2 c3.nx = 0
    rw [sp_pI_fI, if_neg (by simp)]
    show (c3.newO 0).fI 2 c3.nx = 0
    rw [sp_newO_fI, if_pos rfl]
  obtain ⟨Jc4, Lc4⟩ := jc4.list tc4 lc4 (by unfold sp_rl; omega) ec4 sc4
  have wc4 : sp_wf c4 := by rw [hc4]; exact wc3.newO 0
  have xc4 : sp_fx c3 c4 sp_w0 := by
    subst ha10; rw [hc4]
    exact (((((sp_fx.refl c3 sp_w0).newO 0).gh (Nat.le_refl _)).pI (Or.inr (Nat.le_refl _))).pR (Or.inr (Nat.le_refl _)))
  clear hc4 jc4 ec4 sc4
  have ga10 : m0.nx ≤ a10 := by rw [ha10]; exact fc3.1
  have tt_4 := xc4.ty wc3 tt_3 (by decide)
  have T4_4 := xc4.ty wc3 T4_3 (by decide)
  have N4_4 := (xc4.ln wc3 T4_3 (by decide)).trans N4_3
  have C4_4 : ∀ j, j < 0 → c4.aI (G.sk 4) j = (([] : List Int32) : List Int32).getD j 0 := fun j hj => by rw [(xc4.2.2.2.2.2 (G.sk 4) (wc3 (G.sk 4) (by rw [T4_3]; decide)) (fun z => z)).1]; exact C4_3 j hj
  have T5_4 := xc4.ty wc3 T5_3 (by decide)
  have N5_4 := (xc4.ln wc3 T5_3 (by decide)).trans N5_3
  have C5_4 : ∀ j, j < 3 → c4.aI (G.sk 5) j = (([111, 117, 116] : List Int32) : List Int32).getD j 0 := fun j hj => by rw [(xc4.2.2.2.2.2 (G.sk 5) (wc3 (G.sk 5) (by rw [T5_3]; decide)) (fun z => z)).1]; exact C5_3 j hj
  have T6_4 := xc4.ty wc3 T6_3 (by decide)
  have N6_4 := (xc4.ln wc3 T6_3 (by decide)).trans N6_3
  have C6_4 : ∀ j, j < 4 → c4.aI (G.sk 6) j = (([104, 111, 109, 101] : List Int32) : List Int32).getD j 0 := fun j hj => by rw [(xc4.2.2.2.2.2 (G.sk 6) (wc3 (G.sk 6) (by rw [T6_3]; decide)) (fun z => z)).1]; exact C6_3 j hj
  have T7_4 := xc4.ty wc3 T7_3 (by decide)
  have N7_4 := (xc4.ln wc3 T7_3 (by decide)).trans N7_3
  have C7_4 : ∀ j, j < 3 → c4.aI (G.sk 7) j = (([107, 101, 121] : List Int32) : List Int32).getD j 0 := fun j hj => by rw [(xc4.2.2.2.2.2 (G.sk 7) (wc3 (G.sk 7) (by rw [T7_3]; decide)) (fun z => z)).1]; exact C7_3 j hj
  have p640_t_4 := (xc4.2.2.2.2.1 640 t (wc3 t (by rw [tt_3]; decide)) (fun z => z)).trans p640_t_3
  have ta9_4 := xc4.ty wc3 ta9_3 (by decide)
  have la9_4 := (xc4.ln wc3 ta9_3 (by decide)).trans la9_3
  have La9_4 := xc4.li wc3 La9_3 (fun z => z) (fun z => z)
  have ga9_4 := ga9_3
  have p641_t_4 := (xc4.2.2.2.2.1 641 t (wc3 t (by rw [tt_3]; decide)) (fun z => z)).trans p641_t_3
  have fc4 : sp_fx m0 c4 sp_w0 := fc3.tr0 xc4
  have nnc4 : m.nx ≤ c4.nx := Nat.le_trans nnc3 xc4.1
  clear tt_3 T4_3 N4_3 C4_3 T5_3 N5_3 C5_3 T6_3 N6_3 C6_3 T7_3 N7_3 C7_3 p640_t_3 ta9_3 la9_3 La9_3 ga9_3 p641_t_3
  refine sp_putR X (pc := 28) (c := 10) (i := 2) (q := 642) (a := t) rfl (by first | assumption | omega) (by decide) rfl rfl (Or.inr ⟨rfl, rfl, rfl⟩)  fl_Tree_20 dX9_init_28 ?_
  obtain ⟨c5, hc5⟩ : ∃ c, c = c4.pR 642 t (some a10) := ⟨_, rfl⟩
  rw [← hc5]
  have Jc5 : sp_J G P (sp_E0) c5 := by rw [hc5]; exact Jc4.pR (Or.inl (by unfold sp_fk; omega))
  have wc5 : sp_wf c5 := by rw [hc5]; exact wc4
  have fc5 : sp_fx m0 c5 sp_w0 := by rw [hc5]; exact fc4.pR (Or.inr ht0)
  have tt_5 : c5.ty t = 11 := by rw [hc5]; exact tt_4
  have T4_5 : c5.ty (G.sk 4) = 24 := by rw [hc5]; exact T4_4
  have N4_5 : c5.ln (G.sk 4) = 0 := by rw [hc5]; exact N4_4
  have C4_5 : ∀ j, j < 0 → c5.aI (G.sk 4) j = (([] : List Int32) : List Int32).getD j 0 := by rw [hc5]; exact C4_4
  have T5_5 : c5.ty (G.sk 5) = 24 := by rw [hc5]; exact T5_4
  have N5_5 : c5.ln (G.sk 5) = 3 := by rw [hc5]; exact N5_4
  have C5_5 : ∀ j, j < 3 → c5.aI (G.sk 5) j = (([111, 117, 116] : List Int32) : List Int32).getD j 0 := by rw [hc5]; exact C5_4
  have T6_5 : c5.ty (G.sk 6) = 24 := by rw [hc5]; exact T6_4
  have N6_5 : c5.ln (G.sk 6) = 4 := by rw [hc5]; exact N6_4
  have C6_5 : ∀ j, j < 4 → c5.aI (G.sk 6) j = (([104, 111, 109, 101] : List Int32) : List Int32).getD j 0 := by rw [hc5]; exact C6_4
  have T7_5 : c5.ty (G.sk 7) = 24 := by rw [hc5]; exact T7_4
  have N7_5 : c5.ln (G.sk 7) = 3 := by rw [hc5]; exact N7_4
  have C7_5 : ∀ j, j < 3 → c5.aI (G.sk 7) j = (([107, 101, 121] : List Int32) : List Int32).getD j 0 := by rw [hc5]; exact C7_4
  have p640_t_5 : c5.fR 640 t = (some rl) := by rw [hc5, sp_pR_fR, if_neg (fun z => absurd z.1 (by decide))]; exact p640_t_4
  have ta9_5 : c5.ty a9 = 1 := by rw [hc5]; exact ta9_4
  have la9_5 : c5.ln a9 = 6 := by rw [hc5]; exact la9_4
  have La9_5 : sp_li G c5 a9 (G.sk 3) 0 := by rw [hc5]; exact La9_4.pR (by decide)
  have ga9_5 : m0.nx ≤ a9 := ga9_4
  have p641_t_5 : c5.fR 641 t = (some a9) := by rw [hc5, sp_pR_fR, if_neg (fun z => absurd z.1 (by decide))]; exact p641_t_4
  have ta10_5 : c5.ty a10 = 1 := by rw [hc5]; exact tc4
  have la10_5 : c5.ln a10 = 2 := by rw [hc5]; exact lc4
  have La10_5 : sp_li G c5 a10 (G.sk 3) 0 := by rw [hc5]; exact Lc4.pR (by decide)
  have ga10_5 : m0.nx ≤ a10 := ga10
  have nnc5 : m.nx ≤ c5.nx := by rw [hc5]; exact nnc4
  have p642_t_5 : c5.fR 642 t = (some a10) := by rw [hc5, sp_pR_fR, if_pos ⟨rfl, rfl⟩]
  clear hc5
  clear tt_4 T4_4 N4_4 C4_4 T5_4 N5_4 C5_4 T6_4 N6_4 C6_4 T7_4 N7_4 C7_4 p640_t_4 ta9_4 la9_4 La9_4 ga9_4 p641_t_4
  obtain ⟨bd, hbd⟩ : ∃ a, a = c5.nx := ⟨_, rfl⟩
  refine sp_new X (pc := 31) (c := 1) (N := 3) (by decide) rfl cl_Tree_23 in_1 it_1 (by decide) (by decide) dX9_init_31 ?_
  rw [← hbd]
  refine sp_dup X (pc := 34) dX9_init_34 (sp_cat_rf _) ?_
  refine sp_iconst X (pc := 35) (v := 0) dX9_init_35 (by decide) ?_
  refine sp_ldc2 X (pc := 36) (v := 8) kl_Tree_25 dX9_init_36 ?_
  refine sp_bipush X (pc := 39) (v := 42) dX9_init_39 (by decide) ?_
  refine sp_callI X (pc := 41) (mc := 0) (ms := 0) (b := bd) (r := some bd) (As := [.int 0, .long 8, .int 42]) (rest := [va_rf (some bd)]) (c_Body_init l G _ (o := bd) (by rw [hbd, sp_newO_ty, if_pos rfl])) ok_Body_init rfl rfl lk_Tree_27 rfl rfl (by simp [sp_cat_rf, sp_cat_i, sp_cat_l]) (Nat.le_of_ble_eq_true rfl) (Nat.le_of_ble_eq_true rfl) (Nat.zero_le _) (Nat.zero_le _) dX9_init_41 (sp_kV fun m41 hp41 => ?_)
  obtain ⟨c6, hc6⟩ : ∃ c, c = m41 := ⟨_, rfl⟩
  rw [← hc6]
  rw [hp41] at hc6
  have jc6 : sp_J G P (sp_E1 (sp_E0) bd) c6 := by
    subst hbd; rw [hc6]
    have q1 := (Jc5.newO0 wc5 1).pI (k := 64) (a := c5.nx) (v := 0) (by decide)
    have q2 := q1.pL (k := 65) (a := c5.nx) (v := 8)
    exact q2.pI (k := 66) (a := c5.nx) (v := 42) (by decide)
  have tc6 : c6.ty bd = 2 := by
    subst hbd; rw [hc6]
    show (c5.newO 1).ty c5.nx = 2
    rw [sp_newO_ty, if_pos rfl]
  have Jc6 : sp_J G P (sp_E0) c6 := jc6.drop (fun h => by omega) (fun h => by omega) (fun h => by omega) (fun h => by omega) (fun h => by omega) (fun h => by omega)
  have wc6 : sp_wf c6 := by rw [hc6]; exact wc5.newO 1
  have xc6 : sp_fx c5 c6 sp_w0 := by
    subst hbd; rw [hc6]
    have q1 := ((sp_fx.refl c5 sp_w0).newO 1).pI (k := 64) (a := c5.nx) (v := 0) (Or.inr (Nat.le_refl _))
    have q2 := q1.pL (k := 65) (a := c5.nx) (v := 8) (Or.inr (Nat.le_refl _))
    exact q2.pI (k := 66) (a := c5.nx) (v := 42) (Or.inr (Nat.le_refl _))
  have bqc6 : sp_bq c6 bd 0 8 42 := by rw [hc6]; exact sp_mkB_bq _ _ _ _ _ (by subst hbd; show (c5.newO 1).ty c5.nx = 2; rw [sp_newO_ty, if_pos rfl])
  clear hc6 jc6 hp41
  have gbd : m0.nx ≤ bd := by rw [hbd]; exact fc5.1
  have tt_6 := xc6.ty wc5 tt_5 (by decide)
  have T4_6 := xc6.ty wc5 T4_5 (by decide)
  have N4_6 := (xc6.ln wc5 T4_5 (by decide)).trans N4_5
  have C4_6 : ∀ j, j < 0 → c6.aI (G.sk 4) j = (([] : List Int32) : List Int32).getD j 0 := fun j hj => by rw [(xc6.2.2.2.2.2 (G.sk 4) (wc5 (G.sk 4) (by rw [T4_5]; decide)) (fun z => z)).1]; exact C4_5 j hj
  have T5_6 := xc6.ty wc5 T5_5 (by decide)
  have N5_6 := (xc6.ln wc5 T5_5 (by decide)).trans N5_5
  have C5_6 : ∀ j, j < 3 → c6.aI (G.sk 5) j = (([111, 117, 116] : List Int32) : List Int32).getD j 0 := fun j hj => by rw [(xc6.2.2.2.2.2 (G.sk 5) (wc5 (G.sk 5) (by rw [T5_5]; decide)) (fun z => z)).1]; exact C5_5 j hj
  have T6_6 := xc6.ty wc5 T6_5 (by decide)
  have N6_6 := (xc6.ln wc5 T6_5 (by decide)).trans N6_5
  have C6_6 : ∀ j, j < 4 → c6.aI (G.sk 6) j = (([104, 111, 109, 101] : List Int32) : List Int32).getD j 0 := fun j hj => by rw [(xc6.2.2.2.2.2 (G.sk 6) (wc5 (G.sk 6) (by rw [T6_5]; decide)) (fun z => z)).1]; exact C6_5 j hj
  have T7_6 := xc6.ty wc5 T7_5 (by decide)
  have N7_6 := (xc6.ln wc5 T7_5 (by decide)).trans N7_5
  have C7_6 : ∀ j, j < 3 → c6.aI (G.sk 7) j = (([107, 101, 121] : List Int32) : List Int32).getD j 0 := fun j hj => by rw [(xc6.2.2.2.2.2 (G.sk 7) (wc5 (G.sk 7) (by rw [T7_5]; decide)) (fun z => z)).1]; exact C7_5 j hj
  have p640_t_6 := (xc6.2.2.2.2.1 640 t (wc5 t (by rw [tt_5]; decide)) (fun z => z)).trans p640_t_5
  have ta9_6 := xc6.ty wc5 ta9_5 (by decide)
  have la9_6 := (xc6.ln wc5 ta9_5 (by decide)).trans la9_5
  have La9_6 := xc6.li wc5 La9_5 (fun z => z) (fun z => z)
  have ga9_6 := ga9_5
  have p641_t_6 := (xc6.2.2.2.2.1 641 t (wc5 t (by rw [tt_5]; decide)) (fun z => z)).trans p641_t_5
  have ta10_6 := xc6.ty wc5 ta10_5 (by decide)
  have la10_6 := (xc6.ln wc5 ta10_5 (by decide)).trans la10_5
  have La10_6 := xc6.li wc5 La10_5 (fun z => z) (fun z => z)
  have ga10_6 := ga10_5
  have p642_t_6 := (xc6.2.2.2.2.1 642 t (wc5 t (by rw [tt_5]; decide)) (fun z => z)).trans p642_t_5
  have fc6 : sp_fx m0 c6 sp_w0 := fc5.tr0 xc6
  have nnc6 : m.nx ≤ c6.nx := Nat.le_trans nnc5 xc6.1
  refine sp_astore_n X (pc := 44) (lv' := [(2, false, va_rf (some bd)), (0, false, va_rf (some t)), (1, false, va_rf (some rl))]) dX9_init_44 rfl (by decide) rfl ?_
  refine sp_aload_n X (pc := 45) (r := some t) dX9_init_45 rfl rfl ?_
  obtain ⟨n11, hn11⟩ : ∃ a, a = c6.nx := ⟨_, rfl⟩
  refine sp_new X (pc := 46) (c := 5) (N := 8) (by decide) rfl cl_Tree_30 in_5 it_5 (by decide) (by decide) dX9_init_46 ?_
  rw [← hn11]
  obtain ⟨c7, hc7⟩ : ∃ c, c = c6.newO 5 := ⟨_, rfl⟩
  rw [← hc7]
  have Jc7 : sp_J G P (sp_E1 (sp_E0) n11) c7 := by subst hn11; rw [hc7]; exact Jc6.newO0 wc6 5
  have tc7 : c7.ty n11 = 6 := by rw [hc7, hn11, sp_newO_ty, if_pos rfl]
  have wc7 : sp_wf c7 := by rw [hc7]; exact wc6.newO 5
  have xc7 : sp_fx c6 c7 sp_w0 := by rw [hc7]; exact (sp_fx.refl c6 sp_w0).newO 5
  clear hc7
  have tt_7 := xc7.ty wc6 tt_6 (by decide)
  have T4_7 := xc7.ty wc6 T4_6 (by decide)
  have N4_7 := (xc7.ln wc6 T4_6 (by decide)).trans N4_6
  have C4_7 : ∀ j, j < 0 → c7.aI (G.sk 4) j = (([] : List Int32) : List Int32).getD j 0 := fun j hj => by rw [(xc7.2.2.2.2.2 (G.sk 4) (wc6 (G.sk 4) (by rw [T4_6]; decide)) (fun z => z)).1]; exact C4_6 j hj
  have T5_7 := xc7.ty wc6 T5_6 (by decide)
  have N5_7 := (xc7.ln wc6 T5_6 (by decide)).trans N5_6
  have C5_7 : ∀ j, j < 3 → c7.aI (G.sk 5) j = (([111, 117, 116] : List Int32) : List Int32).getD j 0 := fun j hj => by rw [(xc7.2.2.2.2.2 (G.sk 5) (wc6 (G.sk 5) (by rw [T5_6]; decide)) (fun z => z)).1]; exact C5_6 j hj
  have T6_7 := xc7.ty wc6 T6_6 (by decide)
  have N6_7 := (xc7.ln wc6 T6_6 (by decide)).trans N6_6
  have C6_7 : ∀ j, j < 4 → c7.aI (G.sk 6) j = (([104, 111, 109, 101] : List Int32) : List Int32).getD j 0 := fun j hj => by rw [(xc7.2.2.2.2.2 (G.sk 6) (wc6 (G.sk 6) (by rw [T6_6]; decide)) (fun z => z)).1]; exact C6_6 j hj
  have T7_7 := xc7.ty wc6 T7_6 (by decide)
  have N7_7 := (xc7.ln wc6 T7_6 (by decide)).trans N7_6
  have C7_7 : ∀ j, j < 3 → c7.aI (G.sk 7) j = (([107, 101, 121] : List Int32) : List Int32).getD j 0 := fun j hj => by rw [(xc7.2.2.2.2.2 (G.sk 7) (wc6 (G.sk 7) (by rw [T7_6]; decide)) (fun z => z)).1]; exact C7_6 j hj
  have p640_t_7 := (xc7.2.2.2.2.1 640 t (wc6 t (by rw [tt_6]; decide)) (fun z => z)).trans p640_t_6
  have ta9_7 := xc7.ty wc6 ta9_6 (by decide)
  have la9_7 := (xc7.ln wc6 ta9_6 (by decide)).trans la9_6
  have La9_7 := xc7.li wc6 La9_6 (fun z => z) (fun z => z)
  have ga9_7 := ga9_6
  have p641_t_7 := (xc7.2.2.2.2.1 641 t (wc6 t (by rw [tt_6]; decide)) (fun z => z)).trans p641_t_6
  have ta10_7 := xc7.ty wc6 ta10_6 (by decide)
  have la10_7 := (xc7.ln wc6 ta10_6 (by decide)).trans la10_6
  have La10_7 := xc7.li wc6 La10_6 (fun z => z) (fun z => z)
  have ga10_7 := ga10_6
  have p642_t_7 := (xc7.2.2.2.2.1 642 t (wc6 t (by rw [tt_6]; decide)) (fun z => z)).trans p642_t_6
  have qbd_7 := bqc6.w0 wc6 xc7
  have tbd_7 := xc7.ty wc6 tc6 (by decide)
  have gbd_7 := gbd
  have fc7 : sp_fx m0 c7 sp_w0 := fc6.tr0 xc7
  have nnc7 : m.nx ≤ c7.nx := Nat.le_trans nnc6 xc7.1
  refine sp_dup X (pc := 49) dX9_init_49 (sp_cat_rf _) ?_
  refine sp_iconst X (pc := 50) (v := 0) dX9_init_50 (by decide) ?_
  refine sp_null X (pc := 51) dX9_init_51 ?_
  obtain ⟨y11, hy11⟩ : ∃ a, a = c7.nx := ⟨_, rfl⟩
  refine sp_new X (pc := 52) (c := 4) (N := 2) (by decide) rfl cl_Tree_32 in_4 it_4 (by decide) (by decide) dX9_init_52 ?_
  rw [← hy11]
  refine sp_dup X (pc := 55) dX9_init_55 (sp_cat_rf _) ?_
  refine sp_getstatic X (pc := 56) (v := va_rf (some (G.sk 4))) hG.2.1 gs_Tree_34 dX9_init_56 ?_
  refine sp_iconst X (pc := 59) (v := 0) dX9_init_59 (by decide) ?_
  refine sp_iconst X (pc := 60) (v := 0) dX9_init_60 (by decide) ?_
  refine sp_callI X (pc := 61) (mc := 2) (ms := 2 * 0) (b := y11) (r := some y11) (As := [va_rf (some (G.sk 4)), .int 0, .int 0]) (rest := [va_rf (some y11), va_rf none, .int 0, va_rf (some n11), va_rf (some n11), va_rf (some t)]) (c_Name_init l G _ (o := y11) (a1 := G.sk 4) (f := 0) (n := 0) (by rw [hy11, sp_newO_ty, if_pos rfl]) (Or.inr (by rw [sp_newO_ty, if_neg (by have := wc7 (G.sk 4) (by rw [T4_7]; decide); omega)]; exact T4_7)) (by show c7.ln (G.sk 4) ≤ 1000; rw [N4_7]; decide) (by show 0 + 0 ≤ c7.ln (G.sk 4); rw [N4_7]; decide)) ok_Name_init rfl rfl lk_Tree_40 rfl rfl (by simp [sp_cat_rf, sp_cat_i, sp_cat_l]) (Nat.le_of_ble_eq_true rfl) (Nat.le_of_ble_eq_true rfl) (by decide) (by decide) dX9_init_61 (sp_kV fun m61 hp61 => ?_)
  obtain ⟨c8, hc8⟩ : ∃ c, c = m61 := ⟨_, rfl⟩
  rw [← hc8]
  rw [hp61] at hc8
  have Jc8 : sp_J G P (sp_E1 (sp_E0) n11) c8 := by
    subst hy11; rw [hc8]
    exact (Jc7.newO0 wc7 4).mkN (wc7.newO 4) (by rw [sp_newO_ty, if_pos rfl]) (fun a ha => by have q1 := hP a ha; have q2 := nnc7; rw [sp_newO_nx]; omega) 0 (by decide) _
  have wc8 : sp_wf c8 := by rw [hc8]; exact (wc7.newO 4).mkN _ _ _
  have xc8 : sp_fx c7 c8 sp_w0 := by
    subst hy11; rw [hc8]
    exact ((sp_fx.refl c7 sp_w0).newO 4).mkN (Nat.le_refl _) _ _
  have tc8 : c8.ty y11 = 5 := by
    subst hy11; rw [hc8, sp_mkN_ty, if_neg (by rw [sp_newO_nx]; omega), if_neg (by rw [sp_newO_nx]; omega), sp_newO_ty, if_pos rfl]
  have nvc8 : sp_nv c8 y11 ([] : List Int32) := by
    subst hy11; rw [hc8]
    exact sp_mkN_nv _ _ _ _ _ (by rw [sp_newO_ty, if_pos rfl]) (by rw [sp_newO_nx]; omega) (by decide) rfl (fun i hi => by show c7.aI (G.sk 4) (0 + i) = _; rw [Nat.zero_add]; exact C4_7 i hi)
  clear hc8 hp61
  have tt_8 := xc8.ty wc7 tt_7 (by decide)
  have T4_8 := xc8.ty wc7 T4_7 (by decide)
  have N4_8 := (xc8.ln wc7 T4_7 (by decide)).trans N4_7
  have C4_8 : ∀ j, j < 0 → c8.aI (G.sk 4) j = (([] : List Int32) : List Int32).getD j 0 := fun j hj => by rw [(xc8.2.2.2.2.2 (G.sk 4) (wc7 (G.sk 4) (by rw [T4_7]; decide)) (fun z => z)).1]; exact C4_7 j hj
  have T5_8 := xc8.ty wc7 T5_7 (by decide)
  have N5_8 := (xc8.ln wc7 T5_7 (by decide)).trans N5_7
  have C5_8 : ∀ j, j < 3 → c8.aI (G.sk 5) j = (([111, 117, 116] : List Int32) : List Int32).getD j 0 := fun j hj => by rw [(xc8.2.2.2.2.2 (G.sk 5) (wc7 (G.sk 5) (by rw [T5_7]; decide)) (fun z => z)).1]; exact C5_7 j hj
  have T6_8 := xc8.ty wc7 T6_7 (by decide)
  have N6_8 := (xc8.ln wc7 T6_7 (by decide)).trans N6_7
  have C6_8 : ∀ j, j < 4 → c8.aI (G.sk 6) j = (([104, 111, 109, 101] : List Int32) : List Int32).getD j 0 := fun j hj => by rw [(xc8.2.2.2.2.2 (G.sk 6) (wc7 (G.sk 6) (by rw [T6_7]; decide)) (fun z => z)).1]; exact C6_7 j hj
  have T7_8 := xc8.ty wc7 T7_7 (by decide)
  have N7_8 := (xc8.ln wc7 T7_7 (by decide)).trans N7_7
  have C7_8 : ∀ j, j < 3 → c8.aI (G.sk 7) j = (([107, 101, 121] : List Int32) : List Int32).getD j 0 := fun j hj => by rw [(xc8.2.2.2.2.2 (G.sk 7) (wc7 (G.sk 7) (by rw [T7_7]; decide)) (fun z => z)).1]; exact C7_7 j hj
  have p640_t_8 := (xc8.2.2.2.2.1 640 t (wc7 t (by rw [tt_7]; decide)) (fun z => z)).trans p640_t_7
  have ta9_8 := xc8.ty wc7 ta9_7 (by decide)
  have la9_8 := (xc8.ln wc7 ta9_7 (by decide)).trans la9_7
  have La9_8 := xc8.li wc7 La9_7 (fun z => z) (fun z => z)
  have ga9_8 := ga9_7
  have p641_t_8 := (xc8.2.2.2.2.1 641 t (wc7 t (by rw [tt_7]; decide)) (fun z => z)).trans p641_t_7
  have ta10_8 := xc8.ty wc7 ta10_7 (by decide)
  have la10_8 := (xc8.ln wc7 ta10_7 (by decide)).trans la10_7
  have La10_8 := xc8.li wc7 La10_7 (fun z => z) (fun z => z)
  have ga10_8 := ga10_7
  have p642_t_8 := (xc8.2.2.2.2.1 642 t (wc7 t (by rw [tt_7]; decide)) (fun z => z)).trans p642_t_7
  have qbd_8 := qbd_7.w0 wc7 xc8
  have tbd_8 := xc8.ty wc7 tbd_7 (by decide)
  have gbd_8 := gbd_7
  have tn11_8 := xc8.ty wc7 tc7 (by decide)
  have fc8 : sp_fx m0 c8 sp_w0 := fc7.tr0 xc8
  have nnc8 : m.nx ≤ c8.nx := Nat.le_trans nnc7 xc8.1
  refine sp_null X (pc := 64) dX9_init_64 ?_
  refine sp_null X (pc := 65) dX9_init_65 ?_
  refine sp_iconst X (pc := 66) (v := 0) dX9_init_66 (by decide) ?_
  refine sp_callI X (pc := 67) (mc := 0) (ms := 0) (b := n11) (r := some n11) (As := [.int 0, va_rf none, va_rf (some y11), va_rf none, va_rf none, .int 0]) (rest := [va_rf (some n11), va_rf (some t)]) (c_Node_init l G _ (o := n11) tn11_8 (Or.inl rfl)) ok_Node_init rfl rfl lk_Tree_43 rfl rfl (by simp [sp_cat_rf, sp_cat_i, sp_cat_l]) (Nat.le_of_ble_eq_true rfl) (Nat.le_of_ble_eq_true rfl) (Nat.zero_le _) (Nat.zero_le _) dX9_init_67 (sp_kV fun m67 hp67 => ?_)
  obtain ⟨c9, hc9⟩ : ∃ c, c = m67 := ⟨_, rfl⟩
  rw [← hc9]
  rw [hp67] at hc9
  have Jc9 : sp_J G P (sp_E0) c9 := by rw [hc9]; exact Jc8.mkD tn11_8 _ _ _ _ _ _ (fun x hx => by cases hx) ⟨y11, rfl, tc8⟩ (fun x hx => by cases hx) (fun x hx => by cases hx)
  have wc9 : sp_wf c9 := by rw [hc9]; exact sp_mkD_wf wc8 _ _ _ _ _ _ _
  have xc9 : sp_fx c6 c9 sp_w0 := by rw [hc9]; exact (xc7.tr0 xc8).mkD (by rw [hn11]; exact Nat.le_refl _) _ _ _ _ _ _
  have tc9 : c9.ty n11 = 6 := by rw [hc9, sp_mkD_ty]; exact tn11_8
  have yc9 : c9.ty y11 = 5 := by rw [hc9, sp_mkD_ty]; exact tc8
  have uc9 : c9.fI 320 n11 = 0 := by rw [hc9, sp_mkD_fI]; simp
  have nqc9 : sp_nq c9 n11 0 none ([] : List Int32) none := by rw [hc9]; exact sp_mkD_nq wc8 tn11_8 nvc8
  clear hc9 hp67
  have gn11 : m0.nx ≤ n11 := by rw [hn11]; exact fc6.1
  have tt_9 := xc9.ty wc6 tt_6 (by decide)
  have T4_9 := xc9.ty wc6 T4_6 (by decide)
  have N4_9 := (xc9.ln wc6 T4_6 (by decide)).trans N4_6
  have C4_9 : ∀ j, j < 0 → c9.aI (G.sk 4) j = (([] : List Int32) : List Int32).getD j 0 := fun j hj => by rw [(xc9.2.2.2.2.2 (G.sk 4) (wc6 (G.sk 4) (by rw [T4_6]; decide)) (fun z => z)).1]; exact C4_6 j hj
  have T5_9 := xc9.ty wc6 T5_6 (by decide)
  have N5_9 := (xc9.ln wc6 T5_6 (by decide)).trans N5_6
  have C5_9 : ∀ j, j < 3 → c9.aI (G.sk 5) j = (([111, 117, 116] : List Int32) : List Int32).getD j 0 := fun j hj => by rw [(xc9.2.2.2.2.2 (G.sk 5) (wc6 (G.sk 5) (by rw [T5_6]; decide)) (fun z => z)).1]; exact C5_6 j hj
  have T6_9 := xc9.ty wc6 T6_6 (by decide)
  have N6_9 := (xc9.ln wc6 T6_6 (by decide)).trans N6_6
  have C6_9 : ∀ j, j < 4 → c9.aI (G.sk 6) j = (([104, 111, 109, 101] : List Int32) : List Int32).getD j 0 := fun j hj => by rw [(xc9.2.2.2.2.2 (G.sk 6) (wc6 (G.sk 6) (by rw [T6_6]; decide)) (fun z => z)).1]; exact C6_6 j hj
  have T7_9 := xc9.ty wc6 T7_6 (by decide)
  have N7_9 := (xc9.ln wc6 T7_6 (by decide)).trans N7_6
  have C7_9 : ∀ j, j < 3 → c9.aI (G.sk 7) j = (([107, 101, 121] : List Int32) : List Int32).getD j 0 := fun j hj => by rw [(xc9.2.2.2.2.2 (G.sk 7) (wc6 (G.sk 7) (by rw [T7_6]; decide)) (fun z => z)).1]; exact C7_6 j hj
  have p640_t_9 := (xc9.2.2.2.2.1 640 t (wc6 t (by rw [tt_6]; decide)) (fun z => z)).trans p640_t_6
  have ta9_9 := xc9.ty wc6 ta9_6 (by decide)
  have la9_9 := (xc9.ln wc6 ta9_6 (by decide)).trans la9_6
  have La9_9 := xc9.li wc6 La9_6 (fun z => z) (fun z => z)
  have ga9_9 := ga9_6
  have p641_t_9 := (xc9.2.2.2.2.1 641 t (wc6 t (by rw [tt_6]; decide)) (fun z => z)).trans p641_t_6
  have ta10_9 := xc9.ty wc6 ta10_6 (by decide)
  have la10_9 := (xc9.ln wc6 ta10_6 (by decide)).trans la10_6
  have La10_9 := xc9.li wc6 La10_6 (fun z => z) (fun z => z)
  have ga10_9 := ga10_6
  have p642_t_9 := (xc9.2.2.2.2.1 642 t (wc6 t (by rw [tt_6]; decide)) (fun z => z)).trans p642_t_6
  have qbd_9 := bqc6.w0 wc6 xc9
  have tbd_9 := xc9.ty wc6 tc6 (by decide)
  have gbd_9 := gbd
  have fc9 : sp_fx m0 c9 sp_w0 := fc6.tr0 xc9
  have nnc9 : m.nx ≤ c9.nx := Nat.le_trans nnc6 xc9.1
  clear tt_8 T4_8 N4_8 C4_8 T5_8 N5_8 C5_8 T6_8 N6_8 C6_8 T7_8 N7_8 C7_8 p640_t_8 ta9_8 la9_8 La9_8 ga9_8 p641_t_8 ta10_8 la10_8 La10_8 ga10_8 p642_t_8 qbd_8 tbd_8 gbd_8 tn11_8 tt_6 T4_6 N4_6 C4_6 T5_6 N5_6 C5_6 T6_6 N6_6 C6_6 T7_6 N7_6 C7_6 p640_t_6 ta9_6 la9_6 La9_6 ga9_6 p641_t_6 ta10_6 la10_6 La10_6 ga10_6 p642_t_6
  refine sp_putR X (pc := 70) (c := 10) (i := 3) (q := 643) (a := t) rfl (by first | assumption | omega) (by decide) rfl rfl (Or.inr ⟨rfl, rfl, rfl⟩)  fl_Tree_46 dX9_init_70 ?_
  obtain ⟨c10, hc10⟩ : ∃ c, c = c9.pR 643 t (some n11) := ⟨_, rfl⟩
  rw [← hc10]
  have Jc10 : sp_J G P (sp_E0) c10 := by rw [hc10]; exact Jc9.pR (Or.inl (by unfold sp_fk; omega))
  have wc10 : sp_wf c10 := by rw [hc10]; exact wc9
  have fc10 : sp_fx m0 c10 sp_w0 := by rw [hc10]; exact fc9.pR (Or.inr ht0)
  have tt_10 : c10.ty t = 11 := by rw [hc10]; exact tt_9
  have T4_10 : c10.ty (G.sk 4) = 24 := by rw [hc10]; exact T4_9
  have N4_10 : c10.ln (G.sk 4) = 0 := by rw [hc10]; exact N4_9
  have C4_10 : ∀ j, j < 0 → c10.aI (G.sk 4) j = (([] : List Int32) : List Int32).getD j 0 := by rw [hc10]; exact C4_9
  have T5_10 : c10.ty (G.sk 5) = 24 := by rw [hc10]; exact T5_9
  have N5_10 : c10.ln (G.sk 5) = 3 := by rw [hc10]; exact N5_9
  have C5_10 : ∀ j, j < 3 → c10.aI (G.sk 5) j = (([111, 117, 116] : List Int32) : List Int32).getD j 0 := by rw [hc10]; exact C5_9
  have T6_10 : c10.ty (G.sk 6) = 24 := by rw [hc10]; exact T6_9
  have N6_10 : c10.ln (G.sk 6) = 4 := by rw [hc10]; exact N6_9
  have C6_10 : ∀ j, j < 4 → c10.aI (G.sk 6) j = (([104, 111, 109, 101] : List Int32) : List Int32).getD j 0 := by rw [hc10]; exact C6_9
  have T7_10 : c10.ty (G.sk 7) = 24 := by rw [hc10]; exact T7_9
  have N7_10 : c10.ln (G.sk 7) = 3 := by rw [hc10]; exact N7_9
  have C7_10 : ∀ j, j < 3 → c10.aI (G.sk 7) j = (([107, 101, 121] : List Int32) : List Int32).getD j 0 := by rw [hc10]; exact C7_9
  have p640_t_10 : c10.fR 640 t = (some rl) := by rw [hc10, sp_pR_fR, if_neg (fun z => absurd z.1 (by decide))]; exact p640_t_9
  have ta9_10 : c10.ty a9 = 1 := by rw [hc10]; exact ta9_9
  have la9_10 : c10.ln a9 = 6 := by rw [hc10]; exact la9_9
  have La9_10 : sp_li G c10 a9 (G.sk 3) 0 := by rw [hc10]; exact La9_9.pR (by decide)
  have ga9_10 : m0.nx ≤ a9 := ga9_9
  have p641_t_10 : c10.fR 641 t = (some a9) := by rw [hc10, sp_pR_fR, if_neg (fun z => absurd z.1 (by decide))]; exact p641_t_9
  have ta10_10 : c10.ty a10 = 1 := by rw [hc10]; exact ta10_9
  have la10_10 : c10.ln a10 = 2 := by rw [hc10]; exact la10_9
  have La10_10 : sp_li G c10 a10 (G.sk 3) 0 := by rw [hc10]; exact La10_9.pR (by decide)
  have ga10_10 : m0.nx ≤ a10 := ga10_9
  have p642_t_10 : c10.fR 642 t = (some a10) := by rw [hc10, sp_pR_fR, if_neg (fun z => absurd z.1 (by decide))]; exact p642_t_9
  have qbd_10 : sp_bq c10 bd 0 8 42 := by rw [hc10]; exact qbd_9.pR (by decide)
  have tbd_10 : c10.ty bd = 2 := by rw [hc10]; exact tbd_9
  have gbd_10 : m0.nx ≤ bd := gbd_9
  have tn11_10 : c10.ty n11 = 6 := by rw [hc10]; exact tc9
  have ty11_10 : c10.ty y11 = 5 := by rw [hc10]; exact yc9
  have un11_10 : c10.fI 320 n11 = 0 := by rw [hc10]; exact uc9
  have qn11_10 : sp_nq c10 n11 0 none ([] : List Int32) none := by rw [hc10]; exact nqc9.pR (by decide)
  have gn11_10 : m0.nx ≤ n11 := gn11
  have nnc10 : m.nx ≤ c10.nx := by rw [hc10]; exact nnc9
  have p643_t_10 : c10.fR 643 t = (some n11) := by rw [hc10, sp_pR_fR, if_pos ⟨rfl, rfl⟩]
  clear hc10
  clear tt_9 T4_9 N4_9 C4_9 T5_9 N5_9 C5_9 T6_9 N6_9 C6_9 T7_9 N7_9 C7_9 p640_t_9 ta9_9 la9_9 La9_9 ga9_9 p641_t_9 ta10_9 la10_9 La10_9 ga10_9 p642_t_9 qbd_9 tbd_9 gbd_9
  refine sp_aload_n X (pc := 73) (r := some t) dX9_init_73 rfl rfl ?_
  obtain ⟨n12, hn12⟩ : ∃ a, a = c10.nx := ⟨_, rfl⟩
  refine sp_new X (pc := 74) (c := 5) (N := 8) (by decide) rfl cl_Tree_30 in_5 it_5 (by decide) (by decide) dX9_init_74 ?_
  rw [← hn12]
  obtain ⟨c11, hc11⟩ : ∃ c, c = c10.newO 5 := ⟨_, rfl⟩
  rw [← hc11]
  have Jc11 : sp_J G P (sp_E1 (sp_E0) n12) c11 := by subst hn12; rw [hc11]; exact Jc10.newO0 wc10 5
  have tc11 : c11.ty n12 = 6 := by rw [hc11, hn12, sp_newO_ty, if_pos rfl]
  have wc11 : sp_wf c11 := by rw [hc11]; exact wc10.newO 5
  have xc11 : sp_fx c10 c11 sp_w0 := by rw [hc11]; exact (sp_fx.refl c10 sp_w0).newO 5
  clear hc11
  have tt_11 := xc11.ty wc10 tt_10 (by decide)
  have T4_11 := xc11.ty wc10 T4_10 (by decide)
  have N4_11 := (xc11.ln wc10 T4_10 (by decide)).trans N4_10
  have C4_11 : ∀ j, j < 0 → c11.aI (G.sk 4) j = (([] : List Int32) : List Int32).getD j 0 := fun j hj => by rw [(xc11.2.2.2.2.2 (G.sk 4) (wc10 (G.sk 4) (by rw [T4_10]; decide)) (fun z => z)).1]; exact C4_10 j hj
  have T5_11 := xc11.ty wc10 T5_10 (by decide)
  have N5_11 := (xc11.ln wc10 T5_10 (by decide)).trans N5_10
  have C5_11 : ∀ j, j < 3 → c11.aI (G.sk 5) j = (([111, 117, 116] : List Int32) : List Int32).getD j 0 := fun j hj => by rw [(xc11.2.2.2.2.2 (G.sk 5) (wc10 (G.sk 5) (by rw [T5_10]; decide)) (fun z => z)).1]; exact C5_10 j hj
  have T6_11 := xc11.ty wc10 T6_10 (by decide)
  have N6_11 := (xc11.ln wc10 T6_10 (by decide)).trans N6_10
  have C6_11 : ∀ j, j < 4 → c11.aI (G.sk 6) j = (([104, 111, 109, 101] : List Int32) : List Int32).getD j 0 := fun j hj => by rw [(xc11.2.2.2.2.2 (G.sk 6) (wc10 (G.sk 6) (by rw [T6_10]; decide)) (fun z => z)).1]; exact C6_10 j hj
  have T7_11 := xc11.ty wc10 T7_10 (by decide)
  have N7_11 := (xc11.ln wc10 T7_10 (by decide)).trans N7_10
  have C7_11 : ∀ j, j < 3 → c11.aI (G.sk 7) j = (([107, 101, 121] : List Int32) : List Int32).getD j 0 := fun j hj => by rw [(xc11.2.2.2.2.2 (G.sk 7) (wc10 (G.sk 7) (by rw [T7_10]; decide)) (fun z => z)).1]; exact C7_10 j hj
  have p640_t_11 := (xc11.2.2.2.2.1 640 t (wc10 t (by rw [tt_10]; decide)) (fun z => z)).trans p640_t_10
  have ta9_11 := xc11.ty wc10 ta9_10 (by decide)
  have la9_11 := (xc11.ln wc10 ta9_10 (by decide)).trans la9_10
  have La9_11 := xc11.li wc10 La9_10 (fun z => z) (fun z => z)
  have ga9_11 := ga9_10
  have p641_t_11 := (xc11.2.2.2.2.1 641 t (wc10 t (by rw [tt_10]; decide)) (fun z => z)).trans p641_t_10
  have ta10_11 := xc11.ty wc10 ta10_10 (by decide)
  have la10_11 := (xc11.ln wc10 ta10_10 (by decide)).trans la10_10
  have La10_11 := xc11.li wc10 La10_10 (fun z => z) (fun z => z)
  have ga10_11 := ga10_10
  have p642_t_11 := (xc11.2.2.2.2.1 642 t (wc10 t (by rw [tt_10]; decide)) (fun z => z)).trans p642_t_10
  have qbd_11 := qbd_10.w0 wc10 xc11
  have tbd_11 := xc11.ty wc10 tbd_10 (by decide)
  have gbd_11 := gbd_10
  have tn11_11 := xc11.ty wc10 tn11_10 (by decide)
  have ty11_11 := xc11.ty wc10 ty11_10 (by decide)
  have un11_11 := (xc11.2.2.1 320 n11 (wc10 n11 (by rw [tn11_10]; decide)) (fun z => z)).trans un11_10
  have qn11_11 := qn11_10.w0 wc10 xc11
  have gn11_11 := gn11_10
  have p643_t_11 := (xc11.2.2.2.2.1 643 t (wc10 t (by rw [tt_10]; decide)) (fun z => z)).trans p643_t_10
  have fc11 : sp_fx m0 c11 sp_w0 := fc10.tr0 xc11
  have nnc11 : m.nx ≤ c11.nx := Nat.le_trans nnc10 xc11.1
  refine sp_dup X (pc := 77) dX9_init_77 (sp_cat_rf _) ?_
  refine sp_iconst X (pc := 78) (v := 1) dX9_init_78 (by decide) ?_
  refine sp_aload_n X (pc := 79) (r := some t) dX9_init_79 rfl rfl ?_
  refine sp_getfield X (pc := 80) (c := 10) (i := 3) (t := 2) (a := t) (v := va_rf (some n11)) rfl (by first | assumption | omega) (by decide) rfl (congrArg va_rf p643_t_11) fl_Tree_46 dX9_init_80 ?_
  obtain ⟨y12, hy12⟩ : ∃ a, a = c11.nx := ⟨_, rfl⟩
  refine sp_new X (pc := 83) (c := 4) (N := 2) (by decide) rfl cl_Tree_32 in_4 it_4 (by decide) (by decide) dX9_init_83 ?_
  rw [← hy12]
  refine sp_dup X (pc := 86) dX9_init_86 (sp_cat_rf _) ?_
  refine sp_getstatic X (pc := 87) (v := va_rf (some (G.sk 5))) hG.2.2.1 gs_Tree_50 dX9_init_87 ?_
  refine sp_iconst X (pc := 90) (v := 0) dX9_init_90 (by decide) ?_
  refine sp_getstatic X (pc := 91) (v := va_rf (some (G.sk 5))) hG.2.2.1 gs_Tree_50 dX9_init_91 ?_
  refine sp_arraylength X (pc := 94) (a := (G.sk 5)) rfl (Or.inr (Or.inr (Or.inr (Or.inr (Or.inl (by rw [sp_newO_ty, if_neg (by have := wc11 (G.sk 5) (by rw [T5_11]; decide); omega)]; exact T5_11)))))) dX9_init_94 ?_
  rw [show (Int32.ofNat ((c11.newO 4).ln (G.sk 5))) = nI 3 from (by show Int32.ofNat (c11.ln (G.sk 5)) = _; rw [N5_11]; rfl)]
  refine sp_callI X (pc := 95) (mc := 2) (ms := 2 * 3) (b := y12) (r := some y12) (As := [va_rf (some (G.sk 5)), .int 0, .int (nI 3)]) (rest := [va_rf (some y12), va_rf (some n11), .int 1, va_rf (some n12), va_rf (some n12), va_rf (some t)]) (c_Name_init l G _ (o := y12) (a1 := G.sk 5) (f := 0) (n := 3) (by rw [hy12, sp_newO_ty, if_pos rfl]) (Or.inr (by rw [sp_newO_ty, if_neg (by have := wc11 (G.sk 5) (by rw [T5_11]; decide); omega)]; exact T5_11)) (by show c11.ln (G.sk 5) ≤ 1000; rw [N5_11]; decide) (by show 0 + 3 ≤ c11.ln (G.sk 5); rw [N5_11]; decide)) ok_Name_init rfl rfl lk_Tree_40 rfl rfl (by simp [sp_cat_rf, sp_cat_i, sp_cat_l]) (Nat.le_of_ble_eq_true rfl) (Nat.le_of_ble_eq_true rfl) (by decide) (by decide) dX9_init_95 (sp_kV fun m95 hp95 => ?_)
  obtain ⟨c12, hc12⟩ : ∃ c, c = m95 := ⟨_, rfl⟩
  rw [← hc12]
  rw [hp95] at hc12
  have Jc12 : sp_J G P (sp_E1 (sp_E0) n12) c12 := by
    subst hy12; rw [hc12]
    exact (Jc11.newO0 wc11 4).mkN (wc11.newO 4) (by rw [sp_newO_ty, if_pos rfl]) (fun a ha => by have q1 := hP a ha; have q2 := nnc11; rw [sp_newO_nx]; omega) 3 (by decide) _
  have wc12 : sp_wf c12 := by rw [hc12]; exact (wc11.newO 4).mkN _ _ _
  have xc12 : sp_fx c11 c12 sp_w0 := by
    subst hy12; rw [hc12]
    exact ((sp_fx.refl c11 sp_w0).newO 4).mkN (Nat.le_refl _) _ _
  have tc12 : c12.ty y12 = 5 := by
    subst hy12; rw [hc12, sp_mkN_ty, if_neg (by rw [sp_newO_nx]; omega), if_neg (by rw [sp_newO_nx]; omega), sp_newO_ty, if_pos rfl]
  have nvc12 : sp_nv c12 y12 ([111, 117, 116] : List Int32) := by
    subst hy12; rw [hc12]
    exact sp_mkN_nv _ _ _ _ _ (by rw [sp_newO_ty, if_pos rfl]) (by rw [sp_newO_nx]; omega) (by decide) rfl (fun i hi => by show c11.aI (G.sk 5) (0 + i) = _; rw [Nat.zero_add]; exact C5_11 i hi)
  clear hc12 hp95
  have tt_12 := xc12.ty wc11 tt_11 (by decide)
  have T4_12 := xc12.ty wc11 T4_11 (by decide)
  have N4_12 := (xc12.ln wc11 T4_11 (by decide)).trans N4_11
  have C4_12 : ∀ j, j < 0 → c12.aI (G.sk 4) j = (([] : List Int32) : List Int32).getD j 0 := fun j hj => by rw [(xc12.2.2.2.2.2 (G.sk 4) (wc11 (G.sk 4) (by rw [T4_11]; decide)) (fun z => z)).1]; exact C4_11 j hj
  have T5_12 := xc12.ty wc11 T5_11 (by decide)
  have N5_12 := (xc12.ln wc11 T5_11 (by decide)).trans N5_11
  have C5_12 : ∀ j, j < 3 → c12.aI (G.sk 5) j = (([111, 117, 116] : List Int32) : List Int32).getD j 0 := fun j hj => by rw [(xc12.2.2.2.2.2 (G.sk 5) (wc11 (G.sk 5) (by rw [T5_11]; decide)) (fun z => z)).1]; exact C5_11 j hj
  have T6_12 := xc12.ty wc11 T6_11 (by decide)
  have N6_12 := (xc12.ln wc11 T6_11 (by decide)).trans N6_11
  have C6_12 : ∀ j, j < 4 → c12.aI (G.sk 6) j = (([104, 111, 109, 101] : List Int32) : List Int32).getD j 0 := fun j hj => by rw [(xc12.2.2.2.2.2 (G.sk 6) (wc11 (G.sk 6) (by rw [T6_11]; decide)) (fun z => z)).1]; exact C6_11 j hj
  have T7_12 := xc12.ty wc11 T7_11 (by decide)
  have N7_12 := (xc12.ln wc11 T7_11 (by decide)).trans N7_11
  have C7_12 : ∀ j, j < 3 → c12.aI (G.sk 7) j = (([107, 101, 121] : List Int32) : List Int32).getD j 0 := fun j hj => by rw [(xc12.2.2.2.2.2 (G.sk 7) (wc11 (G.sk 7) (by rw [T7_11]; decide)) (fun z => z)).1]; exact C7_11 j hj
  have p640_t_12 := (xc12.2.2.2.2.1 640 t (wc11 t (by rw [tt_11]; decide)) (fun z => z)).trans p640_t_11
  have ta9_12 := xc12.ty wc11 ta9_11 (by decide)
  have la9_12 := (xc12.ln wc11 ta9_11 (by decide)).trans la9_11
  have La9_12 := xc12.li wc11 La9_11 (fun z => z) (fun z => z)
  have ga9_12 := ga9_11
  have p641_t_12 := (xc12.2.2.2.2.1 641 t (wc11 t (by rw [tt_11]; decide)) (fun z => z)).trans p641_t_11
  have ta10_12 := xc12.ty wc11 ta10_11 (by decide)
  have la10_12 := (xc12.ln wc11 ta10_11 (by decide)).trans la10_11
  have La10_12 := xc12.li wc11 La10_11 (fun z => z) (fun z => z)
  have ga10_12 := ga10_11
  have p642_t_12 := (xc12.2.2.2.2.1 642 t (wc11 t (by rw [tt_11]; decide)) (fun z => z)).trans p642_t_11
  have qbd_12 := qbd_11.w0 wc11 xc12
  have tbd_12 := xc12.ty wc11 tbd_11 (by decide)
  have gbd_12 := gbd_11
  have tn11_12 := xc12.ty wc11 tn11_11 (by decide)
  have ty11_12 := xc12.ty wc11 ty11_11 (by decide)
  have un11_12 := (xc12.2.2.1 320 n11 (wc11 n11 (by rw [tn11_11]; decide)) (fun z => z)).trans un11_11
  have qn11_12 := qn11_11.w0 wc11 xc12
  have gn11_12 := gn11_11
  have p643_t_12 := (xc12.2.2.2.2.1 643 t (wc11 t (by rw [tt_11]; decide)) (fun z => z)).trans p643_t_11
  have tn12_12 := xc12.ty wc11 tc11 (by decide)
  have fc12 : sp_fx m0 c12 sp_w0 := fc11.tr0 xc12
  have nnc12 : m.nx ≤ c12.nx := Nat.le_trans nnc11 xc12.1
  refine sp_null X (pc := 98) dX9_init_98 ?_
  refine sp_null X (pc := 99) dX9_init_99 ?_
  refine sp_iconst X (pc := 100) (v := 0) dX9_init_100 (by decide) ?_
  refine sp_callI X (pc := 101) (mc := 0) (ms := 0) (b := n12) (r := some n12) (As := [.int 1, va_rf (some n11), va_rf (some y12), va_rf none, va_rf none, .int 0]) (rest := [va_rf (some n12), va_rf (some t)]) (c_Node_init l G _ (o := n12) tn12_12 (Or.inl rfl)) ok_Node_init rfl rfl lk_Tree_43 rfl rfl (by simp [sp_cat_rf, sp_cat_i, sp_cat_l]) (Nat.le_of_ble_eq_true rfl) (Nat.le_of_ble_eq_true rfl) (Nat.zero_le _) (Nat.zero_le _) dX9_init_101 (sp_kV fun m101 hp101 => ?_)
  obtain ⟨c13, hc13⟩ : ∃ c, c = m101 := ⟨_, rfl⟩
  rw [← hc13]
  rw [hp101] at hc13
  have qc13 : n11 < n12 := by rw [hn12]; exact wc10 n11 (by rw [tn11_10]; decide)
  have Jc13 : sp_J G P (sp_E0) c13 := by rw [hc13]; exact Jc12.mkD tn12_12 _ _ _ _ _ _ (fun x hx => by cases hx; exact ⟨tn11_12, qc13⟩) ⟨y12, rfl, tc12⟩ (fun x hx => by cases hx) (fun x hx => by cases hx)
  have wc13 : sp_wf c13 := by rw [hc13]; exact sp_mkD_wf wc12 _ _ _ _ _ _ _
  have xc13 : sp_fx c10 c13 sp_w0 := by rw [hc13]; exact (xc11.tr0 xc12).mkD (by rw [hn12]; exact Nat.le_refl _) _ _ _ _ _ _
  have tc13 : c13.ty n12 = 6 := by rw [hc13, sp_mkD_ty]; exact tn12_12
  have yc13 : c13.ty y12 = 5 := by rw [hc13, sp_mkD_ty]; exact tc12
  have uc13 : c13.fI 320 n12 = 1 := by rw [hc13, sp_mkD_fI]; simp
  have nqc13 : sp_nq c13 n12 1 (some n11) ([111, 117, 116] : List Int32) none := by rw [hc13]; exact sp_mkD_nq wc12 tn12_12 nvc12
  clear hc13 hp101
  have gn12 : m0.nx ≤ n12 := by rw [hn12]; exact fc10.1
  have tt_13 := xc13.ty wc10 tt_10 (by decide)
  have T4_13 := xc13.ty wc10 T4_10 (by decide)
  have N4_13 := (xc13.ln wc10 T4_10 (by decide)).trans N4_10
  have C4_13 : ∀ j, j < 0 → c13.aI (G.sk 4) j = (([] : List Int32) : List Int32).getD j 0 := fun j hj => by rw [(xc13.2.2.2.2.2 (G.sk 4) (wc10 (G.sk 4) (by rw [T4_10]; decide)) (fun z => z)).1]; exact C4_10 j hj
  have T5_13 := xc13.ty wc10 T5_10 (by decide)
  have N5_13 := (xc13.ln wc10 T5_10 (by decide)).trans N5_10
  have C5_13 : ∀ j, j < 3 → c13.aI (G.sk 5) j = (([111, 117, 116] : List Int32) : List Int32).getD j 0 := fun j hj => by rw [(xc13.2.2.2.2.2 (G.sk 5) (wc10 (G.sk 5) (by rw [T5_10]; decide)) (fun z => z)).1]; exact C5_10 j hj
  have T6_13 := xc13.ty wc10 T6_10 (by decide)
  have N6_13 := (xc13.ln wc10 T6_10 (by decide)).trans N6_10
  have C6_13 : ∀ j, j < 4 → c13.aI (G.sk 6) j = (([104, 111, 109, 101] : List Int32) : List Int32).getD j 0 := fun j hj => by rw [(xc13.2.2.2.2.2 (G.sk 6) (wc10 (G.sk 6) (by rw [T6_10]; decide)) (fun z => z)).1]; exact C6_10 j hj
  have T7_13 := xc13.ty wc10 T7_10 (by decide)
  have N7_13 := (xc13.ln wc10 T7_10 (by decide)).trans N7_10
  have C7_13 : ∀ j, j < 3 → c13.aI (G.sk 7) j = (([107, 101, 121] : List Int32) : List Int32).getD j 0 := fun j hj => by rw [(xc13.2.2.2.2.2 (G.sk 7) (wc10 (G.sk 7) (by rw [T7_10]; decide)) (fun z => z)).1]; exact C7_10 j hj
  have p640_t_13 := (xc13.2.2.2.2.1 640 t (wc10 t (by rw [tt_10]; decide)) (fun z => z)).trans p640_t_10
  have ta9_13 := xc13.ty wc10 ta9_10 (by decide)
  have la9_13 := (xc13.ln wc10 ta9_10 (by decide)).trans la9_10
  have La9_13 := xc13.li wc10 La9_10 (fun z => z) (fun z => z)
  have ga9_13 := ga9_10
  have p641_t_13 := (xc13.2.2.2.2.1 641 t (wc10 t (by rw [tt_10]; decide)) (fun z => z)).trans p641_t_10
  have ta10_13 := xc13.ty wc10 ta10_10 (by decide)
  have la10_13 := (xc13.ln wc10 ta10_10 (by decide)).trans la10_10
  have La10_13 := xc13.li wc10 La10_10 (fun z => z) (fun z => z)
  have ga10_13 := ga10_10
  have p642_t_13 := (xc13.2.2.2.2.1 642 t (wc10 t (by rw [tt_10]; decide)) (fun z => z)).trans p642_t_10
  have qbd_13 := qbd_10.w0 wc10 xc13
  have tbd_13 := xc13.ty wc10 tbd_10 (by decide)
  have gbd_13 := gbd_10
  have tn11_13 := xc13.ty wc10 tn11_10 (by decide)
  have ty11_13 := xc13.ty wc10 ty11_10 (by decide)
  have un11_13 := (xc13.2.2.1 320 n11 (wc10 n11 (by rw [tn11_10]; decide)) (fun z => z)).trans un11_10
  have qn11_13 := qn11_10.w0 wc10 xc13
  have gn11_13 := gn11_10
  have p643_t_13 := (xc13.2.2.2.2.1 643 t (wc10 t (by rw [tt_10]; decide)) (fun z => z)).trans p643_t_10
  have fc13 : sp_fx m0 c13 sp_w0 := fc10.tr0 xc13
  have nnc13 : m.nx ≤ c13.nx := Nat.le_trans nnc10 xc13.1
  clear tt_12 T4_12 N4_12 C4_12 T5_12 N5_12 C5_12 T6_12 N6_12 C6_12 T7_12 N7_12 C7_12 p640_t_12 ta9_12 la9_12 La9_12 ga9_12 p641_t_12 ta10_12 la10_12 La10_12 ga10_12 p642_t_12 qbd_12 tbd_12 gbd_12 tn11_12 ty11_12 un11_12 qn11_12 gn11_12 p643_t_12 tn12_12 tt_10 T4_10 N4_10 C4_10 T5_10 N5_10 C5_10 T6_10 N6_10 C6_10 T7_10 N7_10 C7_10 p640_t_10 ta9_10 la9_10 La9_10 ga9_10 p641_t_10 ta10_10 la10_10 La10_10 ga10_10 p642_t_10 qbd_10 tbd_10 gbd_10 tn11_10 ty11_10 un11_10 qn11_10 gn11_10 p643_t_10
  refine sp_putR X (pc := 104) (c := 10) (i := 4) (q := 644) (a := t) rfl (by first | assumption | omega) (by decide) rfl rfl (Or.inr ⟨rfl, rfl, rfl⟩)  fl_Tree_53 dX9_init_104 ?_
  obtain ⟨c14, hc14⟩ : ∃ c, c = c13.pR 644 t (some n12) := ⟨_, rfl⟩
  rw [← hc14]
  have Jc14 : sp_J G P (sp_E0) c14 := by rw [hc14]; exact Jc13.pR (Or.inl (by unfold sp_fk; omega))
  have wc14 : sp_wf c14 := by rw [hc14]; exact wc13
  have fc14 : sp_fx m0 c14 sp_w0 := by rw [hc14]; exact fc13.pR (Or.inr ht0)
  have tt_14 : c14.ty t = 11 := by rw [hc14]; exact tt_13
  have T4_14 : c14.ty (G.sk 4) = 24 := by rw [hc14]; exact T4_13
  have N4_14 : c14.ln (G.sk 4) = 0 := by rw [hc14]; exact N4_13
  have C4_14 : ∀ j, j < 0 → c14.aI (G.sk 4) j = (([] : List Int32) : List Int32).getD j 0 := by rw [hc14]; exact C4_13
  have T5_14 : c14.ty (G.sk 5) = 24 := by rw [hc14]; exact T5_13
  have N5_14 : c14.ln (G.sk 5) = 3 := by rw [hc14]; exact N5_13
  have C5_14 : ∀ j, j < 3 → c14.aI (G.sk 5) j = (([111, 117, 116] : List Int32) : List Int32).getD j 0 := by rw [hc14]; exact C5_13
  have T6_14 : c14.ty (G.sk 6) = 24 := by rw [hc14]; exact T6_13
  have N6_14 : c14.ln (G.sk 6) = 4 := by rw [hc14]; exact N6_13
  have C6_14 : ∀ j, j < 4 → c14.aI (G.sk 6) j = (([104, 111, 109, 101] : List Int32) : List Int32).getD j 0 := by rw [hc14]; exact C6_13
  have T7_14 : c14.ty (G.sk 7) = 24 := by rw [hc14]; exact T7_13
  have N7_14 : c14.ln (G.sk 7) = 3 := by rw [hc14]; exact N7_13
  have C7_14 : ∀ j, j < 3 → c14.aI (G.sk 7) j = (([107, 101, 121] : List Int32) : List Int32).getD j 0 := by rw [hc14]; exact C7_13
  have p640_t_14 : c14.fR 640 t = (some rl) := by rw [hc14, sp_pR_fR, if_neg (fun z => absurd z.1 (by decide))]; exact p640_t_13
  have ta9_14 : c14.ty a9 = 1 := by rw [hc14]; exact ta9_13
  have la9_14 : c14.ln a9 = 6 := by rw [hc14]; exact la9_13
  have La9_14 : sp_li G c14 a9 (G.sk 3) 0 := by rw [hc14]; exact La9_13.pR (by decide)
  have ga9_14 : m0.nx ≤ a9 := ga9_13
  have p641_t_14 : c14.fR 641 t = (some a9) := by rw [hc14, sp_pR_fR, if_neg (fun z => absurd z.1 (by decide))]; exact p641_t_13
  have ta10_14 : c14.ty a10 = 1 := by rw [hc14]; exact ta10_13
  have la10_14 : c14.ln a10 = 2 := by rw [hc14]; exact la10_13
  have La10_14 : sp_li G c14 a10 (G.sk 3) 0 := by rw [hc14]; exact La10_13.pR (by decide)
  have ga10_14 : m0.nx ≤ a10 := ga10_13
  have p642_t_14 : c14.fR 642 t = (some a10) := by rw [hc14, sp_pR_fR, if_neg (fun z => absurd z.1 (by decide))]; exact p642_t_13
  have qbd_14 : sp_bq c14 bd 0 8 42 := by rw [hc14]; exact qbd_13.pR (by decide)
  have tbd_14 : c14.ty bd = 2 := by rw [hc14]; exact tbd_13
  have gbd_14 : m0.nx ≤ bd := gbd_13
  have tn11_14 : c14.ty n11 = 6 := by rw [hc14]; exact tn11_13
  have ty11_14 : c14.ty y11 = 5 := by rw [hc14]; exact ty11_13
  have un11_14 : c14.fI 320 n11 = 0 := by rw [hc14]; exact un11_13
  have qn11_14 : sp_nq c14 n11 0 none ([] : List Int32) none := by rw [hc14]; exact qn11_13.pR (by decide)
  have gn11_14 : m0.nx ≤ n11 := gn11_13
  have p643_t_14 : c14.fR 643 t = (some n11) := by rw [hc14, sp_pR_fR, if_neg (fun z => absurd z.1 (by decide))]; exact p643_t_13
  have tn12_14 : c14.ty n12 = 6 := by rw [hc14]; exact tc13
  have ty12_14 : c14.ty y12 = 5 := by rw [hc14]; exact yc13
  have un12_14 : c14.fI 320 n12 = 1 := by rw [hc14]; exact uc13
  have qn12_14 : sp_nq c14 n12 1 (some n11) ([111, 117, 116] : List Int32) none := by rw [hc14]; exact nqc13.pR (by decide)
  have gn12_14 : m0.nx ≤ n12 := gn12
  have nnc14 : m.nx ≤ c14.nx := by rw [hc14]; exact nnc13
  have p644_t_14 : c14.fR 644 t = (some n12) := by rw [hc14, sp_pR_fR, if_pos ⟨rfl, rfl⟩]
  clear hc14
  clear tt_13 T4_13 N4_13 C4_13 T5_13 N5_13 C5_13 T6_13 N6_13 C6_13 T7_13 N7_13 C7_13 p640_t_13 ta9_13 la9_13 La9_13 ga9_13 p641_t_13 ta10_13 la10_13 La10_13 ga10_13 p642_t_13 qbd_13 tbd_13 gbd_13 tn11_13 ty11_13 un11_13 qn11_13 gn11_13 p643_t_13
  refine sp_aload_n X (pc := 107) (r := some t) dX9_init_107 rfl rfl ?_
  obtain ⟨n13, hn13⟩ : ∃ a, a = c14.nx := ⟨_, rfl⟩
  refine sp_new X (pc := 108) (c := 5) (N := 8) (by decide) rfl cl_Tree_30 in_5 it_5 (by decide) (by decide) dX9_init_108 ?_
  rw [← hn13]
  obtain ⟨c15, hc15⟩ : ∃ c, c = c14.newO 5 := ⟨_, rfl⟩
  rw [← hc15]
  have Jc15 : sp_J G P (sp_E1 (sp_E0) n13) c15 := by subst hn13; rw [hc15]; exact Jc14.newO0 wc14 5
  have tc15 : c15.ty n13 = 6 := by rw [hc15, hn13, sp_newO_ty, if_pos rfl]
  have wc15 : sp_wf c15 := by rw [hc15]; exact wc14.newO 5
  have xc15 : sp_fx c14 c15 sp_w0 := by rw [hc15]; exact (sp_fx.refl c14 sp_w0).newO 5
  clear hc15
  have tt_15 := xc15.ty wc14 tt_14 (by decide)
  have T4_15 := xc15.ty wc14 T4_14 (by decide)
  have N4_15 := (xc15.ln wc14 T4_14 (by decide)).trans N4_14
  have C4_15 : ∀ j, j < 0 → c15.aI (G.sk 4) j = (([] : List Int32) : List Int32).getD j 0 := fun j hj => by rw [(xc15.2.2.2.2.2 (G.sk 4) (wc14 (G.sk 4) (by rw [T4_14]; decide)) (fun z => z)).1]; exact C4_14 j hj
  have T5_15 := xc15.ty wc14 T5_14 (by decide)
  have N5_15 := (xc15.ln wc14 T5_14 (by decide)).trans N5_14
  have C5_15 : ∀ j, j < 3 → c15.aI (G.sk 5) j = (([111, 117, 116] : List Int32) : List Int32).getD j 0 := fun j hj => by rw [(xc15.2.2.2.2.2 (G.sk 5) (wc14 (G.sk 5) (by rw [T5_14]; decide)) (fun z => z)).1]; exact C5_14 j hj
  have T6_15 := xc15.ty wc14 T6_14 (by decide)
  have N6_15 := (xc15.ln wc14 T6_14 (by decide)).trans N6_14
  have C6_15 : ∀ j, j < 4 → c15.aI (G.sk 6) j = (([104, 111, 109, 101] : List Int32) : List Int32).getD j 0 := fun j hj => by rw [(xc15.2.2.2.2.2 (G.sk 6) (wc14 (G.sk 6) (by rw [T6_14]; decide)) (fun z => z)).1]; exact C6_14 j hj
  have T7_15 := xc15.ty wc14 T7_14 (by decide)
  have N7_15 := (xc15.ln wc14 T7_14 (by decide)).trans N7_14
  have C7_15 : ∀ j, j < 3 → c15.aI (G.sk 7) j = (([107, 101, 121] : List Int32) : List Int32).getD j 0 := fun j hj => by rw [(xc15.2.2.2.2.2 (G.sk 7) (wc14 (G.sk 7) (by rw [T7_14]; decide)) (fun z => z)).1]; exact C7_14 j hj
  have p640_t_15 := (xc15.2.2.2.2.1 640 t (wc14 t (by rw [tt_14]; decide)) (fun z => z)).trans p640_t_14
  have ta9_15 := xc15.ty wc14 ta9_14 (by decide)
  have la9_15 := (xc15.ln wc14 ta9_14 (by decide)).trans la9_14
  have La9_15 := xc15.li wc14 La9_14 (fun z => z) (fun z => z)
  have ga9_15 := ga9_14
  have p641_t_15 := (xc15.2.2.2.2.1 641 t (wc14 t (by rw [tt_14]; decide)) (fun z => z)).trans p641_t_14
  have ta10_15 := xc15.ty wc14 ta10_14 (by decide)
  have la10_15 := (xc15.ln wc14 ta10_14 (by decide)).trans la10_14
  have La10_15 := xc15.li wc14 La10_14 (fun z => z) (fun z => z)
  have ga10_15 := ga10_14
  have p642_t_15 := (xc15.2.2.2.2.1 642 t (wc14 t (by rw [tt_14]; decide)) (fun z => z)).trans p642_t_14
  have qbd_15 := qbd_14.w0 wc14 xc15
  have tbd_15 := xc15.ty wc14 tbd_14 (by decide)
  have gbd_15 := gbd_14
  have tn11_15 := xc15.ty wc14 tn11_14 (by decide)
  have ty11_15 := xc15.ty wc14 ty11_14 (by decide)
  have un11_15 := (xc15.2.2.1 320 n11 (wc14 n11 (by rw [tn11_14]; decide)) (fun z => z)).trans un11_14
  have qn11_15 := qn11_14.w0 wc14 xc15
  have gn11_15 := gn11_14
  have p643_t_15 := (xc15.2.2.2.2.1 643 t (wc14 t (by rw [tt_14]; decide)) (fun z => z)).trans p643_t_14
  have tn12_15 := xc15.ty wc14 tn12_14 (by decide)
  have ty12_15 := xc15.ty wc14 ty12_14 (by decide)
  have un12_15 := (xc15.2.2.1 320 n12 (wc14 n12 (by rw [tn12_14]; decide)) (fun z => z)).trans un12_14
  have qn12_15 := qn12_14.w0 wc14 xc15
  have gn12_15 := gn12_14
  have p644_t_15 := (xc15.2.2.2.2.1 644 t (wc14 t (by rw [tt_14]; decide)) (fun z => z)).trans p644_t_14
  have fc15 : sp_fx m0 c15 sp_w0 := fc14.tr0 xc15
  have nnc15 : m.nx ≤ c15.nx := Nat.le_trans nnc14 xc15.1
  refine sp_dup X (pc := 111) dX9_init_111 (sp_cat_rf _) ?_
  refine sp_iconst X (pc := 112) (v := 2) dX9_init_112 (by decide) ?_
  refine sp_aload_n X (pc := 113) (r := some t) dX9_init_113 rfl rfl ?_
  refine sp_getfield X (pc := 114) (c := 10) (i := 3) (t := 2) (a := t) (v := va_rf (some n11)) rfl (by first | assumption | omega) (by decide) rfl (congrArg va_rf p643_t_15) fl_Tree_46 dX9_init_114 ?_
  obtain ⟨y13, hy13⟩ : ∃ a, a = c15.nx := ⟨_, rfl⟩
  refine sp_new X (pc := 117) (c := 4) (N := 2) (by decide) rfl cl_Tree_32 in_4 it_4 (by decide) (by decide) dX9_init_117 ?_
  rw [← hy13]
  refine sp_dup X (pc := 120) dX9_init_120 (sp_cat_rf _) ?_
  refine sp_getstatic X (pc := 121) (v := va_rf (some (G.sk 6))) hG.2.2.2.1 gs_Tree_56 dX9_init_121 ?_
  refine sp_iconst X (pc := 124) (v := 0) dX9_init_124 (by decide) ?_
  refine sp_getstatic X (pc := 125) (v := va_rf (some (G.sk 6))) hG.2.2.2.1 gs_Tree_56 dX9_init_125 ?_
  refine sp_arraylength X (pc := 128) (a := (G.sk 6)) rfl (Or.inr (Or.inr (Or.inr (Or.inr (Or.inl (by rw [sp_newO_ty, if_neg (by have := wc15 (G.sk 6) (by rw [T6_15]; decide); omega)]; exact T6_15)))))) dX9_init_128 ?_
  rw [show (Int32.ofNat ((c15.newO 4).ln (G.sk 6))) = nI 4 from (by show Int32.ofNat (c15.ln (G.sk 6)) = _; rw [N6_15]; rfl)]
  refine sp_callI X (pc := 129) (mc := 2) (ms := 2 * 4) (b := y13) (r := some y13) (As := [va_rf (some (G.sk 6)), .int 0, .int (nI 4)]) (rest := [va_rf (some y13), va_rf (some n11), .int 2, va_rf (some n13), va_rf (some n13), va_rf (some t)]) (c_Name_init l G _ (o := y13) (a1 := G.sk 6) (f := 0) (n := 4) (by rw [hy13, sp_newO_ty, if_pos rfl]) (Or.inr (by rw [sp_newO_ty, if_neg (by have := wc15 (G.sk 6) (by rw [T6_15]; decide); omega)]; exact T6_15)) (by show c15.ln (G.sk 6) ≤ 1000; rw [N6_15]; decide) (by show 0 + 4 ≤ c15.ln (G.sk 6); rw [N6_15]; decide)) ok_Name_init rfl rfl lk_Tree_40 rfl rfl (by simp [sp_cat_rf, sp_cat_i, sp_cat_l]) (Nat.le_of_ble_eq_true rfl) (Nat.le_of_ble_eq_true rfl) (by decide) (by decide) dX9_init_129 (sp_kV fun m129 hp129 => ?_)
  obtain ⟨c16, hc16⟩ : ∃ c, c = m129 := ⟨_, rfl⟩
  rw [← hc16]
  rw [hp129] at hc16
  have Jc16 : sp_J G P (sp_E1 (sp_E0) n13) c16 := by
    subst hy13; rw [hc16]
    exact (Jc15.newO0 wc15 4).mkN (wc15.newO 4) (by rw [sp_newO_ty, if_pos rfl]) (fun a ha => by have q1 := hP a ha; have q2 := nnc15; rw [sp_newO_nx]; omega) 4 (by decide) _
  have wc16 : sp_wf c16 := by rw [hc16]; exact (wc15.newO 4).mkN _ _ _
  have xc16 : sp_fx c15 c16 sp_w0 := by
    subst hy13; rw [hc16]
    exact ((sp_fx.refl c15 sp_w0).newO 4).mkN (Nat.le_refl _) _ _
  have tc16 : c16.ty y13 = 5 := by
    subst hy13; rw [hc16, sp_mkN_ty, if_neg (by rw [sp_newO_nx]; omega), if_neg (by rw [sp_newO_nx]; omega), sp_newO_ty, if_pos rfl]
  have nvc16 : sp_nv c16 y13 ([104, 111, 109, 101] : List Int32) := by
    subst hy13; rw [hc16]
    exact sp_mkN_nv _ _ _ _ _ (by rw [sp_newO_ty, if_pos rfl]) (by rw [sp_newO_nx]; omega) (by decide) rfl (fun i hi => by show c15.aI (G.sk 6) (0 + i) = _; rw [Nat.zero_add]; exact C6_15 i hi)
  clear hc16 hp129
  have tt_16 := xc16.ty wc15 tt_15 (by decide)
  have T4_16 := xc16.ty wc15 T4_15 (by decide)
  have N4_16 := (xc16.ln wc15 T4_15 (by decide)).trans N4_15
  have C4_16 : ∀ j, j < 0 → c16.aI (G.sk 4) j = (([] : List Int32) : List Int32).getD j 0 := fun j hj => by rw [(xc16.2.2.2.2.2 (G.sk 4) (wc15 (G.sk 4) (by rw [T4_15]; decide)) (fun z => z)).1]; exact C4_15 j hj
  have T5_16 := xc16.ty wc15 T5_15 (by decide)
  have N5_16 := (xc16.ln wc15 T5_15 (by decide)).trans N5_15
  have C5_16 : ∀ j, j < 3 → c16.aI (G.sk 5) j = (([111, 117, 116] : List Int32) : List Int32).getD j 0 := fun j hj => by rw [(xc16.2.2.2.2.2 (G.sk 5) (wc15 (G.sk 5) (by rw [T5_15]; decide)) (fun z => z)).1]; exact C5_15 j hj
  have T6_16 := xc16.ty wc15 T6_15 (by decide)
  have N6_16 := (xc16.ln wc15 T6_15 (by decide)).trans N6_15
  have C6_16 : ∀ j, j < 4 → c16.aI (G.sk 6) j = (([104, 111, 109, 101] : List Int32) : List Int32).getD j 0 := fun j hj => by rw [(xc16.2.2.2.2.2 (G.sk 6) (wc15 (G.sk 6) (by rw [T6_15]; decide)) (fun z => z)).1]; exact C6_15 j hj
  have T7_16 := xc16.ty wc15 T7_15 (by decide)
  have N7_16 := (xc16.ln wc15 T7_15 (by decide)).trans N7_15
  have C7_16 : ∀ j, j < 3 → c16.aI (G.sk 7) j = (([107, 101, 121] : List Int32) : List Int32).getD j 0 := fun j hj => by rw [(xc16.2.2.2.2.2 (G.sk 7) (wc15 (G.sk 7) (by rw [T7_15]; decide)) (fun z => z)).1]; exact C7_15 j hj
  have p640_t_16 := (xc16.2.2.2.2.1 640 t (wc15 t (by rw [tt_15]; decide)) (fun z => z)).trans p640_t_15
  have ta9_16 := xc16.ty wc15 ta9_15 (by decide)
  have la9_16 := (xc16.ln wc15 ta9_15 (by decide)).trans la9_15
  have La9_16 := xc16.li wc15 La9_15 (fun z => z) (fun z => z)
  have ga9_16 := ga9_15
  have p641_t_16 := (xc16.2.2.2.2.1 641 t (wc15 t (by rw [tt_15]; decide)) (fun z => z)).trans p641_t_15
  have ta10_16 := xc16.ty wc15 ta10_15 (by decide)
  have la10_16 := (xc16.ln wc15 ta10_15 (by decide)).trans la10_15
  have La10_16 := xc16.li wc15 La10_15 (fun z => z) (fun z => z)
  have ga10_16 := ga10_15
  have p642_t_16 := (xc16.2.2.2.2.1 642 t (wc15 t (by rw [tt_15]; decide)) (fun z => z)).trans p642_t_15
  have qbd_16 := qbd_15.w0 wc15 xc16
  have tbd_16 := xc16.ty wc15 tbd_15 (by decide)
  have gbd_16 := gbd_15
  have tn11_16 := xc16.ty wc15 tn11_15 (by decide)
  have ty11_16 := xc16.ty wc15 ty11_15 (by decide)
  have un11_16 := (xc16.2.2.1 320 n11 (wc15 n11 (by rw [tn11_15]; decide)) (fun z => z)).trans un11_15
  have qn11_16 := qn11_15.w0 wc15 xc16
  have gn11_16 := gn11_15
  have p643_t_16 := (xc16.2.2.2.2.1 643 t (wc15 t (by rw [tt_15]; decide)) (fun z => z)).trans p643_t_15
  have tn12_16 := xc16.ty wc15 tn12_15 (by decide)
  have ty12_16 := xc16.ty wc15 ty12_15 (by decide)
  have un12_16 := (xc16.2.2.1 320 n12 (wc15 n12 (by rw [tn12_15]; decide)) (fun z => z)).trans un12_15
  have qn12_16 := qn12_15.w0 wc15 xc16
  have gn12_16 := gn12_15
  have p644_t_16 := (xc16.2.2.2.2.1 644 t (wc15 t (by rw [tt_15]; decide)) (fun z => z)).trans p644_t_15
  have tn13_16 := xc16.ty wc15 tc15 (by decide)
  have fc16 : sp_fx m0 c16 sp_w0 := fc15.tr0 xc16
  have nnc16 : m.nx ≤ c16.nx := Nat.le_trans nnc15 xc16.1
  refine sp_null X (pc := 132) dX9_init_132 ?_
  refine sp_null X (pc := 133) dX9_init_133 ?_
  refine sp_iconst X (pc := 134) (v := 0) dX9_init_134 (by decide) ?_
  refine sp_callI X (pc := 135) (mc := 0) (ms := 0) (b := n13) (r := some n13) (As := [.int 2, va_rf (some n11), va_rf (some y13), va_rf none, va_rf none, .int 0]) (rest := [va_rf (some n13), va_rf (some t)]) (c_Node_init l G _ (o := n13) tn13_16 (Or.inl rfl)) ok_Node_init rfl rfl lk_Tree_43 rfl rfl (by simp [sp_cat_rf, sp_cat_i, sp_cat_l]) (Nat.le_of_ble_eq_true rfl) (Nat.le_of_ble_eq_true rfl) (Nat.zero_le _) (Nat.zero_le _) dX9_init_135 (sp_kV fun m135 hp135 => ?_)
  obtain ⟨c17, hc17⟩ : ∃ c, c = m135 := ⟨_, rfl⟩
  rw [← hc17]
  rw [hp135] at hc17
  have qc17 : n11 < n13 := by rw [hn13]; exact wc14 n11 (by rw [tn11_14]; decide)
  have Jc17 : sp_J G P (sp_E0) c17 := by rw [hc17]; exact Jc16.mkD tn13_16 _ _ _ _ _ _ (fun x hx => by cases hx; exact ⟨tn11_16, qc17⟩) ⟨y13, rfl, tc16⟩ (fun x hx => by cases hx) (fun x hx => by cases hx)
  have wc17 : sp_wf c17 := by rw [hc17]; exact sp_mkD_wf wc16 _ _ _ _ _ _ _
  have xc17 : sp_fx c14 c17 sp_w0 := by rw [hc17]; exact (xc15.tr0 xc16).mkD (by rw [hn13]; exact Nat.le_refl _) _ _ _ _ _ _
  have tc17 : c17.ty n13 = 6 := by rw [hc17, sp_mkD_ty]; exact tn13_16
  have yc17 : c17.ty y13 = 5 := by rw [hc17, sp_mkD_ty]; exact tc16
  have uc17 : c17.fI 320 n13 = 2 := by rw [hc17, sp_mkD_fI]; simp
  have nqc17 : sp_nq c17 n13 2 (some n11) ([104, 111, 109, 101] : List Int32) none := by rw [hc17]; exact sp_mkD_nq wc16 tn13_16 nvc16
  clear hc17 hp135
  have gn13 : m0.nx ≤ n13 := by rw [hn13]; exact fc14.1
  have tt_17 := xc17.ty wc14 tt_14 (by decide)
  have T4_17 := xc17.ty wc14 T4_14 (by decide)
  have N4_17 := (xc17.ln wc14 T4_14 (by decide)).trans N4_14
  have C4_17 : ∀ j, j < 0 → c17.aI (G.sk 4) j = (([] : List Int32) : List Int32).getD j 0 := fun j hj => by rw [(xc17.2.2.2.2.2 (G.sk 4) (wc14 (G.sk 4) (by rw [T4_14]; decide)) (fun z => z)).1]; exact C4_14 j hj
  have T5_17 := xc17.ty wc14 T5_14 (by decide)
  have N5_17 := (xc17.ln wc14 T5_14 (by decide)).trans N5_14
  have C5_17 : ∀ j, j < 3 → c17.aI (G.sk 5) j = (([111, 117, 116] : List Int32) : List Int32).getD j 0 := fun j hj => by rw [(xc17.2.2.2.2.2 (G.sk 5) (wc14 (G.sk 5) (by rw [T5_14]; decide)) (fun z => z)).1]; exact C5_14 j hj
  have T6_17 := xc17.ty wc14 T6_14 (by decide)
  have N6_17 := (xc17.ln wc14 T6_14 (by decide)).trans N6_14
  have C6_17 : ∀ j, j < 4 → c17.aI (G.sk 6) j = (([104, 111, 109, 101] : List Int32) : List Int32).getD j 0 := fun j hj => by rw [(xc17.2.2.2.2.2 (G.sk 6) (wc14 (G.sk 6) (by rw [T6_14]; decide)) (fun z => z)).1]; exact C6_14 j hj
  have T7_17 := xc17.ty wc14 T7_14 (by decide)
  have N7_17 := (xc17.ln wc14 T7_14 (by decide)).trans N7_14
  have C7_17 : ∀ j, j < 3 → c17.aI (G.sk 7) j = (([107, 101, 121] : List Int32) : List Int32).getD j 0 := fun j hj => by rw [(xc17.2.2.2.2.2 (G.sk 7) (wc14 (G.sk 7) (by rw [T7_14]; decide)) (fun z => z)).1]; exact C7_14 j hj
  have p640_t_17 := (xc17.2.2.2.2.1 640 t (wc14 t (by rw [tt_14]; decide)) (fun z => z)).trans p640_t_14
  have ta9_17 := xc17.ty wc14 ta9_14 (by decide)
  have la9_17 := (xc17.ln wc14 ta9_14 (by decide)).trans la9_14
  have La9_17 := xc17.li wc14 La9_14 (fun z => z) (fun z => z)
  have ga9_17 := ga9_14
  have p641_t_17 := (xc17.2.2.2.2.1 641 t (wc14 t (by rw [tt_14]; decide)) (fun z => z)).trans p641_t_14
  have ta10_17 := xc17.ty wc14 ta10_14 (by decide)
  have la10_17 := (xc17.ln wc14 ta10_14 (by decide)).trans la10_14
  have La10_17 := xc17.li wc14 La10_14 (fun z => z) (fun z => z)
  have ga10_17 := ga10_14
  have p642_t_17 := (xc17.2.2.2.2.1 642 t (wc14 t (by rw [tt_14]; decide)) (fun z => z)).trans p642_t_14
  have qbd_17 := qbd_14.w0 wc14 xc17
  have tbd_17 := xc17.ty wc14 tbd_14 (by decide)
  have gbd_17 := gbd_14
  have tn11_17 := xc17.ty wc14 tn11_14 (by decide)
  have ty11_17 := xc17.ty wc14 ty11_14 (by decide)
  have un11_17 := (xc17.2.2.1 320 n11 (wc14 n11 (by rw [tn11_14]; decide)) (fun z => z)).trans un11_14
  have qn11_17 := qn11_14.w0 wc14 xc17
  have gn11_17 := gn11_14
  have p643_t_17 := (xc17.2.2.2.2.1 643 t (wc14 t (by rw [tt_14]; decide)) (fun z => z)).trans p643_t_14
  have tn12_17 := xc17.ty wc14 tn12_14 (by decide)
  have ty12_17 := xc17.ty wc14 ty12_14 (by decide)
  have un12_17 := (xc17.2.2.1 320 n12 (wc14 n12 (by rw [tn12_14]; decide)) (fun z => z)).trans un12_14
  have qn12_17 := qn12_14.w0 wc14 xc17
  have gn12_17 := gn12_14
  have p644_t_17 := (xc17.2.2.2.2.1 644 t (wc14 t (by rw [tt_14]; decide)) (fun z => z)).trans p644_t_14
  have fc17 : sp_fx m0 c17 sp_w0 := fc14.tr0 xc17
  have nnc17 : m.nx ≤ c17.nx := Nat.le_trans nnc14 xc17.1
  clear tt_16 T4_16 N4_16 C4_16 T5_16 N5_16 C5_16 T6_16 N6_16 C6_16 T7_16 N7_16 C7_16 p640_t_16 ta9_16 la9_16 La9_16 ga9_16 p641_t_16 ta10_16 la10_16 La10_16 ga10_16 p642_t_16 qbd_16 tbd_16 gbd_16 tn11_16 ty11_16 un11_16 qn11_16 gn11_16 p643_t_16 tn12_16 ty12_16 un12_16 qn12_16 gn12_16 p644_t_16 tn13_16 tt_14 T4_14 N4_14 C4_14 T5_14 N5_14 C5_14 T6_14 N6_14 C6_14 T7_14 N7_14 C7_14 p640_t_14 ta9_14 la9_14 La9_14 ga9_14 p641_t_14 ta10_14 la10_14 La10_14 ga10_14 p642_t_14 qbd_14 tbd_14 gbd_14 tn11_14 ty11_14 un11_14 qn11_14 gn11_14 p643_t_14 tn12_14 ty12_14 un12_14 qn12_14 gn12_14 p644_t_14
  refine sp_putR X (pc := 138) (c := 10) (i := 5) (q := 645) (a := t) rfl (by first | assumption | omega) (by decide) rfl rfl (Or.inr ⟨rfl, rfl, rfl⟩)  fl_Tree_59 dX9_init_138 ?_
  obtain ⟨c18, hc18⟩ : ∃ c, c = c17.pR 645 t (some n13) := ⟨_, rfl⟩
  rw [← hc18]
  have Jc18 : sp_J G P (sp_E0) c18 := by rw [hc18]; exact Jc17.pR (Or.inl (by unfold sp_fk; omega))
  have wc18 : sp_wf c18 := by rw [hc18]; exact wc17
  have fc18 : sp_fx m0 c18 sp_w0 := by rw [hc18]; exact fc17.pR (Or.inr ht0)
  have tt_18 : c18.ty t = 11 := by rw [hc18]; exact tt_17
  have T4_18 : c18.ty (G.sk 4) = 24 := by rw [hc18]; exact T4_17
  have N4_18 : c18.ln (G.sk 4) = 0 := by rw [hc18]; exact N4_17
  have C4_18 : ∀ j, j < 0 → c18.aI (G.sk 4) j = (([] : List Int32) : List Int32).getD j 0 := by rw [hc18]; exact C4_17
  have T5_18 : c18.ty (G.sk 5) = 24 := by rw [hc18]; exact T5_17
  have N5_18 : c18.ln (G.sk 5) = 3 := by rw [hc18]; exact N5_17
  have C5_18 : ∀ j, j < 3 → c18.aI (G.sk 5) j = (([111, 117, 116] : List Int32) : List Int32).getD j 0 := by rw [hc18]; exact C5_17
  have T6_18 : c18.ty (G.sk 6) = 24 := by rw [hc18]; exact T6_17
  have N6_18 : c18.ln (G.sk 6) = 4 := by rw [hc18]; exact N6_17
  have C6_18 : ∀ j, j < 4 → c18.aI (G.sk 6) j = (([104, 111, 109, 101] : List Int32) : List Int32).getD j 0 := by rw [hc18]; exact C6_17
  have T7_18 : c18.ty (G.sk 7) = 24 := by rw [hc18]; exact T7_17
  have N7_18 : c18.ln (G.sk 7) = 3 := by rw [hc18]; exact N7_17
  have C7_18 : ∀ j, j < 3 → c18.aI (G.sk 7) j = (([107, 101, 121] : List Int32) : List Int32).getD j 0 := by rw [hc18]; exact C7_17
  have p640_t_18 : c18.fR 640 t = (some rl) := by rw [hc18, sp_pR_fR, if_neg (fun z => absurd z.1 (by decide))]; exact p640_t_17
  have ta9_18 : c18.ty a9 = 1 := by rw [hc18]; exact ta9_17
  have la9_18 : c18.ln a9 = 6 := by rw [hc18]; exact la9_17
  have La9_18 : sp_li G c18 a9 (G.sk 3) 0 := by rw [hc18]; exact La9_17.pR (by decide)
  have ga9_18 : m0.nx ≤ a9 := ga9_17
  have p641_t_18 : c18.fR 641 t = (some a9) := by rw [hc18, sp_pR_fR, if_neg (fun z => absurd z.1 (by decide))]; exact p641_t_17
  have ta10_18 : c18.ty a10 = 1 := by rw [hc18]; exact ta10_17
  have la10_18 : c18.ln a10 = 2 := by rw [hc18]; exact la10_17
  have La10_18 : sp_li G c18 a10 (G.sk 3) 0 := by rw [hc18]; exact La10_17.pR (by decide)
  have ga10_18 : m0.nx ≤ a10 := ga10_17
  have p642_t_18 : c18.fR 642 t = (some a10) := by rw [hc18, sp_pR_fR, if_neg (fun z => absurd z.1 (by decide))]; exact p642_t_17
  have qbd_18 : sp_bq c18 bd 0 8 42 := by rw [hc18]; exact qbd_17.pR (by decide)
  have tbd_18 : c18.ty bd = 2 := by rw [hc18]; exact tbd_17
  have gbd_18 : m0.nx ≤ bd := gbd_17
  have tn11_18 : c18.ty n11 = 6 := by rw [hc18]; exact tn11_17
  have ty11_18 : c18.ty y11 = 5 := by rw [hc18]; exact ty11_17
  have un11_18 : c18.fI 320 n11 = 0 := by rw [hc18]; exact un11_17
  have qn11_18 : sp_nq c18 n11 0 none ([] : List Int32) none := by rw [hc18]; exact qn11_17.pR (by decide)
  have gn11_18 : m0.nx ≤ n11 := gn11_17
  have p643_t_18 : c18.fR 643 t = (some n11) := by rw [hc18, sp_pR_fR, if_neg (fun z => absurd z.1 (by decide))]; exact p643_t_17
  have tn12_18 : c18.ty n12 = 6 := by rw [hc18]; exact tn12_17
  have ty12_18 : c18.ty y12 = 5 := by rw [hc18]; exact ty12_17
  have un12_18 : c18.fI 320 n12 = 1 := by rw [hc18]; exact un12_17
  have qn12_18 : sp_nq c18 n12 1 (some n11) ([111, 117, 116] : List Int32) none := by rw [hc18]; exact qn12_17.pR (by decide)
  have gn12_18 : m0.nx ≤ n12 := gn12_17
  have p644_t_18 : c18.fR 644 t = (some n12) := by rw [hc18, sp_pR_fR, if_neg (fun z => absurd z.1 (by decide))]; exact p644_t_17
  have tn13_18 : c18.ty n13 = 6 := by rw [hc18]; exact tc17
  have ty13_18 : c18.ty y13 = 5 := by rw [hc18]; exact yc17
  have un13_18 : c18.fI 320 n13 = 2 := by rw [hc18]; exact uc17
  have qn13_18 : sp_nq c18 n13 2 (some n11) ([104, 111, 109, 101] : List Int32) none := by rw [hc18]; exact nqc17.pR (by decide)
  have gn13_18 : m0.nx ≤ n13 := gn13
  have nnc18 : m.nx ≤ c18.nx := by rw [hc18]; exact nnc17
  have p645_t_18 : c18.fR 645 t = (some n13) := by rw [hc18, sp_pR_fR, if_pos ⟨rfl, rfl⟩]
  clear hc18
  clear tt_17 T4_17 N4_17 C4_17 T5_17 N5_17 C5_17 T6_17 N6_17 C6_17 T7_17 N7_17 C7_17 p640_t_17 ta9_17 la9_17 La9_17 ga9_17 p641_t_17 ta10_17 la10_17 La10_17 ga10_17 p642_t_17 qbd_17 tbd_17 gbd_17 tn11_17 ty11_17 un11_17 qn11_17 gn11_17 p643_t_17 tn12_17 ty12_17 un12_17 qn12_17 gn12_17 p644_t_17
  refine sp_aload_n X (pc := 141) (r := some t) dX9_init_141 rfl rfl ?_
  obtain ⟨n14, hn14⟩ : ∃ a, a = c18.nx := ⟨_, rfl⟩
  refine sp_new X (pc := 142) (c := 5) (N := 8) (by decide) rfl cl_Tree_30 in_5 it_5 (by decide) (by decide) dX9_init_142 ?_
  rw [← hn14]
  obtain ⟨c19, hc19⟩ : ∃ c, c = c18.newO 5 := ⟨_, rfl⟩
  rw [← hc19]
  have Jc19 : sp_J G P (sp_E1 (sp_E0) n14) c19 := by subst hn14; rw [hc19]; exact Jc18.newO0 wc18 5
  have tc19 : c19.ty n14 = 6 := by rw [hc19, hn14, sp_newO_ty, if_pos rfl]
  have wc19 : sp_wf c19 := by rw [hc19]; exact wc18.newO 5
  have xc19 : sp_fx c18 c19 sp_w0 := by rw [hc19]; exact (sp_fx.refl c18 sp_w0).newO 5
  clear hc19
  have tt_19 := xc19.ty wc18 tt_18 (by decide)
  have T4_19 := xc19.ty wc18 T4_18 (by decide)
  have N4_19 := (xc19.ln wc18 T4_18 (by decide)).trans N4_18
  have C4_19 : ∀ j, j < 0 → c19.aI (G.sk 4) j = (([] : List Int32) : List Int32).getD j 0 := fun j hj => by rw [(xc19.2.2.2.2.2 (G.sk 4) (wc18 (G.sk 4) (by rw [T4_18]; decide)) (fun z => z)).1]; exact C4_18 j hj
  have T5_19 := xc19.ty wc18 T5_18 (by decide)
  have N5_19 := (xc19.ln wc18 T5_18 (by decide)).trans N5_18
  have C5_19 : ∀ j, j < 3 → c19.aI (G.sk 5) j = (([111, 117, 116] : List Int32) : List Int32).getD j 0 := fun j hj => by rw [(xc19.2.2.2.2.2 (G.sk 5) (wc18 (G.sk 5) (by rw [T5_18]; decide)) (fun z => z)).1]; exact C5_18 j hj
  have T6_19 := xc19.ty wc18 T6_18 (by decide)
  have N6_19 := (xc19.ln wc18 T6_18 (by decide)).trans N6_18
  have C6_19 : ∀ j, j < 4 → c19.aI (G.sk 6) j = (([104, 111, 109, 101] : List Int32) : List Int32).getD j 0 := fun j hj => by rw [(xc19.2.2.2.2.2 (G.sk 6) (wc18 (G.sk 6) (by rw [T6_18]; decide)) (fun z => z)).1]; exact C6_18 j hj
  have T7_19 := xc19.ty wc18 T7_18 (by decide)
  have N7_19 := (xc19.ln wc18 T7_18 (by decide)).trans N7_18
  have C7_19 : ∀ j, j < 3 → c19.aI (G.sk 7) j = (([107, 101, 121] : List Int32) : List Int32).getD j 0 := fun j hj => by rw [(xc19.2.2.2.2.2 (G.sk 7) (wc18 (G.sk 7) (by rw [T7_18]; decide)) (fun z => z)).1]; exact C7_18 j hj
  have p640_t_19 := (xc19.2.2.2.2.1 640 t (wc18 t (by rw [tt_18]; decide)) (fun z => z)).trans p640_t_18
  have ta9_19 := xc19.ty wc18 ta9_18 (by decide)
  have la9_19 := (xc19.ln wc18 ta9_18 (by decide)).trans la9_18
  have La9_19 := xc19.li wc18 La9_18 (fun z => z) (fun z => z)
  have ga9_19 := ga9_18
  have p641_t_19 := (xc19.2.2.2.2.1 641 t (wc18 t (by rw [tt_18]; decide)) (fun z => z)).trans p641_t_18
  have ta10_19 := xc19.ty wc18 ta10_18 (by decide)
  have la10_19 := (xc19.ln wc18 ta10_18 (by decide)).trans la10_18
  have La10_19 := xc19.li wc18 La10_18 (fun z => z) (fun z => z)
  have ga10_19 := ga10_18
  have p642_t_19 := (xc19.2.2.2.2.1 642 t (wc18 t (by rw [tt_18]; decide)) (fun z => z)).trans p642_t_18
  have qbd_19 := qbd_18.w0 wc18 xc19
  have tbd_19 := xc19.ty wc18 tbd_18 (by decide)
  have gbd_19 := gbd_18
  have tn11_19 := xc19.ty wc18 tn11_18 (by decide)
  have ty11_19 := xc19.ty wc18 ty11_18 (by decide)
  have un11_19 := (xc19.2.2.1 320 n11 (wc18 n11 (by rw [tn11_18]; decide)) (fun z => z)).trans un11_18
  have qn11_19 := qn11_18.w0 wc18 xc19
  have gn11_19 := gn11_18
  have p643_t_19 := (xc19.2.2.2.2.1 643 t (wc18 t (by rw [tt_18]; decide)) (fun z => z)).trans p643_t_18
  have tn12_19 := xc19.ty wc18 tn12_18 (by decide)
  have ty12_19 := xc19.ty wc18 ty12_18 (by decide)
  have un12_19 := (xc19.2.2.1 320 n12 (wc18 n12 (by rw [tn12_18]; decide)) (fun z => z)).trans un12_18
  have qn12_19 := qn12_18.w0 wc18 xc19
  have gn12_19 := gn12_18
  have p644_t_19 := (xc19.2.2.2.2.1 644 t (wc18 t (by rw [tt_18]; decide)) (fun z => z)).trans p644_t_18
  have tn13_19 := xc19.ty wc18 tn13_18 (by decide)
  have ty13_19 := xc19.ty wc18 ty13_18 (by decide)
  have un13_19 := (xc19.2.2.1 320 n13 (wc18 n13 (by rw [tn13_18]; decide)) (fun z => z)).trans un13_18
  have qn13_19 := qn13_18.w0 wc18 xc19
  have gn13_19 := gn13_18
  have p645_t_19 := (xc19.2.2.2.2.1 645 t (wc18 t (by rw [tt_18]; decide)) (fun z => z)).trans p645_t_18
  have fc19 : sp_fx m0 c19 sp_w0 := fc18.tr0 xc19
  have nnc19 : m.nx ≤ c19.nx := Nat.le_trans nnc18 xc19.1
  refine sp_dup X (pc := 145) dX9_init_145 (sp_cat_rf _) ?_
  refine sp_iconst X (pc := 146) (v := 3) dX9_init_146 (by decide) ?_
  refine sp_aload_n X (pc := 147) (r := some t) dX9_init_147 rfl rfl ?_
  refine sp_getfield X (pc := 148) (c := 10) (i := 5) (t := 2) (a := t) (v := va_rf (some n13)) rfl (by first | assumption | omega) (by decide) rfl (congrArg va_rf p645_t_19) fl_Tree_59 dX9_init_148 ?_
  obtain ⟨y14, hy14⟩ : ∃ a, a = c19.nx := ⟨_, rfl⟩
  refine sp_new X (pc := 151) (c := 4) (N := 2) (by decide) rfl cl_Tree_32 in_4 it_4 (by decide) (by decide) dX9_init_151 ?_
  rw [← hy14]
  refine sp_dup X (pc := 154) dX9_init_154 (sp_cat_rf _) ?_
  refine sp_getstatic X (pc := 155) (v := va_rf (some (G.sk 7))) hG.2.2.2.2.1 gs_Tree_62 dX9_init_155 ?_
  refine sp_iconst X (pc := 158) (v := 0) dX9_init_158 (by decide) ?_
  refine sp_getstatic X (pc := 159) (v := va_rf (some (G.sk 7))) hG.2.2.2.2.1 gs_Tree_62 dX9_init_159 ?_
  refine sp_arraylength X (pc := 162) (a := (G.sk 7)) rfl (Or.inr (Or.inr (Or.inr (Or.inr (Or.inl (by rw [sp_newO_ty, if_neg (by have := wc19 (G.sk 7) (by rw [T7_19]; decide); omega)]; exact T7_19)))))) dX9_init_162 ?_
  rw [show (Int32.ofNat ((c19.newO 4).ln (G.sk 7))) = nI 3 from (by show Int32.ofNat (c19.ln (G.sk 7)) = _; rw [N7_19]; rfl)]
  refine sp_callI X (pc := 163) (mc := 2) (ms := 2 * 3) (b := y14) (r := some y14) (As := [va_rf (some (G.sk 7)), .int 0, .int (nI 3)]) (rest := [va_rf (some y14), va_rf (some n13), .int 3, va_rf (some n14), va_rf (some n14), va_rf (some t)]) (c_Name_init l G _ (o := y14) (a1 := G.sk 7) (f := 0) (n := 3) (by rw [hy14, sp_newO_ty, if_pos rfl]) (Or.inr (by rw [sp_newO_ty, if_neg (by have := wc19 (G.sk 7) (by rw [T7_19]; decide); omega)]; exact T7_19)) (by show c19.ln (G.sk 7) ≤ 1000; rw [N7_19]; decide) (by show 0 + 3 ≤ c19.ln (G.sk 7); rw [N7_19]; decide)) ok_Name_init rfl rfl lk_Tree_40 rfl rfl (by simp [sp_cat_rf, sp_cat_i, sp_cat_l]) (Nat.le_of_ble_eq_true rfl) (Nat.le_of_ble_eq_true rfl) (by decide) (by decide) dX9_init_163 (sp_kV fun m163 hp163 => ?_)
  obtain ⟨c20, hc20⟩ : ∃ c, c = m163 := ⟨_, rfl⟩
  rw [← hc20]
  rw [hp163] at hc20
  have Jc20 : sp_J G P (sp_E1 (sp_E0) n14) c20 := by
    subst hy14; rw [hc20]
    exact (Jc19.newO0 wc19 4).mkN (wc19.newO 4) (by rw [sp_newO_ty, if_pos rfl]) (fun a ha => by have q1 := hP a ha; have q2 := nnc19; rw [sp_newO_nx]; omega) 3 (by decide) _
  have wc20 : sp_wf c20 := by rw [hc20]; exact (wc19.newO 4).mkN _ _ _
  have xc20 : sp_fx c19 c20 sp_w0 := by
    subst hy14; rw [hc20]
    exact ((sp_fx.refl c19 sp_w0).newO 4).mkN (Nat.le_refl _) _ _
  have tc20 : c20.ty y14 = 5 := by
    subst hy14; rw [hc20, sp_mkN_ty, if_neg (by rw [sp_newO_nx]; omega), if_neg (by rw [sp_newO_nx]; omega), sp_newO_ty, if_pos rfl]
  have nvc20 : sp_nv c20 y14 ([107, 101, 121] : List Int32) := by
    subst hy14; rw [hc20]
    exact sp_mkN_nv _ _ _ _ _ (by rw [sp_newO_ty, if_pos rfl]) (by rw [sp_newO_nx]; omega) (by decide) rfl (fun i hi => by show c19.aI (G.sk 7) (0 + i) = _; rw [Nat.zero_add]; exact C7_19 i hi)
  clear hc20 hp163
  have tt_20 := xc20.ty wc19 tt_19 (by decide)
  have T4_20 := xc20.ty wc19 T4_19 (by decide)
  have N4_20 := (xc20.ln wc19 T4_19 (by decide)).trans N4_19
  have C4_20 : ∀ j, j < 0 → c20.aI (G.sk 4) j = (([] : List Int32) : List Int32).getD j 0 := fun j hj => by rw [(xc20.2.2.2.2.2 (G.sk 4) (wc19 (G.sk 4) (by rw [T4_19]; decide)) (fun z => z)).1]; exact C4_19 j hj
  have T5_20 := xc20.ty wc19 T5_19 (by decide)
  have N5_20 := (xc20.ln wc19 T5_19 (by decide)).trans N5_19
  have C5_20 : ∀ j, j < 3 → c20.aI (G.sk 5) j = (([111, 117, 116] : List Int32) : List Int32).getD j 0 := fun j hj => by rw [(xc20.2.2.2.2.2 (G.sk 5) (wc19 (G.sk 5) (by rw [T5_19]; decide)) (fun z => z)).1]; exact C5_19 j hj
  have T6_20 := xc20.ty wc19 T6_19 (by decide)
  have N6_20 := (xc20.ln wc19 T6_19 (by decide)).trans N6_19
  have C6_20 : ∀ j, j < 4 → c20.aI (G.sk 6) j = (([104, 111, 109, 101] : List Int32) : List Int32).getD j 0 := fun j hj => by rw [(xc20.2.2.2.2.2 (G.sk 6) (wc19 (G.sk 6) (by rw [T6_19]; decide)) (fun z => z)).1]; exact C6_19 j hj
  have T7_20 := xc20.ty wc19 T7_19 (by decide)
  have N7_20 := (xc20.ln wc19 T7_19 (by decide)).trans N7_19
  have C7_20 : ∀ j, j < 3 → c20.aI (G.sk 7) j = (([107, 101, 121] : List Int32) : List Int32).getD j 0 := fun j hj => by rw [(xc20.2.2.2.2.2 (G.sk 7) (wc19 (G.sk 7) (by rw [T7_19]; decide)) (fun z => z)).1]; exact C7_19 j hj
  have p640_t_20 := (xc20.2.2.2.2.1 640 t (wc19 t (by rw [tt_19]; decide)) (fun z => z)).trans p640_t_19
  have ta9_20 := xc20.ty wc19 ta9_19 (by decide)
  have la9_20 := (xc20.ln wc19 ta9_19 (by decide)).trans la9_19
  have La9_20 := xc20.li wc19 La9_19 (fun z => z) (fun z => z)
  have ga9_20 := ga9_19
  have p641_t_20 := (xc20.2.2.2.2.1 641 t (wc19 t (by rw [tt_19]; decide)) (fun z => z)).trans p641_t_19
  have ta10_20 := xc20.ty wc19 ta10_19 (by decide)
  have la10_20 := (xc20.ln wc19 ta10_19 (by decide)).trans la10_19
  have La10_20 := xc20.li wc19 La10_19 (fun z => z) (fun z => z)
  have ga10_20 := ga10_19
  have p642_t_20 := (xc20.2.2.2.2.1 642 t (wc19 t (by rw [tt_19]; decide)) (fun z => z)).trans p642_t_19
  have qbd_20 := qbd_19.w0 wc19 xc20
  have tbd_20 := xc20.ty wc19 tbd_19 (by decide)
  have gbd_20 := gbd_19
  have tn11_20 := xc20.ty wc19 tn11_19 (by decide)
  have ty11_20 := xc20.ty wc19 ty11_19 (by decide)
  have un11_20 := (xc20.2.2.1 320 n11 (wc19 n11 (by rw [tn11_19]; decide)) (fun z => z)).trans un11_19
  have qn11_20 := qn11_19.w0 wc19 xc20
  have gn11_20 := gn11_19
  have p643_t_20 := (xc20.2.2.2.2.1 643 t (wc19 t (by rw [tt_19]; decide)) (fun z => z)).trans p643_t_19
  have tn12_20 := xc20.ty wc19 tn12_19 (by decide)
  have ty12_20 := xc20.ty wc19 ty12_19 (by decide)
  have un12_20 := (xc20.2.2.1 320 n12 (wc19 n12 (by rw [tn12_19]; decide)) (fun z => z)).trans un12_19
  have qn12_20 := qn12_19.w0 wc19 xc20
  have gn12_20 := gn12_19
  have p644_t_20 := (xc20.2.2.2.2.1 644 t (wc19 t (by rw [tt_19]; decide)) (fun z => z)).trans p644_t_19
  have tn13_20 := xc20.ty wc19 tn13_19 (by decide)
  have ty13_20 := xc20.ty wc19 ty13_19 (by decide)
  have un13_20 := (xc20.2.2.1 320 n13 (wc19 n13 (by rw [tn13_19]; decide)) (fun z => z)).trans un13_19
  have qn13_20 := qn13_19.w0 wc19 xc20
  have gn13_20 := gn13_19
  have p645_t_20 := (xc20.2.2.2.2.1 645 t (wc19 t (by rw [tt_19]; decide)) (fun z => z)).trans p645_t_19
  have tn14_20 := xc20.ty wc19 tc19 (by decide)
  have fc20 : sp_fx m0 c20 sp_w0 := fc19.tr0 xc20
  have nnc20 : m.nx ≤ c20.nx := Nat.le_trans nnc19 xc20.1
  refine sp_aload_n X (pc := 166) (r := some bd) dX9_init_166 rfl rfl ?_
  refine sp_null X (pc := 167) dX9_init_167 ?_
  refine sp_iconst X (pc := 168) (v := 0) dX9_init_168 (by decide) ?_
  refine sp_callI X (pc := 169) (mc := 0) (ms := 0) (b := n14) (r := some n14) (As := [.int 3, va_rf (some n13), va_rf (some y14), va_rf (some bd), va_rf none, .int 0]) (rest := [va_rf (some n14), va_rf (some t)]) (c_Node_init l G _ (o := n14) tn14_20 (Or.inl rfl)) ok_Node_init rfl rfl lk_Tree_43 rfl rfl (by simp [sp_cat_rf, sp_cat_i, sp_cat_l]) (Nat.le_of_ble_eq_true rfl) (Nat.le_of_ble_eq_true rfl) (Nat.zero_le _) (Nat.zero_le _) dX9_init_169 (sp_kV fun m169 hp169 => ?_)
  obtain ⟨c21, hc21⟩ : ∃ c, c = m169 := ⟨_, rfl⟩
  rw [← hc21]
  rw [hp169] at hc21
  have qc21 : n13 < n14 := by rw [hn14]; exact wc18 n13 (by rw [tn13_18]; decide)
  have Jc21 : sp_J G P (sp_E0) c21 := by rw [hc21]; exact Jc20.mkD tn14_20 _ _ _ _ _ _ (fun x hx => by cases hx; exact ⟨tn13_20, qc21⟩) ⟨y14, rfl, tc20⟩ (fun x hx => by cases hx; exact tbd_20) (fun x hx => by cases hx)
  have wc21 : sp_wf c21 := by rw [hc21]; exact sp_mkD_wf wc20 _ _ _ _ _ _ _
  have xc21 : sp_fx c18 c21 sp_w0 := by rw [hc21]; exact (xc19.tr0 xc20).mkD (by rw [hn14]; exact Nat.le_refl _) _ _ _ _ _ _
  have tc21 : c21.ty n14 = 6 := by rw [hc21, sp_mkD_ty]; exact tn14_20
  have yc21 : c21.ty y14 = 5 := by rw [hc21, sp_mkD_ty]; exact tc20
  have uc21 : c21.fI 320 n14 = 3 := by rw [hc21, sp_mkD_fI]; simp
  have nqc21 : sp_nq c21 n14 3 (some n13) ([107, 101, 121] : List Int32) (some bd) := by rw [hc21]; exact sp_mkD_nq wc20 tn14_20 nvc20
  clear hc21 hp169
  have gn14 : m0.nx ≤ n14 := by rw [hn14]; exact fc18.1
  have tt_21 := xc21.ty wc18 tt_18 (by decide)
  have T4_21 := xc21.ty wc18 T4_18 (by decide)
  have N4_21 := (xc21.ln wc18 T4_18 (by decide)).trans N4_18
  have C4_21 : ∀ j, j < 0 → c21.aI (G.sk 4) j = (([] : List Int32) : List Int32).getD j 0 := fun j hj => by rw [(xc21.2.2.2.2.2 (G.sk 4) (wc18 (G.sk 4) (by rw [T4_18]; decide)) (fun z => z)).1]; exact C4_18 j hj
  have T5_21 := xc21.ty wc18 T5_18 (by decide)
  have N5_21 := (xc21.ln wc18 T5_18 (by decide)).trans N5_18
  have C5_21 : ∀ j, j < 3 → c21.aI (G.sk 5) j = (([111, 117, 116] : List Int32) : List Int32).getD j 0 := fun j hj => by rw [(xc21.2.2.2.2.2 (G.sk 5) (wc18 (G.sk 5) (by rw [T5_18]; decide)) (fun z => z)).1]; exact C5_18 j hj
  have T6_21 := xc21.ty wc18 T6_18 (by decide)
  have N6_21 := (xc21.ln wc18 T6_18 (by decide)).trans N6_18
  have C6_21 : ∀ j, j < 4 → c21.aI (G.sk 6) j = (([104, 111, 109, 101] : List Int32) : List Int32).getD j 0 := fun j hj => by rw [(xc21.2.2.2.2.2 (G.sk 6) (wc18 (G.sk 6) (by rw [T6_18]; decide)) (fun z => z)).1]; exact C6_18 j hj
  have T7_21 := xc21.ty wc18 T7_18 (by decide)
  have N7_21 := (xc21.ln wc18 T7_18 (by decide)).trans N7_18
  have C7_21 : ∀ j, j < 3 → c21.aI (G.sk 7) j = (([107, 101, 121] : List Int32) : List Int32).getD j 0 := fun j hj => by rw [(xc21.2.2.2.2.2 (G.sk 7) (wc18 (G.sk 7) (by rw [T7_18]; decide)) (fun z => z)).1]; exact C7_18 j hj
  have p640_t_21 := (xc21.2.2.2.2.1 640 t (wc18 t (by rw [tt_18]; decide)) (fun z => z)).trans p640_t_18
  have ta9_21 := xc21.ty wc18 ta9_18 (by decide)
  have la9_21 := (xc21.ln wc18 ta9_18 (by decide)).trans la9_18
  have La9_21 := xc21.li wc18 La9_18 (fun z => z) (fun z => z)
  have ga9_21 := ga9_18
  have p641_t_21 := (xc21.2.2.2.2.1 641 t (wc18 t (by rw [tt_18]; decide)) (fun z => z)).trans p641_t_18
  have ta10_21 := xc21.ty wc18 ta10_18 (by decide)
  have la10_21 := (xc21.ln wc18 ta10_18 (by decide)).trans la10_18
  have La10_21 := xc21.li wc18 La10_18 (fun z => z) (fun z => z)
  have ga10_21 := ga10_18
  have p642_t_21 := (xc21.2.2.2.2.1 642 t (wc18 t (by rw [tt_18]; decide)) (fun z => z)).trans p642_t_18
  have qbd_21 := qbd_18.w0 wc18 xc21
  have tbd_21 := xc21.ty wc18 tbd_18 (by decide)
  have gbd_21 := gbd_18
  have tn11_21 := xc21.ty wc18 tn11_18 (by decide)
  have ty11_21 := xc21.ty wc18 ty11_18 (by decide)
  have un11_21 := (xc21.2.2.1 320 n11 (wc18 n11 (by rw [tn11_18]; decide)) (fun z => z)).trans un11_18
  have qn11_21 := qn11_18.w0 wc18 xc21
  have gn11_21 := gn11_18
  have p643_t_21 := (xc21.2.2.2.2.1 643 t (wc18 t (by rw [tt_18]; decide)) (fun z => z)).trans p643_t_18
  have tn12_21 := xc21.ty wc18 tn12_18 (by decide)
  have ty12_21 := xc21.ty wc18 ty12_18 (by decide)
  have un12_21 := (xc21.2.2.1 320 n12 (wc18 n12 (by rw [tn12_18]; decide)) (fun z => z)).trans un12_18
  have qn12_21 := qn12_18.w0 wc18 xc21
  have gn12_21 := gn12_18
  have p644_t_21 := (xc21.2.2.2.2.1 644 t (wc18 t (by rw [tt_18]; decide)) (fun z => z)).trans p644_t_18
  have tn13_21 := xc21.ty wc18 tn13_18 (by decide)
  have ty13_21 := xc21.ty wc18 ty13_18 (by decide)
  have un13_21 := (xc21.2.2.1 320 n13 (wc18 n13 (by rw [tn13_18]; decide)) (fun z => z)).trans un13_18
  have qn13_21 := qn13_18.w0 wc18 xc21
  have gn13_21 := gn13_18
  have p645_t_21 := (xc21.2.2.2.2.1 645 t (wc18 t (by rw [tt_18]; decide)) (fun z => z)).trans p645_t_18
  have fc21 : sp_fx m0 c21 sp_w0 := fc18.tr0 xc21
  have nnc21 : m.nx ≤ c21.nx := Nat.le_trans nnc18 xc21.1
  clear tt_20 T4_20 N4_20 C4_20 T5_20 N5_20 C5_20 T6_20 N6_20 C6_20 T7_20 N7_20 C7_20 p640_t_20 ta9_20 la9_20 La9_20 ga9_20 p641_t_20 ta10_20 la10_20 La10_20 ga10_20 p642_t_20 qbd_20 tbd_20 gbd_20 tn11_20 ty11_20 un11_20 qn11_20 gn11_20 p643_t_20 tn12_20 ty12_20 un12_20 qn12_20 gn12_20 p644_t_20 tn13_20 ty13_20 un13_20 qn13_20 gn13_20 p645_t_20 tn14_20 tt_18 T4_18 N4_18 C4_18 T5_18 N5_18 C5_18 T6_18 N6_18 C6_18 T7_18 N7_18 C7_18 p640_t_18 ta9_18 la9_18 La9_18 ga9_18 p641_t_18 ta10_18 la10_18 La10_18 ga10_18 p642_t_18 qbd_18 tbd_18 gbd_18 tn11_18 ty11_18 un11_18 qn11_18 gn11_18 p643_t_18 tn12_18 ty12_18 un12_18 qn12_18 gn12_18 p644_t_18 tn13_18 ty13_18 un13_18 qn13_18 gn13_18 p645_t_18
  refine sp_putR X (pc := 172) (c := 10) (i := 6) (q := 646) (a := t) rfl (by first | assumption | omega) (by decide) rfl rfl (Or.inr ⟨rfl, rfl, rfl⟩)  fl_Tree_65 dX9_init_172 ?_
  obtain ⟨c22, hc22⟩ : ∃ c, c = c21.pR 646 t (some n14) := ⟨_, rfl⟩
  rw [← hc22]
  have Jc22 : sp_J G P (sp_E0) c22 := by rw [hc22]; exact Jc21.pR (Or.inl (by unfold sp_fk; omega))
  have wc22 : sp_wf c22 := by rw [hc22]; exact wc21
  have fc22 : sp_fx m0 c22 sp_w0 := by rw [hc22]; exact fc21.pR (Or.inr ht0)
  have tt_22 : c22.ty t = 11 := by rw [hc22]; exact tt_21
  have T4_22 : c22.ty (G.sk 4) = 24 := by rw [hc22]; exact T4_21
  have N4_22 : c22.ln (G.sk 4) = 0 := by rw [hc22]; exact N4_21
  have C4_22 : ∀ j, j < 0 → c22.aI (G.sk 4) j = (([] : List Int32) : List Int32).getD j 0 := by rw [hc22]; exact C4_21
  have T5_22 : c22.ty (G.sk 5) = 24 := by rw [hc22]; exact T5_21
  have N5_22 : c22.ln (G.sk 5) = 3 := by rw [hc22]; exact N5_21
  have C5_22 : ∀ j, j < 3 → c22.aI (G.sk 5) j = (([111, 117, 116] : List Int32) : List Int32).getD j 0 := by rw [hc22]; exact C5_21
  have T6_22 : c22.ty (G.sk 6) = 24 := by rw [hc22]; exact T6_21
  have N6_22 : c22.ln (G.sk 6) = 4 := by rw [hc22]; exact N6_21
  have C6_22 : ∀ j, j < 4 → c22.aI (G.sk 6) j = (([104, 111, 109, 101] : List Int32) : List Int32).getD j 0 := by rw [hc22]; exact C6_21
  have T7_22 : c22.ty (G.sk 7) = 24 := by rw [hc22]; exact T7_21
  have N7_22 : c22.ln (G.sk 7) = 3 := by rw [hc22]; exact N7_21
  have C7_22 : ∀ j, j < 3 → c22.aI (G.sk 7) j = (([107, 101, 121] : List Int32) : List Int32).getD j 0 := by rw [hc22]; exact C7_21
  have p640_t_22 : c22.fR 640 t = (some rl) := by rw [hc22, sp_pR_fR, if_neg (fun z => absurd z.1 (by decide))]; exact p640_t_21
  have ta9_22 : c22.ty a9 = 1 := by rw [hc22]; exact ta9_21
  have la9_22 : c22.ln a9 = 6 := by rw [hc22]; exact la9_21
  have La9_22 : sp_li G c22 a9 (G.sk 3) 0 := by rw [hc22]; exact La9_21.pR (by decide)
  have ga9_22 : m0.nx ≤ a9 := ga9_21
  have p641_t_22 : c22.fR 641 t = (some a9) := by rw [hc22, sp_pR_fR, if_neg (fun z => absurd z.1 (by decide))]; exact p641_t_21
  have ta10_22 : c22.ty a10 = 1 := by rw [hc22]; exact ta10_21
  have la10_22 : c22.ln a10 = 2 := by rw [hc22]; exact la10_21
  have La10_22 : sp_li G c22 a10 (G.sk 3) 0 := by rw [hc22]; exact La10_21.pR (by decide)
  have ga10_22 : m0.nx ≤ a10 := ga10_21
  have p642_t_22 : c22.fR 642 t = (some a10) := by rw [hc22, sp_pR_fR, if_neg (fun z => absurd z.1 (by decide))]; exact p642_t_21
  have qbd_22 : sp_bq c22 bd 0 8 42 := by rw [hc22]; exact qbd_21.pR (by decide)
  have tbd_22 : c22.ty bd = 2 := by rw [hc22]; exact tbd_21
  have gbd_22 : m0.nx ≤ bd := gbd_21
  have tn11_22 : c22.ty n11 = 6 := by rw [hc22]; exact tn11_21
  have ty11_22 : c22.ty y11 = 5 := by rw [hc22]; exact ty11_21
  have un11_22 : c22.fI 320 n11 = 0 := by rw [hc22]; exact un11_21
  have qn11_22 : sp_nq c22 n11 0 none ([] : List Int32) none := by rw [hc22]; exact qn11_21.pR (by decide)
  have gn11_22 : m0.nx ≤ n11 := gn11_21
  have p643_t_22 : c22.fR 643 t = (some n11) := by rw [hc22, sp_pR_fR, if_neg (fun z => absurd z.1 (by decide))]; exact p643_t_21
  have tn12_22 : c22.ty n12 = 6 := by rw [hc22]; exact tn12_21
  have ty12_22 : c22.ty y12 = 5 := by rw [hc22]; exact ty12_21
  have un12_22 : c22.fI 320 n12 = 1 := by rw [hc22]; exact un12_21
  have qn12_22 : sp_nq c22 n12 1 (some n11) ([111, 117, 116] : List Int32) none := by rw [hc22]; exact qn12_21.pR (by decide)
  have gn12_22 : m0.nx ≤ n12 := gn12_21
  have p644_t_22 : c22.fR 644 t = (some n12) := by rw [hc22, sp_pR_fR, if_neg (fun z => absurd z.1 (by decide))]; exact p644_t_21
  have tn13_22 : c22.ty n13 = 6 := by rw [hc22]; exact tn13_21
  have ty13_22 : c22.ty y13 = 5 := by rw [hc22]; exact ty13_21
  have un13_22 : c22.fI 320 n13 = 2 := by rw [hc22]; exact un13_21
  have qn13_22 : sp_nq c22 n13 2 (some n11) ([104, 111, 109, 101] : List Int32) none := by rw [hc22]; exact qn13_21.pR (by decide)
  have gn13_22 : m0.nx ≤ n13 := gn13_21
  have p645_t_22 : c22.fR 645 t = (some n13) := by rw [hc22, sp_pR_fR, if_neg (fun z => absurd z.1 (by decide))]; exact p645_t_21
  have tn14_22 : c22.ty n14 = 6 := by rw [hc22]; exact tc21
  have ty14_22 : c22.ty y14 = 5 := by rw [hc22]; exact yc21
  have un14_22 : c22.fI 320 n14 = 3 := by rw [hc22]; exact uc21
  have qn14_22 : sp_nq c22 n14 3 (some n13) ([107, 101, 121] : List Int32) (some bd) := by rw [hc22]; exact nqc21.pR (by decide)
  have gn14_22 : m0.nx ≤ n14 := gn14
  have nnc22 : m.nx ≤ c22.nx := by rw [hc22]; exact nnc21
  have p646_t_22 : c22.fR 646 t = (some n14) := by rw [hc22, sp_pR_fR, if_pos ⟨rfl, rfl⟩]
  clear hc22
  clear tt_21 T4_21 N4_21 C4_21 T5_21 N5_21 C5_21 T6_21 N6_21 C6_21 T7_21 N7_21 C7_21 p640_t_21 ta9_21 la9_21 La9_21 ga9_21 p641_t_21 ta10_21 la10_21 La10_21 ga10_21 p642_t_21 qbd_21 tbd_21 gbd_21 tn11_21 ty11_21 un11_21 qn11_21 gn11_21 p643_t_21 tn12_21 ty12_21 un12_21 qn12_21 gn12_21 p644_t_21 tn13_21 ty13_21 un13_21 qn13_21 gn13_21 p645_t_21
  have hne : a9 ≠ a10 := fun z => by
    have q1 := la9_22
    have q2 := la10_22
    rw [z, q2] at q1
    omega
  refine sp_aload_n X (pc := 175) (r := some t) dX9_init_175 rfl rfl ?_
  refine sp_getfield X (pc := 176) (c := 10) (i := 2) (t := 2) (a := t) (v := va_rf (some a10)) rfl (by first | assumption | omega) (by decide) rfl (congrArg va_rf p642_t_22) fl_Tree_20 dX9_init_176 ?_
  refine sp_aload_n X (pc := 179) (r := some bd) dX9_init_179 rfl rfl ?_
  refine sp_callV X (pc := 180) (mc := 1) (ms := 10) (b := a10) (c := 0) (r := (some a10)) (As := [va_rf (some bd)]) (rest := []) (by have h := c_List_add1 l G _ (o := a10) (ed := (G.sk 3)) (s := 0) (b := bd) hG La10_22 wc22 (by rw [Jc22.1.2]; decide) (Jc22.elob La10_22 (sp_e0 _)) ⟨1, tbd_22, by decide, ca_1⟩; rw [Jc22.1.2] at h; exact h) ok_List_add1 rfl La10_22.1 (by decide) rfl lk_Tree_68 rfl rfl (Nat.zero_le _) (Nat.le_of_ble_eq_true rfl) (Nat.le_of_ble_eq_true rfl) (by decide) (by decide) dX9_init_180 (sp_kI fun v180 m180 hp180 => ?_)
  obtain ⟨c23, hc23⟩ : ∃ c, c = m180 := ⟨_, rfl⟩
  rw [← hc23]
  rw [← hc23] at hp180
  obtain ⟨hvc23, hadc23⟩ := hp180
  clear hc23
  have Jc23 : sp_J G P (sp_E0) c23 := Jc22.add wc22 La10_22 (sp_e0 _) (Jc22.npt (by rw [la10_22]; decide)) (by rw [la10_22]; exact ⟨tbd_22, fun z => absurd z (by decide)⟩) hadc23
  have wc23 : sp_wf c23 := wc22.ad hadc23
  have xc23 : sp_fx c22 c23 (sp_wl a10 (G.sk 3)) := sp_fx.ad (sp_fx.refl c22 _) hadc23 (Or.inr ⟨⟨Or.inl rfl, rfl⟩, ⟨Or.inr rfl, rfl⟩, ⟨rfl, rfl⟩⟩) (Or.inr (Or.inl rfl))
  have fc23 : sp_fx m0 c23 sp_w0 := sp_fx.ad fc22 hadc23 (Or.inl ga10_22) (Or.inr (Or.inr (by rw [Jc22.1.2]; omega)))
  have nnc23 : m.nx ≤ c23.nx := Nat.le_trans nnc22 xc23.1
  obtain ⟨ea10, Lc23, p2c23, p3c23, kc23, -⟩ := hadc23
  have k2c23 := kc23.resolve_left (fun z => by have := z.1; rw [Jc22.1.2] at this; omega)
  have cc23 : c23.ln ea10 = 10 := by rw [k2c23.2.2.2.2, k2c23.2.1, Jc22.1.2]; unfold sp_u1; rw [if_pos rfl]; rfl
  have gea10 : m0.nx ≤ ea10 := by rw [k2c23.2.1]; exact fc22.1
  have tea10c23 : c23.ty ea10 = 23 := by rw [k2c23.2.2.2.1, k2c23.2.1]; unfold sp_u1; rw [if_pos rfl]
  have tt_23 := xc23.ty wc22 tt_22 (by decide)
  have T4_23 := xc23.ty wc22 T4_22 (by decide)
  have N4_23 := (xc23.ln wc22 T4_22 (by decide)).trans N4_22
  have C4_23 : ∀ j, j < 0 → c23.aI (G.sk 4) j = (([] : List Int32) : List Int32).getD j 0 := fun j hj => by rw [(xc23.2.2.2.2.2 (G.sk 4) (wc22 (G.sk 4) (by rw [T4_22]; decide)) (fun z => by have z : (G.sk 4) = (G.sk 3) := z; have q1 := T4_22; rw [z] at q1; exact (fun q9 => by rw [Jc22.1.1] at q9; exact absurd q9 (by decide)) q1)).1]; exact C4_22 j hj
  have T5_23 := xc23.ty wc22 T5_22 (by decide)
  have N5_23 := (xc23.ln wc22 T5_22 (by decide)).trans N5_22
  have C5_23 : ∀ j, j < 3 → c23.aI (G.sk 5) j = (([111, 117, 116] : List Int32) : List Int32).getD j 0 := fun j hj => by rw [(xc23.2.2.2.2.2 (G.sk 5) (wc22 (G.sk 5) (by rw [T5_22]; decide)) (fun z => by have z : (G.sk 5) = (G.sk 3) := z; have q1 := T5_22; rw [z] at q1; exact (fun q9 => by rw [Jc22.1.1] at q9; exact absurd q9 (by decide)) q1)).1]; exact C5_22 j hj
  have T6_23 := xc23.ty wc22 T6_22 (by decide)
  have N6_23 := (xc23.ln wc22 T6_22 (by decide)).trans N6_22
  have C6_23 : ∀ j, j < 4 → c23.aI (G.sk 6) j = (([104, 111, 109, 101] : List Int32) : List Int32).getD j 0 := fun j hj => by rw [(xc23.2.2.2.2.2 (G.sk 6) (wc22 (G.sk 6) (by rw [T6_22]; decide)) (fun z => by have z : (G.sk 6) = (G.sk 3) := z; have q1 := T6_22; rw [z] at q1; exact (fun q9 => by rw [Jc22.1.1] at q9; exact absurd q9 (by decide)) q1)).1]; exact C6_22 j hj
  have T7_23 := xc23.ty wc22 T7_22 (by decide)
  have N7_23 := (xc23.ln wc22 T7_22 (by decide)).trans N7_22
  have C7_23 : ∀ j, j < 3 → c23.aI (G.sk 7) j = (([107, 101, 121] : List Int32) : List Int32).getD j 0 := fun j hj => by rw [(xc23.2.2.2.2.2 (G.sk 7) (wc22 (G.sk 7) (by rw [T7_22]; decide)) (fun z => by have z : (G.sk 7) = (G.sk 3) := z; have q1 := T7_22; rw [z] at q1; exact (fun q9 => by rw [Jc22.1.1] at q9; exact absurd q9 (by decide)) q1)).1]; exact C7_22 j hj
  have p640_t_23 := (xc23.2.2.2.2.1 640 t (wc22 t (by rw [tt_22]; decide)) (by rintro ⟨z, -⟩; omega)).trans p640_t_22
  have ta9_23 := xc23.ty wc22 ta9_22 (by decide)
  have la9_23 := (xc23.ln wc22 ta9_22 (by decide)).trans la9_22
  have La9_23 := xc23.li wc22 La9_22 (by rintro ⟨-, z⟩; exact absurd z hne) (by rintro ⟨-, z⟩; exact absurd z hne)
  have ga9_23 := ga9_22
  have p641_t_23 := (xc23.2.2.2.2.1 641 t (wc22 t (by rw [tt_22]; decide)) (by rintro ⟨z, -⟩; omega)).trans p641_t_22
  have ta10_23 := xc23.ty wc22 ta10_22 (by decide)
  have la10_23 := (xc23.ln wc22 ta10_22 (by decide)).trans la10_22
  have ga10_23 := ga10_22
  have p642_t_23 := (xc23.2.2.2.2.1 642 t (wc22 t (by rw [tt_22]; decide)) (by rintro ⟨z, -⟩; omega)).trans p642_t_22
  have qbd_23 := qbd_22.wl wc22 xc23
  have tbd_23 := xc23.ty wc22 tbd_22 (by decide)
  have gbd_23 := gbd_22
  have tn11_23 := xc23.ty wc22 tn11_22 (by decide)
  have ty11_23 := xc23.ty wc22 ty11_22 (by decide)
  have un11_23 := (xc23.2.2.1 320 n11 (wc22 n11 (by rw [tn11_22]; decide)) (by rintro ⟨z, -⟩; omega)).trans un11_22
  have qn11_23 := qn11_22.wl wc22 xc23 (by rw [Jc22.1.1]; decide)
  have gn11_23 := gn11_22
  have p643_t_23 := (xc23.2.2.2.2.1 643 t (wc22 t (by rw [tt_22]; decide)) (by rintro ⟨z, -⟩; omega)).trans p643_t_22
  have tn12_23 := xc23.ty wc22 tn12_22 (by decide)
  have ty12_23 := xc23.ty wc22 ty12_22 (by decide)
  have un12_23 := (xc23.2.2.1 320 n12 (wc22 n12 (by rw [tn12_22]; decide)) (by rintro ⟨z, -⟩; omega)).trans un12_22
  have qn12_23 := qn12_22.wl wc22 xc23 (by rw [Jc22.1.1]; decide)
  have gn12_23 := gn12_22
  have p644_t_23 := (xc23.2.2.2.2.1 644 t (wc22 t (by rw [tt_22]; decide)) (by rintro ⟨z, -⟩; omega)).trans p644_t_22
  have tn13_23 := xc23.ty wc22 tn13_22 (by decide)
  have ty13_23 := xc23.ty wc22 ty13_22 (by decide)
  have un13_23 := (xc23.2.2.1 320 n13 (wc22 n13 (by rw [tn13_22]; decide)) (by rintro ⟨z, -⟩; omega)).trans un13_22
  have qn13_23 := qn13_22.wl wc22 xc23 (by rw [Jc22.1.1]; decide)
  have gn13_23 := gn13_22
  have p645_t_23 := (xc23.2.2.2.2.1 645 t (wc22 t (by rw [tt_22]; decide)) (by rintro ⟨z, -⟩; omega)).trans p645_t_22
  have tn14_23 := xc23.ty wc22 tn14_22 (by decide)
  have ty14_23 := xc23.ty wc22 ty14_22 (by decide)
  have un14_23 := (xc23.2.2.1 320 n14 (wc22 n14 (by rw [tn14_22]; decide)) (by rintro ⟨z, -⟩; omega)).trans un14_22
  have qn14_23 := qn14_22.wl wc22 xc23 (by rw [Jc22.1.1]; decide)
  have gn14_23 := gn14_22
  have p646_t_23 := (xc23.2.2.2.2.1 646 t (wc22 t (by rw [tt_22]; decide)) (by rintro ⟨z, -⟩; omega)).trans p646_t_22
  refine sp_pop X (pc := 183) dX9_init_183 rfl ?_
  refine sp_aload_n X (pc := 184) (r := some t) dX9_init_184 rfl rfl ?_
  refine sp_getfield X (pc := 185) (c := 10) (i := 1) (t := 2) (a := t) (v := va_rf (some a9)) rfl (by first | assumption | omega) (by decide) rfl (congrArg va_rf p641_t_23) fl_Tree_16 dX9_init_185 ?_
  refine sp_aload_n X (pc := 188) (r := some t) dX9_init_188 rfl rfl ?_
  refine sp_getfield X (pc := 189) (c := 10) (i := 3) (t := 2) (a := t) (v := va_rf (some n11)) rfl (by first | assumption | omega) (by decide) rfl (congrArg va_rf p643_t_23) fl_Tree_46 dX9_init_189 ?_
  refine sp_callV X (pc := 192) (mc := 1) (ms := 10) (b := a9) (c := 0) (r := (some a9)) (As := [va_rf (some n11)]) (rest := []) (by have h := c_List_add1 l G _ (o := a9) (ed := (G.sk 3)) (s := 0) (b := n11) hG La9_23 wc23 (by rw [Jc23.1.2]; decide) (Jc23.elob La9_23 (sp_e0 _)) ⟨5, tn11_23, by decide, ca_5⟩; rw [Jc23.1.2] at h; exact h) ok_List_add1 rfl La9_23.1 (by decide) rfl lk_Tree_68 rfl rfl (Nat.zero_le _) (Nat.le_of_ble_eq_true rfl) (Nat.le_of_ble_eq_true rfl) (by decide) (by decide) dX9_init_192 (sp_kI fun v192 m192 hp192 => ?_)
  obtain ⟨c24, hc24⟩ : ∃ c, c = m192 := ⟨_, rfl⟩
  rw [← hc24]
  rw [← hc24] at hp192
  obtain ⟨hvc24, hadc24⟩ := hp192
  clear hc24
  have Jc24 : sp_J G P (sp_E0) c24 := Jc23.add wc23 La9_23 (sp_e0 _) (Jc23.npt (by rw [la9_23]; decide)) (by rw [la9_23]; exact ⟨tn11_23, fun z => absurd z (by decide)⟩) hadc24
  have wc24 : sp_wf c24 := wc23.ad hadc24
  have xc24 : sp_fx c23 c24 (sp_wl a9 (G.sk 3)) := sp_fx.ad (sp_fx.refl c23 _) hadc24 (Or.inr ⟨⟨Or.inl rfl, rfl⟩, ⟨Or.inr rfl, rfl⟩, ⟨rfl, rfl⟩⟩) (Or.inr (Or.inl rfl))
  have fc24 : sp_fx m0 c24 sp_w0 := sp_fx.ad fc23 hadc24 (Or.inl ga9_23) (Or.inr (Or.inr (by rw [Jc23.1.2]; omega)))
  have nnc24 : m.nx ≤ c24.nx := Nat.le_trans nnc23 xc24.1
  obtain ⟨ea9, Lc24, p2c24, p3c24, kc24, -⟩ := hadc24
  have k2c24 := kc24.resolve_left (fun z => by have := z.1; rw [Jc23.1.2] at this; omega)
  have cc24 : c24.ln ea9 = 10 := by rw [k2c24.2.2.2.2, k2c24.2.1, Jc23.1.2]; unfold sp_u1; rw [if_pos rfl]; rfl
  have gea9 : m0.nx ≤ ea9 := by rw [k2c24.2.1]; exact fc23.1
  have tea9c24 : c24.ty ea9 = 23 := by rw [k2c24.2.2.2.1, k2c24.2.1]; unfold sp_u1; rw [if_pos rfl]
  have neea9ea10 : ea9 ≠ ea10 := by have := wc23 ea10 (by rw [tea10c23]; decide); have := k2c24.2.1; omega
  have tt_24 := xc24.ty wc23 tt_23 (by decide)
  have T4_24 := xc24.ty wc23 T4_23 (by decide)
  have N4_24 := (xc24.ln wc23 T4_23 (by decide)).trans N4_23
  have C4_24 : ∀ j, j < 0 → c24.aI (G.sk 4) j = (([] : List Int32) : List Int32).getD j 0 := fun j hj => by rw [(xc24.2.2.2.2.2 (G.sk 4) (wc23 (G.sk 4) (by rw [T4_23]; decide)) (fun z => by have z : (G.sk 4) = (G.sk 3) := z; have q1 := T4_23; rw [z] at q1; exact (fun q9 => by rw [Jc23.1.1] at q9; exact absurd q9 (by decide)) q1)).1]; exact C4_23 j hj
  have T5_24 := xc24.ty wc23 T5_23 (by decide)
  have N5_24 := (xc24.ln wc23 T5_23 (by decide)).trans N5_23
  have C5_24 : ∀ j, j < 3 → c24.aI (G.sk 5) j = (([111, 117, 116] : List Int32) : List Int32).getD j 0 := fun j hj => by rw [(xc24.2.2.2.2.2 (G.sk 5) (wc23 (G.sk 5) (by rw [T5_23]; decide)) (fun z => by have z : (G.sk 5) = (G.sk 3) := z; have q1 := T5_23; rw [z] at q1; exact (fun q9 => by rw [Jc23.1.1] at q9; exact absurd q9 (by decide)) q1)).1]; exact C5_23 j hj
  have T6_24 := xc24.ty wc23 T6_23 (by decide)
  have N6_24 := (xc24.ln wc23 T6_23 (by decide)).trans N6_23
  have C6_24 : ∀ j, j < 4 → c24.aI (G.sk 6) j = (([104, 111, 109, 101] : List Int32) : List Int32).getD j 0 := fun j hj => by rw [(xc24.2.2.2.2.2 (G.sk 6) (wc23 (G.sk 6) (by rw [T6_23]; decide)) (fun z => by have z : (G.sk 6) = (G.sk 3) := z; have q1 := T6_23; rw [z] at q1; exact (fun q9 => by rw [Jc23.1.1] at q9; exact absurd q9 (by decide)) q1)).1]; exact C6_23 j hj
  have T7_24 := xc24.ty wc23 T7_23 (by decide)
  have N7_24 := (xc24.ln wc23 T7_23 (by decide)).trans N7_23
  have C7_24 : ∀ j, j < 3 → c24.aI (G.sk 7) j = (([107, 101, 121] : List Int32) : List Int32).getD j 0 := fun j hj => by rw [(xc24.2.2.2.2.2 (G.sk 7) (wc23 (G.sk 7) (by rw [T7_23]; decide)) (fun z => by have z : (G.sk 7) = (G.sk 3) := z; have q1 := T7_23; rw [z] at q1; exact (fun q9 => by rw [Jc23.1.1] at q9; exact absurd q9 (by decide)) q1)).1]; exact C7_23 j hj
  have p640_t_24 := (xc24.2.2.2.2.1 640 t (wc23 t (by rw [tt_23]; decide)) (by rintro ⟨z, -⟩; omega)).trans p640_t_23
  have ta9_24 := xc24.ty wc23 ta9_23 (by decide)
  have la9_24 := (xc24.ln wc23 ta9_23 (by decide)).trans la9_23
  have ga9_24 := ga9_23
  have p641_t_24 := (xc24.2.2.2.2.1 641 t (wc23 t (by rw [tt_23]; decide)) (by rintro ⟨z, -⟩; omega)).trans p641_t_23
  have ta10_24 := xc24.ty wc23 ta10_23 (by decide)
  have la10_24 := (xc24.ln wc23 ta10_23 (by decide)).trans la10_23
  have ga10_24 := ga10_23
  have p642_t_24 := (xc24.2.2.2.2.1 642 t (wc23 t (by rw [tt_23]; decide)) (by rintro ⟨z, -⟩; omega)).trans p642_t_23
  have qbd_24 := qbd_23.wl wc23 xc24
  have tbd_24 := xc24.ty wc23 tbd_23 (by decide)
  have gbd_24 := gbd_23
  have tn11_24 := xc24.ty wc23 tn11_23 (by decide)
  have ty11_24 := xc24.ty wc23 ty11_23 (by decide)
  have un11_24 := (xc24.2.2.1 320 n11 (wc23 n11 (by rw [tn11_23]; decide)) (by rintro ⟨z, -⟩; omega)).trans un11_23
  have qn11_24 := qn11_23.wl wc23 xc24 (by rw [Jc23.1.1]; decide)
  have gn11_24 := gn11_23
  have p643_t_24 := (xc24.2.2.2.2.1 643 t (wc23 t (by rw [tt_23]; decide)) (by rintro ⟨z, -⟩; omega)).trans p643_t_23
  have tn12_24 := xc24.ty wc23 tn12_23 (by decide)
  have ty12_24 := xc24.ty wc23 ty12_23 (by decide)
  have un12_24 := (xc24.2.2.1 320 n12 (wc23 n12 (by rw [tn12_23]; decide)) (by rintro ⟨z, -⟩; omega)).trans un12_23
  have qn12_24 := qn12_23.wl wc23 xc24 (by rw [Jc23.1.1]; decide)
  have gn12_24 := gn12_23
  have p644_t_24 := (xc24.2.2.2.2.1 644 t (wc23 t (by rw [tt_23]; decide)) (by rintro ⟨z, -⟩; omega)).trans p644_t_23
  have tn13_24 := xc24.ty wc23 tn13_23 (by decide)
  have ty13_24 := xc24.ty wc23 ty13_23 (by decide)
  have un13_24 := (xc24.2.2.1 320 n13 (wc23 n13 (by rw [tn13_23]; decide)) (by rintro ⟨z, -⟩; omega)).trans un13_23
  have qn13_24 := qn13_23.wl wc23 xc24 (by rw [Jc23.1.1]; decide)
  have gn13_24 := gn13_23
  have p645_t_24 := (xc24.2.2.2.2.1 645 t (wc23 t (by rw [tt_23]; decide)) (by rintro ⟨z, -⟩; omega)).trans p645_t_23
  have tn14_24 := xc24.ty wc23 tn14_23 (by decide)
  have ty14_24 := xc24.ty wc23 ty14_23 (by decide)
  have un14_24 := (xc24.2.2.1 320 n14 (wc23 n14 (by rw [tn14_23]; decide)) (by rintro ⟨z, -⟩; omega)).trans un14_23
  have qn14_24 := qn14_23.wl wc23 xc24 (by rw [Jc23.1.1]; decide)
  have gn14_24 := gn14_23
  have p646_t_24 := (xc24.2.2.2.2.1 646 t (wc23 t (by rw [tt_23]; decide)) (by rintro ⟨z, -⟩; omega)).trans p646_t_23
  have Ea10_0_24 := (congrFun (xc24.2.2.2.2.2 ea10 (wc23 ea10 (by rw [tea10c23]; decide)) (fun z => by have z : ea10 = (G.sk 3) := z; exact (fun z => by have q1 := tea10c23; rw [z, Jc23.1.1] at q1; exact absurd q1 (by decide)) z)).2.2 0).trans p3c23
  have La10_24 := xc24.li wc23 Lc23 (by rintro ⟨-, z⟩; exact absurd z hne.symm) (by rintro ⟨-, z⟩; exact absurd z hne.symm)
  have cea10_24 := (xc24.ln wc23 tea10c23 (by decide)).trans cc23
  have tea10_24 := xc24.ty wc23 tea10c23 (by decide)
  have gea10_24 := gea10
  refine sp_pop X (pc := 195) dX9_init_195 rfl ?_
  refine sp_aload_n X (pc := 196) (r := some t) dX9_init_196 rfl rfl ?_
  refine sp_getfield X (pc := 197) (c := 10) (i := 1) (t := 2) (a := t) (v := va_rf (some a9)) rfl (by first | assumption | omega) (by decide) rfl (congrArg va_rf p641_t_24) fl_Tree_16 dX9_init_197 ?_
  refine sp_aload_n X (pc := 200) (r := some t) dX9_init_200 rfl rfl ?_
  refine sp_getfield X (pc := 201) (c := 10) (i := 4) (t := 2) (a := t) (v := va_rf (some n12)) rfl (by first | assumption | omega) (by decide) rfl (congrArg va_rf p644_t_24) fl_Tree_53 dX9_init_201 ?_
  refine sp_callV X (pc := 204) (mc := 0) (ms := 0) (b := a9) (c := 0) (r := (some a9)) (As := [va_rf (some n12)]) (rest := []) (by have h := c_List_add1 l G _ (o := a9) (ed := ea9) (s := 1) (b := n12) hG Lc24 wc24 (by rw [cc24]; decide) (Jc24.elob Lc24 (sp_e0 _)) ⟨5, tn12_24, by decide, ca_5⟩; rw [cc24] at h; exact h) ok_List_add1 rfl Lc24.1 (by decide) rfl lk_Tree_68 rfl rfl (Nat.zero_le _) (Nat.le_of_ble_eq_true rfl) (Nat.le_of_ble_eq_true rfl) (Nat.zero_le _) (Nat.zero_le _) dX9_init_204 (sp_kI fun v204 m204 hp204 => ?_)
  obtain ⟨c25, hc25⟩ : ∃ c, c = m204 := ⟨_, rfl⟩
  rw [← hc25]
  rw [← hc25] at hp204
  obtain ⟨hvc25, hadc25⟩ := hp204
  clear hc25
  have Jc25 : sp_J G P (sp_E0) c25 := Jc24.add wc24 Lc24 (sp_e0 _) (Jc24.npt (by rw [la9_24]; decide)) (by rw [la9_24]; exact ⟨tn12_24, fun z => absurd z (by decide)⟩) hadc25
  have wc25 : sp_wf c25 := wc24.ad hadc25
  have xc25 : sp_fx c24 c25 (sp_wl a9 ea9) := sp_fx.ad (sp_fx.refl c24 _) hadc25 (Or.inr ⟨⟨Or.inl rfl, rfl⟩, ⟨Or.inr rfl, rfl⟩, ⟨rfl, rfl⟩⟩) (Or.inr (Or.inl rfl))
  have fc25 : sp_fx m0 c25 sp_w0 := sp_fx.ad fc24 hadc25 (Or.inl ga9_24) (Or.inl gea9)
  have nnc25 : m.nx ≤ c25.nx := Nat.le_trans nnc24 xc25.1
  obtain ⟨eqc25, Lc25, p2c25, p3c25, kc25, -⟩ := hadc25
  have k2c25 := kc25.resolve_right (fun z => z.1 (by rw [cc24]; omega))
  have eec25 : eqc25 = ea9 := k2c25.2.1
  rw [eec25] at Lc25 p2c25 p3c25
  have cc25 : c25.ln ea9 = 10 := by rw [k2c25.2.2.2.2]; exact cc24
  have tea9c25 : c25.ty ea9 = 23 := by rw [k2c25.2.2.2.1]; exact tea9c24
  have gea9c25 := gea9
  have tt_25 := xc25.ty wc24 tt_24 (by decide)
  have T4_25 := xc25.ty wc24 T4_24 (by decide)
  have N4_25 := (xc25.ln wc24 T4_24 (by decide)).trans N4_24
  have C4_25 : ∀ j, j < 0 → c25.aI (G.sk 4) j = (([] : List Int32) : List Int32).getD j 0 := fun j hj => by rw [(xc25.2.2.2.2.2 (G.sk 4) (wc24 (G.sk 4) (by rw [T4_24]; decide)) (fun z => by have z : (G.sk 4) = ea9 := z; have q1 := T4_24; rw [z] at q1; exact (fun q9 => by rw [tea9c24] at q9; exact absurd q9 (by decide)) q1)).1]; exact C4_24 j hj
  have T5_25 := xc25.ty wc24 T5_24 (by decide)
  have N5_25 := (xc25.ln wc24 T5_24 (by decide)).trans N5_24
  have C5_25 : ∀ j, j < 3 → c25.aI (G.sk 5) j = (([111, 117, 116] : List Int32) : List Int32).getD j 0 := fun j hj => by rw [(xc25.2.2.2.2.2 (G.sk 5) (wc24 (G.sk 5) (by rw [T5_24]; decide)) (fun z => by have z : (G.sk 5) = ea9 := z; have q1 := T5_24; rw [z] at q1; exact (fun q9 => by rw [tea9c24] at q9; exact absurd q9 (by decide)) q1)).1]; exact C5_24 j hj
  have T6_25 := xc25.ty wc24 T6_24 (by decide)
  have N6_25 := (xc25.ln wc24 T6_24 (by decide)).trans N6_24
  have C6_25 : ∀ j, j < 4 → c25.aI (G.sk 6) j = (([104, 111, 109, 101] : List Int32) : List Int32).getD j 0 := fun j hj => by rw [(xc25.2.2.2.2.2 (G.sk 6) (wc24 (G.sk 6) (by rw [T6_24]; decide)) (fun z => by have z : (G.sk 6) = ea9 := z; have q1 := T6_24; rw [z] at q1; exact (fun q9 => by rw [tea9c24] at q9; exact absurd q9 (by decide)) q1)).1]; exact C6_24 j hj
  have T7_25 := xc25.ty wc24 T7_24 (by decide)
  have N7_25 := (xc25.ln wc24 T7_24 (by decide)).trans N7_24
  have C7_25 : ∀ j, j < 3 → c25.aI (G.sk 7) j = (([107, 101, 121] : List Int32) : List Int32).getD j 0 := fun j hj => by rw [(xc25.2.2.2.2.2 (G.sk 7) (wc24 (G.sk 7) (by rw [T7_24]; decide)) (fun z => by have z : (G.sk 7) = ea9 := z; have q1 := T7_24; rw [z] at q1; exact (fun q9 => by rw [tea9c24] at q9; exact absurd q9 (by decide)) q1)).1]; exact C7_24 j hj
  have p640_t_25 := (xc25.2.2.2.2.1 640 t (wc24 t (by rw [tt_24]; decide)) (by rintro ⟨z, -⟩; omega)).trans p640_t_24
  have ta9_25 := xc25.ty wc24 ta9_24 (by decide)
  have la9_25 := (xc25.ln wc24 ta9_24 (by decide)).trans la9_24
  have ga9_25 := ga9_24
  have p641_t_25 := (xc25.2.2.2.2.1 641 t (wc24 t (by rw [tt_24]; decide)) (by rintro ⟨z, -⟩; omega)).trans p641_t_24
  have ta10_25 := xc25.ty wc24 ta10_24 (by decide)
  have la10_25 := (xc25.ln wc24 ta10_24 (by decide)).trans la10_24
  have ga10_25 := ga10_24
  have p642_t_25 := (xc25.2.2.2.2.1 642 t (wc24 t (by rw [tt_24]; decide)) (by rintro ⟨z, -⟩; omega)).trans p642_t_24
  have qbd_25 := qbd_24.wl wc24 xc25
  have tbd_25 := xc25.ty wc24 tbd_24 (by decide)
  have gbd_25 := gbd_24
  have tn11_25 := xc25.ty wc24 tn11_24 (by decide)
  have ty11_25 := xc25.ty wc24 ty11_24 (by decide)
  have un11_25 := (xc25.2.2.1 320 n11 (wc24 n11 (by rw [tn11_24]; decide)) (by rintro ⟨z, -⟩; omega)).trans un11_24
  have qn11_25 := qn11_24.wl wc24 xc25 (by rw [tea9c24]; decide)
  have gn11_25 := gn11_24
  have p643_t_25 := (xc25.2.2.2.2.1 643 t (wc24 t (by rw [tt_24]; decide)) (by rintro ⟨z, -⟩; omega)).trans p643_t_24
  have tn12_25 := xc25.ty wc24 tn12_24 (by decide)
  have ty12_25 := xc25.ty wc24 ty12_24 (by decide)
  have un12_25 := (xc25.2.2.1 320 n12 (wc24 n12 (by rw [tn12_24]; decide)) (by rintro ⟨z, -⟩; omega)).trans un12_24
  have qn12_25 := qn12_24.wl wc24 xc25 (by rw [tea9c24]; decide)
  have gn12_25 := gn12_24
  have p644_t_25 := (xc25.2.2.2.2.1 644 t (wc24 t (by rw [tt_24]; decide)) (by rintro ⟨z, -⟩; omega)).trans p644_t_24
  have tn13_25 := xc25.ty wc24 tn13_24 (by decide)
  have ty13_25 := xc25.ty wc24 ty13_24 (by decide)
  have un13_25 := (xc25.2.2.1 320 n13 (wc24 n13 (by rw [tn13_24]; decide)) (by rintro ⟨z, -⟩; omega)).trans un13_24
  have qn13_25 := qn13_24.wl wc24 xc25 (by rw [tea9c24]; decide)
  have gn13_25 := gn13_24
  have p645_t_25 := (xc25.2.2.2.2.1 645 t (wc24 t (by rw [tt_24]; decide)) (by rintro ⟨z, -⟩; omega)).trans p645_t_24
  have tn14_25 := xc25.ty wc24 tn14_24 (by decide)
  have ty14_25 := xc25.ty wc24 ty14_24 (by decide)
  have un14_25 := (xc25.2.2.1 320 n14 (wc24 n14 (by rw [tn14_24]; decide)) (by rintro ⟨z, -⟩; omega)).trans un14_24
  have qn14_25 := qn14_24.wl wc24 xc25 (by rw [tea9c24]; decide)
  have gn14_25 := gn14_24
  have p646_t_25 := (xc25.2.2.2.2.1 646 t (wc24 t (by rw [tt_24]; decide)) (by rintro ⟨z, -⟩; omega)).trans p646_t_24
  have Ea10_0_25 := (congrFun (xc25.2.2.2.2.2 ea10 (wc24 ea10 (by rw [tea10_24]; decide)) (fun z => by have z : ea10 = ea9 := z; exact (neea9ea10.symm) z)).2.2 0).trans Ea10_0_24
  have La10_25 := xc25.li wc24 La10_24 (by rintro ⟨-, z⟩; exact absurd z hne.symm) (by rintro ⟨-, z⟩; exact absurd z hne.symm)
  have cea10_25 := (xc25.ln wc24 tea10_24 (by decide)).trans cea10_24
  have tea10_25 := xc25.ty wc24 tea10_24 (by decide)
  have gea10_25 := gea10_24
  have neea9ea10_25 := neea9ea10
  have Ea9_0_25 : c25.aR ea9 0 = some n11 := (p2c25 0 (by decide)).trans p3c24
  refine sp_pop X (pc := 207) dX9_init_207 rfl ?_
  refine sp_aload_n X (pc := 208) (r := some t) dX9_init_208 rfl rfl ?_
  refine sp_getfield X (pc := 209) (c := 10) (i := 1) (t := 2) (a := t) (v := va_rf (some a9)) rfl (by first | assumption | omega) (by decide) rfl (congrArg va_rf p641_t_25) fl_Tree_16 dX9_init_209 ?_
  refine sp_aload_n X (pc := 212) (r := some t) dX9_init_212 rfl rfl ?_
  refine sp_getfield X (pc := 213) (c := 10) (i := 5) (t := 2) (a := t) (v := va_rf (some n13)) rfl (by first | assumption | omega) (by decide) rfl (congrArg va_rf p645_t_25) fl_Tree_59 dX9_init_213 ?_
  refine sp_callV X (pc := 216) (mc := 0) (ms := 0) (b := a9) (c := 0) (r := (some a9)) (As := [va_rf (some n13)]) (rest := []) (by have h := c_List_add1 l G _ (o := a9) (ed := ea9) (s := 2) (b := n13) hG Lc25 wc25 (by rw [cc25]; decide) (Jc25.elob Lc25 (sp_e0 _)) ⟨5, tn13_25, by decide, ca_5⟩; rw [cc25] at h; exact h) ok_List_add1 rfl Lc25.1 (by decide) rfl lk_Tree_68 rfl rfl (Nat.zero_le _) (Nat.le_of_ble_eq_true rfl) (Nat.le_of_ble_eq_true rfl) (Nat.zero_le _) (Nat.zero_le _) dX9_init_216 (sp_kI fun v216 m216 hp216 => ?_)
  obtain ⟨c26, hc26⟩ : ∃ c, c = m216 := ⟨_, rfl⟩
  rw [← hc26]
  rw [← hc26] at hp216
  obtain ⟨hvc26, hadc26⟩ := hp216
  clear hc26
  have Jc26 : sp_J G P (sp_E0) c26 := Jc25.add wc25 Lc25 (sp_e0 _) (Jc25.npt (by rw [la9_25]; decide)) (by rw [la9_25]; exact ⟨tn13_25, fun z => absurd z (by decide)⟩) hadc26
  have wc26 : sp_wf c26 := wc25.ad hadc26
  have xc26 : sp_fx c25 c26 (sp_wl a9 ea9) := sp_fx.ad (sp_fx.refl c25 _) hadc26 (Or.inr ⟨⟨Or.inl rfl, rfl⟩, ⟨Or.inr rfl, rfl⟩, ⟨rfl, rfl⟩⟩) (Or.inr (Or.inl rfl))
  have fc26 : sp_fx m0 c26 sp_w0 := sp_fx.ad fc25 hadc26 (Or.inl ga9_25) (Or.inl gea9c25)
  have nnc26 : m.nx ≤ c26.nx := Nat.le_trans nnc25 xc26.1
  obtain ⟨eqc26, Lc26, p2c26, p3c26, kc26, -⟩ := hadc26
  have k2c26 := kc26.resolve_right (fun z => z.1 (by rw [cc25]; omega))
  have eec26 : eqc26 = ea9 := k2c26.2.1
  rw [eec26] at Lc26 p2c26 p3c26
  have cc26 : c26.ln ea9 = 10 := by rw [k2c26.2.2.2.2]; exact cc25
  have tea9c26 : c26.ty ea9 = 23 := by rw [k2c26.2.2.2.1]; exact tea9c25
  have gea9c26 := gea9c25
  have tt_26 := xc26.ty wc25 tt_25 (by decide)
  have T4_26 := xc26.ty wc25 T4_25 (by decide)
  have N4_26 := (xc26.ln wc25 T4_25 (by decide)).trans N4_25
  have C4_26 : ∀ j, j < 0 → c26.aI (G.sk 4) j = (([] : List Int32) : List Int32).getD j 0 := fun j hj => by rw [(xc26.2.2.2.2.2 (G.sk 4) (wc25 (G.sk 4) (by rw [T4_25]; decide)) (fun z => by have z : (G.sk 4) = ea9 := z; have q1 := T4_25; rw [z] at q1; exact (fun q9 => by rw [tea9c25] at q9; exact absurd q9 (by decide)) q1)).1]; exact C4_25 j hj
  have T5_26 := xc26.ty wc25 T5_25 (by decide)
  have N5_26 := (xc26.ln wc25 T5_25 (by decide)).trans N5_25
  have C5_26 : ∀ j, j < 3 → c26.aI (G.sk 5) j = (([111, 117, 116] : List Int32) : List Int32).getD j 0 := fun j hj => by rw [(xc26.2.2.2.2.2 (G.sk 5) (wc25 (G.sk 5) (by rw [T5_25]; decide)) (fun z => by have z : (G.sk 5) = ea9 := z; have q1 := T5_25; rw [z] at q1; exact (fun q9 => by rw [tea9c25] at q9; exact absurd q9 (by decide)) q1)).1]; exact C5_25 j hj
  have T6_26 := xc26.ty wc25 T6_25 (by decide)
  have N6_26 := (xc26.ln wc25 T6_25 (by decide)).trans N6_25
  have C6_26 : ∀ j, j < 4 → c26.aI (G.sk 6) j = (([104, 111, 109, 101] : List Int32) : List Int32).getD j 0 := fun j hj => by rw [(xc26.2.2.2.2.2 (G.sk 6) (wc25 (G.sk 6) (by rw [T6_25]; decide)) (fun z => by have z : (G.sk 6) = ea9 := z; have q1 := T6_25; rw [z] at q1; exact (fun q9 => by rw [tea9c25] at q9; exact absurd q9 (by decide)) q1)).1]; exact C6_25 j hj
  have T7_26 := xc26.ty wc25 T7_25 (by decide)
  have N7_26 := (xc26.ln wc25 T7_25 (by decide)).trans N7_25
  have C7_26 : ∀ j, j < 3 → c26.aI (G.sk 7) j = (([107, 101, 121] : List Int32) : List Int32).getD j 0 := fun j hj => by rw [(xc26.2.2.2.2.2 (G.sk 7) (wc25 (G.sk 7) (by rw [T7_25]; decide)) (fun z => by have z : (G.sk 7) = ea9 := z; have q1 := T7_25; rw [z] at q1; exact (fun q9 => by rw [tea9c25] at q9; exact absurd q9 (by decide)) q1)).1]; exact C7_25 j hj
  have p640_t_26 := (xc26.2.2.2.2.1 640 t (wc25 t (by rw [tt_25]; decide)) (by rintro ⟨z, -⟩; omega)).trans p640_t_25
  have ta9_26 := xc26.ty wc25 ta9_25 (by decide)
  have la9_26 := (xc26.ln wc25 ta9_25 (by decide)).trans la9_25
  have ga9_26 := ga9_25
  have p641_t_26 := (xc26.2.2.2.2.1 641 t (wc25 t (by rw [tt_25]; decide)) (by rintro ⟨z, -⟩; omega)).trans p641_t_25
  have ta10_26 := xc26.ty wc25 ta10_25 (by decide)
  have la10_26 := (xc26.ln wc25 ta10_25 (by decide)).trans la10_25
  have ga10_26 := ga10_25
  have p642_t_26 := (xc26.2.2.2.2.1 642 t (wc25 t (by rw [tt_25]; decide)) (by rintro ⟨z, -⟩; omega)).trans p642_t_25
  have qbd_26 := qbd_25.wl wc25 xc26
  have tbd_26 := xc26.ty wc25 tbd_25 (by decide)
  have gbd_26 := gbd_25
  have tn11_26 := xc26.ty wc25 tn11_25 (by decide)
  have ty11_26 := xc26.ty wc25 ty11_25 (by decide)
  have un11_26 := (xc26.2.2.1 320 n11 (wc25 n11 (by rw [tn11_25]; decide)) (by rintro ⟨z, -⟩; omega)).trans un11_25
  have qn11_26 := qn11_25.wl wc25 xc26 (by rw [tea9c25]; decide)
  have gn11_26 := gn11_25
  have p643_t_26 := (xc26.2.2.2.2.1 643 t (wc25 t (by rw [tt_25]; decide)) (by rintro ⟨z, -⟩; omega)).trans p643_t_25
  have tn12_26 := xc26.ty wc25 tn12_25 (by decide)
  have ty12_26 := xc26.ty wc25 ty12_25 (by decide)
  have un12_26 := (xc26.2.2.1 320 n12 (wc25 n12 (by rw [tn12_25]; decide)) (by rintro ⟨z, -⟩; omega)).trans un12_25
  have qn12_26 := qn12_25.wl wc25 xc26 (by rw [tea9c25]; decide)
  have gn12_26 := gn12_25
  have p644_t_26 := (xc26.2.2.2.2.1 644 t (wc25 t (by rw [tt_25]; decide)) (by rintro ⟨z, -⟩; omega)).trans p644_t_25
  have tn13_26 := xc26.ty wc25 tn13_25 (by decide)
  have ty13_26 := xc26.ty wc25 ty13_25 (by decide)
  have un13_26 := (xc26.2.2.1 320 n13 (wc25 n13 (by rw [tn13_25]; decide)) (by rintro ⟨z, -⟩; omega)).trans un13_25
  have qn13_26 := qn13_25.wl wc25 xc26 (by rw [tea9c25]; decide)
  have gn13_26 := gn13_25
  have p645_t_26 := (xc26.2.2.2.2.1 645 t (wc25 t (by rw [tt_25]; decide)) (by rintro ⟨z, -⟩; omega)).trans p645_t_25
  have tn14_26 := xc26.ty wc25 tn14_25 (by decide)
  have ty14_26 := xc26.ty wc25 ty14_25 (by decide)
  have un14_26 := (xc26.2.2.1 320 n14 (wc25 n14 (by rw [tn14_25]; decide)) (by rintro ⟨z, -⟩; omega)).trans un14_25
  have qn14_26 := qn14_25.wl wc25 xc26 (by rw [tea9c25]; decide)
  have gn14_26 := gn14_25
  have p646_t_26 := (xc26.2.2.2.2.1 646 t (wc25 t (by rw [tt_25]; decide)) (by rintro ⟨z, -⟩; omega)).trans p646_t_25
  have Ea10_0_26 := (congrFun (xc26.2.2.2.2.2 ea10 (wc25 ea10 (by rw [tea10_25]; decide)) (fun z => by have z : ea10 = ea9 := z; exact (neea9ea10_25.symm) z)).2.2 0).trans Ea10_0_25
  have La10_26 := xc26.li wc25 La10_25 (by rintro ⟨-, z⟩; exact absurd z hne.symm) (by rintro ⟨-, z⟩; exact absurd z hne.symm)
  have cea10_26 := (xc26.ln wc25 tea10_25 (by decide)).trans cea10_25
  have tea10_26 := xc26.ty wc25 tea10_25 (by decide)
  have gea10_26 := gea10_25
  have neea9ea10_26 := neea9ea10_25
  have Ea9_0_26 : c26.aR ea9 0 = some n11 := (p2c26 0 (by decide)).trans Ea9_0_25
  have Ea9_1_26 : c26.aR ea9 1 = some n12 := (p2c26 1 (by decide)).trans p3c25
  refine sp_pop X (pc := 219) dX9_init_219 rfl ?_
  refine sp_aload_n X (pc := 220) (r := some t) dX9_init_220 rfl rfl ?_
  refine sp_getfield X (pc := 221) (c := 10) (i := 1) (t := 2) (a := t) (v := va_rf (some a9)) rfl (by first | assumption | omega) (by decide) rfl (congrArg va_rf p641_t_26) fl_Tree_16 dX9_init_221 ?_
  refine sp_aload_n X (pc := 224) (r := some t) dX9_init_224 rfl rfl ?_
  refine sp_getfield X (pc := 225) (c := 10) (i := 6) (t := 2) (a := t) (v := va_rf (some n14)) rfl (by first | assumption | omega) (by decide) rfl (congrArg va_rf p646_t_26) fl_Tree_65 dX9_init_225 ?_
  refine sp_callV X (pc := 228) (mc := 0) (ms := 0) (b := a9) (c := 0) (r := (some a9)) (As := [va_rf (some n14)]) (rest := []) (by have h := c_List_add1 l G _ (o := a9) (ed := ea9) (s := 3) (b := n14) hG Lc26 wc26 (by rw [cc26]; decide) (Jc26.elob Lc26 (sp_e0 _)) ⟨5, tn14_26, by decide, ca_5⟩; rw [cc26] at h; exact h) ok_List_add1 rfl Lc26.1 (by decide) rfl lk_Tree_68 rfl rfl (Nat.zero_le _) (Nat.le_of_ble_eq_true rfl) (Nat.le_of_ble_eq_true rfl) (Nat.zero_le _) (Nat.zero_le _) dX9_init_228 (sp_kI fun v228 m228 hp228 => ?_)
  obtain ⟨c27, hc27⟩ : ∃ c, c = m228 := ⟨_, rfl⟩
  rw [← hc27]
  rw [← hc27] at hp228
  obtain ⟨hvc27, hadc27⟩ := hp228
  clear hc27
  have Jc27 : sp_J G P (sp_E0) c27 := Jc26.add wc26 Lc26 (sp_e0 _) (Jc26.npt (by rw [la9_26]; decide)) (by rw [la9_26]; exact ⟨tn14_26, fun z => absurd z (by decide)⟩) hadc27
  have wc27 : sp_wf c27 := wc26.ad hadc27
  have xc27 : sp_fx c26 c27 (sp_wl a9 ea9) := sp_fx.ad (sp_fx.refl c26 _) hadc27 (Or.inr ⟨⟨Or.inl rfl, rfl⟩, ⟨Or.inr rfl, rfl⟩, ⟨rfl, rfl⟩⟩) (Or.inr (Or.inl rfl))
  have fc27 : sp_fx m0 c27 sp_w0 := sp_fx.ad fc26 hadc27 (Or.inl ga9_26) (Or.inl gea9c26)
  have nnc27 : m.nx ≤ c27.nx := Nat.le_trans nnc26 xc27.1
  obtain ⟨eqc27, Lc27, p2c27, p3c27, kc27, -⟩ := hadc27
  have k2c27 := kc27.resolve_right (fun z => z.1 (by rw [cc26]; omega))
  have eec27 : eqc27 = ea9 := k2c27.2.1
  rw [eec27] at Lc27 p2c27 p3c27
  have cc27 : c27.ln ea9 = 10 := by rw [k2c27.2.2.2.2]; exact cc26
  have tea9c27 : c27.ty ea9 = 23 := by rw [k2c27.2.2.2.1]; exact tea9c26
  have gea9c27 := gea9c26
  have tt_27 := xc27.ty wc26 tt_26 (by decide)
  have T4_27 := xc27.ty wc26 T4_26 (by decide)
  have N4_27 := (xc27.ln wc26 T4_26 (by decide)).trans N4_26
  have C4_27 : ∀ j, j < 0 → c27.aI (G.sk 4) j = (([] : List Int32) : List Int32).getD j 0 := fun j hj => by rw [(xc27.2.2.2.2.2 (G.sk 4) (wc26 (G.sk 4) (by rw [T4_26]; decide)) (fun z => by have z : (G.sk 4) = ea9 := z; have q1 := T4_26; rw [z] at q1; exact (fun q9 => by rw [tea9c26] at q9; exact absurd q9 (by decide)) q1)).1]; exact C4_26 j hj
  have T5_27 := xc27.ty wc26 T5_26 (by decide)
  have N5_27 := (xc27.ln wc26 T5_26 (by decide)).trans N5_26
  have C5_27 : ∀ j, j < 3 → c27.aI (G.sk 5) j = (([111, 117, 116] : List Int32) : List Int32).getD j 0 := fun j hj => by rw [(xc27.2.2.2.2.2 (G.sk 5) (wc26 (G.sk 5) (by rw [T5_26]; decide)) (fun z => by have z : (G.sk 5) = ea9 := z; have q1 := T5_26; rw [z] at q1; exact (fun q9 => by rw [tea9c26] at q9; exact absurd q9 (by decide)) q1)).1]; exact C5_26 j hj
  have T6_27 := xc27.ty wc26 T6_26 (by decide)
  have N6_27 := (xc27.ln wc26 T6_26 (by decide)).trans N6_26
  have C6_27 : ∀ j, j < 4 → c27.aI (G.sk 6) j = (([104, 111, 109, 101] : List Int32) : List Int32).getD j 0 := fun j hj => by rw [(xc27.2.2.2.2.2 (G.sk 6) (wc26 (G.sk 6) (by rw [T6_26]; decide)) (fun z => by have z : (G.sk 6) = ea9 := z; have q1 := T6_26; rw [z] at q1; exact (fun q9 => by rw [tea9c26] at q9; exact absurd q9 (by decide)) q1)).1]; exact C6_26 j hj
  have T7_27 := xc27.ty wc26 T7_26 (by decide)
  have N7_27 := (xc27.ln wc26 T7_26 (by decide)).trans N7_26
  have C7_27 : ∀ j, j < 3 → c27.aI (G.sk 7) j = (([107, 101, 121] : List Int32) : List Int32).getD j 0 := fun j hj => by rw [(xc27.2.2.2.2.2 (G.sk 7) (wc26 (G.sk 7) (by rw [T7_26]; decide)) (fun z => by have z : (G.sk 7) = ea9 := z; have q1 := T7_26; rw [z] at q1; exact (fun q9 => by rw [tea9c26] at q9; exact absurd q9 (by decide)) q1)).1]; exact C7_26 j hj
  have p640_t_27 := (xc27.2.2.2.2.1 640 t (wc26 t (by rw [tt_26]; decide)) (by rintro ⟨z, -⟩; omega)).trans p640_t_26
  have ta9_27 := xc27.ty wc26 ta9_26 (by decide)
  have la9_27 := (xc27.ln wc26 ta9_26 (by decide)).trans la9_26
  have ga9_27 := ga9_26
  have p641_t_27 := (xc27.2.2.2.2.1 641 t (wc26 t (by rw [tt_26]; decide)) (by rintro ⟨z, -⟩; omega)).trans p641_t_26
  have ta10_27 := xc27.ty wc26 ta10_26 (by decide)
  have la10_27 := (xc27.ln wc26 ta10_26 (by decide)).trans la10_26
  have ga10_27 := ga10_26
  have p642_t_27 := (xc27.2.2.2.2.1 642 t (wc26 t (by rw [tt_26]; decide)) (by rintro ⟨z, -⟩; omega)).trans p642_t_26
  have qbd_27 := qbd_26.wl wc26 xc27
  have tbd_27 := xc27.ty wc26 tbd_26 (by decide)
  have gbd_27 := gbd_26
  have tn11_27 := xc27.ty wc26 tn11_26 (by decide)
  have ty11_27 := xc27.ty wc26 ty11_26 (by decide)
  have un11_27 := (xc27.2.2.1 320 n11 (wc26 n11 (by rw [tn11_26]; decide)) (by rintro ⟨z, -⟩; omega)).trans un11_26
  have qn11_27 := qn11_26.wl wc26 xc27 (by rw [tea9c26]; decide)
  have gn11_27 := gn11_26
  have p643_t_27 := (xc27.2.2.2.2.1 643 t (wc26 t (by rw [tt_26]; decide)) (by rintro ⟨z, -⟩; omega)).trans p643_t_26
  have tn12_27 := xc27.ty wc26 tn12_26 (by decide)
  have ty12_27 := xc27.ty wc26 ty12_26 (by decide)
  have un12_27 := (xc27.2.2.1 320 n12 (wc26 n12 (by rw [tn12_26]; decide)) (by rintro ⟨z, -⟩; omega)).trans un12_26
  have qn12_27 := qn12_26.wl wc26 xc27 (by rw [tea9c26]; decide)
  have gn12_27 := gn12_26
  have p644_t_27 := (xc27.2.2.2.2.1 644 t (wc26 t (by rw [tt_26]; decide)) (by rintro ⟨z, -⟩; omega)).trans p644_t_26
  have tn13_27 := xc27.ty wc26 tn13_26 (by decide)
  have ty13_27 := xc27.ty wc26 ty13_26 (by decide)
  have un13_27 := (xc27.2.2.1 320 n13 (wc26 n13 (by rw [tn13_26]; decide)) (by rintro ⟨z, -⟩; omega)).trans un13_26
  have qn13_27 := qn13_26.wl wc26 xc27 (by rw [tea9c26]; decide)
  have gn13_27 := gn13_26
  have p645_t_27 := (xc27.2.2.2.2.1 645 t (wc26 t (by rw [tt_26]; decide)) (by rintro ⟨z, -⟩; omega)).trans p645_t_26
  have tn14_27 := xc27.ty wc26 tn14_26 (by decide)
  have ty14_27 := xc27.ty wc26 ty14_26 (by decide)
  have un14_27 := (xc27.2.2.1 320 n14 (wc26 n14 (by rw [tn14_26]; decide)) (by rintro ⟨z, -⟩; omega)).trans un14_26
  have qn14_27 := qn14_26.wl wc26 xc27 (by rw [tea9c26]; decide)
  have gn14_27 := gn14_26
  have p646_t_27 := (xc27.2.2.2.2.1 646 t (wc26 t (by rw [tt_26]; decide)) (by rintro ⟨z, -⟩; omega)).trans p646_t_26
  have Ea10_0_27 := (congrFun (xc27.2.2.2.2.2 ea10 (wc26 ea10 (by rw [tea10_26]; decide)) (fun z => by have z : ea10 = ea9 := z; exact (neea9ea10_26.symm) z)).2.2 0).trans Ea10_0_26
  have La10_27 := xc27.li wc26 La10_26 (by rintro ⟨-, z⟩; exact absurd z hne.symm) (by rintro ⟨-, z⟩; exact absurd z hne.symm)
  have cea10_27 := (xc27.ln wc26 tea10_26 (by decide)).trans cea10_26
  have tea10_27 := xc27.ty wc26 tea10_26 (by decide)
  have gea10_27 := gea10_26
  have neea9ea10_27 := neea9ea10_26
  have Ea9_0_27 : c27.aR ea9 0 = some n11 := (p2c27 0 (by decide)).trans Ea9_0_26
  have Ea9_1_27 : c27.aR ea9 1 = some n12 := (p2c27 1 (by decide)).trans Ea9_1_26
  have Ea9_2_27 : c27.aR ea9 2 = some n13 := (p2c27 2 (by decide)).trans p3c26
  refine sp_pop X (pc := 231) dX9_init_231 rfl ?_
  refine sp_return X (pc := 232) dX9_init_232 ⟨rfl, ?_⟩
  exact ⟨a9, a10, n11, n12, n13, n14, ea9, ea10, bd, Jc27, wc27, fc27, p640_t_27, p641_t_27, p642_t_27, p643_t_27, p644_t_27, p645_t_27, p646_t_27, ta9_27, ta10_27, tn11_27, tn12_27, tn13_27, tn14_27, la9_27, la10_27, Lc27, cc27, La10_27, cea10_27, un14_27, ga9_27, ga10_27, tt_27, qn11_27, qn12_27, qn13_27, qn14_27, qbd_27, Ea9_0_27, Ea9_1_27, Ea9_2_27, p3c27, Ea10_0_27⟩
