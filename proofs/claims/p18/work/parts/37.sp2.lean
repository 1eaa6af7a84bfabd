
def sp_T2 (j : Nat) : Prop := j = 2
def sp_T3 (j : Nat) : Prop := j = 3
def sp_T4 (j : Nat) : Prop := j = 4
theorem sp_ix2 : sp_ix 2 := by unfold sp_ix; omega
theorem sp_ix3 : sp_ix 3 := by unfold sp_ix; omega
theorem sp_ix4 : sp_ix 4 := by unfold sp_ix; omega
def sp_nob (G : sp_G) (m : sp_M) : Prop := m.ty (G.sk 4) = 24 ∧ m.ln (G.sk 4) = 0
theorem sp_fx.nob {G : sp_G} {m m' : sp_M} {w : sp_W} (h : sp_fx m m' w) (hwf : sp_wf m) (hO : sp_nob G m) : sp_nob G m' := ⟨h.ty hwf hO.1 (by decide), by rw [h.ln hwf hO.1 (by decide)]; exact hO.2⟩
theorem sp_S.dr {G : sp_G} {m : sp_M} {A : Nat → Nat} (h : sp_S G m A) : ∃ d, sp_dr m (A 1) (A 8) d := by
  obtain ⟨h1, d, h2, h3⟩ := h.2.2.2.1
  exact ⟨d, h.k 1 3 (by decide), h.p 128 1 8 (by decide), h.k 8 20 (by decide), h1, h2, h3⟩
theorem sp_I.len {G : sp_G} {P : Nat → Prop} {A : Nat → Nat} {m : sp_M} (h : sp_I G P A m) {d : Nat} (hd : d ≤ 160) : sp_I G P A (m.pI 129 (A 1) (nI d)) := by
  obtain ⟨hJ, hwf, ⟨s1, s2, s3, s4, s5, s6, s7⟩, hP⟩ := h
  refine ⟨hJ.pI (by decide), hwf, ⟨s1, s2, fun j hj => ?_, ⟨s4.1, d, by rw [sp_pI_fI, if_pos ⟨rfl, rfl⟩], hd⟩, s5, ⟨?_, ?_⟩, ?_⟩, hP⟩
  · obtain ⟨g1, ed, s, g2, g3⟩ := s3 j hj
    exact ⟨g1, ed, s, g2.pI (by decide), g3⟩
  · rw [sp_pI_fI, if_neg (by omega)]; exact s6.1
  · rw [sp_pI_fI, if_neg (by omega)]; exact s6.2
  · intro ed s hli j b hj hb
    have hli' : sp_li G m (A 16) ed s := ⟨hli.1, hli.2.1, by have := hli.2.2.1; rw [sp_pI_fI, if_neg (by omega)] at this; exact this, hli.2.2.2⟩
    have g8 := s7 ed s hli' j b hj hb
    exact ⟨g8.1, by rw [sp_pI_fI, if_neg (by omega)]; exact g8.2⟩
theorem sp_I.w0 {G : sp_G} {P : Nat → Prop} {A : Nat → Nat} {m m' : sp_M} (h : sp_I G P A m) (hJ : sp_J G P sp_E0 m') (hw : sp_wf m') (hfx : sp_fx m m' sp_w0) : sp_I G P A m' := ⟨hJ, hw, h.S.fx h.wf hfx (fun _ _ z => z.elim) (fun _ _ z => z.elim) (fun _ z => z.elim), fun a ha => Nat.lt_of_lt_of_le (h.2.2.2 a ha) hfx.1⟩
theorem sp_bn.pI {G : sp_G} {m : sp_M} {A : Nat → Nat} {k a : Nat} {v : Int32} (h : sp_bn G m A) (hk : k ≠ 2) : sp_bn G (m.pI k a v) A := by
  obtain ⟨e9, s9, e10, s10, a1, a2, a3⟩ := h
  exact ⟨e9, s9, e10, s10, a1.pI hk, a2.pI hk, a3⟩
theorem sp_bn.fx {G : sp_G} {m m' : sp_M} {A : Nat → Nat} (h : sp_bn G m A) (hwf : sp_wf m) (hfx : sp_fx m m' sp_w0) : sp_bn G m' A := by
  obtain ⟨e9, s9, e10, s10, a1, a2, a3⟩ := h
  exact ⟨e9, s9, e10, s10, hfx.li hwf a1 (fun z => z) (fun z => z), hfx.li hwf a2 (fun z => z) (fun z => z), a3⟩

def sp_wo (o : Nat) : sp_W := (fun _ a => a = o, fun _ a => a = o, fun _ a => a = o, fun _ => False)
def sp_Tn (_ : Nat) : Prop := False
/-- the class's rules are those of R -/
theorem sp_cR.dv {m : sp_M} {A : Nat → Nat} {R : Int32} (h : sp_cR m A R) (x : Int32) : sp_dv m (A 0) x ↔ ¬ sp_pb R x = 0 := by
  unfold sp_dv sp_pb
  rw [propext h.1]
  by_cases h1 : x = 47 ∨ (x = 92 ∧ ¬ sp_hr R 1 = 0)
  · rw [if_pos h1]
    exact ⟨fun _ => by decide, fun _ => h1.imp id (fun z => ⟨z.2, z.1⟩)⟩
  · rw [if_neg h1]
    exact ⟨fun z => absurd (z.imp id (fun q => ⟨q.2, q.1⟩)) h1, fun z => absurd rfl z⟩
theorem sp_cR.fx {m m' : sp_M} {A : Nat → Nat} {R : Int32} {w : sp_W} (h : sp_cR m A R) (hwf : sp_wf m) (h0 : m.ty (A 0) = 9) (hf : sp_fx m m' w) (hk : ∀ k, 512 ≤ k → k ≤ 517 → ¬ w.1 k (A 0)) : sp_cR m' A R := by
  have l0 : A 0 < m.nx := hwf _ (by omega)
  unfold sp_cR
  rw [hf.2.2.1 512 _ l0 (hk 512 (by decide) (by decide)), hf.2.2.1 513 _ l0 (hk 513 (by decide) (by decide)), hf.2.2.1 514 _ l0 (hk 514 (by decide) (by decide)), hf.2.2.1 515 _ l0 (hk 515 (by decide) (by decide)), hf.2.2.1 516 _ l0 (hk 516 (by decide) (by decide)), hf.2.2.1 517 _ l0 (hk 517 (by decide) (by decide))]
  exact h
theorem sp_mk1_b : ∀ n, n < 256 → (sp_mk1 (nI n) ↔ pu_mk (nI n)) := by unfold sp_mk1 pu_mk; decide +kernel
theorem sp_mk1_pu {x : Int32} (h0 : 0 ≤ x) (h1 : x ≤ 255) : sp_mk1 x ↔ pu_mk x := by
  obtain ⟨n, hn, rfl⟩ := nI_of (Int32.not_lt.mpr h0)
  exact sp_mk1_b n ((nI_leI (b := 255) hn (by decide)).mp h1 |> Nat.lt_succ_of_le)
theorem sp_beg1 {m : sp_M} {b s : Nat} {u : List Int32} (hl : m.ln s = u.length) (hs : ∀ j, j < u.length → m.aI s j = sp_sm (u.getD j 0)) (h3 : 3 ≤ u.length) : sp_beg m s 1 ↔ (pu_w3 u 99 111 110 ∨ pu_w3 u 112 114 110 ∨ pu_w3 u 97 117 120 ∨ pu_w3 u 110 117 108) := by
  unfold sp_beg pu_w3
  rw [hl, hs 0 (by omega), hs 1 (by omega), hs 2 (by omega)]
  constructor
  · rintro ⟨-, q, hq, z⟩
    have hq : 3 * q + 2 < 12 := hq
    have : q = 0 ∨ q = 1 ∨ q = 2 ∨ q = 3 := by omega
    rcases this with rfl | rfl | rfl | rfl
    · exact Or.inl z
    · exact Or.inr (Or.inl z)
    · exact Or.inr (Or.inr (Or.inl z))
    · exact Or.inr (Or.inr (Or.inr z))
  · rintro (z | z | z | z)
    · exact ⟨h3, 0, by decide, z⟩
    · exact ⟨h3, 1, by decide, z⟩
    · exact ⟨h3, 2, by decide, z⟩
    · exact ⟨h3, 3, by decide, z⟩
theorem sp_beg2 {m : sp_M} {b s : Nat} {u : List Int32} (hl : m.ln s = u.length) (hs : ∀ j, j < u.length → m.aI s j = sp_sm (u.getD j 0)) (h3 : 3 ≤ u.length) : sp_beg m s 2 ↔ (pu_w3 u 99 111 109 ∨ pu_w3 u 108 112 116) := by
  unfold sp_beg pu_w3
  rw [hl, hs 0 (by omega), hs 1 (by omega), hs 2 (by omega)]
  constructor
  · rintro ⟨-, q, hq, z⟩
    have hq : 3 * q + 2 < 6 := hq
    have : q = 0 ∨ q = 1 := by omega
    rcases this with rfl | rfl
    · exact Or.inl z
    · exact Or.inr z
  · rintro (z | z)
    · exact ⟨h3, 0, by decide, z⟩
    · exact ⟨h3, 1, by decide, z⟩
theorem sp_stem_pu {m : sp_M} {b : Nat} {u : List Int32} (hl : m.ln b = u.length) (hb : ∀ i, i < u.length → m.aI b i = u.getD i 0) (t : Nat) : sp_stem m b t ↔ pu_stem u t := by
  unfold sp_stem pu_stem
  rw [hl]
  constructor
  · rintro ⟨h1, h2, h3⟩
    exact ⟨h1, fun j hj => by rw [← hb j (by omega)]; exact h2 j hj, fun ht => by rw [← hb t ht]; exact h3 ht⟩
  · rintro ⟨h1, h2, h3⟩
    exact ⟨h1, fun j hj => by rw [hb j (by omega)]; exact h2 j hj, fun ht => by rw [hb t ht]; exact h3 ht⟩
theorem sp_kept_pu {m : sp_M} {b s : Nat} {u : List Int32} (hl : m.ln b = u.length) (hb : ∀ i, i < u.length → m.aI b i = u.getD i 0) (hls : m.ln s = u.length) (hs : ∀ j, j < u.length → m.aI s j = sp_sm (u.getD j 0)) : sp_kept m b s ↔ pu_kept u := by
  unfold sp_kept pu_kept
  rw [propext (sp_stem_pu hl hb 3), propext (sp_stem_pu hl hb 4)]
  constructor
  · rintro (⟨h1, h2⟩ | ⟨h1, h2, h3, h4⟩)
    · exact Or.inl ⟨h1, (sp_beg1 (b := b) hls hs h1.1).mp h2⟩
    · have := h1.1
      exact Or.inr ⟨h1, by rw [← hb 3 (by omega)]; exact h2, by rw [← hb 3 (by omega)]; exact h3, (sp_beg2 (b := b) hls hs (by omega)).mp h4⟩
  · rintro (⟨h1, h2⟩ | ⟨h1, h2, h3, h4⟩)
    · exact Or.inl ⟨h1, (sp_beg1 (b := b) hls hs h1.1).mpr h2⟩
    · have := h1.1
      exact Or.inr ⟨h1, by rw [hb 3 (by omega)]; exact h2, by rw [hb 3 (by omega)]; exact h3, (sp_beg2 (b := b) hls hs (by omega)).mpr h4⟩
theorem sp_oth_pu {m : sp_M} {b s : Nat} {u : List Int32} (hl : m.ln b = u.length) (hb : ∀ i, i < u.length → m.aI b i = u.getD i 0) (hls : m.ln s = u.length) (hs : ∀ j, j < u.length → m.aI s j = sp_sm (u.getD j 0)) (hby : pu_by u) : sp_oth m b s ↔ pu_oth u := by
  unfold sp_oth pu_oth sp_mark
  rw [propext (sp_kept_pu hl hb hls hs), hl]
  refine or_congr ⟨fun z => ⟨z.1, ?_⟩, fun z => ⟨z.1, ?_⟩⟩ (or_congr ⟨?_, ?_⟩ Iff.rfl)
  · rw [← hb _ (by have := z.1; omega)]; exact z.2
  · rw [hb _ (by have := z.1; omega)]; exact z.2
  · rintro ⟨j, hj, z⟩
    rw [hb j hj] at z
    exact ⟨j, hj, (sp_mk1_pu (hby j hj).1 (hby j hj).2).mp z⟩
  · rintro ⟨j, hj, z⟩
    refine ⟨j, hj, ?_⟩
    rw [hb j hj]
    exact (sp_mk1_pu (hby j hj).1 (hby j hj).2).mpr z
theorem sp_ctl_pu {m : sp_M} {b : Nat} {u : List Int32} (hl : m.ln b = u.length) (hb : ∀ i, i < u.length → m.aI b i = u.getD i 0) : sp_ctl m b ↔ pu_ctl u := by
  unfold sp_ctl pu_ctl
  rw [hl]
  constructor
  · rintro ⟨j, hj, z⟩
    exact ⟨j, hj, by rw [← hb j hj]; exact z⟩
  · rintro ⟨j, hj, z⟩
    exact ⟨j, hj, by rw [hb j hj]; exact z⟩
/-- Name.judge, in pure words -/
theorem sp_jud {G : sp_G} {P E : Nat → Prop} {m : sp_M} {nm b s : Nat} {u : List Int32} {v R x : Int32} (hJ : sp_J G P E m) (hE : ¬ E nm) (hnm : sp_nm m nm b s) (hnv : sp_nv m nm u) (hby : pu_by u) (hx : ¬ x = 0 ↔ ¬ sp_hr R 8 = 0) (h : (v = -3 ∧ sp_isUp m b) ∨ (v = -4 ∧ ¬ sp_isUp m b ∧ (sp_ctl m b ∨ (¬ x = 0 ∧ sp_oth m b s))) ∨ (v = -5 ∧ ¬ sp_isUp m b ∧ ¬ (sp_ctl m b ∨ (¬ x = 0 ∧ sp_oth m b s)) ∧ 16 < m.ln b) ∨ (v = 0 ∧ ¬ sp_isUp m b ∧ ¬ (sp_ctl m b ∨ (¬ x = 0 ∧ sp_oth m b s)) ∧ m.ln b ≤ 16)) : pu_er v (pu_up u) (pu_bad R u) (16 < u.length) := by
  obtain ⟨b', s', hn', hl, hb⟩ := hnv
  cases hnm.2.1.symm.trans hn'.2.1
  obtain ⟨b2, s2, hn2, -, -, hs⟩ := hJ.2.2.2.1 nm hnm.1 hE
  cases hnm.2.1.symm.trans hn2.2.1
  cases hnm.2.2.1.symm.trans hn2.2.2.1
  have hls : m.ln s = u.length := by rw [← hnm.2.2.2.2.2.1]; exact hl
  have hs' : ∀ j, j < u.length → m.aI s j = sp_sm (u.getD j 0) := fun j hj => by rw [hs j (by omega), hb j hj]
  rw [propext (sp_isUp_pu hl hb), propext (sp_ctl_pu hl hb), propext (sp_oth_pu hl hb hls hs' hby), propext hx, hl] at h
  rcases h with h | h | h | h
  · exact Or.inl h
  · exact Or.inr (Or.inl h)
  · exact Or.inr (Or.inr (Or.inl h))
  · exact Or.inr (Or.inr (Or.inr ⟨h.1, h.2.1, h.2.2.1, by have := h.2.2.2; omega⟩))
theorem sp_pv.ad {G : sp_G} {P : Nat → Prop} {m m' : sp_M} {A : Nat → Nat} {pa num j ed s b : Nat} {us : List (List Int32)} (h : sp_pv G m pa num us) (hI : sp_I G P A m) (hli : sp_li G m (A j) ed s) (had : sp_ad G m (A j) ed s b m') (hj : sp_ix j) : sp_pv G m' pa num us :=
  h.F hI ((sp_F.refl m A (fun _ => True)).ad hI.J hli had hj trivial)
set_option maxRecDepth 20000 in
theorem c_Parted_init (l : Launch) (G : sp_G) (m : sp_M) {P E : Nat → Prop} {m0 : sp_M} {o L ed s : Nat} {num ft : Int32} (hG : sp_GS G) (hO : sp_nob G m) (hJ : sp_J G P (sp_E1 E o) m) (hwf : sp_wf m) (hP : ∀ a, P a → a < m.nx) (hfx : sp_fx m0 m sp_w0) (ho0 : m0.nx ≤ o) (ho : m.ty o = 8) (hft : sp_b01 ft) (hL : sp_li G m L ed s) (hr : m.ln L = 105) (hs : s ≤ m.ln o) (ho1 : m.ln o ≤ 161) : sp_C l G M_Parted_init 3 2 [.ref o, .int num, .int ft, .ref L] m (sp_oV fun m' => sp_J G P E m' ∧ sp_wf m' ∧ sp_fx m0 m' sp_w0 ∧ m'.ty o = 8 ∧ m'.ln o = m.ln o ∧ sp_fx m m' (sp_wo o) ∧ m'.fI 448 o = num ∧ m'.fI 449 o = ft ∧ m'.fR 450 o = some L ∧ ∃ nn, m'.fR 451 o = some nn ∧ sp_nv m' nn []) := by
  refine sp_enter (lv0 := [(0, false, va_rf (some o)), (1, false, .int num), (2, false, .int ft), (3, false, va_rf (some L))]) "SafePaths$Parted" true rfl (by decide) (fun _ => rfl) (Nat.le_of_ble_eq_true rfl) rfl ?_
  intro w X
  have hz := hwf.z
  have hon : o < m.nx := hwf o (by omega)
  have hLn : L < m.nx := hwf L (by have := hL.1; omega)
  have h4n : G.sk 4 < m.nx := hwf _ (by have := hO.1; omega)
  refine sp_aload_n X (pc := 0) (r := some o) dX6_init_0 rfl rfl ?_
  refine sp_objInit X (pc := 1) (a := o) rfl lk_Parted_1 oi_1 oi_2 (Nat.le_of_ble_eq_true rfl) (Nat.le_of_ble_eq_true rfl) dX6_init_1 ?_
  refine sp_aload_n X (pc := 4) (r := some o) dX6_init_4 rfl rfl ?_
  refine sp_iload_n X (pc := 5) (x := num) dX6_init_5 rfl rfl ?_
  refine sp_putI X (pc := 6) (c := 7) (i := 0) (q := 448) (a := o) rfl (by first | assumption | omega) (by decide) rfl rfl (Or.inr ⟨rfl, rfl, rfl⟩) ⟨rfl, rfl⟩ fl_Parted_7 dX6_init_6 ?_
  refine sp_aload_n X (pc := 9) (r := some o) dX6_init_9 rfl rfl ?_
  refine sp_iload_n X (pc := 10) (x := ft) dX6_init_10 rfl rfl ?_
  refine sp_putI X (pc := 11) (c := 7) (i := 1) (q := 449) (a := o) rfl (by first | assumption | omega) (by decide) rfl rfl (Or.inr ⟨rfl, rfl, rfl⟩) hft.fit fl_Parted_13 dX6_init_11 ?_
  refine sp_aload_n X (pc := 14) (r := some o) dX6_init_14 rfl rfl ?_
  refine sp_aload_n X (pc := 15) (r := some L) dX6_init_15 rfl rfl ?_
  refine sp_putR X (pc := 16) (c := 7) (i := 2) (q := 450) (a := o) rfl (by first | assumption | omega) (by decide) rfl rfl (Or.inr ⟨rfl, rfl, rfl⟩)  fl_Parted_17 dX6_init_16 ?_
  refine sp_aload_n X (pc := 19) (r := some o) dX6_init_19 rfl rfl ?_
  refine sp_new X (pc := 20) (c := 4) (N := 2) (by decide) rfl cl_Parted_21 in_4 it_4 (by decide) (by decide) dX6_init_20 ?_
  refine sp_dup X (pc := 23) dX6_init_23 (sp_cat_rf _) ?_
  refine sp_getstatic X (pc := 24) (v := va_rf (some (G.sk 4))) hG.2.1 gs_Parted_23 dX6_init_24 ?_
  refine sp_iconst X (pc := 27) (v := 0) dX6_init_27 (by decide) ?_
  refine sp_iconst X (pc := 28) (v := 0) dX6_init_28 (by decide) ?_
  refine sp_callI X (pc := 29) (mc := 2) (ms := 2 * 0) (b := m.nx) (r := some m.nx) (As := [va_rf (some (G.sk 4)), .int 0, .int 0]) (rest := [va_rf (some m.nx), va_rf (some o)]) (c_Name_init l G _ (o := m.nx) (a1 := G.sk 4) (f := 0) (n := 0) (by rw [sp_newO_ty]; exact if_pos rfl) (Or.inr (by rw [sp_newO_ty]; exact (if_neg (by show ¬ G.sk 4 = m.nx; omega)).trans hO.1)) (by show m.ln (G.sk 4) ≤ 1000; rw [hO.2]; omega) (Nat.zero_le _)) ok_Name_init rfl rfl lk_Parted_29 rfl rfl (by simp [sp_cat_rf, sp_cat_i, sp_cat_l]) (Nat.le_of_ble_eq_true rfl) (Nat.le_of_ble_eq_true rfl) (by decide) (by decide) dX6_init_29 (sp_kV fun m29 hp29 => ?_)
  obtain ⟨mB, hmB⟩ : ∃ mB, mB = ((m.pI 448 o num).pI 449 o ft).pR 450 o (some L) := ⟨_, rfl⟩
  have hB0 : mB.nx = m.nx := by rw [hmB]; rfl
  have hB1 : mB.ty = m.ty := by rw [hmB]; rfl
  have hB2 : mB.ln = m.ln := by rw [hmB]; rfl
  have hB3 : mB.fR 450 o = some L := by rw [hmB, sp_pR_fR, if_pos ⟨rfl, rfl⟩]
  have hB4 : mB.fI 2 L = m.fI 2 L := by
    rw [hmB]
    show ((m.pI 448 o num).pI 449 o ft).fI 2 L = _
    rw [sp_pI_fI, if_neg (by omega), sp_pI_fI, if_neg (by omega)]
  have hB5 : sp_J G P (sp_E1 E o) mB := by rw [hmB]; exact ((hJ.pI (by decide)).pI (by decide)).pR (Or.inr (Or.inr rfl))
  have hB6 : sp_wf mB := by rw [hmB]; exact hwf
  have hB7 : sp_fx m0 mB sp_w0 := by rw [hmB]; exact ((hfx.pI (Or.inr ho0)).pI (Or.inr ho0)).pR (Or.inr ho0)
  have hBo : sp_fx m mB (sp_wo o) := by rw [hmB]; exact (((sp_fx.refl m (sp_wo o)).pI (Or.inl rfl)).pI (Or.inl rfl)).pR (Or.inl rfl)
  have hB8 : mB.fI 448 o = num := by
    rw [hmB]
    show ((m.pI 448 o num).pI 449 o ft).fI 448 o = _
    rw [sp_pI_fI, if_neg (by omega), sp_pI_fI, if_pos ⟨rfl, rfl⟩]
  have hB9 : mB.fI 449 o = ft := by
    rw [hmB]
    show ((m.pI 448 o num).pI 449 o ft).fI 449 o = _
    rw [sp_pI_fI, if_pos ⟨rfl, rfl⟩]
  rw [show ((m.pI 448 o num).pI 449 o ft).pR 450 o (some L) = mB from hmB.symm] at hp29
  clear hmB
  rw [← hB0] at hp29
  have J2 := hB5.newO0 hB6 4
  have J3 : sp_J G P (sp_E1 E o) m29 := by rw [hp29]; exact J2.mkN (hB6.newO 4) (by rw [sp_newO_ty, if_pos rfl]) (fun a ha => by have := hP a ha; rw [sp_newO_nx, hB0]; omega) 0 (by decide) _
  have hw29 : sp_wf m29 := by rw [hp29]; exact (hB6.newO 4).mkN _ _ _
  have hf29 : sp_fx mB m29 sp_w0 := by rw [hp29]; exact ((sp_fx.refl mB sp_w0).newO 4).mkN (Nat.le_refl _) _ _
  have hn29 : m29.ty m.nx = 5 := by rw [hp29, sp_mkN_ty, if_neg (by rw [sp_newO_nx]; omega), if_neg (by rw [sp_newO_nx]; omega), sp_newO_ty, if_pos hB0.symm]
  have hv29 : sp_nv m29 m.nx [] := by
    rw [hp29, ← hB0]
    refine ⟨_, _, sp_mkN_nm (mB.newO 4) mB.nx 0 _ (by rw [sp_newO_ty, if_pos rfl]) (by rw [sp_newO_nx]; omega) (by decide), ?_, fun i hi => absurd hi (Nat.not_lt_zero _)⟩
    rw [sp_mkN_ln, if_neg (by omega), if_pos rfl]
    rfl
  clear hp29
  refine sp_putR X (pc := 32) (c := 7) (i := 3) (q := 451) (a := o) rfl (hf29.ty hB6 (a := o) (k := 8) (by rw [hB1]; exact ho) (by decide)) (by decide) rfl rfl (Or.inr ⟨rfl, rfl, rfl⟩)  fl_Parted_32 dX6_init_32 ?_
  refine sp_return X (pc := 35) dX6_init_35 ⟨rfl, ?_⟩
  have J4 : sp_J G P (sp_E1 E o) (m29.pR 451 o (some m.nx)) := J3.pR (Or.inr (Or.inr rfl))
  have hto : m29.ty o = 8 := hf29.ty hB6 (a := o) (k := 8) (by rw [hB1]; exact ho) (by decide)
  have hlo : m29.ln o = m.ln o := by rw [(hf29.2.1 o (by omega)).2, hB2]
  have hlL : m29.ln L = 105 := by rw [(hf29.2.1 L (by omega)).2, hB2]; exact hr
  have htL : m29.ty L = 1 := by rw [(hf29.2.1 L (by omega)).1, hB1]; exact hL.1
  refine ⟨J4.drop (fun h => ?_) (fun h => ?_) (fun h => ?_) (fun _ => ⟨L, m.nx, s, ?_, htL, hlL, ?_, hn29, ?_, ?_, ?_⟩) (fun h => ?_) (fun h => ?_), hw29, (hB7.tr0 hf29).pR (Or.inr ho0), hto, hlo, (hBo.tr0 hf29).pR (Or.inl rfl), (hf29.2.2.1 448 o (by omega) (fun z => z)).trans hB8, (hf29.2.2.1 449 o (by omega) (fun z => z)).trans hB9, ?_, m.nx, by rw [sp_pR_fR, if_pos ⟨rfl, rfl⟩], hv29.fx hw29 ((sp_fx.refl m29 (sp_wo o)).pR (Or.inl rfl)) (fun z => by have z : m.nx = o := z; omega) (fun z => by have z : m.nx = o := z; omega) (fun a z => z.elim)⟩
  · have : m29.ty o = 1 := h
    omega
  · have : m29.ty o = 5 := h
    omega
  · have : m29.ty o = 6 := h
    omega
  · rw [sp_pR_fR, if_neg (by omega), hf29.2.2.2.2.1 _ _ (by omega) (fun z => z)]; exact hB3
  · rw [sp_pR_fR, if_pos ⟨rfl, rfl⟩]
  · show m29.fI 2 L = _
    rw [hf29.2.2.1 _ _ (by omega) (fun z => z), hB4]; exact hL.2.2.1
  · show s ≤ m29.ln o
    omega
  · show m29.ln o ≤ 161
    omega
  · have : m29.ty o = 4 := h
    omega
  · have : m29.ty o = 7 := h
    omega
  · rw [sp_pR_fR, if_neg (by omega), hf29.2.2.2.2.1 _ _ (by omega) (fun z => z)]; exact hB3
set_option maxRecDepth 20000 in
theorem c_SP_judgeAsTarget (l : Launch) (G : sp_G) (m : sp_M) {P : Nat → Prop} {A : Nat → Nat} (hG : sp_GS G) (hI : sp_I G P A m) {d e3 s3 : Nat} (hd : sp_dr m (A 1) (A 8) d) (li3 : sp_li G m (A 3) e3 s3) : sp_C l G M_SP_judgeAsTarget 0 0 [.ref (A 17)] m (sp_oI fun v m' => ((v = 0 ∧ 1 ≤ d ∧ d ≤ 40 ∧ s3 < 40) ∨ (v = -1 ∧ (d < 1 ∨ 40 < d)) ∨ (v = -6 ∧ 1 ≤ d ∧ d ≤ 40 ∧ ¬ s3 < 40)) ∧ m' = m) := by
  refine sp_enter (lv0 := [(0, false, va_rf (some (A 17)))]) "SafePaths" false rfl (by decide) (fun h => by cases h) (Nat.le_of_ble_eq_true rfl) rfl ?_
  intro w X
  have hS := hI.S
  have t1 := hS.k 1 3 (by decide)
  have t3 := hS.k 3 1 (by decide)
  have t17 := hS.k 17 13 (by decide)
  have hd6 := hd.2.2.2.2.2
  have h39 : s3 < 2 ^ 31 := by have := li3.2.2.2.1; have := li3.2.2.2.2.1; omega
  refine sp_aload_n X (pc := 0) (r := some (A 17)) dX11_judgeAsTarget_0 rfl rfl ?_
  refine sp_getfield X (pc := 1) (c := 12) (i := 1) (t := 2) (a := (A 17)) (v := va_rf (some (A 1))) rfl (by first | assumption | omega) (by decide) rfl (congrArg va_rf (hS.p 769 17 1 (by decide))) fl_SP_21 dX11_judgeAsTarget_1 ?_
  refine sp_callV X (pc := 4) (mc := 0) (ms := 0) (b := (A 1)) (c := 2) (r := (some (A 1))) (As := []) (rest := []) (c_Draft_length l G _ hd) ok_Draft_length rfl t1 (by decide) rfl lk_SP_262 rfl rfl (Nat.zero_le _) (Nat.le_of_ble_eq_true rfl) (Nat.le_of_ble_eq_true rfl) (Nat.zero_le _) (Nat.zero_le _) dX11_judgeAsTarget_4 (sp_kI fun v4 m4 hp4 => ?_)
  obtain ⟨hp4v, hp4⟩ := hp4; replace hp4 := (hp4).symm; subst hp4; replace hp4v := (hp4v).symm; subst hp4v
  refine sp_iconst X (pc := 7) (v := 1) dX11_judgeAsTarget_7 (by decide) ?_
  refine sp_icmp_lt X (pc := 8) (tgt := 23) dX11_judgeAsTarget_8 (by decide) (fun hb8 => ?_) (fun hb8 => ?_)
  · have g1 : d < 1 := (nI_ltI (b := 1) (by omega) (by omega)).mp hb8
    refine sp_iconst X (pc := 23) (v := (-1)) dX11_judgeAsTarget_23 (by decide) ?_
    refine sp_ireturn X (pc := 24) dX11_judgeAsTarget_24 rfl ⟨_, rfl, ?_⟩
    first | exact ⟨Or.inr (Or.inl ⟨rfl, Or.inl g1⟩), rfl⟩ | exact ⟨Or.inr (Or.inl ⟨rfl, Or.inr g2⟩), rfl⟩
  · have g1 : 1 ≤ d := Nat.le_of_not_lt fun z => hb8 (nI_lt (b := 1) z (by omega))
    refine sp_aload_n X (pc := 11) (r := some (A 17)) dX11_judgeAsTarget_11 rfl rfl ?_
    refine sp_getfield X (pc := 12) (c := 12) (i := 1) (t := 2) (a := (A 17)) (v := va_rf (some (A 1))) rfl (by first | assumption | omega) (by decide) rfl (congrArg va_rf (hS.p 769 17 1 (by decide))) fl_SP_21 dX11_judgeAsTarget_12 ?_
    refine sp_callV X (pc := 15) (mc := 0) (ms := 0) (b := (A 1)) (c := 2) (r := (some (A 1))) (As := []) (rest := []) (c_Draft_length l G _ hd) ok_Draft_length rfl t1 (by decide) rfl lk_SP_262 rfl rfl (Nat.zero_le _) (Nat.le_of_ble_eq_true rfl) (Nat.le_of_ble_eq_true rfl) (Nat.zero_le _) (Nat.zero_le _) dX11_judgeAsTarget_15 (sp_kI fun v15 m15 hp15 => ?_)
    obtain ⟨hp15v, hp15⟩ := hp15; replace hp15 := (hp15).symm; subst hp15; replace hp15v := (hp15v).symm; subst hp15v
    refine sp_bipush X (pc := 18) (v := 40) dX11_judgeAsTarget_18 (by decide) ?_
    refine sp_icmp_le X (pc := 20) (tgt := 25) dX11_judgeAsTarget_20 (by decide) (fun hb20 => ?_) (fun hb20 => ?_)
    · have g2 : d ≤ 40 := (nI_leI (b := 40) (by omega) (by omega)).mp hb20
      refine sp_aload_n X (pc := 25) (r := some (A 17)) dX11_judgeAsTarget_25 rfl rfl ?_
      refine sp_getfield X (pc := 26) (c := 12) (i := 3) (t := 2) (a := (A 17)) (v := va_rf (some (A 3))) rfl (by first | assumption | omega) (by decide) rfl (congrArg va_rf (hS.p 771 17 3 (by decide))) fl_SP_32 dX11_judgeAsTarget_26 ?_
      refine sp_callV X (pc := 29) (mc := 0) (ms := 0) (b := (A 3)) (c := 0) (r := (some (A 3))) (As := []) (rest := []) (c_List_size l G _ t3) ok_List_size rfl t3 (by decide) rfl lk_SP_81 rfl rfl (Nat.zero_le _) (Nat.le_of_ble_eq_true rfl) (Nat.le_of_ble_eq_true rfl) (Nat.zero_le _) (Nat.zero_le _) dX11_judgeAsTarget_29 (sp_kI fun v29 m29 hp29 => ?_)
      obtain ⟨hp29v, hp29⟩ := hp29; replace hp29 := (hp29).symm; subst hp29; replace hp29v := (hp29v).symm; subst hp29v
      rw [li3.2.2.1]
      refine sp_bipush X (pc := 32) (v := 40) dX11_judgeAsTarget_32 (by decide) ?_
      refine sp_icmp_lt X (pc := 34) (tgt := 42) dX11_judgeAsTarget_34 (by decide) (fun hb34 => ?_) (fun hb34 => ?_)
      · have g3 : s3 < 40 := (nI_ltI (b := 40) (by omega) (by omega)).mp hb34
        refine sp_iconst X (pc := 42) (v := 0) dX11_judgeAsTarget_42 (by decide) ?_
        refine sp_ireturn X (pc := 43) dX11_judgeAsTarget_43 rfl ⟨_, rfl, ?_⟩
        first | exact ⟨Or.inl ⟨rfl, g1, g2, g3⟩, rfl⟩ | exact ⟨Or.inr (Or.inr ⟨rfl, g1, g2, g3⟩), rfl⟩
      · have g3 : ¬ s3 < 40 := fun z => hb34 (nI_lt (b := 40) z (by omega))
        refine sp_bipush X (pc := 37) (v := (-6)) dX11_judgeAsTarget_37 (by decide) ?_
        refine sp_goto X (pc := 39) (tgt := 43) dX11_judgeAsTarget_39 (by decide) ?_
        refine sp_ireturn X (pc := 43) dX11_judgeAsTarget_43 rfl ⟨_, rfl, ?_⟩
        first | exact ⟨Or.inl ⟨rfl, g1, g2, g3⟩, rfl⟩ | exact ⟨Or.inr (Or.inr ⟨rfl, g1, g2, g3⟩), rfl⟩
    · have g2 : 40 < d := Nat.lt_of_not_le fun z => hb20 (nI_le (b := 40) z (by omega))
      refine sp_iconst X (pc := 23) (v := (-1)) dX11_judgeAsTarget_23 (by decide) ?_
      refine sp_ireturn X (pc := 24) dX11_judgeAsTarget_24 rfl ⟨_, rfl, ?_⟩
      first | exact ⟨Or.inr (Or.inl ⟨rfl, Or.inl g1⟩), rfl⟩ | exact ⟨Or.inr (Or.inl ⟨rfl, Or.inr g2⟩), rfl⟩
set_option maxHeartbeats 1000000 in
set_option maxRecDepth 20000 in
theorem c_SP_judgeAsPath (l : Launch) (G : sp_G) (m : sp_M) {P : Nat → Prop} {A : Nat → Nat} (hG : sp_GS G) (hI : sp_I G P A m) {L ed e2 s2 d : Nat} {us : List (List Int32)} {R : Int32} (hL : sp_li G m L ed us.length) (hrL : m.ln L = 105) (hs : us.length ≤ 161) (li2 : sp_li G m (A 2) e2 s2) (hd : sp_dr m (A 1) (A 8) d) (hR : sp_cR m A R) (hus : ∀ k, k < us.length → (∃ nm, m.aR ed k = some nm ∧ sp_nv m nm (us.getD k [])) ∧ pu_by (us.getD k [])) : sp_C l G M_SP_judgeAsPath 0 0 [.ref (A 17), .ref L] m (sp_oI fun v m' => (pu_ref v R (m.aI (A 8)) d s2 us ∨ (pu_ok R (m.aI (A 8)) d s2 us ∧ v = 0)) ∧ m' = m) := by
  refine sp_enter (lv0 := [(0, false, va_rf (some (A 17))), (1, false, va_rf (some L))]) "SafePaths" false rfl (by decide) (fun h => by cases h) (Nat.le_of_ble_eq_true rfl) rfl ?_
  intro w X
  have hS := hI.S
  have t0 := hS.k 0 9 (by decide)
  have t1 := hS.k 1 3 (by decide)
  have t2 := hS.k 2 1 (by decide)
  have t17 := hS.k 17 13 (by decide)
  have hLt := hL.1
  have h29 : s2 < 2 ^ 31 := by have := li2.2.2.2.1; have := li2.2.2.2.2.1; omega
  have he0 : us = [] ↔ us.length = 0 := List.length_eq_zero_iff.symm
  refine sp_aload_n X (pc := 0) (r := some L) dX11_judgeAsPath_0 rfl rfl ?_
  refine sp_callV X (pc := 1) (mc := 0) (ms := 0) (b := L) (c := 0) (r := some L) (As := []) (rest := []) (c_List_isEmpty l G _ hLt) ok_List_isEmpty rfl hLt (by decide) rfl lk_SP_241 rfl rfl (Nat.zero_le _) (Nat.le_of_ble_eq_true rfl) (Nat.le_of_ble_eq_true rfl) (Nat.zero_le _) (Nat.zero_le _) dX11_judgeAsPath_1 (sp_kI fun v1 m1 hp1 => ?_)
  obtain ⟨hp1v, hp1⟩ := hp1; replace hp1 := (hp1).symm; subst hp1; replace hp1v := (hp1v).symm; subst hp1v
  refine sp_if_eq X (pc := 4) (tgt := 9) dX11_judgeAsPath_4 (by decide) (fun hb4 => ?_) (fun hb4 => ?_)
  · have hne : ¬ us = [] := fun z => by
      have z9 : m.fI 2 L = 0 := by rw [hL.2.2.1, he0.mp z]; rfl
      rw [if_pos z9] at hb4
      exact absurd hb4 (by decide)
    refine sp_aload_n X (pc := 9) (r := some (A 17)) dX11_judgeAsPath_9 rfl rfl ?_
    refine sp_getfield X (pc := 10) (c := 12) (i := 1) (t := 2) (a := (A 17)) (v := va_rf (some (A 1))) rfl (by first | assumption | omega) (by decide) rfl (congrArg va_rf (hS.p 769 17 1 (by decide))) fl_SP_21 dX11_judgeAsPath_10 ?_
    refine sp_aload_n X (pc := 13) (r := some (A 17)) dX11_judgeAsPath_13 rfl rfl ?_
    refine sp_getfield X (pc := 14) (c := 12) (i := 0) (t := 2) (a := (A 17)) (v := va_rf (some (A 0))) rfl (by first | assumption | omega) (by decide) rfl (congrArg va_rf (hS.p 768 17 0 (by decide))) fl_SP_12 dX11_judgeAsPath_14 ?_
    refine sp_callV X (pc := 17) (mc := 0) (ms := 0) (b := (A 1)) (c := 2) (r := (some (A 1))) (As := [va_rf (some (A 0))]) (rest := []) (c_Draft_beginsWithDivider l G _ hd t0) ok_Draft_beginsWithDivider rfl t1 (by decide) rfl lk_SP_120 rfl rfl (Nat.zero_le _) (Nat.le_of_ble_eq_true rfl) (Nat.le_of_ble_eq_true rfl) (Nat.zero_le _) (Nat.zero_le _) dX11_judgeAsPath_17 (sp_kI fun v17 m17 hp17 => ?_)
    obtain ⟨hp17, hp17m⟩ := hp17; replace hp17m := (hp17m).symm; subst hp17m
    refine sp_if_ne X (pc := 20) (tgt := 33) dX11_judgeAsPath_20 (by decide) (fun hb20 => ?_) (fun hb20 => ?_)
    · have hab : pu_abs R (m.aI (A 8)) d := Or.inl ⟨(hp17.ne hb20).1, (hR.dv _).mp (hp17.ne hb20).2⟩
      refine sp_bipush X (pc := 33) (v := (-2)) dX11_judgeAsPath_33 (by decide) ?_
      refine sp_ireturn X (pc := 35) dX11_judgeAsPath_35 rfl ⟨_, rfl, ?_⟩
      exact ⟨Or.inl (Or.inr (Or.inl ⟨hne, hab, rfl⟩)), rfl⟩
    · have hnd := hp17.eq hb20
      refine sp_aload_n X (pc := 23) (r := some (A 17)) dX11_judgeAsPath_23 rfl rfl ?_
      refine sp_getfield X (pc := 24) (c := 12) (i := 1) (t := 2) (a := (A 17)) (v := va_rf (some (A 1))) rfl (by first | assumption | omega) (by decide) rfl (congrArg va_rf (hS.p 769 17 1 (by decide))) fl_SP_21 dX11_judgeAsPath_24 ?_
      refine sp_callV X (pc := 27) (mc := 0) (ms := 0) (b := (A 1)) (c := 2) (r := (some (A 1))) (As := []) (rest := []) (c_Draft_beginsWithDrive l G _ hd) ok_Draft_beginsWithDrive rfl t1 (by decide) rfl lk_SP_244 rfl rfl (Nat.zero_le _) (Nat.le_of_ble_eq_true rfl) (Nat.le_of_ble_eq_true rfl) (Nat.zero_le _) (Nat.zero_le _) dX11_judgeAsPath_27 (sp_kI fun v27 m27 hp27 => ?_)
      obtain ⟨hp27, hp27m⟩ := hp27; replace hp27m := (hp27m).symm; subst hp27m
      refine sp_if_eq X (pc := 30) (tgt := 36) dX11_judgeAsPath_30 (by decide) (fun hb30 => ?_) (fun hb30 => ?_)
      · have hna : ¬ pu_abs R (m.aI (A 8)) d := by
          rintro (z | z)
          · exact hnd ⟨z.1, (hR.dv _).mpr z.2⟩
          · exact hp27.eq hb30 z
        refine sp_aload_n X (pc := 36) (r := some L) dX11_judgeAsPath_36 rfl rfl ?_
        refine sp_callV X (pc := 37) (mc := 0) (ms := 0) (b := L) (c := 0) (r := some L) (As := []) (rest := []) (c_List_size l G _ hLt) ok_List_size rfl hLt (by decide) rfl lk_SP_81 rfl rfl (Nat.zero_le _) (Nat.le_of_ble_eq_true rfl) (Nat.le_of_ble_eq_true rfl) (Nat.zero_le _) (Nat.zero_le _) dX11_judgeAsPath_37 (sp_kI fun v37 m37 hp37 => ?_)
        obtain ⟨hp37v, hp37⟩ := hp37; replace hp37 := (hp37).symm; subst hp37; replace hp37v := (hp37v).symm; subst hp37v
        rw [hL.2.2.1]
        refine sp_bipush X (pc := 40) (v := 8) dX11_judgeAsPath_40 (by decide) ?_
        refine sp_icmp_le X (pc := 42) (tgt := 50) dX11_judgeAsPath_42 (by decide) (fun hb42 => ?_) (fun hb42 => ?_)
        · have g8 : us.length ≤ 8 := (nI_leI (b := 8) (by omega) (by omega)).mp hb42
          refine sp_iconst X (pc := 50) (v := 0) dX11_judgeAsPath_50 (by decide) ?_
          refine sp_istore_n X (pc := 51) (lv' := [(2, false, .int 0), (0, false, va_rf (some (A 17))), (1, false, va_rf (some L))]) dX11_judgeAsPath_51 rfl (by decide) rfl ?_
          refine sp_iconst X (pc := 52) (v := 0) dX11_judgeAsPath_52 (by decide) ?_
          refine sp_istore_n X (pc := 53) (lv' := [(3, false, .int 0), (2, false, .int 0), (0, false, va_rf (some (A 17))), (1, false, va_rf (some L))]) dX11_judgeAsPath_53 rfl (by decide) rfl ?_
          have loop54 : ∀ (dz : Nat) (i : Nat) (x : Int32), i ≤ us.length → pu_er x (pu_U (us.take i)) (pu_B R (us.take i)) (8 < us.length ∨ pu_T (us.take i)) → us.length - i = dz → w 0 0 m 54 [(0, false, va_rf (some (A 17))), (1, false, va_rf (some L)), (2, false, .int x), (3, false, .int (nI i))] [] := by
            intro dz
            induction dz using Nat.strongRecOn with
            | ind dz ih =>
              intro i x hi0 hx hdz
              refine sp_iload_n X (pc := 54) (x := nI i) dX11_judgeAsPath_54 rfl rfl ?_
              refine sp_aload_n X (pc := 55) (r := some L) dX11_judgeAsPath_55 rfl rfl ?_
              refine sp_callV X (pc := 56) (mc := 0) (ms := 0) (b := L) (c := 0) (r := some L) (As := []) (rest := [.int (nI i)]) (c_List_size l G _ hLt) ok_List_size rfl hLt (by decide) rfl lk_SP_81 rfl rfl (by simp [sp_cat_rf, sp_cat_i, sp_cat_l]) (Nat.le_of_ble_eq_true rfl) (Nat.le_of_ble_eq_true rfl) (Nat.zero_le _) (Nat.zero_le _) dX11_judgeAsPath_56 (sp_kI fun v56 m56 hp56 => ?_)
              obtain ⟨hp56v, hp56⟩ := hp56; replace hp56 := (hp56).symm; subst hp56; replace hp56v := (hp56v).symm; subst hp56v
              rw [hL.2.2.1]
              refine sp_icmp_ge X (pc := 59) (tgt := 88) dX11_judgeAsPath_59 (by decide) (fun hb59 => ?_) (fun hb59 => ?_)
              · have hi9 : us.length ≤ i := sp_nge hb59 (by omega) (by omega)
                have hx9 := hx
                rw [List.take_of_length_le hi9] at hx9
                refine sp_iload_n X (pc := 88) (x := x) dX11_judgeAsPath_88 rfl rfl ?_
                refine sp_aload_n X (pc := 89) (r := some (A 17)) dX11_judgeAsPath_89 rfl rfl ?_
                refine sp_getfield X (pc := 90) (c := 12) (i := 2) (t := 2) (a := (A 17)) (v := va_rf (some (A 2))) rfl (by first | assumption | omega) (by decide) rfl (congrArg va_rf (hS.p 770 17 2 (by decide))) fl_SP_28 dX11_judgeAsPath_90 ?_
                refine sp_callV X (pc := 93) (mc := 0) (ms := 0) (b := (A 2)) (c := 0) (r := (some (A 2))) (As := []) (rest := [.int x]) (c_List_size l G _ t2) ok_List_size rfl t2 (by decide) rfl lk_SP_81 rfl rfl (by simp [sp_cat_rf, sp_cat_i, sp_cat_l]) (Nat.le_of_ble_eq_true rfl) (Nat.le_of_ble_eq_true rfl) (Nat.zero_le _) (Nat.zero_le _) dX11_judgeAsPath_93 (sp_kI fun v93 m93 hp93 => ?_)
                obtain ⟨hp93v, hp93⟩ := hp93; replace hp93 := (hp93).symm; subst hp93; replace hp93v := (hp93v).symm; subst hp93v
                rw [li2.2.2.1]
                refine sp_bipush X (pc := 96) (v := 60) dX11_judgeAsPath_96 (by decide) ?_
                refine sp_icmp_lt X (pc := 98) (tgt := 106) dX11_judgeAsPath_98 (by decide) (fun hb98 => ?_) (fun hb98 => ?_)
                · have g60 : s2 < 60 := (nI_ltI (b := 60) (by omega) (by omega)).mp hb98
                  refine sp_iconst X (pc := 106) (v := 0) dX11_judgeAsPath_106 (by decide) ?_
                  refine sp_callS X (pc := 107) (mc := 0) (ms := 0) (As := [.int x, .int 0]) (rest := []) (c_SP_earlierOf l G _ hx.le (by decide)) ok_SP_earlierOf lk_SP_250 rfl rfl (Nat.zero_le _) (Nat.le_of_ble_eq_true rfl) (Nat.le_of_ble_eq_true rfl) (Nat.zero_le _) (Nat.zero_le _) dX11_judgeAsPath_107 (sp_kI fun v107 m107 hp107 => ?_)
                  obtain ⟨hp107, hp107m⟩ := hp107; replace hp107m := (hp107m).symm; subst hp107m
                  refine sp_ireturn X (pc := 110) dX11_judgeAsPath_110 rfl ⟨_, rfl, ?_⟩
                  refine ⟨?_, rfl⟩
                  first
                    | (have q := pu_ea0 _ _ hp107
                       by_cases x0 : x = 0
                       · rw [q]
                         rw [x0] at hx9 ⊢
                         exact Or.inr ⟨⟨hne, hna, hx9, g60⟩, rfl⟩
                       · rw [q]
                         exact Or.inl (Or.inr (Or.inr ⟨hne, hna, Or.inl ⟨x0, hx9⟩⟩)))
                    | (rcases pu_ea6 hx9 hp107 with q | q
                       · rw [q.2]
                         exact Or.inl (Or.inr (Or.inr ⟨hne, hna, Or.inl ⟨q.1, hx9⟩⟩))
                       · rw [q.1] at hx9
                         exact Or.inl (Or.inr (Or.inr ⟨hne, hna, Or.inr ⟨hx9, g60, q.2⟩⟩)))
                · have g60 : ¬ s2 < 60 := fun z => hb98 (nI_lt (b := 60) z (by omega))
                  refine sp_bipush X (pc := 101) (v := (-6)) dX11_judgeAsPath_101 (by decide) ?_
                  refine sp_goto X (pc := 103) (tgt := 107) dX11_judgeAsPath_103 (by decide) ?_
                  refine sp_callS X (pc := 107) (mc := 0) (ms := 0) (As := [.int x, .int (-6)]) (rest := []) (c_SP_earlierOf l G _ hx.le (by decide)) ok_SP_earlierOf lk_SP_250 rfl rfl (Nat.zero_le _) (Nat.le_of_ble_eq_true rfl) (Nat.le_of_ble_eq_true rfl) (Nat.zero_le _) (Nat.zero_le _) dX11_judgeAsPath_107 (sp_kI fun v107 m107 hp107 => ?_)
                  obtain ⟨hp107, hp107m⟩ := hp107; replace hp107m := (hp107m).symm; subst hp107m
                  refine sp_ireturn X (pc := 110) dX11_judgeAsPath_110 rfl ⟨_, rfl, ?_⟩
                  refine ⟨?_, rfl⟩
                  first
                    | (have q := pu_ea0 _ _ hp107
                       by_cases x0 : x = 0
                       · rw [q]
                         rw [x0] at hx9 ⊢
                         exact Or.inr ⟨⟨hne, hna, hx9, g60⟩, rfl⟩
                       · rw [q]
                         exact Or.inl (Or.inr (Or.inr ⟨hne, hna, Or.inl ⟨x0, hx9⟩⟩)))
                    | (rcases pu_ea6 hx9 hp107 with q | q
                       · rw [q.2]
                         exact Or.inl (Or.inr (Or.inr ⟨hne, hna, Or.inl ⟨q.1, hx9⟩⟩))
                       · rw [q.1] at hx9
                         exact Or.inl (Or.inr (Or.inr ⟨hne, hna, Or.inr ⟨hx9, g60, q.2⟩⟩)))
              · have hi : i < us.length := sp_nlt hb59 (by omega)
                obtain ⟨⟨b, hb, hbv⟩, hby⟩ := hus i hi
                obtain ⟨nmb, nms, hnm, -⟩ := id hbv
                have hbt := hnm.1
                refine sp_iload_n X (pc := 62) (x := x) dX11_judgeAsPath_62 rfl rfl ?_
                refine sp_aload_n X (pc := 63) (r := some L) dX11_judgeAsPath_63 rfl rfl ?_
                refine sp_iload_n X (pc := 64) (x := nI i) dX11_judgeAsPath_64 rfl rfl ?_
                refine sp_callV X (pc := 65) (mc := 0) (ms := 0) (b := L) (c := 0) (r := some L) (As := [.int (nI i)]) (rest := [.int x]) (c_List_get l G _ hL hi) ok_List_get rfl hLt (by decide) rfl lk_SP_135 rfl rfl (by simp [sp_cat_rf, sp_cat_i, sp_cat_l]) (Nat.le_of_ble_eq_true rfl) (Nat.le_of_ble_eq_true rfl) (Nat.zero_le _) (Nat.zero_le _) dX11_judgeAsPath_65 (sp_kR fun v65 m65 hp65 => ?_)
                obtain ⟨hp65v, hp65⟩ := hp65; replace hp65 := (hp65).symm; subst hp65; replace hp65v := (hp65v).symm; subst hp65v
                rw [hb]
                refine sp_checkcast X (pc := 68) (a := b) (c := 4) rfl hbt (by decide) cl_SP_106 dX11_judgeAsPath_68 ?_
                refine sp_aload_n X (pc := 71) (r := some (A 17)) dX11_judgeAsPath_71 rfl rfl ?_
                refine sp_getfield X (pc := 72) (c := 12) (i := 0) (t := 2) (a := (A 17)) (v := va_rf (some (A 0))) rfl (by first | assumption | omega) (by decide) rfl (congrArg va_rf (hS.p 768 17 0 (by decide))) fl_SP_12 dX11_judgeAsPath_72 ?_
                refine sp_callV X (pc := 75) (mc := 0) (ms := 0) (b := b) (c := 4) (r := some b) (As := [va_rf (some (A 0))]) (rest := [.int x]) (c_Name_judge l G _ hG hnm t0) ok_Name_judge rfl hbt (by decide) rfl lk_SP_247 rfl rfl (by simp [sp_cat_rf, sp_cat_i, sp_cat_l]) (Nat.le_of_ble_eq_true rfl) (Nat.le_of_ble_eq_true rfl) (Nat.zero_le _) (Nat.zero_le _) dX11_judgeAsPath_75 (sp_kI fun v75 m75 hp75 => ?_)
                obtain ⟨hp75, hp75m⟩ := hp75; replace hp75m := (hp75m).symm; subst hp75m
                have hj75 := sp_jud hI.J (sp_e0 _) hnm hbv hby hR.2.2.2.1 hp75
                refine sp_callS X (pc := 78) (mc := 0) (ms := 0) (As := [.int x, .int v75]) (rest := []) (c_SP_earlierOf l G _ hx.le hj75.le) ok_SP_earlierOf lk_SP_250 rfl rfl (Nat.zero_le _) (Nat.le_of_ble_eq_true rfl) (Nat.le_of_ble_eq_true rfl) (Nat.zero_le _) (Nat.zero_le _) dX11_judgeAsPath_78 (sp_kI fun v78 m78 hp78 => ?_)
                obtain ⟨hp78, hp78m⟩ := hp78; replace hp78m := (hp78m).symm; subst hp78m
                refine sp_istore_n X (pc := 81) (lv' := [(2, false, .int v78), (0, false, va_rf (some (A 17))), (1, false, va_rf (some L)), (3, false, .int (nI i))]) dX11_judgeAsPath_81 rfl (by decide) rfl ?_
                refine sp_iinc X (pc := 82) (v := nI (i + 1)) (lv' := [(3, false, .int (nI (i + 1))), (2, false, .int v78), (0, false, va_rf (some (A 17))), (1, false, va_rf (some L))]) dX11_judgeAsPath_82 rfl (nI_1 i) (by decide) rfl ?_
                refine sp_goto X (pc := 85) (tgt := 54) dX11_judgeAsPath_85 (by decide) ?_
                refine sp_pick X [2, 3, 1, 0] (lv' := [(0, false, va_rf (some (A 17))), (1, false, va_rf (some L)), (2, false, .int v78), (3, false, .int (nI (i + 1)))]) rfl ?_
                exact ih (us.length - (i + 1)) (by omega) (i + 1) v78 (by omega) (by
                  have q := hx.or hj75 hp78
                  rw [pu_take hi]
                  exact q.iff pu_exap.symm pu_exap.symm (by rw [or_assoc]; exact or_congr Iff.rfl pu_exap.symm)) rfl
          refine sp_pick X [2, 3, 1, 0] (lv' := [(0, false, va_rf (some (A 17))), (1, false, va_rf (some L)), (2, false, .int 0), (3, false, .int 0)]) rfl ?_
          first
            | exact loop54 _ 0 0 (Nat.zero_le _) (Or.inr (Or.inr (Or.inr ⟨rfl, (by rintro ⟨u, z, -⟩; cases z), (by rintro ⟨u, z, -⟩; cases z), (by rintro (z | ⟨u, z, -⟩); omega; cases z)⟩))) rfl
            | exact loop54 _ 0 (-5) (Nat.zero_le _) (Or.inr (Or.inr (Or.inl ⟨rfl, (by rintro ⟨u, z, -⟩; cases z), (by rintro ⟨u, z, -⟩; cases z), Or.inl g8⟩))) rfl
        · have g8 : 8 < us.length := Nat.lt_of_not_le fun z => hb42 (nI_le (b := 8) z (by omega))
          refine sp_bipush X (pc := 45) (v := (-5)) dX11_judgeAsPath_45 (by decide) ?_
          refine sp_goto X (pc := 47) (tgt := 51) dX11_judgeAsPath_47 (by decide) ?_
          refine sp_istore_n X (pc := 51) (lv' := [(2, false, .int (-5)), (0, false, va_rf (some (A 17))), (1, false, va_rf (some L))]) dX11_judgeAsPath_51 rfl (by decide) rfl ?_
          refine sp_iconst X (pc := 52) (v := 0) dX11_judgeAsPath_52 (by decide) ?_
          refine sp_istore_n X (pc := 53) (lv' := [(3, false, .int 0), (2, false, .int (-5)), (0, false, va_rf (some (A 17))), (1, false, va_rf (some L))]) dX11_judgeAsPath_53 rfl (by decide) rfl ?_
          have loop54 : ∀ (dz : Nat) (i : Nat) (x : Int32), i ≤ us.length → pu_er x (pu_U (us.take i)) (pu_B R (us.take i)) (8 < us.length ∨ pu_T (us.take i)) → us.length - i = dz → w 0 0 m 54 [(0, false, va_rf (some (A 17))), (1, false, va_rf (some L)), (2, false, .int x), (3, false, .int (nI i))] [] := by
            intro dz
            induction dz using Nat.strongRecOn with
            | ind dz ih =>
              intro i x hi0 hx hdz
              refine sp_iload_n X (pc := 54) (x := nI i) dX11_judgeAsPath_54 rfl rfl ?_
              refine sp_aload_n X (pc := 55) (r := some L) dX11_judgeAsPath_55 rfl rfl ?_
              refine sp_callV X (pc := 56) (mc := 0) (ms := 0) (b := L) (c := 0) (r := some L) (As := []) (rest := [.int (nI i)]) (c_List_size l G _ hLt) ok_List_size rfl hLt (by decide) rfl lk_SP_81 rfl rfl (by simp [sp_cat_rf, sp_cat_i, sp_cat_l]) (Nat.le_of_ble_eq_true rfl) (Nat.le_of_ble_eq_true rfl) (Nat.zero_le _) (Nat.zero_le _) dX11_judgeAsPath_56 (sp_kI fun v56 m56 hp56 => ?_)
              obtain ⟨hp56v, hp56⟩ := hp56; replace hp56 := (hp56).symm; subst hp56; replace hp56v := (hp56v).symm; subst hp56v
              rw [hL.2.2.1]
              refine sp_icmp_ge X (pc := 59) (tgt := 88) dX11_judgeAsPath_59 (by decide) (fun hb59 => ?_) (fun hb59 => ?_)
              · have hi9 : us.length ≤ i := sp_nge hb59 (by omega) (by omega)
                have hx9 := hx
                rw [List.take_of_length_le hi9] at hx9
                refine sp_iload_n X (pc := 88) (x := x) dX11_judgeAsPath_88 rfl rfl ?_
                refine sp_aload_n X (pc := 89) (r := some (A 17)) dX11_judgeAsPath_89 rfl rfl ?_
                refine sp_getfield X (pc := 90) (c := 12) (i := 2) (t := 2) (a := (A 17)) (v := va_rf (some (A 2))) rfl (by first | assumption | omega) (by decide) rfl (congrArg va_rf (hS.p 770 17 2 (by decide))) fl_SP_28 dX11_judgeAsPath_90 ?_
                refine sp_callV X (pc := 93) (mc := 0) (ms := 0) (b := (A 2)) (c := 0) (r := (some (A 2))) (As := []) (rest := [.int x]) (c_List_size l G _ t2) ok_List_size rfl t2 (by decide) rfl lk_SP_81 rfl rfl (by simp [sp_cat_rf, sp_cat_i, sp_cat_l]) (Nat.le_of_ble_eq_true rfl) (Nat.le_of_ble_eq_true rfl) (Nat.zero_le _) (Nat.zero_le _) dX11_judgeAsPath_93 (sp_kI fun v93 m93 hp93 => ?_)
                obtain ⟨hp93v, hp93⟩ := hp93; replace hp93 := (hp93).symm; subst hp93; replace hp93v := (hp93v).symm; subst hp93v
                rw [li2.2.2.1]
                refine sp_bipush X (pc := 96) (v := 60) dX11_judgeAsPath_96 (by decide) ?_
                refine sp_icmp_lt X (pc := 98) (tgt := 106) dX11_judgeAsPath_98 (by decide) (fun hb98 => ?_) (fun hb98 => ?_)
                · have g60 : s2 < 60 := (nI_ltI (b := 60) (by omega) (by omega)).mp hb98
                  refine sp_iconst X (pc := 106) (v := 0) dX11_judgeAsPath_106 (by decide) ?_
                  refine sp_callS X (pc := 107) (mc := 0) (ms := 0) (As := [.int x, .int 0]) (rest := []) (c_SP_earlierOf l G _ hx.le (by decide)) ok_SP_earlierOf lk_SP_250 rfl rfl (Nat.zero_le _) (Nat.le_of_ble_eq_true rfl) (Nat.le_of_ble_eq_true rfl) (Nat.zero_le _) (Nat.zero_le _) dX11_judgeAsPath_107 (sp_kI fun v107 m107 hp107 => ?_)
                  obtain ⟨hp107, hp107m⟩ := hp107; replace hp107m := (hp107m).symm; subst hp107m
                  refine sp_ireturn X (pc := 110) dX11_judgeAsPath_110 rfl ⟨_, rfl, ?_⟩
                  refine ⟨?_, rfl⟩
                  first
                    | (have q := pu_ea0 _ _ hp107
                       by_cases x0 : x = 0
                       · rw [q]
                         rw [x0] at hx9 ⊢
                         exact Or.inr ⟨⟨hne, hna, hx9, g60⟩, rfl⟩
                       · rw [q]
                         exact Or.inl (Or.inr (Or.inr ⟨hne, hna, Or.inl ⟨x0, hx9⟩⟩)))
                    | (rcases pu_ea6 hx9 hp107 with q | q
                       · rw [q.2]
                         exact Or.inl (Or.inr (Or.inr ⟨hne, hna, Or.inl ⟨q.1, hx9⟩⟩))
                       · rw [q.1] at hx9
                         exact Or.inl (Or.inr (Or.inr ⟨hne, hna, Or.inr ⟨hx9, g60, q.2⟩⟩)))
                · have g60 : ¬ s2 < 60 := fun z => hb98 (nI_lt (b := 60) z (by omega))
                  refine sp_bipush X (pc := 101) (v := (-6)) dX11_judgeAsPath_101 (by decide) ?_
                  refine sp_goto X (pc := 103) (tgt := 107) dX11_judgeAsPath_103 (by decide) ?_
                  refine sp_callS X (pc := 107) (mc := 0) (ms := 0) (As := [.int x, .int (-6)]) (rest := []) (c_SP_earlierOf l G _ hx.le (by decide)) ok_SP_earlierOf lk_SP_250 rfl rfl (Nat.zero_le _) (Nat.le_of_ble_eq_true rfl) (Nat.le_of_ble_eq_true rfl) (Nat.zero_le _) (Nat.zero_le _) dX11_judgeAsPath_107 (sp_kI fun v107 m107 hp107 => ?_)
                  obtain ⟨hp107, hp107m⟩ := hp107; replace hp107m := (hp107m).symm; subst hp107m
                  refine sp_ireturn X (pc := 110) dX11_judgeAsPath_110 rfl ⟨_, rfl, ?_⟩
                  refine ⟨?_, rfl⟩
                  first
                    | (have q := pu_ea0 _ _ hp107
                       by_cases x0 : x = 0
                       · rw [q]
                         rw [x0] at hx9 ⊢
                         exact Or.inr ⟨⟨hne, hna, hx9, g60⟩, rfl⟩
                       · rw [q]
                         exact Or.inl (Or.inr (Or.inr ⟨hne, hna, Or.inl ⟨x0, hx9⟩⟩)))
                    | (rcases pu_ea6 hx9 hp107 with q | q
                       · rw [q.2]
                         exact Or.inl (Or.inr (Or.inr ⟨hne, hna, Or.inl ⟨q.1, hx9⟩⟩))
                       · rw [q.1] at hx9
                         exact Or.inl (Or.inr (Or.inr ⟨hne, hna, Or.inr ⟨hx9, g60, q.2⟩⟩)))
              · have hi : i < us.length := sp_nlt hb59 (by omega)
                obtain ⟨⟨b, hb, hbv⟩, hby⟩ := hus i hi
                obtain ⟨nmb, nms, hnm, -⟩ := id hbv
                have hbt := hnm.1
                refine sp_iload_n X (pc := 62) (x := x) dX11_judgeAsPath_62 rfl rfl ?_
                refine sp_aload_n X (pc := 63) (r := some L) dX11_judgeAsPath_63 rfl rfl ?_
                refine sp_iload_n X (pc := 64) (x := nI i) dX11_judgeAsPath_64 rfl rfl ?_
                refine sp_callV X (pc := 65) (mc := 0) (ms := 0) (b := L) (c := 0) (r := some L) (As := [.int (nI i)]) (rest := [.int x]) (c_List_get l G _ hL hi) ok_List_get rfl hLt (by decide) rfl lk_SP_135 rfl rfl (by simp [sp_cat_rf, sp_cat_i, sp_cat_l]) (Nat.le_of_ble_eq_true rfl) (Nat.le_of_ble_eq_true rfl) (Nat.zero_le _) (Nat.zero_le _) dX11_judgeAsPath_65 (sp_kR fun v65 m65 hp65 => ?_)
                obtain ⟨hp65v, hp65⟩ := hp65; replace hp65 := (hp65).symm; subst hp65; replace hp65v := (hp65v).symm; subst hp65v
                rw [hb]
                refine sp_checkcast X (pc := 68) (a := b) (c := 4) rfl hbt (by decide) cl_SP_106 dX11_judgeAsPath_68 ?_
                refine sp_aload_n X (pc := 71) (r := some (A 17)) dX11_judgeAsPath_71 rfl rfl ?_
                refine sp_getfield X (pc := 72) (c := 12) (i := 0) (t := 2) (a := (A 17)) (v := va_rf (some (A 0))) rfl (by first | assumption | omega) (by decide) rfl (congrArg va_rf (hS.p 768 17 0 (by decide))) fl_SP_12 dX11_judgeAsPath_72 ?_
                refine sp_callV X (pc := 75) (mc := 0) (ms := 0) (b := b) (c := 4) (r := some b) (As := [va_rf (some (A 0))]) (rest := [.int x]) (c_Name_judge l G _ hG hnm t0) ok_Name_judge rfl hbt (by decide) rfl lk_SP_247 rfl rfl (by simp [sp_cat_rf, sp_cat_i, sp_cat_l]) (Nat.le_of_ble_eq_true rfl) (Nat.le_of_ble_eq_true rfl) (Nat.zero_le _) (Nat.zero_le _) dX11_judgeAsPath_75 (sp_kI fun v75 m75 hp75 => ?_)
                obtain ⟨hp75, hp75m⟩ := hp75; replace hp75m := (hp75m).symm; subst hp75m
                have hj75 := sp_jud hI.J (sp_e0 _) hnm hbv hby hR.2.2.2.1 hp75
                refine sp_callS X (pc := 78) (mc := 0) (ms := 0) (As := [.int x, .int v75]) (rest := []) (c_SP_earlierOf l G _ hx.le hj75.le) ok_SP_earlierOf lk_SP_250 rfl rfl (Nat.zero_le _) (Nat.le_of_ble_eq_true rfl) (Nat.le_of_ble_eq_true rfl) (Nat.zero_le _) (Nat.zero_le _) dX11_judgeAsPath_78 (sp_kI fun v78 m78 hp78 => ?_)
                obtain ⟨hp78, hp78m⟩ := hp78; replace hp78m := (hp78m).symm; subst hp78m
                refine sp_istore_n X (pc := 81) (lv' := [(2, false, .int v78), (0, false, va_rf (some (A 17))), (1, false, va_rf (some L)), (3, false, .int (nI i))]) dX11_judgeAsPath_81 rfl (by decide) rfl ?_
                refine sp_iinc X (pc := 82) (v := nI (i + 1)) (lv' := [(3, false, .int (nI (i + 1))), (2, false, .int v78), (0, false, va_rf (some (A 17))), (1, false, va_rf (some L))]) dX11_judgeAsPath_82 rfl (nI_1 i) (by decide) rfl ?_
                refine sp_goto X (pc := 85) (tgt := 54) dX11_judgeAsPath_85 (by decide) ?_
                refine sp_pick X [2, 3, 1, 0] (lv' := [(0, false, va_rf (some (A 17))), (1, false, va_rf (some L)), (2, false, .int v78), (3, false, .int (nI (i + 1)))]) rfl ?_
                exact ih (us.length - (i + 1)) (by omega) (i + 1) v78 (by omega) (by
                  have q := hx.or hj75 hp78
                  rw [pu_take hi]
                  exact q.iff pu_exap.symm pu_exap.symm (by rw [or_assoc]; exact or_congr Iff.rfl pu_exap.symm)) rfl
          refine sp_pick X [2, 3, 1, 0] (lv' := [(0, false, va_rf (some (A 17))), (1, false, va_rf (some L)), (2, false, .int (-5)), (3, false, .int 0)]) rfl ?_
          first
            | exact loop54 _ 0 0 (Nat.zero_le _) (Or.inr (Or.inr (Or.inr ⟨rfl, (by rintro ⟨u, z, -⟩; cases z), (by rintro ⟨u, z, -⟩; cases z), (by rintro (z | ⟨u, z, -⟩); omega; cases z)⟩))) rfl
            | exact loop54 _ 0 (-5) (Nat.zero_le _) (Or.inr (Or.inr (Or.inl ⟨rfl, (by rintro ⟨u, z, -⟩; cases z), (by rintro ⟨u, z, -⟩; cases z), Or.inl g8⟩))) rfl
      · have hab : pu_abs R (m.aI (A 8)) d := Or.inr (hp27.ne hb30)
        refine sp_bipush X (pc := 33) (v := (-2)) dX11_judgeAsPath_33 (by decide) ?_
        refine sp_ireturn X (pc := 35) dX11_judgeAsPath_35 rfl ⟨_, rfl, ?_⟩
        exact ⟨Or.inl (Or.inr (Or.inl ⟨hne, hab, rfl⟩)), rfl⟩
  · have hem : us = [] := by
      by_cases z9 : m.fI 2 L = 0
      · rw [hL.2.2.1] at z9
        exact he0.mpr (sp_neq (b := 0) z9 (by omega) (by decide))
      · rw [if_neg z9] at hb4
        exact absurd rfl hb4
    refine sp_iconst X (pc := 7) (v := (-1)) dX11_judgeAsPath_7 (by decide) ?_
    refine sp_ireturn X (pc := 8) dX11_judgeAsPath_8 rfl ⟨_, rfl, ?_⟩
    exact ⟨Or.inl (Or.inl ⟨hem, rfl⟩), rfl⟩
set_option maxRecDepth 20000 in
theorem c_SP_put (l : Launch) (G : sp_G) (m : sp_M) {P : Nat → Prop} {A : Nat → Nat} (hG : sp_GS G) (hI : sp_I G P A m) {d : Nat} {x : Int32} (hP8 : P (A 8)) (hd : sp_dr m (A 1) (A 8) d) : sp_C l G M_SP_put 0 0 [.ref (A 17), .int x] m (sp_oI fun v m' => ((d = 160 ∨ x < 0 ∨ 255 < x) ∧ v = -5 ∧ m' = m) ∨ (¬ (d = 160 ∨ x < 0 ∨ 255 < x) ∧ v = nI (d + 1) ∧ sp_I G P A m' ∧ m' = (m.sI (A 8) d x).pI 129 (A 1) (nI (d + 1)))) := by
  refine sp_enter (lv0 := [(0, false, va_rf (some (A 17))), (1, false, .int x)]) "SafePaths" false rfl (by decide) (fun h => by cases h) (Nat.le_of_ble_eq_true rfl) rfl ?_
  intro w X
  have hS := hI.S
  have t1 := hS.k 1 3 (by decide)
  have t8 := hS.k 8 20 (by decide)
  have t17 := hS.k 17 13 (by decide)
  refine sp_aload_n X (pc := 0) (r := some (A 17)) dX11_put_0 rfl rfl ?_
  refine sp_getfield X (pc := 1) (c := 12) (i := 1) (t := 2) (a := (A 17)) (v := va_rf (some (A 1))) rfl (by first | assumption | omega) (by decide) rfl (congrArg va_rf (hS.p 769 17 1 (by decide))) fl_SP_21 dX11_put_1 ?_
  refine sp_iload_n X (pc := 4) (x := x) dX11_put_4 rfl rfl ?_
  refine sp_callV X (pc := 5) (mc := 0) (ms := 0) (b := (A 1)) (c := 2) (r := (some (A 1))) (As := [.int x]) (rest := []) (c_Draft_append l G _ hd) ok_Draft_append rfl t1 (by decide) rfl lk_SP_69 rfl rfl (Nat.zero_le _) (Nat.le_of_ble_eq_true rfl) (Nat.le_of_ble_eq_true rfl) (Nat.zero_le _) (Nat.zero_le _) dX11_put_5 (sp_kI fun v5 m5 hp5 => ?_)
  refine sp_ireturn X (pc := 8) dX11_put_8 rfl ⟨_, rfl, ?_⟩
  rcases hp5 with z | z
  · exact Or.inl z
  · refine Or.inr ⟨z.1, z.2.1, ?_, z.2.2⟩
    rw [z.2.2]
    have := hd.2.2.2.2.2
    exact (hI.sI (Or.inl hP8) (by rw [t8]; decide)).len (by have := z.1; omega)
