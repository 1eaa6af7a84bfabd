
theorem sp_rol_ne {j : Nat} : sp_ix j → sp_rol j ≠ 105 ∧ sp_rol j % 10 ≠ 0 := by
  rintro (rfl | rfl | rfl | rfl | rfl | rfl | rfl) <;> decide
theorem sp_I.J {G : sp_G} {P : Nat → Prop} {A : Nat → Nat} {m : sp_M} (h : sp_I G P A m) : sp_J G P sp_E0 m := h.1
theorem sp_I.wf {G : sp_G} {P : Nat → Prop} {A : Nat → Nat} {m : sp_M} (h : sp_I G P A m) : sp_wf m := h.2.1
theorem sp_I.S {G : sp_G} {P : Nat → Prop} {A : Nat → Nat} {m : sp_M} (h : sp_I G P A m) : sp_S G m A := h.2.2.1
theorem sp_I.tr {G : sp_G} {P : Nat → Prop} {A : Nat → Nat} {m : sp_M} (h : sp_I G P A m) : sp_tr m A := h.2.2.1.tr
theorem sp_I.pI {G : sp_G} {P : Nat → Prop} {A : Nat → Nat} {m : sp_M} (h : sp_I G P A m) {k a : Nat} {v : Int32} (hk : k ≠ 2 ∧ k ≠ 129 ∧ k ≠ 320 ∧ k ≠ 385 ∧ k ≠ 589) : sp_I G P A (m.pI k a v) :=
  ⟨h.1.pI hk.1, h.2.1, h.2.2.1.fx h.2.1 ((sp_fx.refl m (fun k' a' => k' = k ∧ a' = a, fun _ _ => False, fun _ _ => False, fun _ => False)).pI (Or.inl ⟨rfl, rfl⟩)) (fun _ _ z => z.elim) (fun k' a' z => by rw [z.1]; exact hk) (fun _ z => z.elim), h.2.2.2⟩
theorem sp_I.pL {G : sp_G} {P : Nat → Prop} {A : Nat → Nat} {m : sp_M} (h : sp_I G P A m) {k a : Nat} {v : Int64} : sp_I G P A (m.pL k a v) :=
  ⟨h.1.pL, h.2.1, h.2.2.1.fx h.2.1 ((sp_fx.refl m (fun _ _ => False, fun k' a' => k' = k ∧ a' = a, fun _ _ => False, fun _ => False)).pL (Or.inl ⟨rfl, rfl⟩)) (fun _ _ z => z.elim) (fun k' a' z => z.elim) (fun _ z => z.elim), h.2.2.2⟩
theorem sp_I.sI {G : sp_G} {P : Nat → Prop} {A : Nat → Nat} {m : sp_M} (h : sp_I G P A m) {a j : Nat} {v : Int32} (hP : P a ∨ m.ty a ≠ 20) (h23 : m.ty a ≠ 23) : sp_I G P A (m.sI a j v) :=
  ⟨h.1.sI hP, h.2.1, h.2.2.1.fx h.2.1 ((sp_fx.refl m (fun _ _ => False, fun _ _ => False, fun _ _ => False, fun b => b = a)).sI (Or.inl rfl)) (fun _ _ z => z.elim) (fun k' a' z => z.elim) (fun b z => by rw [z]; exact h23), h.2.2.2⟩
theorem sp_I.sL {G : sp_G} {P : Nat → Prop} {A : Nat → Nat} {m : sp_M} (h : sp_I G P A m) {a j : Nat} {v : Int64} (h23 : m.ty a ≠ 23) : sp_I G P A (m.sL a j v) :=
  ⟨h.1.sL, h.2.1, h.2.2.1.fx h.2.1 ((sp_fx.refl m (fun _ _ => False, fun _ _ => False, fun _ _ => False, fun b => b = a)).sL (Or.inl rfl)) (fun _ _ z => z.elim) (fun k' a' z => z.elim) (fun b z => by rw [z]; exact h23), h.2.2.2⟩
theorem sp_I.pR {G : sp_G} {P : Nat → Prop} {A : Nat → Nat} {m : sp_M} (h : sp_I G P A m) {k a : Nat} {v : Option Nat} (hk : k = 706 ∨ k = 584 ∨ k = 586 ∨ k = 587 ∨ k = 588) (hv : ∀ x, v = some x → m.ty x = if k = 588 then 2 else 6) (hn : k = 706 ∨ k = 584 → v ≠ none) : sp_I G P A (m.pR k a v) := by
  obtain ⟨hJ, hwf, ⟨s1, s2, s3, s4, ⟨⟨f1, r1, r2⟩, ⟨f2, r3, r4⟩, r5, r6, r7⟩, s6, s7⟩, hP⟩ := h
  refine ⟨hJ.pR (Or.inl (by unfold sp_fk; omega)), hwf, ⟨s1, fun t ht => ?_, fun j hj => ?_, s4, ⟨?_, ?_, fun x hx => ?_, fun x hx => ?_, fun x hx => ?_⟩, s6, ?_⟩, hP⟩
  · have q : ∀ t ∈ sp_ptr, t.1 ≠ 706 ∧ t.1 ≠ 584 ∧ t.1 ≠ 586 ∧ t.1 ≠ 587 ∧ t.1 ≠ 588 := by decide
    rw [sp_pR_fR, if_neg (by have := q t ht; omega)]
    exact s2 t ht
  · obtain ⟨g1, ed, s, ⟨e1, e2, e3⟩, g3⟩ := s3 j hj
    exact ⟨g1, ed, s, ⟨e1, by rw [sp_pR_fR, if_neg (by omega)]; exact e2, e3⟩, g3⟩
  · by_cases q : 706 = k ∧ A 6 = a
    · cases hv9 : v with
      | none => exact absurd hv9 (hn (by omega))
      | some x => exact ⟨x, by rw [sp_pR_fR, if_pos q], by have := hv x hv9; rw [if_neg (by omega)] at this; exact this⟩
    · exact ⟨f1, by rw [sp_pR_fR, if_neg q]; exact r1, r2⟩
  · by_cases q : 584 = k ∧ A 7 = a
    · cases hv9 : v with
      | none => exact absurd hv9 (hn (by omega))
      | some x => exact ⟨x, by rw [sp_pR_fR, if_pos q], by have := hv x hv9; rw [if_neg (by omega)] at this; exact this⟩
    · exact ⟨f2, by rw [sp_pR_fR, if_neg q]; exact r3, r4⟩
  · rw [sp_pR_fR] at hx
    split at hx
    · have := hv x hx; rw [if_neg (by omega)] at this; exact this
    · exact r5 x hx
  · rw [sp_pR_fR] at hx
    split at hx
    · have := hv x hx; rw [if_neg (by omega)] at this; exact this
    · exact r6 x hx
  · rw [sp_pR_fR] at hx
    split at hx
    · have := hv x hx; rw [if_pos (by omega)] at this; exact this
    · exact r7 x hx
  · intro ed s hli
    refine s7 ed s ⟨hli.1, ?_, hli.2.2⟩
    have := hli.2.1
    rw [sp_pR_fR, if_neg (by omega)] at this
    exact this
theorem sp_I.dead {G : sp_G} {P : Nat → Prop} {A : Nat → Nat} {m : sp_M} (h : sp_I G P A m) {a : Nat} {v : Int32} (hv : sp_b01 v) : sp_I G P A (m.pI 589 a v) := by
  obtain ⟨hJ, hwf, ⟨s1, s2, s3, s4, s5, s6, s7⟩, hP⟩ := h
  refine ⟨hJ.pI (by decide), hwf, ⟨s1, s2, s3, s4, s5, ⟨s6.1, ?_⟩, s7⟩, hP⟩
  rw [sp_pI_fI]
  split
  · exact hv
  · exact s6.2
/-- a list has changed -/
theorem sp_S.chg {G : sp_G} {P : Nat → Prop} {m m' : sp_M} {A : Nat → Nat} (hS : sp_S G m A) (hJ : sp_J G P sp_E0 m) (hwf : sp_wf m) {j ed s : Nat} (hj : sp_ix j) (hli : sp_li G m (A j) ed s) (hty : ∀ a, m.ty a ≠ 0 → m'.ty a = m.ty a ∧ m'.ln a = m.ln a) (hfR : ∀ k a, a < m.nx → ¬ (k = 1 ∧ a = A j) → m'.fR k a = m.fR k a) (hfI : ∀ k a, a < m.nx → ¬ (k = 0 ∧ a = A j) → ¬ (k = 2 ∧ a = A j) → m'.fI k a = m.fI k a) (haR : ∀ a, m.ty a = 23 → a ≠ ed → m'.aR a = m.aR a) (hj' : ∃ ed' s', sp_li G m' (A j) ed' s' ∧ m'.ln ed' ≤ 2 * sp_mxs j + 10 ∧ s' ≤ sp_mxs j ∧ sp_mns j ≤ s') (h16 : j = 16 → sp_nts G m' A) : sp_S G m' A := by
  have ht : ∀ a c, c ≠ 0 → m.ty a = c → m'.ty a = c := fun a c hc ha => by rw [(hty a (by rw [ha]; exact hc)).1]; exact ha
  have hk0 : ∀ t ∈ sp_knd, t.2 ≠ 0 := by decide
  have hlt : ∀ i c, (i, c) ∈ sp_knd → A i < m.nx := fun i c hi => hwf _ (by rw [hS.k i c hi]; exact hk0 _ hi)
  have l1 := hlt 1 _ (by decide : (1, 3) ∈ sp_knd)
  have l6 := hlt 6 _ (by decide : (6, 12) ∈ sp_knd)
  have l7 := hlt 7 _ (by decide : (7, 10) ∈ sp_knd)
  have l14 := hlt 14 _ (by decide : (14, 6) ∈ sp_knd)
  have hoth : ∀ i, sp_ix i → i ≠ j → ∀ e t, sp_li G m (A i) e t → sp_li G m' (A i) e t := by
    intro i hi hij e t ⟨g1, g2, g3, g4, g5, g6⟩
    have hn := hS.ne hi hj hij
    have li := hlt i 1 hi.k
    have he := hty e (by rcases g6 with q | q <;> omega)
    exact ⟨ht _ _ (by decide) g1, by rw [hfR _ _ li (by omega)]; exact g2, by rw [hfI _ _ li (by omega) (by omega)]; exact g3, by rw [he.2]; exact g4, by rw [he.2]; exact g5, by rw [he.1, he.2]; exact g6⟩
  obtain ⟨s1, s2, s3, s4, ⟨⟨f1, r1, r2⟩, ⟨f2, r3, r4⟩, r5, r6, r7⟩, s6, s7⟩ := hS
  refine ⟨fun t h => ht _ _ (hk0 t h) (s1 t h), fun t h => ?_, fun i hi => ?_, ⟨?_, ?_⟩, ⟨⟨f1, ?_, ht _ _ (by decide) r2⟩, ⟨f2, ?_, ht _ _ (by decide) r4⟩, fun x hx => ?_, fun x hx => ?_, fun x hx => ?_⟩, ⟨?_, ?_⟩, ?_⟩
  · have q : ∀ t ∈ sp_ptr, t.1 ≠ 1 ∧ (sp_knd.map Prod.fst).contains t.2.1 = true := by decide
    have q2 := List.contains_iff_mem.mp (q t h).2
    obtain ⟨⟨x, c⟩, q3, q4⟩ := List.mem_map.mp q2
    rw [hfR _ _ (hlt _ c (by rw [← q4]; exact q3)) (by have := (q t h).1; omega)]
    exact s2 t h
  · have hi1 : m.ty (A i) = 1 := s1 _ hi.k
    refine ⟨by rw [(hty _ (by rw [hi1]; decide)).2]; exact (s3 i hi).1, ?_⟩
    by_cases hij : i = j
    · subst hij; exact hj'
    · obtain ⟨-, e, t, g1, g2, g3⟩ := s3 i hi
      exact ⟨e, t, hoth i hi hij e t g1, by rw [(hty e (by have := g1.2.2.2.2.2; omega)).2]; exact g2, g3⟩
  · rw [(hty _ (by rw [s1 (8, 20) (by decide)]; decide)).2]; exact s4.1
  · rw [hfI _ _ l1 (by omega) (by omega)]; exact s4.2
  · rw [hfR _ _ l6 (by omega)]; exact r1
  · rw [hfR _ _ l7 (by omega)]; exact r3
  · rw [hfR _ _ l7 (by omega)] at hx; exact ht _ _ (by decide) (r5 x hx)
  · rw [hfR _ _ l7 (by omega)] at hx; exact ht _ _ (by decide) (r6 x hx)
  · rw [hfR _ _ l7 (by omega)] at hx; exact ht _ _ (by decide) (r7 x hx)
  · rw [hfI _ _ l14 (by omega) (by omega)]; exact s6.1
  · rw [hfI _ _ l7 (by omega) (by omega)]; exact s6.2
  · by_cases h9 : j = 16
    · exact h16 h9
    · intro e t hl i b hi hb
      have h6 : sp_ix 16 := by unfold sp_ix; omega
      obtain ⟨-, e0, t0, g1, -⟩ := s3 16 h6
      have g2 := hoth 16 h6 (fun z => h9 z.symm) e0 t0 g1
      obtain ⟨rfl, rfl⟩ := sp_sz_fun g2 hl
      have g7 : m.ty e0 = 23 := by
        rcases g1.2.2.2.2.2 with z | z
        · exact z.1
        · have := g1.2.2.2.1; omega
      have hne : e0 ≠ ed := fun z => by
        subst z
        have h8 : A 16 = A j := hJ.2.2.1 _ _ e0 g1.1 hli.1 (sp_e0 _) (sp_e0 _) g1.2.1 hli.2.1 g7
        have h9' := sp_rol_inj h6 hj (by rw [← (s3 16 h6).1, ← (s3 j hj).1, h8])
        omega
      rw [haR e0 g7 hne] at hb
      have g8 := s7 e0 t0 g1 i b hi hb
      exact ⟨ht _ _ (by decide) g8.1, by rw [hfI _ _ (hwf b (by omega)) (by omega) (by omega)]; exact g8.2⟩
theorem sp_I.wl {G : sp_G} {P : Nat → Prop} {m m' : sp_M} {A : Nat → Nat} (h : sp_I G P A m) {j ed s : Nat} (hj : sp_ix j) (hli : sp_li G m (A j) ed s) (hJ' : sp_J G P sp_E0 m') (hw' : sp_wf m') (hfx : sp_fx m m' (sp_wl (A j) ed)) (hl' : ∃ ed' s', sp_li G m' (A j) ed' s' ∧ m'.ln ed' ≤ 2 * sp_mxs j + 10 ∧ s' ≤ sp_mxs j ∧ sp_mns j ≤ s') (hj16 : j ≠ 16) : sp_I G P A m' := by
  refine ⟨hJ', hw', h.2.2.1.chg h.1 h.2.1 hj hli (fun a ha => hfx.2.1 a (h.2.1 a ha)) (fun k a ha hn => hfx.2.2.2.2.1 k a ha hn) (fun k a ha h0 h2 => hfx.2.2.1 k a ha (by rintro ⟨z | z, z2⟩; exact h0 ⟨z, z2⟩; exact h2 ⟨z, z2⟩)) (fun a h1 h2 => (hfx.2.2.2.2.2 a (h.2.1 a (by omega)) h2).2.2) hl' (fun z => absurd z hj16), fun a ha => Nat.lt_of_lt_of_le (h.2.2.2 a ha) hfx.1⟩
theorem sp_I.add {G : sp_G} {P : Nat → Prop} {m m' : sp_M} {A : Nat → Nat} (h : sp_I G P A m) {j ed s b : Nat} (hj : sp_ix j) (hli : sp_li G m (A j) ed s) (had : sp_ad G m (A j) ed s b m') (hs : s < sp_mxs j) (hep : sp_ep m (sp_rol j) b) (hb : j = 16 → sp_b01 (m.fI 385 b)) : sp_I G P A m' := by
  obtain ⟨hJ, hwf, hS, hP⟩ := h
  have hrl := (hS.2.2.1 j hj).1
  have hJ' : sp_J G P sp_E0 m' := hJ.add hwf hli (sp_e0 _) (hJ.npt (by rw [hrl]; exact (sp_rol_ne hj).1)) (by rw [hrl]; exact hep) had
  have hw' := hwf.ad had
  have hn : m.nx ≤ m'.nx := by obtain ⟨ed', q1, q2, q3, q4, q5⟩ := had; rcases q4 with q | q <;> omega
  refine ⟨hJ', hw', ?_, fun a ha => Nat.lt_of_lt_of_le (hP a ha) hn⟩
  obtain ⟨ed', q1, q2, q3, q4, q5, q6, q7, q8, q9⟩ := had
  have hty : ∀ a, m.ty a ≠ 0 → m'.ty a = m.ty a ∧ m'.ln a = m.ln a := fun a ha => by
    have := hwf a ha
    rcases q4 with q | q
    · rw [q.2.2.2.1, q.2.2.2.2]; exact ⟨rfl, rfl⟩
    · rw [q.2.2.2.1, q.2.2.2.2]
      unfold sp_u1
      rw [if_neg (by omega), if_neg (by omega)]
      exact ⟨rfl, rfl⟩
  have hb0 : m.ty b ≠ 0 := by rw [hep.1]; exact (sp_rol_ne hj).2
  refine hS.chg hJ hwf hj hli hty (fun k a _ h => q5 k a h) (fun k a _ h h' => q6 k a h h') (fun a h1 h2 => q9 a (Or.inl h2) (by have := hwf a (by omega); omega)) ⟨ed', s + 1, q1, ?_, hs, ?_⟩ ?_
  rotate_left
  · obtain ⟨-, e0, t0, g1, g2, g3, g4⟩ := hS.2.2.1 j hj
    obtain ⟨rfl, rfl⟩ := sp_sz_fun g1 hli
    omega
  rotate_left
  · obtain ⟨-, e0, t0, g1, g2, g3⟩ := hS.2.2.1 j hj
    obtain ⟨rfl, rfl⟩ := sp_sz_fun g1 hli
    rcases q4 with q | q
    · rw [q.2.2.2.2, q.2.1]; exact g2
    · rw [q.2.2.2.2, q.2.1]
      unfold sp_u1
      rw [if_pos rfl]
      have := sp_cap_le (m.ln e0)
      have := q.1
      have := hli.2.2.2.1
      omega
  · intro h9
    subst h9
    intro e t hl i x hi hx
    obtain ⟨rfl, rfl⟩ := sp_sz_fun q1 hl
    have hbt : m.ty b = 7 := hep.1
    rcases Nat.lt_or_ge i s with z | z
    · rw [q2 i z] at hx
      have g8 := hS.2.2.2.2.2.2 ed s hli i x z hx
      exact ⟨by rw [(hty x (by omega)).1]; exact g8.1, by rw [q6 _ _ (by omega) (by omega)]; exact g8.2⟩
    · rw [show i = s by omega, q3] at hx
      cases hx
      exact ⟨by rw [(hty b (by omega)).1]; exact hbt, by rw [q6 _ _ (by omega) (by omega)]; exact hb rfl⟩
/-- a list has lost its last elements -/
def sp_sh (m m' : sp_M) (o ed s' : Nat) : Prop := m'.nx = m.nx ∧ m'.ty = m.ty ∧ m'.ln = m.ln ∧ m'.fR = m.fR ∧ m'.fL = m.fL ∧ m'.aI = m.aI ∧ m'.aL = m.aL ∧ (∀ k a, ¬ (k = 0 ∧ a = o) → ¬ (k = 2 ∧ a = o) → m'.fI k a = m.fI k a) ∧ m'.fI 2 o = nI s' ∧ (∀ a, a ≠ ed → m'.aR a = m.aR a) ∧ (∀ j, j < s' → m'.aR ed j = m.aR ed j)
theorem sp_sh.rm (m : sp_M) (o ed j : Nat) (x : Int32) : sp_sh m (((m.pI 0 o x).pI 2 o (nI j)).sR ed j none) o ed j := by
  refine ⟨rfl, rfl, rfl, rfl, rfl, rfl, rfl, fun k a h1 h2 => ?_, ?_, fun a ha => ?_, fun i hi => ?_⟩
  · show ((m.pI 0 o x).pI 2 o (nI j)).fI k a = _
    rw [sp_pI_fI, if_neg h2, sp_pI_fI, if_neg h1]
  · show ((m.pI 0 o x).pI 2 o (nI j)).fI 2 o = _
    rw [sp_pI_fI, if_pos ⟨rfl, rfl⟩]
  · funext q; rw [sp_sR_aR, if_neg (by omega)]; rfl
  · rw [sp_sR_aR, if_neg (by omega)]; rfl
theorem sp_sh.cl (m : sp_M) (o ed : Nat) (x : Int32) (f : Nat → Option Nat) : sp_sh m (((m.pI 0 o x).pI 2 o 0).wR ed f) o ed 0 := by
  refine ⟨rfl, rfl, rfl, rfl, rfl, rfl, rfl, fun k a h1 h2 => ?_, ?_, fun a ha => ?_, fun i hi => ?_⟩
  · show ((m.pI 0 o x).pI 2 o 0).fI k a = _
    rw [sp_pI_fI, if_neg h2, sp_pI_fI, if_neg h1]
  · show ((m.pI 0 o x).pI 2 o 0).fI 2 o = _
    rw [sp_pI_fI, if_pos ⟨rfl, rfl⟩]; rfl
  · funext q; rw [sp_wR_aR, if_neg ha]; rfl
  · omega
theorem sp_I.shr {G : sp_G} {P : Nat → Prop} {m m' : sp_M} {A : Nat → Nat} (h : sp_I G P A m) {j ed s s' : Nat} (hj : sp_ix j) (hli : sp_li G m (A j) ed s) (hs : s' ≤ s) (hmn : sp_mns j ≤ s') (hsh : sp_sh m m' (A j) ed s') : sp_I G P A m' ∧ sp_li G m' (A j) ed s' := by
  obtain ⟨hJ, hwf, hS, hP⟩ := h
  obtain ⟨q0, q1, q2, q3, q4, q5, q6, q7, q8, q9, q10⟩ := hsh
  have hrl := (hS.2.2.1 j hj).1
  have hnp := hJ.npt (L := A j) (by rw [hrl]; exact (sp_rol_ne hj).1)
  have hl' : sp_li G m' (A j) ed s' := ⟨by rw [q1]; exact hli.1, by rw [q3]; exact hli.2.1, q8, by rw [q2]; have := hli.2.2.2.1; omega, by rw [q2]; exact hli.2.2.2.2.1, by rw [q1, q2]; exact hli.2.2.2.2.2⟩
  have hty : ∀ a, m.ty a ≠ 0 → m'.ty a = m.ty a ∧ m'.ln a = m.ln a := fun a _ => by rw [q1, q2]; exact ⟨rfl, rfl⟩
  have hed : ∀ a, m.ty a = 1 → a ≠ A j → ∀ e, m.fR 1 a = some e → m.ty e = 23 → e ≠ ed := fun a ha hao e he h23 hee => by
    subst hee
    exact hao (hJ.2.2.1 a _ e ha hli.1 (sp_e0 _) (sp_e0 _) he hli.2.1 h23)
  refine ⟨⟨?_, fun a ha => by rw [q0]; rw [q1] at ha; exact hwf a ha, ?_, fun a ha => by rw [q0]; exact hP a ha⟩, hl'⟩
  · refine hJ.frame (fun a _ => by rw [q1]) (fun a _ => by rw [q2]) (fun k a _ _ _ => by rw [q3]) (fun a _ _ => by rw [q5]) (fun a L h1 h2 h3 h4 => q7 _ _ (by omega) (by rintro ⟨-, z⟩; subst z; exact hnp a h1 h2 h3)) (fun a ha he => ?_) ?_ (fun a h0 h1 h2 => ?_) (fun a h0 h1 h2 => ?_) (fun a h0 h1 h2 => ?_) (fun a h0 h1 h2 => ?_) (fun a h0 h1 h2 => ?_)
    · rw [q1] at ha
      obtain ⟨g1, g2⟩ := hJ.2.1 a ha he
      by_cases hao : a = A j
      · subst hao
        obtain ⟨e0, s0, g3, g4⟩ := g1
        obtain ⟨rfl, rfl⟩ := sp_sz_fun g3 hli
        refine ⟨⟨e0, s', hl', fun i hi => ?_⟩, by rw [q2]; exact g2⟩
        obtain ⟨x, p1, p2, p3⟩ := g4 i (by omega)
        rw [q10 i hi, q2]
        exact ⟨x, p1, by rw [q1]; exact p2, fun z => by rw [q2]; exact p3 z⟩
      · exact g1.same g2 (fun a _ => by rw [q1]) (fun a _ => by rw [q2]) (by rw [q3]) (q7 _ _ (by omega) (by omega)) (fun e he h23 => q9 e (hed a ha hao e he h23))
    · intro a b e h1 h2 he1 he2 h3 h4 h5
      rw [q1] at h1 h2 h5
      rw [q3] at h3 h4
      exact hJ.2.2.1 a b e h1 h2 he1 he2 h3 h4 h5
    all_goals
      exfalso
      rw [q1] at h1
      rcases h0 with h0 | h0
      · rw [h0] at h1; cases h1
      · exact h2 h0
  · obtain ⟨-, e0, t0, g1, g2, g3⟩ := hS.2.2.1 j hj
    obtain ⟨rfl, rfl⟩ := sp_sz_fun g1 hli
    refine hS.chg hJ hwf hj hli hty (fun k a _ _ => by rw [q3]) (fun k a _ h h' => q7 k a h h') (fun a _ h2 => q9 a h2) ⟨e0, s', hl', by rw [q2]; exact g2, by omega, hmn⟩ ?_
    intro h9
    subst h9
    intro e t hl i x hi hx
    obtain ⟨rfl, rfl⟩ := sp_sz_fun hl' hl
    rw [q10 i hi] at hx
    have g8 := hS.2.2.2.2.2.2 e0 t0 hli i x (by omega) hx
    exact ⟨by rw [q1]; exact g8.1, by rw [q7 _ _ (by omega) (by omega)]; exact g8.2⟩
/-- the lists of T -/
def sp_tl (A : Nat → Nat) (T : Nat → Prop) (a : Nat) : Prop := ∃ j, T j ∧ sp_ix j ∧ a = A j
/-- what the class's calls may write: no draft's length, no limits, sizes of the lists T alone, nothing of the model -/
def sp_wc (m : sp_M) (A : Nat → Nat) (T : Nat → Prop) : sp_W := (fun k a => (k = 0 ∨ k = 2) ∧ sp_tl A T a ∨ (k = 326 ∨ k = 327 ∨ k = 582 ∨ k = 585 ∨ k = 589 ∨ k = 707 ∨ k = 708 ∨ k = 776) ∧ T k, fun k _ => k = 583 ∧ T k, fun k a => k = 1 ∧ sp_tl A T a ∨ (k = 706 ∨ k = 584 ∨ k = 586 ∨ k = 587 ∨ k = 588) ∧ T k, fun a => m.ty a = 23 ∧ ¬ ∃ L, L < m.nx ∧ m.ty L = 1 ∧ m.fR 1 L = some a ∧ ¬ sp_tl A T L)
def sp_F (m m' : sp_M) (A : Nat → Nat) (T : Nat → Prop) : Prop := sp_fx m m' (sp_wc m A T)
theorem sp_F.refl (m : sp_M) (A : Nat → Nat) (T : Nat → Prop) : sp_F m m A T := sp_fx.refl _ _
theorem sp_tl.mono {A : Nat → Nat} {T T' : Nat → Prop} {a : Nat} (h : sp_tl A T' a) (hT : ∀ j, T' j → T j) : sp_tl A T a := by
  obtain ⟨j, h1, h2⟩ := h
  exact ⟨j, hT j h1, h2⟩
theorem sp_F.trans {m m1 m2 : sp_M} {A : Nat → Nat} {T T' : Nat → Prop} (h : sp_F m m1 A T) (h' : sp_F m1 m2 A T') (hT : ∀ a, T' a → T a) : sp_F m m2 A T :=
  sp_fx.trans h h' (fun k a _ z => z.imp (fun q => ⟨q.1, q.2.mono hT⟩) (fun q => ⟨q.1, hT _ q.2⟩)) (fun _ _ _ z => ⟨z.1, hT _ z.2⟩) (fun _ _ _ z => z.imp (fun q => ⟨q.1, q.2.mono hT⟩) (fun q => ⟨q.1, hT _ q.2⟩)) (fun a ha z => ⟨((h.2.1 a ha).1).symm.trans z.1, fun ⟨L, q1, q2, q3, q4⟩ => z.2 ⟨L, Nat.lt_of_lt_of_le q1 h.1, ((h.2.1 L q1).1).trans q2, (h.2.2.2.2.1 1 L q1 (by rintro (w | w); exact q4 w.2; omega)).trans q3, fun w => q4 (w.mono hT)⟩⟩)
theorem sp_F.tr {m m1 m2 : sp_M} {A : Nat → Nat} {T : Nat → Prop} (h : sp_F m m1 A T) (h' : sp_F m1 m2 A T) : sp_F m m2 A T := h.trans h' (fun _ z => z)
theorem sp_F.pI {m m1 : sp_M} {A : Nat → Nat} {T : Nat → Prop} (h : sp_F m m1 A T) {k a : Nat} {v : Int32} (hT : T k) (hk : k = 326 ∨ k = 327 ∨ k = 582 ∨ k = 585 ∨ k = 589 ∨ k = 707 ∨ k = 708 ∨ k = 776) : sp_F m (m1.pI k a v) A T := sp_fx.pI h (Or.inl (Or.inr ⟨hk, hT⟩))
theorem sp_F.pL {m m1 : sp_M} {A : Nat → Nat} {T : Nat → Prop} (h : sp_F m m1 A T) {a : Nat} {v : Int64} (hT : T 583) : sp_F m (m1.pL 583 a v) A T := sp_fx.pL h (Or.inl ⟨rfl, hT⟩)
theorem sp_F.L {m m1 : sp_M} {A : Nat → Nat} {T : Nat → Prop} (h : sp_F m m1 A T) {k a : Nat} (ha : a < m.nx) (hk : k = 583 → ¬ T 583) : m1.fL k a = m.fL k a := h.2.2.2.1 k a ha (fun z => hk z.1 (z.1 ▸ z.2))
theorem sp_F.pR {m m1 : sp_M} {A : Nat → Nat} {T : Nat → Prop} (h : sp_F m m1 A T) {k a : Nat} {v : Option Nat} (hT : T k) (hk : k = 706 ∨ k = 584 ∨ k = 586 ∨ k = 587 ∨ k = 588) : sp_F m (m1.pR k a v) A T := sp_fx.pR h (Or.inl (Or.inr ⟨hk, hT⟩))
theorem sp_F.w0 {m m1 m2 : sp_M} {A : Nat → Nat} {T : Nat → Prop} (h : sp_F m m1 A T) (h' : sp_fx m1 m2 sp_w0) : sp_F m m2 A T := sp_fx.tr0 h h'
theorem sp_F.own {G : sp_G} {P : Nat → Prop} {m m1 : sp_M} {A : Nat → Nat} {T : Nat → Prop} {j ed s : Nat} (h : sp_F m m1 A T) (hJ : sp_J G P sp_E0 m1) (hli : sp_li G m1 (A j) ed s) (hj : sp_ix j) (hT : T j) (hz : m1.ty ed = 23) (hlt : ed < m.nx) : (sp_wc m A T).2.2.2 ed :=
  ⟨((h.2.1 ed hlt).1).symm.trans hz, fun ⟨L, q1, q2, q3, q4⟩ => by
    have e := hJ.2.2.1 L (A j) ed (((h.2.1 L q1).1).trans q2) hli.1 (sp_e0 _) (sp_e0 _) ((h.2.2.2.2.1 1 L q1 (by rintro (w | w); exact q4 w.2; omega)).trans q3) hli.2.1 hz
    rw [e] at q4
    exact q4 ⟨j, hT, hj, rfl⟩⟩
theorem sp_F.ad {G : sp_G} {P : Nat → Prop} {m m1 m2 : sp_M} {A : Nat → Nat} {T : Nat → Prop} {j ed s b : Nat} (h : sp_F m m1 A T) (hJ : sp_J G P sp_E0 m1) (hli : sp_li G m1 (A j) ed s) (had : sp_ad G m1 (A j) ed s b m2) (hj : sp_ix j) (hT : T j) : sp_F m m2 A T := by
  have ht : sp_tl A T (A j) := ⟨j, hT, hj, rfl⟩
  refine sp_fx.ad h had (Or.inr ⟨Or.inl ⟨Or.inl rfl, ht⟩, Or.inl ⟨Or.inr rfl, ht⟩, Or.inl ⟨rfl, ht⟩⟩) ?_
  rcases hli.2.2.2.2.2 with z | z
  · by_cases q : ed < m.nx
    · exact Or.inr (Or.inl (h.own hJ hli hj hT z.1 q))
    · left; omega
  · right; right; omega
theorem sp_F.wl {G : sp_G} {P : Nat → Prop} {m m1 m2 : sp_M} {A : Nat → Nat} {T : Nat → Prop} {j ed s : Nat} (h : sp_F m m1 A T) (hJ : sp_J G P sp_E0 m1) (hli : sp_li G m1 (A j) ed s) (h' : sp_fx m1 m2 (sp_wl (A j) ed)) (h25 : m1.ty ed = 25 → m2.aI ed = m1.aI ed ∧ m2.aL ed = m1.aL ed ∧ m2.aR ed = m1.aR ed) (hj : sp_ix j) (hT : T j) : sp_F m m2 A T := by
  have ht : sp_tl A T (A j) := ⟨j, hT, hj, rfl⟩
  obtain ⟨b1, b2, b3, b4, b5, b6⟩ := h'
  have h9 := h
  obtain ⟨a1, a2, a3, a4, a5, a6⟩ := h
  refine ⟨Nat.le_trans a1 b1, fun a ha => ?_, fun k a ha hn => ?_, fun k a ha hn => ?_, fun k a ha hn => ?_, fun a ha hn => ?_⟩
  · have q := b2 a (by omega)
    have r := a2 a ha
    exact ⟨q.1.trans r.1, q.2.trans r.2⟩
  · exact (b3 k a (by omega) (by rintro ⟨z, rfl⟩; exact hn (Or.inl ⟨z, ht⟩))).trans (a3 k a ha hn)
  · exact (b4 k a (by omega) (fun z => z)).trans (a4 k a ha hn)
  · exact (b5 k a (by omega) (by rintro ⟨rfl, rfl⟩; exact hn (Or.inl ⟨rfl, ht⟩))).trans (a5 k a ha hn)
  · have r := a6 a ha hn
    by_cases q : a = ed
    · subst q
      rcases hli.2.2.2.2.2 with z | z
      · exact absurd (h9.own hJ hli hj hT z.1 ha) hn
      · have q9 := h25 z.1
        exact ⟨q9.1.trans r.1, q9.2.1.trans r.2.1, q9.2.2.trans r.2.2⟩
    · have q9 := b6 a (by omega) q
      exact ⟨q9.1.trans r.1, q9.2.1.trans r.2.1, q9.2.2.trans r.2.2⟩
theorem sp_F.shr {G : sp_G} {P : Nat → Prop} {m m1 m2 : sp_M} {A : Nat → Nat} {T : Nat → Prop} {j ed s s' : Nat} (h : sp_F m m1 A T) (hJ : sp_J G P sp_E0 m1) (hli : sp_li G m1 (A j) ed s) (hsh : sp_sh m1 m2 (A j) ed s') (hj : sp_ix j) (hT : T j) (h25 : m1.ty ed = 25 → m2.aR ed = m1.aR ed) : sp_F m m2 A T := by
  have ht : sp_tl A T (A j) := ⟨j, hT, hj, rfl⟩
  obtain ⟨q0, q1, q2, q3, q4, q5, q6, q7, q8, q9, q10⟩ := hsh
  refine ⟨by rw [q0]; exact h.1, fun a ha => by rw [q1, q2]; exact h.2.1 a ha, fun k a ha hn => ?_, fun k a ha hn => by rw [q4]; exact h.2.2.2.1 k a ha hn, fun k a ha hn => by rw [q3]; exact h.2.2.2.2.1 k a ha hn, fun a ha hn => ?_⟩
  · rw [q7 k a (by rintro ⟨rfl, rfl⟩; exact hn (Or.inl ⟨Or.inl rfl, ht⟩)) (by rintro ⟨rfl, rfl⟩; exact hn (Or.inl ⟨Or.inr rfl, ht⟩))]
    exact h.2.2.1 k a ha hn
  · have r := h.2.2.2.2.2 a ha hn
    rw [q5, q6]
    refine ⟨r.1, r.2.1, ?_⟩
    rw [← r.2.2]
    by_cases q : a = ed
    · subst q
      rcases hli.2.2.2.2.2 with z | z
      · exact absurd (h.own hJ hli hj hT z.1 ha) hn
      · exact h25 z.1
    · exact q9 a q
/-- a list that isn't among T -/
theorem sp_F.li {G : sp_G} {m m' : sp_M} {A : Nat → Nat} {T : Nat → Prop} (h : sp_F m m' A T) (hwf : sp_wf m) {L ed s : Nat} (hd : sp_li G m L ed s) (hL : ¬ sp_tl A T L) : sp_li G m' L ed s :=
  sp_fx.li h hwf hd (by rintro (z | z); exact hL z.2; omega) (by rintro (z | z); exact hL z.2; omega)
theorem sp_F.ty {m m' : sp_M} {A : Nat → Nat} {T : Nat → Prop} (h : sp_F m m' A T) (hwf : sp_wf m) {a k : Nat} (ha : m.ty a = k) (hk : k ≠ 0) : m'.ty a = k := sp_fx.ty h hwf ha hk
theorem sp_F.ln {m m' : sp_M} {A : Nat → Nat} {T : Nat → Prop} (h : sp_F m m' A T) (hwf : sp_wf m) {a k : Nat} (ha : m.ty a = k) (hk : k ≠ 0) : m'.ln a = m.ln a := sp_fx.ln h hwf ha hk
theorem sp_F.R {m m' : sp_M} {A : Nat → Nat} {T : Nat → Prop} (h : sp_F m m' A T) {k a : Nat} (ha : a < m.nx) (hk : k ≠ 1 ∧ k ≠ 706 ∧ k ≠ 584 ∧ k ≠ 586 ∧ k ≠ 587 ∧ k ≠ 588) : m'.fR k a = m.fR k a := h.2.2.2.2.1 k a ha (by rintro (z | z) <;> omega)
theorem sp_F.I {m m' : sp_M} {A : Nat → Nat} {T : Nat → Prop} (h : sp_F m m' A T) {k a : Nat} (ha : a < m.nx) (hk : k ≠ 0 ∧ k ≠ 2) (hT : ¬ T k) : m'.fI k a = m.fI k a := h.2.2.1 k a ha (by rintro (z | z); omega; exact hT z.2)
theorem sp_F.R5 {m m' : sp_M} {A : Nat → Nat} {T : Nat → Prop} (h : sp_F m m' A T) {k a : Nat} (ha : a < m.nx) (hk : k ≠ 1) (hT : ¬ T k) : m'.fR k a = m.fR k a := h.2.2.2.2.1 k a ha (by rintro (z | z); omega; exact hT z.2)
theorem sp_tl.o {G : sp_G} {m : sp_M} {A : Nat → Nat} {T : Nat → Prop} {i : Nat} (hS : sp_S G m A) (hi : sp_ix i) (hT : ¬ T i) : ¬ sp_tl A T (A i) := by
  rintro ⟨j, h1, h2, h3⟩
  by_cases z : i = j
  · subst z; exact hT h1
  · exact hS.ne hi h2 z h3
theorem sp_tl.n {G : sp_G} {m : sp_M} {A : Nat → Nat} {T : Nat → Prop} {a : Nat} (hS : sp_S G m A) (h : m.ln a = 105) : ¬ sp_tl A T a := by
  rintro ⟨j, h1, h2, h3⟩
  have := (hS.2.2.1 j h2).1
  rw [← h3, h] at this
  exact (sp_rol_ne h2).1 this.symm
theorem sp_F.pt {G : sp_G} {P : Nat → Prop} {m m' : sp_M} {A : Nat → Nat} {T : Nat → Prop} (h : sp_F m m' A T) (hI : sp_I G P A m) (hI' : sp_I G P A m') {p L ed s : Nat} (hp : sp_pt G m p L ed s) : sp_pt G m' p L ed s := by
  have hpl := hp.1
  have hlt : p < m.nx := hI.wf p (by omega)
  have hp' := h.ty hI.wf hp.1 (by decide)
  obtain ⟨L', ed', s', q⟩ := hI'.J.pt hp'
  have e1 : L' = L := by
    have := q.2.1
    rw [h.R hlt (by decide), hp.2.1] at this
    exact (Option.some.inj this).symm
  subst e1
  have hl := h.li hI.wf hp.2.2.1 (sp_tl.n hI.S (by
    obtain ⟨L9, n9, s9, r1, r2, r3, -⟩ := hI.J.2.2.2.2.2.1 p hp.1 (sp_e0 _)
    rw [hp.2.1] at r1
    cases r1
    exact r3))
  obtain ⟨rfl, rfl⟩ := sp_sz_fun hl q.2.2.1
  exact q
theorem sp_pv.F {G : sp_G} {P : Nat → Prop} {m m' : sp_M} {A : Nat → Nat} {T : Nat → Prop} {pa num : Nat} {us : List (List Int32)} (h : sp_pv G m pa num us) (hI : sp_I G P A m) (hF : sp_F m m' A T) : sp_pv G m' pa num us := by
  have l8 := hI.J.2.2.2.2.2.1 pa h.1 (sp_e0 _)
  obtain ⟨L0, nn0, s0, r1, r2, r3, -⟩ := l8
  refine h.fx hI.wf hF (by rintro (z | z); omega; omega) (by rintro (z | z); omega; omega) (by rintro (z | z); omega; omega) (fun L h1 h2 => ?_) (fun nm _ => ⟨by rintro (z | z); omega; omega, by rintro (z | z); omega; omega⟩) (fun nm b s q z => by have := z.1; have := q.2.2.2.1; omega)
  have e : L0 = L := Option.some.inj (r1.symm.trans h1)
  rw [e] at r2 r3
  have hn : ¬ sp_tl A T L := sp_tl.n hI.S r3
  exact ⟨by rintro (z | z); exact hn z.2; omega, by rintro (z | z); exact hn z.2; omega, fun ed he z => z.2 ⟨L, hI.wf L (by omega), r2, he, hn⟩⟩
def sp_cR (m : sp_M) (A : Nat → Nat) (R : Int32) : Prop := (¬ m.fI 512 (A 0) = 0 ↔ ¬ sp_hr R 1 = 0) ∧ (¬ m.fI 513 (A 0) = 0 ↔ ¬ sp_hr R 2 = 0) ∧ (¬ m.fI 514 (A 0) = 0 ↔ ¬ sp_hr R 4 = 0) ∧ (¬ m.fI 515 (A 0) = 0 ↔ ¬ sp_hr R 8 = 0) ∧ (¬ m.fI 516 (A 0) = 0 ↔ ¬ sp_hr R 16 = 0) ∧ (¬ m.fI 517 (A 0) = 0 ↔ ¬ sp_hr R 32 = 0)
theorem sp_cR.F {G : sp_G} {P : Nat → Prop} {m m' : sp_M} {A : Nat → Nat} {T : Nat → Prop} {R : Int32} (h : sp_cR m A R) (hI : sp_I G P A m) (hF : sp_F m m' A T) : sp_cR m' A R := by
  have l0 : A 0 < m.nx := hI.wf _ (by rw [hI.S.k 0 9 (by decide)]; decide)
  have q : ∀ k, 512 ≤ k → k ≤ 517 → m'.fI k (A 0) = m.fI k (A 0) := fun k h1 h2 => hF.2.2.1 k _ l0 (by rintro (z | z); omega; omega)
  unfold sp_cR at *
  rw [q 512 (by omega) (by omega), q 513 (by omega) (by omega), q 514 (by omega) (by omega), q 515 (by omega) (by omega), q 516 (by omega) (by omega), q 517 (by omega) (by omega)]
  exact h
theorem sp_isUp_pu {m : sp_M} {b : Nat} {u : List Int32} (hl : m.ln b = u.length) (hb : ∀ i, i < u.length → m.aI b i = u.getD i 0) : sp_isUp m b ↔ pu_up u := by
  unfold sp_isUp pu_up
  rw [hl]
  constructor
  · rintro ⟨h1, h2, h3⟩
    exact ⟨h1, by rw [← hb 0 (by omega)]; exact h2, by rw [← hb 1 (by omega)]; exact h3⟩
  · rintro ⟨h1, h2, h3⟩
    exact ⟨h1, by rw [hb 0 (by omega)]; exact h2, by rw [hb 1 (by omega)]; exact h3⟩
theorem sp_ix9 : sp_ix 9 := by unfold sp_ix; omega
theorem sp_ix10 : sp_ix 10 := by unfold sp_ix; omega
theorem sp_nv.F {m m' : sp_M} {A : Nat → Nat} {T : Nat → Prop} {nm : Nat} {u : List Int32} (h : sp_nv m nm u) (hwf : sp_wf m) (hF : sp_F m m' A T) : sp_nv m' nm u :=
  h.gen hwf hF (by rintro (z | z); omega; omega) (by rintro (z | z); omega; omega) (fun b s hn z => by have := z.1; have := hn.2.2.2.1; omega)
theorem sp_tv.F {G : sp_G} {P : Nat → Prop} {m m' : sp_M} {A : Nat → Nat} {Q : Nat → Prop} {R : Int32} {ta tn : Nat} {u : List Int32} (h : sp_tv G m R ta tn u) (hI : sp_I G P A m) (hF : sp_F m m' A Q) : sp_tv G m' R ta tn u := by
  obtain ⟨us, h1, h2, h3⟩ := h
  exact ⟨us, h1, h2.F hI hF, by rw [hF.2.2.1 449 ta (hI.wf ta (by have := h2.1; omega)) (by rintro (z | z); omega; omega)]; exact h3⟩
theorem sp_nd.F {G : sp_G} {P : Nat → Prop} {m m' : sp_M} {A : Nat → Nat} {Q : Nat → Prop} {R : Int32} {TT : Nat → List Int32} {T : pu_N} {NA BA : Nat → Nat} {j : Nat} (h : sp_nd G m R TT T NA BA j) (hI : sp_I G P A m) (hF : sp_F m m' A Q) (h6 : ¬ Q 326) (h7 : ¬ Q 327) : sp_nd G m' R TT T NA BA j := by
  obtain ⟨n1, n2, n3, ⟨nm, n4, n5⟩, ⟨n6, n7, n8⟩, n9, n10, n11⟩ := h
  have hl : NA j < m.nx := hI.wf _ (by omega)
  refine ⟨hF.ty hI.wf n1 (by decide), ?_, ?_, ⟨nm, ?_, n5.F hI.wf hF⟩, ⟨?_, ?_, ?_⟩, ?_, fun z => ?_, fun z => ?_⟩
  · rw [hF.2.2.1 320 _ hl (by rintro (z | z); omega; omega)]; exact n2
  · rw [hF.R hl (by decide)]; exact n3
  · rw [hF.R hl (by decide)]; exact n4
  · rw [hF.2.2.1 325 _ hl (by rintro (z | z); omega; omega)]; exact n6
  · rw [hF.2.2.1 326 _ hl (by rintro (z | z); omega; exact h6 z.2)]; exact n7
  · rw [hF.2.2.1 327 _ hl (by rintro (z | z); omega; exact h7 z.2)]; exact n8
  · rw [hF.R hl (by decide)]; exact n9
  · rw [hF.R hl (by decide)]; exact n10 z
  · obtain ⟨ta, z1, z2⟩ := n11 z
    exact ⟨ta, by rw [hF.R hl (by decide)]; exact z1, z2.F hI hF⟩
theorem sp_F.el {G : sp_G} {P : Nat → Prop} {m m' : sp_M} {A : Nat → Nat} {Q : Nat → Prop} {i ed s : Nat} (hF : sp_F m m' A Q) (hI : sp_I G P A m) (hi : sp_ix i) (hQ : ¬ Q i) (hl : sp_li G m (A i) ed s) : sp_li G m' (A i) ed s ∧ m'.aR ed = m.aR ed ∧ m'.ln ed = m.ln ed := by
  have hn : ¬ sp_tl A Q (A i) := sp_tl.o hI.S hi hQ
  have le : ed < m.nx := hI.wf ed (by have := hl.2.2.2.2.2; omega)
  exact ⟨hF.li hI.wf hl hn, (hF.2.2.2.2.2 ed le (fun z => z.2 ⟨A i, hI.wf _ (by have := hl.1; omega), hl.1, hl.2.1, hn⟩)).2.2, (hF.2.1 ed le).2⟩
theorem sp_cN.F {G : sp_G} {P : Nat → Prop} {m m' : sp_M} {A : Nat → Nat} {Q : Nat → Prop} {R : Int32} {TT : Nat → List Int32} {n : Nat} {T : pu_N} {NA BA : Nat → Nat} (h : sp_cN G m A R TT n T NA BA) (hI : sp_I G P A m) (hF : sp_F m m' A Q) (h9 : ¬ Q 9) (h6 : ¬ Q 326) (h7 : ¬ Q 327) : sp_cN G m' A R TT n T NA BA := by
  obtain ⟨⟨e9, l1, l2⟩, h2, h3⟩ := h
  have q := hF.el hI sp_ix9 h9 l1
  exact ⟨⟨e9, q.1, fun j hj => by rw [q.2.1]; exact l2 j hj⟩, h2, fun j hj => (h3 j hj).F hI hF h6 h7⟩
set_option maxRecDepth 20000 in
theorem c_Tree_contentOf (l : Launch) (G : sp_G) (m : sp_M) {P : Nat → Prop} {A : Nat → Nat} (hJ : sp_J G P sp_E0 m) (ht : sp_tr m A) {f : Nat} (hf : m.ty f = 6) : sp_C l G M_Tree_contentOf 0 0 [.ref (A 5), .ref f] m (sp_oI fun v m' => True ∧ m' = m) := by
  refine sp_enter (lv0 := [(0, false, va_rf (some (A 5))), (1, false, va_rf (some f))]) "SafePaths$Tree" false rfl (by decide) (fun h => by cases h) (Nat.le_of_ble_eq_true rfl) rfl ?_
  intro w X
  obtain ⟨hd1, ⟨nb, hnb, hnbt⟩, hd3, hd4⟩ := hJ.2.2.2.2.1 _ hf (sp_e0 _)
  have t0 := ht.1
  refine sp_aload_n X (pc := 0) (r := some f) dX9_contentOf_0 rfl rfl ?_
  refine sp_getfield X (pc := 1) (c := 5) (i := 7) (t := 0) (a := f) (v := .int (m.fI 327 f)) rfl (by first | assumption | omega) (by decide) rfl rfl fl_Tree_80 dX9_contentOf_1 ?_
  refine sp_if_eq X (pc := 4) (tgt := 9) dX9_contentOf_4 (by decide) (fun hb4 => ?_) (fun hb4 => ?_)
  · refine sp_aload_n X (pc := 9) (r := some f) dX9_contentOf_9 rfl rfl ?_
    refine sp_getfield X (pc := 10) (c := 5) (i := 3) (t := 2) (a := f) (v := va_rf (m.fR 323 f)) rfl (by first | assumption | omega) (by decide) rfl rfl fl_Tree_135 dX9_contentOf_10 ?_
    refine sp_ifnull X (pc := 13) (tgt := 24) dX9_contentOf_13 (by decide) (fun hb13 => ?_) (fun ra13 hb13 => ?_)
    · refine sp_aload_n X (pc := 24) (r := some f) dX9_contentOf_24 rfl rfl ?_
      refine sp_getfield X (pc := 25) (c := 5) (i := 4) (t := 2) (a := f) (v := va_rf (m.fR 324 f)) rfl (by first | assumption | omega) (by decide) rfl rfl fl_Tree_140 dX9_contentOf_25 ?_
      refine sp_ifnull X (pc := 28) (tgt := 41) dX9_contentOf_28 (by decide) (fun hb28 => ?_) (fun ra28 hb28 => ?_)
      · refine sp_aload_n X (pc := 41) (r := some (A 5)) dX9_contentOf_41 rfl rfl ?_
        refine sp_aload_n X (pc := 42) (r := some f) dX9_contentOf_42 rfl rfl ?_
        refine sp_callV X (pc := 43) (mc := 0) (ms := 0) (b := (A 5)) (c := 10) (r := some (A 5)) (As := [va_rf (some f)]) (rest := []) (c_Tree_countIn l G _ hJ ht hf) ok_Tree_countIn rfl (by first | assumption | omega) (by decide) rfl lk_Tree_145 rfl rfl (Nat.zero_le _) (Nat.le_of_ble_eq_true rfl) (Nat.le_of_ble_eq_true rfl) (Nat.zero_le _) (Nat.zero_le _) dX9_contentOf_43 (sp_kI fun v43 m43 hp43 => ?_)
        obtain ⟨hp43, hp43m⟩ := hp43; replace hp43m := (hp43m).symm; subst hp43m
        refine sp_ireturn X (pc := 46) dX9_contentOf_46 rfl ⟨_, rfl, ?_⟩
        exact ⟨trivial, rfl⟩
      · have hbt := hd4 _ hb28
        refine sp_aload_n X (pc := 31) (r := some f) dX9_contentOf_31 rfl rfl ?_
        refine sp_getfield X (pc := 32) (c := 5) (i := 4) (t := 2) (a := f) (v := va_rf (some ra28)) rfl (by first | assumption | omega) (by decide) rfl (congrArg va_rf hb28) fl_Tree_140 dX9_contentOf_32 ?_
        refine sp_getfield X (pc := 35) (c := 7) (i := 0) (t := 0) (a := ra28) (v := .int (m.fI 448 ra28)) rfl hbt (by decide) rfl rfl fl_Tree_144 dX9_contentOf_35 ?_
        refine sp_goto X (pc := 38) (tgt := 46) dX9_contentOf_38 (by decide) ?_
        refine sp_ireturn X (pc := 46) dX9_contentOf_46 rfl ⟨_, rfl, ?_⟩
        exact ⟨trivial, rfl⟩
    · have hbt := hd3 _ hb13
      refine sp_aload_n X (pc := 16) (r := some f) dX9_contentOf_16 rfl rfl ?_
      refine sp_getfield X (pc := 17) (c := 5) (i := 3) (t := 2) (a := f) (v := va_rf (some ra13)) rfl (by first | assumption | omega) (by decide) rfl (congrArg va_rf hb13) fl_Tree_135 dX9_contentOf_17 ?_
      refine sp_getfield X (pc := 20) (c := 1) (i := 0) (t := 0) (a := ra13) (v := .int (m.fI 64 ra13)) rfl hbt (by decide) rfl rfl fl_Tree_139 dX9_contentOf_20 ?_
      refine sp_ireturn X (pc := 23) dX9_contentOf_23 rfl ⟨_, rfl, ?_⟩
      exact ⟨trivial, rfl⟩
  · refine sp_iconst X (pc := 7) (v := (-1)) dX9_contentOf_7 (by decide) ?_
    refine sp_ireturn X (pc := 8) dX9_contentOf_8 rfl ⟨_, rfl, ?_⟩
    exact ⟨trivial, rfl⟩

theorem pu_v0 {g k d s v : Int32} (h : (¬ g = 0 ∧ v = -1) ∨ (g = 0 ∧ ((k = 1 ∧ v = 2) ∨ (k = 2 ∧ ((¬ d = 0 ∧ v = 4) ∨ (d = 0 ∧ v = 3))) ∨ (k = 0 ∧ ((¬ s = 0 ∧ v = 1) ∨ (s = 0 ∧ v = 0)))))) (hg : g = 0) (hk : k = 0) (hs : s = 0) : v = 0 := by
  subst hg hk hs
  rcases h with ⟨a, -⟩ | ⟨-, ⟨a, -⟩ | ⟨a, -⟩ | ⟨-, ⟨a, -⟩ | ⟨-, a⟩⟩⟩
  · exact absurd rfl a
  · exact absurd a (by decide)
  · exact absurd a (by decide)
  · exact absurd rfl a
  · exact a
theorem pu_v2 {g k d s v : Int32} (h : (¬ g = 0 ∧ v = -1) ∨ (g = 0 ∧ ((k = 1 ∧ v = 2) ∨ (k = 2 ∧ ((¬ d = 0 ∧ v = 4) ∨ (d = 0 ∧ v = 3))) ∨ (k = 0 ∧ ((¬ s = 0 ∧ v = 1) ∨ (s = 0 ∧ v = 0)))))) (hg : g = 0) (hk : k = 1) : v = 2 := by
  subst hg hk
  rcases h with ⟨a, -⟩ | ⟨-, ⟨-, a⟩ | ⟨a, -⟩ | ⟨a, -⟩⟩
  · exact absurd rfl a
  · exact a
  · exact absurd a (by decide)
  · exact absurd a (by decide)
set_option maxRecDepth 20000 in
theorem c_Tree_isUntouchedOutside (l : Launch) (G : sp_G) (m : sp_M) {P : Nat → Prop} {A : Nat → Nat} (hJ : sp_J G P sp_E0 m) (ht : sp_tr m A) {R : Int32} {TT : Nat → List Int32} {n nb0 nt0 : Nat} {T : pu_N} {NA BA : Nat → Nat} (hN : sp_cN G m A R TT n T NA BA) (hW : pu_W n nb0 nt0 T) : sp_C l G M_Tree_isUntouchedOutside 0 0 [.ref (A 5)] m (sp_oI fun v m' => v = 1 ∧ m' = m) := by
  refine sp_enter (lv0 := [(0, false, va_rf (some (A 5)))]) "SafePaths$Tree" false rfl (by decide) (fun h => by cases h) (Nat.le_of_ble_eq_true rfl) rfl ?_
  intro w X
  obtain ⟨t0, t1, t2, t3, t4, t5, t6, t7, t8, t9, t10, t11, t12, t13, t14, t15, t16⟩ := ht
  obtain ⟨a0, a1, a2, a3⟩ := hN.2.1
  obtain ⟨⟨w0, w1, w2, w3⟩, ⟨g0, g1, g2, g3⟩, ⟨s0, s2⟩, -⟩ := hW.2.2.2.2.2.2.2
  have n4 := hW.1.1
  have z1 : m.fI 327 (A 12) = 0 := by rw [← a1, (hN.2.2 1 (by omega)).2.2.2.2.1.2.2]; exact g1
  refine sp_aload_n X (pc := 0) (r := some (A 5)) dX9_isUntouchedOutside_0 rfl rfl ?_
  refine sp_getfield X (pc := 1) (c := 10) (i := 3) (t := 2) (a := (A 5)) (v := va_rf (some (A 11))) rfl (by first | assumption | omega) (by decide) rfl (congrArg va_rf t9) fl_Tree_46 dX9_isUntouchedOutside_1 ?_
  refine sp_callV X (pc := 4) (mc := 0) (ms := 0) (b := (A 11)) (c := 5) (r := (some (A 11))) (As := []) (rest := []) (c_Node_state l G _ t10) ok_Node_state rfl t10 (by decide) rfl lk_Tree_124 rfl rfl (Nat.zero_le _) (Nat.le_of_ble_eq_true rfl) (Nat.le_of_ble_eq_true rfl) (Nat.zero_le _) (Nat.zero_le _) dX9_isUntouchedOutside_4 (sp_kI fun v4 m4 hp4 => ?_)
  obtain ⟨hp4, hp4m⟩ := hp4; replace hp4m := (hp4m).symm; subst hp4m
  rw [← a0] at hp4
  have z4 := (hN.2.2 0 (by omega)).state hW (by omega) hp4
  refine sp_if_ne X (pc := 7) (tgt := 45) dX9_isUntouchedOutside_7 (by decide) (fun hb7 => ?_) (fun hb7 => ?_)
  · exact absurd (pu_v0 z4 g0 w0 s0) hb7 --stop
  · refine sp_aload_n X (pc := 10) (r := some (A 5)) dX9_isUntouchedOutside_10 rfl rfl ?_
    refine sp_getfield X (pc := 11) (c := 10) (i := 5) (t := 2) (a := (A 5)) (v := va_rf (some (A 13))) rfl (by first | assumption | omega) (by decide) rfl (congrArg va_rf t13) fl_Tree_59 dX9_isUntouchedOutside_11 ?_
    refine sp_callV X (pc := 14) (mc := 0) (ms := 0) (b := (A 13)) (c := 5) (r := (some (A 13))) (As := []) (rest := []) (c_Node_state l G _ t14) ok_Node_state rfl t14 (by decide) rfl lk_Tree_124 rfl rfl (Nat.zero_le _) (Nat.le_of_ble_eq_true rfl) (Nat.le_of_ble_eq_true rfl) (Nat.zero_le _) (Nat.zero_le _) dX9_isUntouchedOutside_14 (sp_kI fun v14 m14 hp14 => ?_)
    obtain ⟨hp14, hp14m⟩ := hp14; replace hp14m := (hp14m).symm; subst hp14m
    rw [← a2] at hp14
    have z14 := (hN.2.2 2 (by omega)).state hW (by omega) hp14
    refine sp_if_ne X (pc := 17) (tgt := 45) dX9_isUntouchedOutside_17 (by decide) (fun hb17 => ?_) (fun hb17 => ?_)
    · exact absurd (pu_v0 z14 g2 w2 s2) hb17 --stop
    · refine sp_aload_n X (pc := 20) (r := some (A 5)) dX9_isUntouchedOutside_20 rfl rfl ?_
      refine sp_getfield X (pc := 21) (c := 10) (i := 6) (t := 2) (a := (A 5)) (v := va_rf (some (A 14))) rfl (by first | assumption | omega) (by decide) rfl (congrArg va_rf t15) fl_Tree_65 dX9_isUntouchedOutside_21 ?_
      refine sp_callV X (pc := 24) (mc := 0) (ms := 0) (b := (A 14)) (c := 5) (r := (some (A 14))) (As := []) (rest := []) (c_Node_state l G _ t16) ok_Node_state rfl t16 (by decide) rfl lk_Tree_124 rfl rfl (Nat.zero_le _) (Nat.le_of_ble_eq_true rfl) (Nat.le_of_ble_eq_true rfl) (Nat.zero_le _) (Nat.zero_le _) dX9_isUntouchedOutside_24 (sp_kI fun v24 m24 hp24 => ?_)
      obtain ⟨hp24, hp24m⟩ := hp24; replace hp24m := (hp24m).symm; subst hp24m
      rw [← a3] at hp24
      have z24 := (hN.2.2 3 (by omega)).state hW (by omega) hp24
      refine sp_iconst X (pc := 27) (v := 2) dX9_isUntouchedOutside_27 (by decide) ?_
      refine sp_icmp_ne X (pc := 28) (tgt := 45) dX9_isUntouchedOutside_28 (by decide) (fun hb28 => ?_) (fun hb28 => ?_)
      · exact absurd (pu_v2 z24 g3 w3) hb28 --stop
      · refine sp_aload_n X (pc := 31) (r := some (A 5)) dX9_isUntouchedOutside_31 rfl rfl ?_
        refine sp_getfield X (pc := 32) (c := 10) (i := 4) (t := 2) (a := (A 5)) (v := va_rf (some (A 12))) rfl (by first | assumption | omega) (by decide) rfl (congrArg va_rf t11) fl_Tree_53 dX9_isUntouchedOutside_32 ?_
        refine sp_getfield X (pc := 35) (c := 5) (i := 7) (t := 0) (a := (A 12)) (v := .int (m.fI 327 (A 12))) rfl (by first | assumption | omega) (by decide) rfl rfl fl_Tree_80 dX9_isUntouchedOutside_35 ?_
        refine sp_if_ne X (pc := 38) (tgt := 45) dX9_isUntouchedOutside_38 (by decide) (fun hb38 => ?_) (fun hb38 => ?_)
        · exact absurd z1 hb38 --stop
        · refine sp_iconst X (pc := 41) (v := 1) dX9_isUntouchedOutside_41 (by decide) ?_
          refine sp_goto X (pc := 42) (tgt := 46) dX9_isUntouchedOutside_42 (by decide) ?_
          refine sp_ireturn X (pc := 46) dX9_isUntouchedOutside_46 rfl ⟨_, rfl, ?_⟩
          exact ⟨rfl, rfl⟩
set_option maxRecDepth 20000 in
theorem c_Tree_isAllElseBelowRoot (l : Launch) (G : sp_G) (m : sp_M) {P : Nat → Prop} {A : Nat → Nat} (hI : sp_I G P A m) {R : Int32} {TT : Nat → List Int32} {n nb0 nt0 : Nat} {T : pu_N} {NA BA : Nat → Nat} (hN : sp_cN G m A R TT n T NA BA) (hW : pu_W n nb0 nt0 T) : sp_C l G M_Tree_isAllElseBelowRoot 0 0 [.ref (A 5)] m (sp_oI fun v m' => v = 1 ∧ m' = m) := by
  refine sp_enter (lv0 := [(0, false, va_rf (some (A 5)))]) "SafePaths$Tree" false rfl (by decide) (fun h => by cases h) (Nat.le_of_ble_eq_true rfl) rfl ?_
  intro w X
  have hJ := hI.J
  have hwf := hI.wf
  have hS := hI.S
  have ht := hI.tr
  obtain ⟨t0, t1, t2, t3, t4, t5, t6, t7, t8, t9, t10, t11, t12, t13, t14, t15, t16⟩ := ht
  obtain ⟨ed, s, hli, hel6⟩ := hJ.lst t4 t5
  have hsz := hli.2.2.1
  have hs9 : s < 2 ^ 31 := by have := hli.2.2.2.1; have := hli.2.2.2.2.1; omega
  obtain ⟨⟨e9, l9, el9⟩, hNA, hND⟩ := id hN
  obtain ⟨hed9, hs99⟩ := sp_sz_fun l9 hli
  subst hed9 hs99
  have h200 := hW.1.2
  have hin := hW.2.2.2.2.2.2.2.2.2.2.2
  have hk3 := hS.2.2.2.2.2.1.1
  refine sp_aload_n X (pc := 0) (r := some (A 5)) dX9_isAllElseBelowRoot_0 rfl rfl ?_
  refine sp_getfield X (pc := 1) (c := 10) (i := 6) (t := 2) (a := (A 5)) (v := va_rf (some (A 14))) rfl (by first | assumption | omega) (by decide) rfl (congrArg va_rf t15) fl_Tree_65 dX9_isAllElseBelowRoot_1 ?_
  refine sp_getfield X (pc := 4) (c := 5) (i := 0) (t := 0) (a := (A 14)) (v := .int (nI 3)) rfl (by first | assumption | omega) (by decide) rfl (congrArg Value.int hk3) fl_Tree_127 dX9_isAllElseBelowRoot_4 ?_
  refine sp_iconst X (pc := 7) (v := 1) dX9_isAllElseBelowRoot_7 (by decide) ?_
  refine sp_iadd X (pc := 8) dX9_isAllElseBelowRoot_8 ?_
  rw [show ((nI 3) + 1) = nI 4 from rfl]
  refine sp_istore_n X (pc := 9) (lv' := [(1, false, .int (nI 4)), (0, false, va_rf (some (A 5)))]) dX9_isAllElseBelowRoot_9 rfl (by decide) rfl ?_
  have loop10 : ∀ (dz : Nat) (i : Nat), 4 ≤ i → i ≤ n + 4 → n + 4 - i = dz → w 0 0 m 10 [(0, false, va_rf (some (A 5))), (1, false, .int (nI i))] [] := by
    intro dz
    induction dz using Nat.strongRecOn with
    | ind dz ih =>
      intro i hi4 hi0 hdz
      refine sp_iload_n X (pc := 10) (x := nI i) dX9_isAllElseBelowRoot_10 rfl rfl ?_
      refine sp_aload_n X (pc := 11) (r := some (A 5)) dX9_isAllElseBelowRoot_11 rfl rfl ?_
      refine sp_getfield X (pc := 12) (c := 10) (i := 1) (t := 2) (a := (A 5)) (v := va_rf (some (A 9))) rfl (by first | assumption | omega) (by decide) rfl (congrArg va_rf t3) fl_Tree_16 dX9_isAllElseBelowRoot_12 ?_
      refine sp_callV X (pc := 15) (mc := 0) (ms := 0) (b := (A 9)) (c := 0) (r := (some (A 9))) (As := []) (rest := [.int (nI i)]) (c_List_size l G _ t4) ok_List_size rfl (by first | assumption | omega) (by decide) rfl lk_Tree_72 rfl rfl (by simp [sp_cat_rf, sp_cat_i, sp_cat_l]) (Nat.le_of_ble_eq_true rfl) (Nat.le_of_ble_eq_true rfl) (Nat.zero_le _) (Nat.zero_le _) dX9_isAllElseBelowRoot_15 (sp_kI fun v15 m15 hp15 => ?_)
      obtain ⟨hp15v, hp15⟩ := hp15; replace hp15 := (hp15).symm; subst hp15; replace hp15v := (hp15v).symm; subst hp15v
      rw [hsz]
      refine sp_icmp_ge X (pc := 18) (tgt := 64) dX9_isAllElseBelowRoot_18 (by decide) (fun hb18 => ?_) (fun hb18 => ?_)
      · have hi : n ≤ i := sp_nge hb18 (by omega) (by omega)
        refine sp_iconst X (pc := 64) (v := 1) dX9_isAllElseBelowRoot_64 (by decide) ?_
        refine sp_ireturn X (pc := 65) dX9_isAllElseBelowRoot_65 rfl ⟨_, rfl, ?_⟩
        exact ⟨rfl, rfl⟩
      · have hi : i < n := sp_nlt hb18 (by omega)
        have hb := el9 i hi
        have hbt := (hND i hi).1
        refine sp_aload_n X (pc := 21) (r := some (A 5)) dX9_isAllElseBelowRoot_21 rfl rfl ?_
        refine sp_getfield X (pc := 22) (c := 10) (i := 1) (t := 2) (a := (A 5)) (v := va_rf (some (A 9))) rfl (by first | assumption | omega) (by decide) rfl (congrArg va_rf t3) fl_Tree_16 dX9_isAllElseBelowRoot_22 ?_
        refine sp_iload_n X (pc := 25) (x := nI i) dX9_isAllElseBelowRoot_25 rfl rfl ?_
        refine sp_callV X (pc := 26) (mc := 0) (ms := 0) (b := (A 9)) (c := 0) (r := (some (A 9))) (As := [.int (nI i)]) (rest := []) (c_List_get l G _ hli hi) ok_List_get rfl (by first | assumption | omega) (by decide) rfl lk_Tree_76 rfl rfl (Nat.zero_le _) (Nat.le_of_ble_eq_true rfl) (Nat.le_of_ble_eq_true rfl) (Nat.zero_le _) (Nat.zero_le _) dX9_isAllElseBelowRoot_26 (sp_kR fun v26 m26 hp26 => ?_)
        obtain ⟨hp26v, hp26⟩ := hp26; replace hp26 := (hp26).symm; subst hp26; replace hp26v := (hp26v).symm; subst hp26v
        rw [hb]
        refine sp_checkcast X (pc := 29) (a := (NA i)) (c := 5) rfl hbt (by decide) cl_Tree_30 dX9_isAllElseBelowRoot_29 ?_
        refine sp_getfield X (pc := 32) (c := 5) (i := 7) (t := 0) (a := (NA i)) (v := .int (m.fI 327 (NA i))) rfl hbt (by decide) rfl rfl fl_Tree_80 dX9_isAllElseBelowRoot_32 ?_
        refine sp_if_ne X (pc := 35) (tgt := 58) dX9_isAllElseBelowRoot_35 (by decide) (fun hb35 => ?_) (fun hb35 => ?_)
        · refine sp_iinc X (pc := 58) (v := nI (i + 1)) (lv' := [(1, false, .int (nI (i + 1))), (0, false, va_rf (some (A 5)))]) dX9_isAllElseBelowRoot_58 rfl (nI_1 i) (by decide) rfl ?_
          refine sp_goto X (pc := 61) (tgt := 10) dX9_isAllElseBelowRoot_61 (by decide) ?_
          refine sp_pick X [1, 0] (lv' := [(0, false, va_rf (some (A 5))), (1, false, .int (nI (i + 1)))]) rfl ?_
          exact ih (n + 4 - (i + 1)) (by omega) (i + 1) (by omega) (by omega) rfl
        · refine sp_aload_n X (pc := 38) (r := some (A 5)) dX9_isAllElseBelowRoot_38 rfl rfl ?_
          refine sp_aload_n X (pc := 39) (r := some (A 5)) dX9_isAllElseBelowRoot_39 rfl rfl ?_
          refine sp_getfield X (pc := 40) (c := 10) (i := 1) (t := 2) (a := (A 5)) (v := va_rf (some (A 9))) rfl (by first | assumption | omega) (by decide) rfl (congrArg va_rf t3) fl_Tree_16 dX9_isAllElseBelowRoot_40 ?_
          refine sp_iload_n X (pc := 43) (x := nI i) dX9_isAllElseBelowRoot_43 rfl rfl ?_
          refine sp_callV X (pc := 44) (mc := 0) (ms := 0) (b := (A 9)) (c := 0) (r := (some (A 9))) (As := [.int (nI i)]) (rest := [va_rf (some (A 5))]) (c_List_get l G _ hli hi) ok_List_get rfl (by first | assumption | omega) (by decide) rfl lk_Tree_76 rfl rfl (by simp [sp_cat_rf, sp_cat_i, sp_cat_l]) (Nat.le_of_ble_eq_true rfl) (Nat.le_of_ble_eq_true rfl) (Nat.zero_le _) (Nat.zero_le _) dX9_isAllElseBelowRoot_44 (sp_kR fun v44 m44 hp44 => ?_)
          obtain ⟨hp44v, hp44⟩ := hp44; replace hp44 := (hp44).symm; subst hp44; replace hp44v := (hp44v).symm; subst hp44v
          rw [hb]
          refine sp_checkcast X (pc := 47) (a := (NA i)) (c := 5) rfl hbt (by decide) cl_Tree_30 dX9_isAllElseBelowRoot_47 ?_
          refine sp_callV X (pc := 50) (mc := 0) (ms := 0) (b := (A 5)) (c := 10) (r := some (A 5)) (As := [va_rf (some (NA i))]) (rest := []) (c_Tree_isOutside l G _ hJ hI.tr hN hW hi) ok_Tree_isOutside rfl (by first | assumption | omega) (by decide) rfl lk_Tree_131 rfl rfl (Nat.zero_le _) (Nat.le_of_ble_eq_true rfl) (Nat.le_of_ble_eq_true rfl) (Nat.zero_le _) (Nat.zero_le _) dX9_isAllElseBelowRoot_50 (sp_kI fun v50 m50 hp50 => ?_)
          obtain ⟨hp50, hp50m⟩ := hp50; replace hp50m := (hp50m).symm; subst hp50m
          refine sp_if_eq X (pc := 53) (tgt := 58) dX9_isAllElseBelowRoot_53 (by decide) (fun hb53 => ?_) (fun hb53 => ?_)
          · refine sp_iinc X (pc := 58) (v := nI (i + 1)) (lv' := [(1, false, .int (nI (i + 1))), (0, false, va_rf (some (A 5)))]) dX9_isAllElseBelowRoot_58 rfl (nI_1 i) (by decide) rfl ?_
            refine sp_goto X (pc := 61) (tgt := 10) dX9_isAllElseBelowRoot_61 (by decide) ?_
            refine sp_pick X [1, 0] (lv' := [(0, false, va_rf (some (A 5))), (1, false, .int (nI (i + 1)))]) rfl ?_
            exact ih (n + 4 - (i + 1)) (by omega) (i + 1) (by omega) (by omega) rfl
          · exact absurd (hin i hi4 hi) (hp50.ne hb53) --stop
  refine sp_pick X [1, 0] (lv' := [(0, false, va_rf (some (A 5))), (1, false, .int (nI 4))]) rfl ?_
  exact loop10 _ 4 (by omega) (by omega) rfl
