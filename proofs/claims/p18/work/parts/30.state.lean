
/-! THE CLASS'S STATE -/
def sp_knd : List (Nat × Nat) := [(0, 9), (1, 3), (2, 1), (3, 1), (4, 1), (5, 11), (6, 12), (7, 10), (8, 20), (9, 1), (10, 1), (11, 6), (12, 6), (13, 6), (14, 6), (15, 1), (16, 1), (17, 13)]
def sp_ptr : List (Nat × Nat × Nat) := [(640, 5, 0), (641, 5, 9), (642, 5, 10), (643, 5, 11), (644, 5, 12), (645, 5, 13), (646, 5, 14), (128, 1, 8), (704, 6, 5), (705, 6, 15), (576, 7, 0), (577, 7, 5), (578, 7, 6), (579, 7, 16), (768, 17, 0), (769, 17, 1), (770, 17, 2), (771, 17, 3), (772, 17, 4), (773, 17, 5), (774, 17, 6), (775, 17, 7)]
/-- the lists' places -/
def sp_ix (j : Nat) : Prop := j = 2 ∨ j = 3 ∨ j = 4 ∨ j = 9 ∨ j = 10 ∨ j = 15 ∨ j = 16
def sp_rol (j : Nat) : Nat := if j = 2 then 8 else if j = 3 then 18 else if j = 4 then 4 else if j = 9 then 6 else if j = 10 then 2 else if j = 15 then 5 else 7
def sp_mxs (j : Nat) : Nat := if j = 2 then 60 else if j = 3 then 40 else if j = 4 then 100 else if j = 9 then 200 else if j = 10 then 300 else if j = 15 then 3400 else 512
def sp_mns (j : Nat) : Nat := if j = 9 then 4 else if j = 10 then 1 else 0
def sp_lo (G : sp_G) (m : sp_M) (A : Nat → Nat) (j : Nat) : Prop := m.ln (A j) = sp_rol j ∧ ∃ ed s, sp_li G m (A j) ed s ∧ m.ln ed ≤ 2 * sp_mxs j + 10 ∧ s ≤ sp_mxs j ∧ sp_mns j ≤ s
/-- the references that change -/
def sp_rf5 (m : sp_M) (A : Nat → Nat) : Prop := (∃ f, m.fR 706 (A 6) = some f ∧ m.ty f = 6) ∧ (∃ f, m.fR 584 (A 7) = some f ∧ m.ty f = 6) ∧ (∀ x, m.fR 586 (A 7) = some x → m.ty x = 6) ∧ (∀ x, m.fR 587 (A 7) = some x → m.ty x = 6) ∧ (∀ x, m.fR 588 (A 7) = some x → m.ty x = 2)
/-- the notes' rights are 0 or 1 -/
def sp_nts (G : sp_G) (m : sp_M) (A : Nat → Nat) : Prop := ∀ ed s, sp_li G m (A 16) ed s → ∀ j b, j < s → m.aR ed j = some b → m.ty b = 7 ∧ sp_b01 (m.fI 385 b)
def sp_S (G : sp_G) (m : sp_M) (A : Nat → Nat) : Prop := (∀ t ∈ sp_knd, m.ty (A t.1) = t.2) ∧ (∀ t ∈ sp_ptr, m.fR t.1 (A t.2.1) = some (A t.2.2)) ∧ (∀ j, sp_ix j → sp_lo G m A j) ∧ (m.ln (A 8) = 160 ∧ ∃ d, m.fI 129 (A 1) = nI d ∧ d ≤ 160) ∧ sp_rf5 m A ∧ (m.fI 320 (A 14) = 3 ∧ sp_b01 (m.fI 589 (A 7))) ∧ sp_nts G m A
def sp_I (G : sp_G) (P : Nat → Prop) (A : Nat → Nat) (m : sp_M) : Prop := sp_J G P sp_E0 m ∧ sp_wf m ∧ sp_S G m A ∧ ∀ a, P a → a < m.nx
theorem sp_rol_inj {i j : Nat} : sp_ix i → sp_ix j → sp_rol i = sp_rol j → i = j := by
  rintro (rfl | rfl | rfl | rfl | rfl | rfl | rfl) (rfl | rfl | rfl | rfl | rfl | rfl | rfl) h <;> first | rfl | exact absurd h (by decide)
theorem sp_S.k {G : sp_G} {m : sp_M} {A : Nat → Nat} (h : sp_S G m A) (i c : Nat) (hi : (i, c) ∈ sp_knd) : m.ty (A i) = c := h.1 (i, c) hi
theorem sp_S.p {G : sp_G} {m : sp_M} {A : Nat → Nat} (h : sp_S G m A) (k i j : Nat) (hi : (k, i, j) ∈ sp_ptr) : m.fR k (A i) = some (A j) := h.2.1 (k, i, j) hi
theorem sp_ix.k {j : Nat} : sp_ix j → (j, 1) ∈ sp_knd := by rintro (rfl | rfl | rfl | rfl | rfl | rfl | rfl) <;> decide
theorem sp_S.tr {G : sp_G} {m : sp_M} {A : Nat → Nat} (h : sp_S G m A) : sp_tr m A :=
  ⟨h.k 5 _ (by decide), h.p 640 5 0 (by decide), h.k 0 _ (by decide), h.p 641 5 9 (by decide), h.k 9 _ (by decide), (h.2.2.1 9 (by unfold sp_ix; omega)).1, h.p 642 5 10 (by decide), h.k 10 _ (by decide), (h.2.2.1 10 (by unfold sp_ix; omega)).1, h.p 643 5 11 (by decide), h.k 11 _ (by decide), h.p 644 5 12 (by decide), h.k 12 _ (by decide), h.p 645 5 13 (by decide), h.k 13 _ (by decide), h.p 646 5 14 (by decide), h.k 14 _ (by decide)⟩
theorem sp_S.ne {G : sp_G} {m : sp_M} {A : Nat → Nat} (h : sp_S G m A) {i j : Nat} (hi : sp_ix i) (hj : sp_ix j) (hij : i ≠ j) : A i ≠ A j := fun z => hij (sp_rol_inj hi hj (by rw [← (h.2.2.1 i hi).1, ← (h.2.2.1 j hj).1, z]))
/-- a frame that writes nothing of the class's state -/
theorem sp_S.fx {G : sp_G} {m m' : sp_M} {A : Nat → Nat} {w : sp_W} (hS : sp_S G m A) (hwf : sp_wf m) (h : sp_fx m m' w) (h1 : ∀ k a, w.2.2.1 k a → 832 ≤ k) (h2 : ∀ k a, w.1 k a → k ≠ 2 ∧ k ≠ 129 ∧ k ≠ 320 ∧ k ≠ 385 ∧ k ≠ 589) (h4 : ∀ a, w.2.2.2 a → m.ty a ≠ 23) : sp_S G m' A := by
  have hk := hS.1
  have hlt : ∀ i c, (i, c) ∈ sp_knd → A i < m.nx := fun i c hi => hwf _ (by
    rw [hS.k i c hi]
    have : ∀ t ∈ sp_knd, t.2 ≠ 0 := by decide
    exact this _ hi)
  have hty : ∀ a c, c ≠ 0 → m.ty a = c → m'.ty a = c := fun a c hc ha => h.ty hwf ha hc
  have hR : ∀ k a, k < 832 → a < m.nx → m'.fR k a = m.fR k a := fun k a hk ha => h.2.2.2.2.1 k a ha (fun z => by have := h1 k a z; omega)
  have h16 : A 16 < m.nx := hlt 16 1 (by decide)
  have l6 := hlt 6 _ (by decide : (6, 12) ∈ sp_knd)
  have l7 := hlt 7 _ (by decide : (7, 10) ∈ sp_knd)
  refine ⟨fun t ht => ?_, fun t ht => ?_, fun j hj => ?_, ⟨?_, ?_⟩, ?_, ⟨?_, ?_⟩, ?_⟩
  · have : ∀ t ∈ sp_knd, t.2 ≠ 0 := by decide
    exact hty _ _ (this t ht) (hk t ht)
  · have q : ∀ t ∈ sp_ptr, t.1 < 832 ∧ ∃ c, (t.2.1, c) ∈ sp_knd := by
      have q1 : ∀ t ∈ sp_ptr, t.1 < 832 ∧ (sp_knd.map Prod.fst).contains t.2.1 = true := by decide
      intro t ht
      refine ⟨(q1 t ht).1, ?_⟩
      have q2 := List.contains_iff_mem.mp (q1 t ht).2
      obtain ⟨⟨x, c⟩, q3, q4⟩ := List.mem_map.mp q2
      exact ⟨c, by rw [← q4]; exact q3⟩
    obtain ⟨q2, c, q3⟩ := q t ht
    rw [hR _ _ q2 (hlt _ c q3)]
    exact hS.2.1 t ht
  · obtain ⟨g1, ed, s, g2, g3, g4⟩ := hS.2.2.1 j hj
    have g5 : ed < m.nx := hwf ed (by have := g2.2.2.2.2.2; omega)
    refine ⟨by rw [(h.2.1 _ (hlt j 1 hj.k)).2]; exact g1, ed, s, h.li hwf g2 (fun z => (h2 _ _ z).1 rfl) (fun z => by have := h1 _ _ z; omega), by rw [(h.2.1 ed g5).2]; exact g3, g4⟩
  · rw [(h.2.1 _ (hlt 8 20 (by decide))).2]; exact hS.2.2.2.1.1
  · rw [h.2.2.1 _ _ (hlt 1 _ (by decide : (1, 3) ∈ sp_knd)) (fun z => (h2 _ _ z).2.1 rfl)]; exact hS.2.2.2.1.2
  · obtain ⟨⟨f1, r1, r2⟩, ⟨f2, r3, r4⟩, r5, r6, r7⟩ := hS.2.2.2.2.1
    refine ⟨⟨f1, by rw [hR _ _ (by decide) l6]; exact r1, hty _ _ (by decide) r2⟩, ⟨f2, by rw [hR _ _ (by decide) l7]; exact r3, hty _ _ (by decide) r4⟩, fun x hx => ?_, fun x hx => ?_, fun x hx => ?_⟩
    all_goals rw [hR _ _ (by decide) l7] at hx
    · exact hty _ _ (by decide) (r5 x hx)
    · exact hty _ _ (by decide) (r6 x hx)
    · exact hty _ _ (by decide) (r7 x hx)
  · rw [h.2.2.1 _ _ (hlt 14 _ (by decide : (14, 6) ∈ sp_knd)) (fun z => (h2 _ _ z).2.2.1 rfl)]; exact hS.2.2.2.2.2.1.1
  · rw [h.2.2.1 _ _ l7 (fun z => (h2 _ _ z).2.2.2.2 rfl)]; exact hS.2.2.2.2.2.1.2
  · intro ed s hli j b hj hb
    obtain ⟨g1, ed0, s0, g2, g3, g4⟩ := hS.2.2.1 16 (by unfold sp_ix; omega)
    have g6 := h.li hwf g2 (fun z => (h2 _ _ z).1 rfl) (fun z => by have := h1 _ _ z; omega)
    obtain ⟨rfl, rfl⟩ := sp_sz_fun g6 hli
    have g5 : ed0 < m.nx := hwf ed0 (by have := g2.2.2.2.2.2; omega)
    have g7 : m.ty ed0 = 23 := by
      rcases g2.2.2.2.2.2 with z | z
      · exact z.1
      · have := g2.2.2.2.1; omega
    rw [(h.2.2.2.2.2 ed0 g5 (fun z => h4 _ z g7)).2.2] at hb
    have g8 := hS.2.2.2.2.2.2 ed0 s0 g2 j b hj hb
    exact ⟨hty _ _ (by decide) g8.1, by rw [h.2.2.1 _ _ (hwf b (by omega)) (fun z => (h2 _ _ z).2.2.2.1 rfl)]; exact g8.2⟩
