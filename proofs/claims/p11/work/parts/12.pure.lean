
/-! PURE: rules, parting, names -/
def sp_hr (R r : Int32) : Int32 := if R &&& r = 0 then 0 else 1
def sp_pb (R x : Int32) : Int32 := if x = 47 ∨ (x = 92 ∧ ¬ sp_hr R 1 = 0) then 1 else 0
def sp_sm (x : Int32) : Int32 := if 65 ≤ x ∧ x ≤ 90 then x + 32 else x
/-- from a on r bytes that don't part, then the end or one that parts -/
def sp_RN (D : Nat → Int32) (R : Int32) (N a r : Nat) : Prop := a + r ≤ N ∧ (∀ j, j < r → sp_pb R (D (a + j)) = 0) ∧ (a + r < N → ¬ sp_pb R (D (a + r)) = 0)
def sp_wkk (D : Nat → Int32) (a r : Nat) : Prop := 0 < r ∧ ¬ (r = 1 ∧ D a = 46)
theorem sp_RN.det {D : Nat → Int32} {R : Int32} {N a r r' : Nat} (h : sp_RN D R N a r) (h' : sp_RN D R N a r') : r = r' := by
  rcases Nat.lt_trichotomy r r' with q | q | q
  · exact absurd (h'.2.1 r q) (h.2.2 (by have := h'.1; omega))
  · exact q
  · exact absurd (h.2.1 r' q) (h'.2.2 (by have := h.1; omega))
def sp_NP (D : Nat → Int32) (R : Int32) (N a : Nat) (o : Option (Nat × Nat)) : Prop := ∀ Q : Nat → Option (Nat × Nat) → Prop, (∀ a, ¬ a < N → Q a none) → (∀ a r o, a < N → sp_RN D R N a r → ¬ sp_wkk D a r → Q (a + r + 1) o → Q a o) → (∀ a r, a < N → sp_RN D R N a r → sp_wkk D a r → Q a (some (a + r + 1, r))) → Q a o
theorem sp_NP.done {D : Nat → Int32} {R : Int32} {N a : Nat} (h : ¬ a < N) : sp_NP D R N a none := fun _ h1 _ _ => h1 _ h
theorem sp_NP.skip {D : Nat → Int32} {R : Int32} {N a r : Nat} {o : Option (Nat × Nat)} (h : a < N) (hr : sp_RN D R N a r) (hw : ¬ sp_wkk D a r) (ho : sp_NP D R N (a + r + 1) o) : sp_NP D R N a o := fun Q h1 h2 h3 => h2 _ _ _ h hr hw (ho Q h1 h2 h3)
theorem sp_NP.hit {D : Nat → Int32} {R : Int32} {N a r : Nat} (h : a < N) (hr : sp_RN D R N a r) (hw : sp_wkk D a r) : sp_NP D R N a (some (a + r + 1, r)) := fun _ _ _ h3 => h3 _ _ h hr hw
theorem sp_NP.inv {D : Nat → Int32} {R : Int32} {N a : Nat} {o : Option (Nat × Nat)} (h : sp_NP D R N a o) : (¬ a < N ∧ o = none) ∨ (∃ r, a < N ∧ sp_RN D R N a r ∧ ¬ sp_wkk D a r ∧ sp_NP D R N (a + r + 1) o) ∨ (∃ r, a < N ∧ sp_RN D R N a r ∧ sp_wkk D a r ∧ o = some (a + r + 1, r)) :=
  (h (fun a o => sp_NP D R N a o ∧ ((¬ a < N ∧ o = none) ∨ (∃ r, a < N ∧ sp_RN D R N a r ∧ ¬ sp_wkk D a r ∧ sp_NP D R N (a + r + 1) o) ∨ (∃ r, a < N ∧ sp_RN D R N a r ∧ sp_wkk D a r ∧ o = some (a + r + 1, r)))) (fun a h => ⟨sp_NP.done h, Or.inl ⟨h, rfl⟩⟩) (fun a r o h hr hw ho => ⟨sp_NP.skip h hr hw ho.1, Or.inr (Or.inl ⟨r, h, hr, hw, ho.1⟩)⟩) (fun a r h hr hw => ⟨sp_NP.hit h hr hw, Or.inr (Or.inr ⟨r, h, hr, hw, rfl⟩)⟩)).2
theorem sp_NP.det {D : Nat → Int32} {R : Int32} {N a : Nat} {o o' : Option (Nat × Nat)} (h : sp_NP D R N a o) (h' : sp_NP D R N a o') : o = o' := by
  refine h (fun a o => ∀ o', sp_NP D R N a o' → o = o') (fun a h1 o' h' => ?_) (fun a r o h1 hr hw ih o' h' => ?_) (fun a r h1 hr hw o' h' => ?_) o' h'
  · rcases h'.inv with ⟨-, q⟩ | ⟨r, q, -⟩ | ⟨r, q, -⟩
    · exact q.symm
    · exact absurd q h1
    · exact absurd q h1
  · rcases h'.inv with ⟨q, -⟩ | ⟨r2, -, hr2, hw2, ho2⟩ | ⟨r2, -, hr2, hw2, -⟩
    · exact absurd h1 q
    · rw [← hr.det hr2] at ho2; exact ih o' ho2
    · rw [← hr.det hr2] at hw2; exact absurd hw2 hw
  · rcases h'.inv with ⟨q, -⟩ | ⟨r2, -, hr2, hw2, ho2⟩ | ⟨r2, -, hr2, hw2, q⟩
    · exact absurd h1 q
    · rw [← hr.det hr2] at hw2; exact absurd hw hw2
    · rw [q, hr.det hr2]
/-- what a part is: it ends before c, has r bytes -/
theorem sp_NP.get {D : Nat → Int32} {R : Int32} {N a c r : Nat} (h : sp_NP D R N a (some (c, r))) : ∃ b, a ≤ b ∧ b < N ∧ c = b + r + 1 ∧ sp_RN D R N b r ∧ sp_wkk D b r := by
  refine h (fun a o => ∀ c r, o = some (c, r) → ∃ b, a ≤ b ∧ b < N ∧ c = b + r + 1 ∧ sp_RN D R N b r ∧ sp_wkk D b r) (fun a _ c r z => by cases z) (fun a r o h1 hr hw ih c r' z => ?_) (fun a r h1 hr hw c r' z => ?_) c r rfl
  · obtain ⟨b, q1, q2⟩ := ih c r' z
    exact ⟨b, by omega, q2⟩
  · cases z
    exact ⟨a, Nat.le_refl _, h1, rfl, hr, hw⟩
/-- the parts from a on, each by the place behind it and its length -/
def sp_TR (D : Nat → Int32) (R : Int32) (N : Nat) : Nat → List (Nat × Nat) → Prop
  | a, [] => sp_NP D R N a none
  | a, r :: l => sp_NP D R N a (some r) ∧ sp_TR D R N r.1 l
theorem sp_TR.nil {D : Nat → Int32} {R : Int32} {N a : Nat} (h : sp_NP D R N a none) : sp_TR D R N a [] := h
theorem sp_TR.cons {D : Nat → Int32} {R : Int32} {N a c r : Nat} {l : List (Nat × Nat)} (h : sp_NP D R N a (some (c, r))) (ht : sp_TR D R N c l) : sp_TR D R N a ((c, r) :: l) := ⟨h, ht⟩
theorem sp_TR.i0 {D : Nat → Int32} {R : Int32} {N a : Nat} {l : List (Nat × Nat)} (h : sp_TR D R N a l) (ho : sp_NP D R N a none) : l = [] := by
  cases l with
  | nil => rfl
  | cons r l => exact absurd (h.1.det ho) (by simp)
theorem sp_TR.i1 {D : Nat → Int32} {R : Int32} {N a c r : Nat} {l : List (Nat × Nat)} (h : sp_TR D R N a l) (ho : sp_NP D R N a (some (c, r))) : ∃ l', l = (c, r) :: l' ∧ sp_TR D R N c l' := by
  cases l with
  | nil =>
    have h1 : sp_NP D R N a none := h
    exact absurd (h1.det ho) (by simp)
  | cons r2 l =>
    have h1 := h.1.det ho
    cases h1
    exact ⟨_, rfl, h.2⟩
theorem sp_TR.det {D : Nat → Int32} {R : Int32} {N : Nat} : ∀ {l l' : List (Nat × Nat)} {a : Nat}, sp_TR D R N a l → sp_TR D R N a l' → l = l'
  | [], l', a, h, h' => (h'.i0 h).symm
  | r :: l, l', a, h, h' => by
    obtain ⟨l2, rfl, h2⟩ := h'.i1 h.1
    rw [sp_TR.det h.2 h2]
theorem sp_TR.end_ {D : Nat → Int32} {R : Int32} {N a : Nat} (h : ¬ a < N) : sp_TR D R N a [] := sp_NP.done h
theorem sp_TR.over {D : Nat → Int32} {R : Int32} {N a : Nat} {l : List (Nat × Nat)} (h : sp_TR D R N a l) (ha : ¬ a < N) : l = [] := h.i0 (sp_NP.done ha)
/-- a stretch is passed over, or is a part -/
theorem sp_TR.skip {D : Nat → Int32} {R : Int32} {N a r : Nat} {l : List (Nat × Nat)} (hr : sp_RN D R N a r) (hw : ¬ sp_wkk D a r) (h : sp_TR D R N (a + r + 1) l) : sp_TR D R N a l := by
  by_cases ha : a < N
  · cases l with
    | nil => exact sp_NP.skip ha hr hw h
    | cons x l => exact ⟨sp_NP.skip ha hr hw h.1, h.2⟩
  · rw [h.over (by omega)]
    exact sp_TR.end_ ha
theorem sp_TR.hit {D : Nat → Int32} {R : Int32} {N a r : Nat} {l : List (Nat × Nat)} (hr : sp_RN D R N a r) (hw : sp_wkk D a r) (h : sp_TR D R N (a + r + 1) l) : sp_TR D R N a ((a + r + 1, r) :: l) := by
  refine ⟨sp_NP.hit ?_ hr hw, h⟩
  have := hw.1
  have := hr.1
  omega
theorem sp_TR.mem {D : Nat → Int32} {R : Int32} {N : Nat} : ∀ {l : List (Nat × Nat)} {a : Nat}, sp_TR D R N a l → ∀ x, x ∈ l → ∃ b, b < N ∧ x.1 = b + x.2 + 1 ∧ sp_RN D R N b x.2 ∧ sp_wkk D b x.2
  | [], a, h, x, hx => by cases hx
  | r :: l, a, h, x, hx => by
    rcases List.mem_cons.mp hx with rfl | hx
    · obtain ⟨b, -, q⟩ := h.1.get
      exact ⟨b, q⟩
    · exact sp_TR.mem h.2 x hx
/-- a stretch of bytes as a list -/
def sp_seg (D : Nat → Int32) (a r : Nat) : List Int32 := (List.range r).map (fun i => D (a + i))
theorem sp_seg_len (D : Nat → Int32) (a r : Nat) : (sp_seg D a r).length = r := by simp [sp_seg]
theorem sp_seg_get (D : Nat → Int32) (a r : Nat) {i : Nat} (hi : i < r) : (sp_seg D a r).getD i 0 = D (a + i) := by
  simp [sp_seg, List.getD_eq_getElem?_getD, hi]
/-- a part's name -/
def sp_nme (D : Nat → Int32) (x : Nat × Nat) : List Int32 := sp_seg D (x.1 - 1 - x.2) x.2
theorem sp_nme_len (D : Nat → Int32) (x : Nat × Nat) : (sp_nme D x).length = x.2 := sp_seg_len _ _ _
/-- two lists of bytes that have the same bytes -/
theorem sp_ext {u v : List Int32} (h : u.length = v.length) (hi : ∀ i, i < u.length → u.getD i 0 = v.getD i 0) : u = v := by
  apply List.ext_getElem h
  intro i h1 h2
  have := hi i h1
  rw [List.getD_eq_getElem?_getD, List.getD_eq_getElem?_getD, List.getElem?_eq_getElem h1, List.getElem?_eq_getElem h2] at this
  exact this
/-! how a name is judged -/
def pu_up (u : List Int32) : Prop := u.length = 2 ∧ u.getD 0 0 = 46 ∧ u.getD 1 0 = 46
def pu_ctl (u : List Int32) : Prop := ∃ j, j < u.length ∧ (u.getD j 0 < 32 ∨ u.getD j 0 = 127)
def pu_mk (x : Int32) : Prop := x = 58 ∨ x = 42 ∨ x = 63 ∨ x = 34 ∨ x = 60 ∨ x = 62 ∨ x = 124
def pu_stem (u : List Int32) (t : Nat) : Prop := t ≤ u.length ∧ (∀ j, j < t → ¬ u.getD j 0 = 46) ∧ (t < u.length → u.getD t 0 = 46)
def pu_w3 (u : List Int32) (a b c : Int32) : Prop := sp_sm (u.getD 0 0) = a ∧ sp_sm (u.getD 1 0) = b ∧ sp_sm (u.getD 2 0) = c
def pu_kept (u : List Int32) : Prop := (pu_stem u 3 ∧ (pu_w3 u 99 111 110 ∨ pu_w3 u 112 114 110 ∨ pu_w3 u 97 117 120 ∨ pu_w3 u 110 117 108)) ∨ (pu_stem u 4 ∧ 49 ≤ u.getD 3 0 ∧ u.getD 3 0 ≤ 57 ∧ (pu_w3 u 99 111 109 ∨ pu_w3 u 108 112 116))
def pu_oth (u : List Int32) : Prop := (0 < u.length ∧ (u.getD (u.length - 1) 0 = 46 ∨ u.getD (u.length - 1) 0 = 32)) ∨ (∃ j, j < u.length ∧ pu_mk (u.getD j 0)) ∨ pu_kept u
def pu_bad (R : Int32) (u : List Int32) : Prop := pu_ctl u ∨ (¬ sp_hr R 8 = 0 ∧ pu_oth u)
theorem pu_stem.det {u : List Int32} {t t' : Nat} (h : pu_stem u t) (h' : pu_stem u t') : t = t' := by
  rcases Nat.lt_trichotomy t t' with q | q | q
  · exact absurd (h.2.2 (by have := h'.1; omega)) (h'.2.1 t q)
  · exact q
  · exact absurd (h'.2.2 (by have := h.1; omega)) (h.2.1 t' q)
/-- the refusals, in their order -/
def pu_er (v : Int32) (U B T : Prop) : Prop := (v = -3 ∧ U) ∨ (v = -4 ∧ ¬ U ∧ B) ∨ (v = -5 ∧ ¬ U ∧ ¬ B ∧ T) ∨ (v = 0 ∧ ¬ U ∧ ¬ B ∧ ¬ T)
theorem pu_er.det {v v' : Int32} {U B T : Prop} (h : pu_er v U B T) (h' : pu_er v' U B T) : v = v' := by
  rcases h with ⟨a1, a2⟩ | ⟨a1, a2, a3⟩ | ⟨a1, a2, a3, a4⟩ | ⟨a1, a2, a3, a4⟩ <;> rcases h' with ⟨b1, b2⟩ | ⟨b1, b2, b3⟩ | ⟨b1, b2, b3, b4⟩ | ⟨b1, b2, b3, b4⟩ <;> first | exact a1.trans b1.symm | contradiction
theorem pu_er.iff {v : Int32} {U B T U' B' T' : Prop} (h : pu_er v U B T) (hU : U ↔ U') (hB : B ↔ B') (hT : T ↔ T') : pu_er v U' B' T' := by
  rw [← propext hU, ← propext hB, ← propext hT]
  exact h
theorem pu_er.le {v : Int32} {U B T : Prop} (h : pu_er v U B T) : v ≤ 0 := by
  rcases h with a | a | a | a <;> (rw [a.1]; decide)
theorem pu_er.z {v : Int32} {U B T : Prop} (h : pu_er v U B T) (hv : v = 0) : ¬ U ∧ ¬ B ∧ ¬ T := by
  rcases h with a | a | a | a
  · rw [a.1] at hv; exact absurd hv (by decide)
  · rw [a.1] at hv; exact absurd hv (by decide)
  · rw [a.1] at hv; exact absurd hv (by decide)
  · exact a.2
/-- of two refusals the one that counts -/
def pu_ea (v a b : Int32) : Prop := (a = 0 ∧ v = b) ∨ (b = 0 ∧ v = a) ∨ (¬ a = 0 ∧ ¬ b = 0 ∧ ((a ≤ b ∧ v = b) ∨ (b ≤ a ∧ v = a)))
theorem pu_er.or {v a b : Int32} {U B T U' B' T' : Prop} (h : pu_er a U B T) (h' : pu_er b U' B' T') (hv : pu_ea v a b) : pu_er v (U ∨ U') (B ∨ B') (T ∨ T') := by
  have e1 : ¬ (-3 : Int32) = 0 := by decide
  have e2 : ¬ (-4 : Int32) = 0 := by decide
  have e3 : ¬ (-5 : Int32) = 0 := by decide
  have l1 : ¬ (-3 : Int32) ≤ -4 := by decide
  have l2 : ¬ (-3 : Int32) ≤ -5 := by decide
  have l3 : ¬ (-4 : Int32) ≤ -5 := by decide
  unfold pu_er at h h' ⊢
  unfold pu_ea at hv
  rcases h with ⟨rfl, a2⟩ | ⟨rfl, a2, a3⟩ | ⟨rfl, a2, a3, a4⟩ | ⟨rfl, a2, a3, a4⟩ <;> rcases h' with ⟨rfl, b2⟩ | ⟨rfl, b2, b3⟩ | ⟨rfl, b2, b3, b4⟩ | ⟨rfl, b2, b3, b4⟩ <;> rcases hv with ⟨c1, rfl⟩ | ⟨c1, rfl⟩ | ⟨c1, c2, ⟨c3, rfl⟩ | ⟨c3, rfl⟩⟩ <;> first | contradiction | simp_all
theorem pu_ea0 (v a : Int32) (h : pu_ea v a 0) : v = a := by
  rcases h with ⟨h1, h2⟩ | ⟨h1, h2⟩ | ⟨h1, h2, -⟩
  · rw [h1, h2]
  · exact h2
  · exact absurd rfl h2
theorem pu_ea6 {v a : Int32} {U B T : Prop} (ha : pu_er a U B T) (h : pu_ea v a (-6)) : (¬ a = 0 ∧ v = a) ∨ (a = 0 ∧ v = -6) := by
  rcases h with ⟨h1, h2⟩ | ⟨h1, h2⟩ | ⟨h1, h2, h3⟩
  · exact Or.inr ⟨h1, h2⟩
  · exact absurd h1 (by decide)
  · refine Or.inl ⟨h1, ?_⟩
    rcases h3 with ⟨h3, h4⟩ | ⟨h3, h4⟩
    · rcases ha with q | q | q | q
      · rw [q.1] at h3; exact absurd h3 (by decide)
      · rw [q.1] at h3; exact absurd h3 (by decide)
      · rw [q.1] at h3; exact absurd h3 (by decide)
      · exact absurd q.1 h1
    · exact h4
def pu_ltr (x : Int32) : Prop := (65 ≤ x ∧ x ≤ 90) ∨ (97 ≤ x ∧ x ≤ 122)
/-- the draft isn't relative -/
def pu_abs (R : Int32) (D : Nat → Int32) (d : Nat) : Prop := (0 < d ∧ ¬ sp_pb R (D 0) = 0) ∨ (2 ≤ d ∧ D 1 = 58 ∧ pu_ltr (D 0))
def pu_U (us : List (List Int32)) : Prop := ∃ u, u ∈ us ∧ pu_up u
def pu_B (R : Int32) (us : List (List Int32)) : Prop := ∃ u, u ∈ us ∧ pu_bad R u
def pu_T (us : List (List Int32)) : Prop := ∃ u, u ∈ us ∧ 16 < u.length
/-- refused as a PATH, with v -/
def pu_ref (v R : Int32) (D : Nat → Int32) (d np : Nat) (us : List (List Int32)) : Prop := (us = [] ∧ v = -1) ∨ (¬ us = [] ∧ pu_abs R D d ∧ v = -2) ∨ (¬ us = [] ∧ ¬ pu_abs R D d ∧ ((¬ v = 0 ∧ pu_er v (pu_U us) (pu_B R us) (8 < us.length ∨ pu_T us)) ∨ (pu_er 0 (pu_U us) (pu_B R us) (8 < us.length ∨ pu_T us) ∧ ¬ np < 60 ∧ v = -6)))
def pu_ok (R : Int32) (D : Nat → Int32) (d np : Nat) (us : List (List Int32)) : Prop := ¬ us = [] ∧ ¬ pu_abs R D d ∧ pu_er 0 (pu_U us) (pu_B R us) (8 < us.length ∨ pu_T us) ∧ np < 60
theorem pu_ref.nok {v R : Int32} {D : Nat → Int32} {d np : Nat} {us : List (List Int32)} (h : pu_ref v R D d np us) : ¬ pu_ok R D d np us := by
  rintro ⟨h1, h2, h3, h4⟩
  rcases h with ⟨a1, -⟩ | ⟨-, a2, -⟩ | ⟨-, -, ⟨a1, a2⟩ | ⟨-, a2, -⟩⟩
  · exact h1 a1
  · exact h2 a2
  · exact a1 (a2.det h3)
  · exact a2 h4
theorem pu_ref.det {v v' R : Int32} {D : Nat → Int32} {d np : Nat} {us : List (List Int32)} (h : pu_ref v R D d np us) (h' : pu_ref v' R D d np us) : v = v' := by
  rcases h with ⟨a1, a2⟩ | ⟨a1, a2, a3⟩ | ⟨a1, a2, ⟨a3, a4⟩ | ⟨a3, a4, a5⟩⟩ <;> rcases h' with ⟨b1, b2⟩ | ⟨b1, b2, b3⟩ | ⟨b1, b2, ⟨b3, b4⟩ | ⟨b3, b4, b5⟩⟩
  · exact a2.trans b2.symm
  · exact absurd a1 b1
  · exact absurd a1 b1
  · exact absurd a1 b1
  · exact absurd b1 a1
  · exact a3.trans b3.symm
  · exact absurd a2 b2
  · exact absurd a2 b2
  · exact absurd b1 a1
  · exact absurd b2 a2
  · exact a4.det b4
  · exact absurd (a4.det b3) a3
  · exact absurd b1 a1
  · exact absurd b2 a2
  · exact absurd (b4.det a3) b3
  · exact a5.trans b5.symm
theorem pu_exap {p : List Int32 → Prop} {l : List (List Int32)} {w : List Int32} : (∃ u, u ∈ l ++ [w] ∧ p u) ↔ (∃ u, u ∈ l ∧ p u) ∨ p w := by
  constructor
  · rintro ⟨u, h1, h2⟩
    rcases List.mem_append.mp h1 with h | h
    · exact Or.inl ⟨u, h, h2⟩
    · rw [List.mem_singleton.mp h] at h2; exact Or.inr h2
  · rintro (⟨u, h1, h2⟩ | h)
    · exact ⟨u, List.mem_append.mpr (Or.inl h1), h2⟩
    · exact ⟨w, List.mem_append.mpr (Or.inr (List.mem_singleton.mpr rfl)), h⟩
theorem pu_take {us : List (List Int32)} {i : Nat} (hi : i < us.length) : us.take (i + 1) = us.take i ++ [us.getD i []] := by
  rw [List.take_add_one, List.getD_eq_getElem?_getD, List.getElem?_eq_getElem hi]
  rfl
/-- drafts that agree are parted alike -/
theorem sp_RN.congr {D D' : Nat → Int32} {R : Int32} {N a r : Nat} (hD : ∀ j, j < N → D j = D' j) (h : sp_RN D R N a r) : sp_RN D' R N a r :=
  ⟨h.1, fun j hj => by rw [← hD _ (by have := h.1; omega)]; exact h.2.1 j hj, fun hj => by rw [← hD _ hj]; exact h.2.2 hj⟩
theorem sp_wkk.congr {D D' : Nat → Int32} {R : Int32} {N a r : Nat} (hD : ∀ j, j < N → D j = D' j) (hr : sp_RN D R N a r) : sp_wkk D a r ↔ sp_wkk D' a r := by
  unfold sp_wkk
  by_cases h : 0 < r
  · rw [hD a (by have := hr.1; omega)]
  · constructor <;> (intro z; exact absurd z.1 h)
theorem sp_NP.congr {D D' : Nat → Int32} {R : Int32} {N a : Nat} {o : Option (Nat × Nat)} (hD : ∀ j, j < N → D j = D' j) (h : sp_NP D R N a o) : sp_NP D' R N a o :=
  h (fun a o => sp_NP D' R N a o) (fun a h1 => sp_NP.done h1) (fun a r o h1 hr hw ih => sp_NP.skip h1 (hr.congr hD) (fun z => hw ((sp_wkk.congr hD hr).mpr z)) ih) (fun a r h1 hr hw => sp_NP.hit h1 (hr.congr hD) ((sp_wkk.congr hD hr).mp hw))
theorem sp_TR.congr {D D' : Nat → Int32} {R : Int32} {N : Nat} (hD : ∀ j, j < N → D j = D' j) : ∀ {l : List (Nat × Nat)} {a : Nat}, sp_TR D R N a l → sp_TR D' R N a l
  | [], a, h => sp_NP.congr hD h
  | r :: l, a, h => ⟨h.1.congr hD, sp_TR.congr hD h.2⟩
theorem sp_seg_congr {D D' : Nat → Int32} {N a r : Nat} (hD : ∀ j, j < N → D j = D' j) (h : a + r ≤ N) : sp_seg D a r = sp_seg D' a r := by
  unfold sp_seg
  apply List.map_congr_left
  intro i hi
  exact hD _ (by have := List.mem_range.mp hi; omega)
theorem sp_nme_congr {D D' : Nat → Int32} {R : Int32} {N : Nat} (hD : ∀ j, j < N → D j = D' j) {l : List (Nat × Nat)} {a : Nat} (h : sp_TR D R N a l) : l.map (sp_nme D) = l.map (sp_nme D') := by
  apply List.map_congr_left
  intro x hx
  obtain ⟨b, h1, h2, h3, -⟩ := h.mem x hx
  unfold sp_nme
  refine sp_seg_congr hD ?_
  have := h3.1
  omega
theorem pu_abs.congr {D D' : Nat → Int32} {R : Int32} {d : Nat} (hD : ∀ j, j < d → D j = D' j) : pu_abs R D d ↔ pu_abs R D' d := by
  unfold pu_abs
  constructor
  · rintro (⟨h1, h2⟩ | ⟨h1, h2, h3⟩)
    · exact Or.inl ⟨h1, by rw [← hD 0 h1]; exact h2⟩
    · exact Or.inr ⟨h1, by rw [← hD 1 (by omega)]; exact h2, by rw [← hD 0 (by omega)]; exact h3⟩
  · rintro (⟨h1, h2⟩ | ⟨h1, h2, h3⟩)
    · exact Or.inl ⟨h1, by rw [hD 0 h1]; exact h2⟩
    · exact Or.inr ⟨h1, by rw [hD 1 (by omega)]; exact h2, by rw [hD 0 (by omega)]; exact h3⟩
theorem pu_ref.congr {D D' : Nat → Int32} {v R : Int32} {d np : Nat} {us : List (List Int32)} (hD : ∀ j, j < d → D j = D' j) (h : pu_ref v R D d np us) : pu_ref v R D' d np us := by
  unfold pu_ref at h ⊢
  rw [← propext (pu_abs.congr (R := R) hD)]
  exact h
theorem pu_ok.congr {D D' : Nat → Int32} {R : Int32} {d np : Nat} {us : List (List Int32)} (hD : ∀ j, j < d → D j = D' j) (h : pu_ok R D d np us) : pu_ok R D' d np us := by
  unfold pu_ok at h ⊢
  rw [← propext (pu_abs.congr (R := R) hD)]
  exact h
theorem sp_mapD (D : Nat → Int32) (l : List (Nat × Nat)) {j : Nat} (hj : j < l.length) : (l.map (sp_nme D)).getD j [] = sp_nme D (l.getD j (0, 0)) := by
  rw [List.getD_eq_getElem?_getD, List.getD_eq_getElem?_getD, List.getElem?_map, List.getElem?_eq_getElem hj]
  rfl
/-- PATHS are as they must be -/
def pu_P (p : Nat) (PT : Nat → List (List Int32)) : Prop := ∀ j, j < p → 1 ≤ (PT j).length ∧ (PT j).length ≤ 8 ∧ ∀ k, k < (PT j).length → 1 ≤ ((PT j).getD k []).length ∧ ((PT j).getD k []).length ≤ 16
def pu_Tt (t : Nat) (TT : Nat → List Int32) : Prop := ∀ j, j < t → 1 ≤ (TT j).length ∧ (TT j).length ≤ 40
/-- part's answer -/
def pu_part (v : Int32) (p : Nat) (PT : Nat → List (List Int32)) (x y z : Int32) : Prop := (∃ j k i, j < p ∧ x = nI j ∧ k < (PT j).length ∧ y = nI k ∧ i < ((PT j).getD k []).length ∧ z = nI i ∧ v = ((PT j).getD k []).getD i 0) ∨ ((¬ ∃ j k i, j < p ∧ x = nI j ∧ k < (PT j).length ∧ y = nI k ∧ i < ((PT j).getD k []).length ∧ z = nI i) ∧ v = -1)
theorem pu_nI {a b : Nat} (h : nI a = nI b) (ha : a < 2 ^ 31) (hb : b < 2 ^ 31) : a = b := (nI_eq ha hb).mp h
theorem pu_part.det {v v' : Int32} {p : Nat} {PT : Nat → List (List Int32)} {x y z : Int32} (hp : p ≤ 60) (hP : pu_P p PT) (h : pu_part v p PT x y z) (h' : pu_part v' p PT x y z) : v = v' := by
  rcases h with ⟨j, k, i, a1, a2, a3, a4, a5, a6, a7⟩ | ⟨a1, a2⟩ <;> rcases h' with ⟨j', k', i', b1, b2, b3, b4, b5, b6, b7⟩ | ⟨b1, b2⟩
  · obtain rfl := pu_nI (a2.symm.trans b2) (by omega) (by omega)
    have hl := hP j a1
    obtain rfl := pu_nI (a4.symm.trans b4) (by omega) (by omega)
    have hk := hl.2.2 k a3
    obtain rfl := pu_nI (a6.symm.trans b6) (by omega) (by omega)
    rw [a7, b7]
  · exact absurd ⟨j, k, i, a1, a2, a3, a4, a5, a6⟩ b1
  · exact absurd ⟨j', k', i', b1, b2, b3, b4, b5, b6⟩ a1
  · exact a2.trans b2.symm
theorem pu_part.mk {v : Int32} {p j : Nat} {PT : Nat → List (List Int32)} {x y z : Int32} {u : List Int32} (hp : p ≤ 60) (hP : pu_P p PT) (hj : j < p) (hx : x = nI j) (hu : (∃ k, k < (PT j).length ∧ y = nI k ∧ u = (PT j).getD k []) ∨ ((¬ ∃ k, k < (PT j).length ∧ y = nI k) ∧ u = [])) (hv : (∃ i, i < u.length ∧ z = nI i ∧ v = u.getD i 0) ∨ ((¬ ∃ i, i < u.length ∧ z = nI i) ∧ v = -1)) : pu_part v p PT x y z := by
  have hl := hP j hj
  rcases hu with ⟨k, a1, a2, rfl⟩ | ⟨a1, rfl⟩
  · have hk := hl.2.2 k a1
    rcases hv with ⟨i, b1, b2, b3⟩ | ⟨b1, b2⟩
    · exact Or.inl ⟨j, k, i, hj, hx, a1, a2, b1, b2, b3⟩
    · refine Or.inr ⟨?_, b2⟩
      rintro ⟨j', k', i', c1, c2, c3, c4, c5, c6⟩
      obtain rfl := pu_nI (hx.symm.trans c2) (by omega) (by omega)
      obtain rfl := pu_nI (a2.symm.trans c4) (by omega) (by omega)
      exact b1 ⟨i', c5, c6⟩
  · rcases hv with ⟨i, b1, -⟩ | ⟨b1, b2⟩
    · exact absurd b1 (Nat.not_lt_zero _)
    · refine Or.inr ⟨?_, b2⟩
      rintro ⟨j', k', i', c1, c2, c3, c4, c5, c6⟩
      obtain rfl := pu_nI (hx.symm.trans c2) (by omega) (by omega)
      exact a1 ⟨k', c3, c4⟩
theorem pu_part.no {v : Int32} {p : Nat} {PT : Nat → List (List Int32)} {x y z : Int32} (h : ¬ ∃ j, j < p ∧ x = nI j) (hv : v = -1) : pu_part v p PT x y z :=
  Or.inr ⟨fun ⟨j, _, _, h1, h2, _⟩ => h ⟨j, h1, h2⟩, hv⟩
/-- two names are taken as one -/
def pu_al (R : Int32) (u v : List Int32) : Prop := u.length = v.length ∧ ∀ i, i < u.length → (u.getD i 0 = v.getD i 0 ∨ (¬ sp_hr R 2 = 0 ∧ sp_sm (u.getD i 0) = sp_sm (v.getD i 0)))
def pu_mt (R : Int32) (us vs : List (List Int32)) : Prop := us.length = vs.length ∧ ∀ i, i < us.length → pu_al R (us.getD i []) (vs.getD i [])
/-- an entry is as it must be -/
def pu_ent (kd x y : Int32) (z : Int64) (p t : Nat) : Prop := ¬ kd < 0 ∧ kd ≤ 4 ∧ (∃ j, j < p ∧ x = nI j) ∧ (kd = 0 → y = 0 ∨ y = 1) ∧ (kd = 1 → ¬ z < 0 ∧ z ≤ 1099511627776) ∧ (kd = 2 → ∃ j, j < t ∧ y = nI j) ∧ (kd = 3 → ∃ j, j < p ∧ y = nI j)
theorem pu_ent.iff0 {kd x y : Int32} {z : Int64} {p t : Nat} (h : kd = 0) (hx : ∃ j, j < p ∧ x = nI j) : pu_ent kd x y z p t ↔ (y = 0 ∨ y = 1) := by
  subst h
  exact ⟨fun q => q.2.2.2.1 rfl, fun q => ⟨by decide, by decide, hx, fun _ => q, fun z => absurd z (by decide), fun z => absurd z (by decide), fun z => absurd z (by decide)⟩⟩
theorem pu_ent.iff1 {kd x y : Int32} {z : Int64} {p t : Nat} (h : kd = 1) (hx : ∃ j, j < p ∧ x = nI j) : pu_ent kd x y z p t ↔ (¬ z < 0 ∧ z ≤ 1099511627776) := by
  subst h
  exact ⟨fun q => q.2.2.2.2.1 rfl, fun q => ⟨by decide, by decide, hx, fun z => absurd z (by decide), fun _ => q, fun z => absurd z (by decide), fun z => absurd z (by decide)⟩⟩
theorem pu_ent.iff2 {kd x y : Int32} {z : Int64} {p t : Nat} (h : kd = 2) (hx : ∃ j, j < p ∧ x = nI j) : pu_ent kd x y z p t ↔ (∃ j, j < t ∧ y = nI j) := by
  subst h
  exact ⟨fun q => q.2.2.2.2.2.1 rfl, fun q => ⟨by decide, by decide, hx, fun z => absurd z (by decide), fun z => absurd z (by decide), fun _ => q, fun z => absurd z (by decide)⟩⟩
theorem pu_ent.iff3 {kd x y : Int32} {z : Int64} {p t : Nat} (h : kd = 3) (hx : ∃ j, j < p ∧ x = nI j) : pu_ent kd x y z p t ↔ (∃ j, j < p ∧ y = nI j) := by
  subst h
  exact ⟨fun q => q.2.2.2.2.2.2 rfl, fun q => ⟨by decide, by decide, hx, fun z => absurd z (by decide), fun z => absurd z (by decide), fun z => absurd z (by decide), fun _ => q⟩⟩
theorem pu_ent.of4 {kd x y : Int32} {z : Int64} {p t : Nat} (h : kd = 4) (hx : ∃ j, j < p ∧ x = nI j) : pu_ent kd x y z p t := by
  subst h
  exact ⟨by decide, by decide, hx, fun z => absurd z (by decide), fun z => absurd z (by decide), fun z => absurd z (by decide), fun z => absurd z (by decide)⟩
theorem pu_k3 {kd : Int32} (h0 : ¬ kd < 0) (h4 : kd ≤ 4) (n0 : ¬ kd = 0) (n1 : ¬ kd = 1) (n2 : ¬ kd = 2) (n4 : ¬ kd = 4) : kd = 3 := by
  obtain ⟨n, hn, rfl⟩ := nI_of h0
  have h5 : n ≤ 4 := (nI_leI (b := 4) hn (by decide)).mp h4
  have : n ≠ 0 := fun z => n0 (by rw [z]; rfl)
  have : n ≠ 1 := fun z => n1 (by rw [z]; rfl)
  have : n ≠ 2 := fun z => n2 (by rw [z]; rfl)
  have : n ≠ 4 := fun z => n4 (by rw [z]; rfl)
  rw [show n = 3 by omega]
  rfl
theorem pu_cle {a b : Int64} (h : lg_cmp a b ≤ 0) : a ≤ b := by
  unfold lg_cmp at h
  by_cases q : a > b
  · rw [if_pos q] at h; exact absurd h (by decide)
  · exact Int64.not_lt.mp q
theorem pu_cgt {a b : Int64} (h : ¬ lg_cmp a b ≤ 0) : ¬ a ≤ b := by
  unfold lg_cmp at h
  by_cases q : a > b
  · exact Int64.not_le.mpr q
  · rw [if_neg q] at h
    by_cases q2 : a = b
    · rw [if_pos q2] at h; exact absurd (by decide) h
    · rw [if_neg q2] at h; exact absurd (by decide) h
