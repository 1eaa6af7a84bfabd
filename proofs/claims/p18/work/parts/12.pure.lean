
/-! PURE: rules, parting, names -/
def sp_hr (R r : Int32) : Int32 := if R &&& r = 0 then 0 else 1
def sp_pb (R x : Int32) : Int32 := if x = 47 ∨ (x = 92 ∧ ¬ sp_hr R 1 = 0) then 1 else 0
def sp_sm (x : Int32) : Int32 := if 65 ≤ x ∧ x ≤ 90 then x + 32 else x
/-- from a on r bytes that don't part, then the end or one that parts -/
def sp_RN (D : Nat → Int32) (R : Int32) (N a r : Nat) : Prop := a + r ≤ N ∧ (∀ j, j < r → sp_pb R (D (a + j)) = 0) ∧ (a + r < N → ¬ sp_pb R (D (a + r)) = 0)
def sp_wkk (D : Nat → Int32) (a r : Nat) : Prop := 0 < r ∧ ¬ (r = 1 ∧ D a = 46)
theorem sp_RN.det {D : Nat → Int32} {R : Int32} {N a r r' : Nat} (h : sp_RN D R N a r) (h' : sp_RN D R N a r') : r = r' := by
  rcases Nat.lt_trichotomy r r' with q | q | q
  · exact absurd (h'.2.1 r q) (h.2.2 (by have := h'.1; omega))
  · exact q
  · exact absurd (h.2.1 r' q) (h'.2.2 (by have := h.1; omega))
def sp_NP (D : Nat → Int32) (R : Int32) (N a : Nat) (o : Option (Nat × Nat)) : Prop := ∀ Q : Nat → Option (Nat × Nat) → Prop, (∀ a, ¬ a < N → Q a none) → (∀ a r o, a < N → sp_RN D R N a r → ¬ sp_wkk D a r → Q (a + r + 1) o → Q a o) → (∀ a r, a < N → sp_RN D R N a r → sp_wkk D a r → Q a (some (a + r + 1, r))) → Q a o
theorem sp_NP.done {D : Nat → Int32} {R : Int32} {N a : Nat} (h : ¬ a < N) : sp_NP D R N a none := fun _ h1 _ _ => h1 _ h
theorem sp_NP.skip {D : Nat → Int32} {R : Int32} {N a r : Nat} {o : Option (Nat × Nat)} (h : a < N) (hr : sp_RN D R N a r) (hw : ¬ sp_wkk D a r) (ho : sp_NP D R N (a + r + 1) o) : sp_NP D R N a o := fun Q h1 h2 h3 => h2 _ _ _ h hr hw (ho Q h1 h2 h3)
theorem sp_NP.hit {D : Nat → Int32} {R : Int32} {N a r : Nat} (h : a < N) (hr : sp_RN D R N a r) (hw : sp_wkk D a r) : sp_NP D R N a (some (a + r + 1, r)) := fun _ _ _ h3 => h3 _ _ h hr hw
theorem sp_NP.inv {D : Nat → Int32} {R : Int32} {N a : Nat} {o : Option (Nat × Nat)} (h : sp_NP D R N a o) : (¬ a < N ∧ o = none) ∨ (∃ r, a < N ∧ sp_RN D R N a r ∧ ¬ sp_wkk D a r ∧ sp_NP D R N (a + r + 1) o) ∨ (∃ r, a < N ∧ sp_RN D R N a r ∧ sp_wkk D a r ∧ o = some (a + r + 1, r)) :=
  (h (fun a o => sp_NP D R N a o ∧ ((¬ a < N ∧ o = none) ∨ (∃ r, a < N ∧ sp_RN D R N a r ∧ ¬ sp_wkk D a r ∧ sp_NP D R N (a + r + 1) o) ∨ (∃ r, a < N ∧ sp_RN D R N a r ∧ sp_wkk D a r ∧ o = some (a + r + 1, r)))) (fun a h => ⟨sp_NP.done h, Or.inl ⟨h, rfl⟩⟩) (fun a r o h hr hw ho => ⟨sp_NP.skip h hr hw ho.1, Or.inr (Or.inl ⟨r, h, hr, hw, ho.1⟩)⟩) (fun a r h hr hw => ⟨sp_NP.hit h hr hw, Or.inr (Or.inr ⟨r, h, hr, hw, rfl⟩)⟩)).2
theorem sp_NP.det {D : Nat → Int32} {R : Int32} {N a : Nat} {o o' : Option (Nat × Nat)} (h : sp_NP D R N a o) (h' : sp_NP D R N a o') : o = o' := by
  refine h (fun a o => ∀ o', sp_NP D R N a o' → o = o') (fun a h1 o' h' => ?_) (fun a r o h1 hr hw ih o' h' => ?_) (fun a r h1 hr hw o' h' => ?_) o' h'
  · rcases h'.inv with ⟨-, q⟩ | ⟨r, q, -⟩ | ⟨r, q, -⟩
    · exact q.symm
    · exact absurd q h1
    · exact absurd q h1
  · rcases h'.inv with ⟨q, -⟩ | ⟨r2, -, hr2, hw2, ho2⟩ | ⟨r2, -, hr2, hw2, -⟩
    · exact absurd h1 q
    · rw [← hr.det hr2] at ho2; exact ih o' ho2
    · rw [← hr.det hr2] at hw2; exact absurd hw2 hw
  · rcases h'.inv with ⟨q, -⟩ | ⟨r2, -, hr2, hw2, ho2⟩ | ⟨r2, -, hr2, hw2, q⟩
    · exact absurd h1 q
    · rw [← hr.det hr2] at hw2; exact absurd hw hw2
    · rw [q, hr.det hr2]
/-- what a part is: it ends before c, has r bytes -/
theorem sp_NP.get {D : Nat → Int32} {R : Int32} {N a c r : Nat} (h : sp_NP D R N a (some (c, r))) : ∃ b, a ≤ b ∧ b < N ∧ c = b + r + 1 ∧ sp_RN D R N b r ∧ sp_wkk D b r := by
  refine h (fun a o => ∀ c r, o = some (c, r) → ∃ b, a ≤ b ∧ b < N ∧ c = b + r + 1 ∧ sp_RN D R N b r ∧ sp_wkk D b r) (fun a _ c r z => by cases z) (fun a r o h1 hr hw ih c r' z => ?_) (fun a r h1 hr hw c r' z => ?_) c r rfl
  · obtain ⟨b, q1, q2⟩ := ih c r' z
    exact ⟨b, by omega, q2⟩
  · cases z
    exact ⟨a, Nat.le_refl _, h1, rfl, hr, hw⟩
/-- the parts from a on, each by the place behind it and its length -/
def sp_TR (D : Nat → Int32) (R : Int32) (N : Nat) : Nat → List (Nat × Nat) → Prop
  | a, [] => sp_NP D R N a none
  | a, r :: l => sp_NP D R N a (some r) ∧ sp_TR D R N r.1 l
theorem sp_TR.nil {D : Nat → Int32} {R : Int32} {N a : Nat} (h : sp_NP D R N a none) : sp_TR D R N a [] := h
theorem sp_TR.cons {D : Nat → Int32} {R : Int32} {N a c r : Nat} {l : List (Nat × Nat)} (h : sp_NP D R N a (some (c, r))) (ht : sp_TR D R N c l) : sp_TR D R N a ((c, r) :: l) := ⟨h, ht⟩
theorem sp_TR.i0 {D : Nat → Int32} {R : Int32} {N a : Nat} {l : List (Nat × Nat)} (h : sp_TR D R N a l) (ho : sp_NP D R N a none) : l = [] := by
  cases l with
  | nil => rfl
  | cons r l => exact absurd (h.1.det ho) (by simp)
theorem sp_TR.i1 {D : Nat → Int32} {R : Int32} {N a c r : Nat} {l : List (Nat × Nat)} (h : sp_TR D R N a l) (ho : sp_NP D R N a (some (c, r))) : ∃ l', l = (c, r) :: l' ∧ sp_TR D R N c l' := by
  cases l with
  | nil =>
    have h1 : sp_NP D R N a none := h
    exact absurd (h1.det ho) (by simp)
  | cons r2 l =>
    have h1 := h.1.det ho
    cases h1
    exact ⟨_, rfl, h.2⟩
theorem sp_TR.det {D : Nat → Int32} {R : Int32} {N : Nat} : ∀ {l l' : List (Nat × Nat)} {a : Nat}, sp_TR D R N a l → sp_TR D R N a l' → l = l'
  | [], l', a, h, h' => (h'.i0 h).symm
  | r :: l, l', a, h, h' => by
    obtain ⟨l2, rfl, h2⟩ := h'.i1 h.1
    rw [sp_TR.det h.2 h2]
theorem sp_TR.end_ {D : Nat → Int32} {R : Int32} {N a : Nat} (h : ¬ a < N) : sp_TR D R N a [] := sp_NP.done h
theorem sp_TR.over {D : Nat → Int32} {R : Int32} {N a : Nat} {l : List (Nat × Nat)} (h : sp_TR D R N a l) (ha : ¬ a < N) : l = [] := h.i0 (sp_NP.done ha)
/-- a stretch is passed over, or is a part -/
theorem sp_TR.skip {D : Nat → Int32} {R : Int32} {N a r : Nat} {l : List (Nat × Nat)} (hr : sp_RN D R N a r) (hw : ¬ sp_wkk D a r) (h : sp_TR D R N (a + r + 1) l) : sp_TR D R N a l := by
  by_cases ha : a < N
  · cases l with
    | nil => exact sp_NP.skip ha hr hw h
    | cons x l => exact ⟨sp_NP.skip ha hr hw h.1, h.2⟩
  · rw [h.over (by omega)]
    exact sp_TR.end_ ha
theorem sp_TR.hit {D : Nat → Int32} {R : Int32} {N a r : Nat} {l : List (Nat × Nat)} (hr : sp_RN D R N a r) (hw : sp_wkk D a r) (h : sp_TR D R N (a + r + 1) l) : sp_TR D R N a ((a + r + 1, r) :: l) := by
  refine ⟨sp_NP.hit ?_ hr hw, h⟩
  have := hw.1
  have := hr.1
  omega
theorem sp_TR.mem {D : Nat → Int32} {R : Int32} {N : Nat} : ∀ {l : List (Nat × Nat)} {a : Nat}, sp_TR D R N a l → ∀ x, x ∈ l → ∃ b, b < N ∧ x.1 = b + x.2 + 1 ∧ sp_RN D R N b x.2 ∧ sp_wkk D b x.2
  | [], a, h, x, hx => by cases hx
  | r :: l, a, h, x, hx => by
    rcases List.mem_cons.mp hx with rfl | hx
    · obtain ⟨b, -, q⟩ := h.1.get
      exact ⟨b, q⟩
    · exact sp_TR.mem h.2 x hx
/-- a stretch of bytes as a list -/
def sp_seg (D : Nat → Int32) (a r : Nat) : List Int32 := (List.range r).map (fun i => D (a + i))
theorem sp_seg_len (D : Nat → Int32) (a r : Nat) : (sp_seg D a r).length = r := by simp [sp_seg]
theorem sp_seg_get (D : Nat → Int32) (a r : Nat) {i : Nat} (hi : i < r) : (sp_seg D a r).getD i 0 = D (a + i) := by
  simp [sp_seg, List.getD_eq_getElem?_getD, hi]
/-- a part's name -/
def sp_nme (D : Nat → Int32) (x : Nat × Nat) : List Int32 := sp_seg D (x.1 - 1 - x.2) x.2
theorem sp_nme_len (D : Nat → Int32) (x : Nat × Nat) : (sp_nme D x).length = x.2 := sp_seg_len _ _ _
/-- two lists of bytes that have the same bytes -/
theorem sp_ext {u v : List Int32} (h : u.length = v.length) (hi : ∀ i, i < u.length → u.getD i 0 = v.getD i 0) : u = v := by
  apply List.ext_getElem h
  intro i h1 h2
  have := hi i h1
  rw [List.getD_eq_getElem?_getD, List.getD_eq_getElem?_getD, List.getElem?_eq_getElem h1, List.getElem?_eq_getElem h2] at this
  exact this
/-! how a name is judged -/
def pu_up (u : List Int32) : Prop := u.length = 2 ∧ u.getD 0 0 = 46 ∧ u.getD 1 0 = 46
def pu_ctl (u : List Int32) : Prop := ∃ j, j < u.length ∧ (u.getD j 0 < 32 ∨ u.getD j 0 = 127)
def pu_mk (x : Int32) : Prop := x = 58 ∨ x = 42 ∨ x = 63 ∨ x = 34 ∨ x = 60 ∨ x = 62 ∨ x = 124
def pu_stem (u : List Int32) (t : Nat) : Prop := t ≤ u.length ∧ (∀ j, j < t → ¬ u.getD j 0 = 46) ∧ (t < u.length → u.getD t 0 = 46)
def pu_w3 (u : List Int32) (a b c : Int32) : Prop := sp_sm (u.getD 0 0) = a ∧ sp_sm (u.getD 1 0) = b ∧ sp_sm (u.getD 2 0) = c
def pu_kept (u : List Int32) : Prop := (pu_stem u 3 ∧ (pu_w3 u 99 111 110 ∨ pu_w3 u 112 114 110 ∨ pu_w3 u 97 117 120 ∨ pu_w3 u 110 117 108)) ∨ (pu_stem u 4 ∧ 49 ≤ u.getD 3 0 ∧ u.getD 3 0 ≤ 57 ∧ (pu_w3 u 99 111 109 ∨ pu_w3 u 108 112 116))
def pu_oth (u : List Int32) : Prop := (0 < u.length ∧ (u.getD (u.length - 1) 0 = 46 ∨ u.getD (u.length - 1) 0 = 32)) ∨ (∃ j, j < u.length ∧ pu_mk (u.getD j 0)) ∨ pu_kept u
def pu_bad (R : Int32) (u : List Int32) : Prop := pu_ctl u ∨ (¬ sp_hr R 8 = 0 ∧ pu_oth u)
theorem pu_stem.det {u : List Int32} {t t' : Nat} (h : pu_stem u t) (h' : pu_stem u t') : t = t' := by
  rcases Nat.lt_trichotomy t t' with q | q | q
  · exact absurd (h.2.2 (by have := h'.1; omega)) (h'.2.1 t q)
  · exact q
  · exact absurd (h'.2.2 (by have := h.1; omega)) (h.2.1 t' q)
/-- the refusals, in their order -/
def pu_er (v : Int32) (U B T : Prop) : Prop := (v = -3 ∧ U) ∨ (v = -4 ∧ ¬ U ∧ B) ∨ (v = -5 ∧ ¬ U ∧ ¬ B ∧ T) ∨ (v = 0 ∧ ¬ U ∧ ¬ B ∧ ¬ T)
theorem pu_er.det {v v' : Int32} {U B T : Prop} (h : pu_er v U B T) (h' : pu_er v' U B T) : v = v' := by
  rcases h with ⟨a1, a2⟩ | ⟨a1, a2, a3⟩ | ⟨a1, a2, a3, a4⟩ | ⟨a1, a2, a3, a4⟩ <;> rcases h' with ⟨b1, b2⟩ | ⟨b1, b2, b3⟩ | ⟨b1, b2, b3, b4⟩ | ⟨b1, b2, b3, b4⟩ <;> first | exact a1.trans b1.symm | contradiction
theorem pu_er.iff {v : Int32} {U B T U' B' T' : Prop} (h : pu_er v U B T) (hU : U ↔ U') (hB : B ↔ B') (hT : T ↔ T') : pu_er v U' B' T' := by
  rw [← propext hU, ← propext hB, ← propext hT]
  exact h
theorem pu_er.le {v : Int32} {U B T : Prop} (h : pu_er v U B T) : v ≤ 0 := by
  rcases h with a | a | a | a <;> (rw [a.1]; decide)
theorem pu_er.z {v : Int32} {U B T : Prop} (h : pu_er v U B T) (hv : v = 0) : ¬ U ∧ ¬ B ∧ ¬ T := by
  rcases h with a | a | a | a
  · rw [a.1] at hv; exact absurd hv (by decide)
  · rw [a.1] at hv; exact absurd hv (by decide)
  · rw [a.1] at hv; exact absurd hv (by decide)
  · exact a.2
/-- of two refusals the one that counts -/
def pu_ea (v a b : Int32) : Prop := (a = 0 ∧ v = b) ∨ (b = 0 ∧ v = a) ∨ (¬ a = 0 ∧ ¬ b = 0 ∧ ((a ≤ b ∧ v = b) ∨ (b ≤ a ∧ v = a)))
theorem pu_er.or {v a b : Int32} {U B T U' B' T' : Prop} (h : pu_er a U B T) (h' : pu_er b U' B' T') (hv : pu_ea v a b) : pu_er v (U ∨ U') (B ∨ B') (T ∨ T') := by
  have e1 : ¬ (-3 : Int32) = 0 := by decide
  have e2 : ¬ (-4 : Int32) = 0 := by decide
  have e3 : ¬ (-5 : Int32) = 0 := by decide
  have l1 : ¬ (-3 : Int32) ≤ -4 := by decide
  have l2 : ¬ (-3 : Int32) ≤ -5 := by decide
  have l3 : ¬ (-4 : Int32) ≤ -5 := by decide
  unfold pu_er at h h' ⊢
  unfold pu_ea at hv
  rcases h with ⟨rfl, a2⟩ | ⟨rfl, a2, a3⟩ | ⟨rfl, a2, a3, a4⟩ | ⟨rfl, a2, a3, a4⟩ <;> rcases h' with ⟨rfl, b2⟩ | ⟨rfl, b2, b3⟩ | ⟨rfl, b2, b3, b4⟩ | ⟨rfl, b2, b3, b4⟩ <;> rcases hv with ⟨c1, rfl⟩ | ⟨c1, rfl⟩ | ⟨c1, c2, ⟨c3, rfl⟩ | ⟨c3, rfl⟩⟩ <;> first | contradiction | simp_all
theorem pu_ea0 (v a : Int32) (h : pu_ea v a 0) : v = a := by
  rcases h with ⟨h1, h2⟩ | ⟨h1, h2⟩ | ⟨h1, h2, -⟩
  · rw [h1, h2]
  · exact h2
  · exact absurd rfl h2
theorem pu_ea6 {v a : Int32} {U B T : Prop} (ha : pu_er a U B T) (h : pu_ea v a (-6)) : (¬ a = 0 ∧ v = a) ∨ (a = 0 ∧ v = -6) := by
  rcases h with ⟨h1, h2⟩ | ⟨h1, h2⟩ | ⟨h1, h2, h3⟩
  · exact Or.inr ⟨h1, h2⟩
  · exact absurd h1 (by decide)
  · refine Or.inl ⟨h1, ?_⟩
    rcases h3 with ⟨h3, h4⟩ | ⟨h3, h4⟩
    · rcases ha with q | q | q | q
      · rw [q.1] at h3; exact absurd h3 (by decide)
      · rw [q.1] at h3; exact absurd h3 (by decide)
      · rw [q.1] at h3; exact absurd h3 (by decide)
      · exact absurd q.1 h1
    · exact h4
def pu_ltr (x : Int32) : Prop := (65 ≤ x ∧ x ≤ 90) ∨ (97 ≤ x ∧ x ≤ 122)
/-- the draft isn't relative -/
def pu_abs (R : Int32) (D : Nat → Int32) (d : Nat) : Prop := (0 < d ∧ ¬ sp_pb R (D 0) = 0) ∨ (2 ≤ d ∧ D 1 = 58 ∧ pu_ltr (D 0))
def pu_U (us : List (List Int32)) : Prop := ∃ u, u ∈ us ∧ pu_up u
def pu_B (R : Int32) (us : List (List Int32)) : Prop := ∃ u, u ∈ us ∧ pu_bad R u
def pu_T (us : List (List Int32)) : Prop := ∃ u, u ∈ us ∧ 16 < u.length
/-- refused as a PATH, with v -/
def pu_ref (v R : Int32) (D : Nat → Int32) (d np : Nat) (us : List (List Int32)) : Prop := (us = [] ∧ v = -1) ∨ (¬ us = [] ∧ pu_abs R D d ∧ v = -2) ∨ (¬ us = [] ∧ ¬ pu_abs R D d ∧ ((¬ v = 0 ∧ pu_er v (pu_U us) (pu_B R us) (8 < us.length ∨ pu_T us)) ∨ (pu_er 0 (pu_U us) (pu_B R us) (8 < us.length ∨ pu_T us) ∧ ¬ np < 60 ∧ v = -6)))
def pu_ok (R : Int32) (D : Nat → Int32) (d np : Nat) (us : List (List Int32)) : Prop := ¬ us = [] ∧ ¬ pu_abs R D d ∧ pu_er 0 (pu_U us) (pu_B R us) (8 < us.length ∨ pu_T us) ∧ np < 60
theorem pu_ref.nok {v R : Int32} {D : Nat → Int32} {d np : Nat} {us : List (List Int32)} (h : pu_ref v R D d np us) : ¬ pu_ok R D d np us := by
  rintro ⟨h1, h2, h3, h4⟩
  rcases h with ⟨a1, -⟩ | ⟨-, a2, -⟩ | ⟨-, -, ⟨a1, a2⟩ | ⟨-, a2, -⟩⟩
  · exact h1 a1
  · exact h2 a2
  · exact a1 (a2.det h3)
  · exact a2 h4
theorem pu_ref.det {v v' R : Int32} {D : Nat → Int32} {d np : Nat} {us : List (List Int32)} (h : pu_ref v R D d np us) (h' : pu_ref v' R D d np us) : v = v' := by
  rcases h with ⟨a1, a2⟩ | ⟨a1, a2, a3⟩ | ⟨a1, a2, ⟨a3, a4⟩ | ⟨a3, a4, a5⟩⟩ <;> rcases h' with ⟨b1, b2⟩ | ⟨b1, b2, b3⟩ | ⟨b1, b2, ⟨b3, b4⟩ | ⟨b3, b4, b5⟩⟩
  · exact a2.trans b2.symm
  · exact absurd a1 b1
  · exact absurd a1 b1
  · exact absurd a1 b1
  · exact absurd b1 a1
  · exact a3.trans b3.symm
  · exact absurd a2 b2
  · exact absurd a2 b2
  · exact absurd b1 a1
  · exact absurd b2 a2
  · exact a4.det b4
  · exact absurd (a4.det b3) a3
  · exact absurd b1 a1
  · exact absurd b2 a2
  · exact absurd (b4.det a3) b3
  · exact a5.trans b5.symm
theorem pu_exap {p : List Int32 → Prop} {l : List (List Int32)} {w : List Int32} : (∃ u, u ∈ l ++ [w] ∧ p u) ↔ (∃ u, u ∈ l ∧ p u) ∨ p w := by
  constructor
  · rintro ⟨u, h1, h2⟩
    rcases List.mem_append.mp h1 with h | h
    · exact Or.inl ⟨u, h, h2⟩
    · rw [List.mem_singleton.mp h] at h2; exact Or.inr h2
  · rintro (⟨u, h1, h2⟩ | h)
    · exact ⟨u, List.mem_append.mpr (Or.inl h1), h2⟩
    · exact ⟨w, List.mem_append.mpr (Or.inr (List.mem_singleton.mpr rfl)), h⟩
theorem pu_take {us : List (List Int32)} {i : Nat} (hi : i < us.length) : us.take (i + 1) = us.take i ++ [us.getD i []] := by
  rw [List.take_add_one, List.getD_eq_getElem?_getD, List.getElem?_eq_getElem hi]
  rfl
/-- drafts that agree are parted alike -/
theorem sp_RN.congr {D D' : Nat → Int32} {R : Int32} {N a r : Nat} (hD : ∀ j, j < N → D j = D' j) (h : sp_RN D R N a r) : sp_RN D' R N a r :=
  ⟨h.1, fun j hj => by rw [← hD _ (by have := h.1; omega)]; exact h.2.1 j hj, fun hj => by rw [← hD _ hj]; exact h.2.2 hj⟩
theorem sp_wkk.congr {D D' : Nat → Int32} {R : Int32} {N a r : Nat} (hD : ∀ j, j < N → D j = D' j) (hr : sp_RN D R N a r) : sp_wkk D a r ↔ sp_wkk D' a r := by
  unfold sp_wkk
  by_cases h : 0 < r
  · rw [hD a (by have := hr.1; omega)]
  · constructor <;> (intro z; exact absurd z.1 h)
theorem sp_NP.congr {D D' : Nat → Int32} {R : Int32} {N a : Nat} {o : Option (Nat × Nat)} (hD : ∀ j, j < N → D j = D' j) (h : sp_NP D R N a o) : sp_NP D' R N a o :=
  h (fun a o => sp_NP D' R N a o) (fun a h1 => sp_NP.done h1) (fun a r o h1 hr hw ih => sp_NP.skip h1 (hr.congr hD) (fun z => hw ((sp_wkk.congr hD hr).mpr z)) ih) (fun a r h1 hr hw => sp_NP.hit h1 (hr.congr hD) ((sp_wkk.congr hD hr).mp hw))
theorem sp_TR.congr {D D' : Nat → Int32} {R : Int32} {N : Nat} (hD : ∀ j, j < N → D j = D' j) : ∀ {l : List (Nat × Nat)} {a : Nat}, sp_TR D R N a l → sp_TR D' R N a l
  | [], a, h => sp_NP.congr hD h
  | r :: l, a, h => ⟨h.1.congr hD, sp_TR.congr hD h.2⟩
theorem sp_seg_congr {D D' : Nat → Int32} {N a r : Nat} (hD : ∀ j, j < N → D j = D' j) (h : a + r ≤ N) : sp_seg D a r = sp_seg D' a r := by
  unfold sp_seg
  apply List.map_congr_left
  intro i hi
  exact hD _ (by have := List.mem_range.mp hi; omega)
theorem sp_nme_congr {D D' : Nat → Int32} {R : Int32} {N : Nat} (hD : ∀ j, j < N → D j = D' j) {l : List (Nat × Nat)} {a : Nat} (h : sp_TR D R N a l) : l.map (sp_nme D) = l.map (sp_nme D') := by
  apply List.map_congr_left
  intro x hx
  obtain ⟨b, h1, h2, h3, -⟩ := h.mem x hx
  unfold sp_nme
  refine sp_seg_congr hD ?_
  have := h3.1
  omega
theorem pu_abs.congr {D D' : Nat → Int32} {R : Int32} {d : Nat} (hD : ∀ j, j < d → D j = D' j) : pu_abs R D d ↔ pu_abs R D' d := by
  unfold pu_abs
  constructor
  · rintro (⟨h1, h2⟩ | ⟨h1, h2, h3⟩)
    · exact Or.inl ⟨h1, by rw [← hD 0 h1]; exact h2⟩
    · exact Or.inr ⟨h1, by rw [← hD 1 (by omega)]; exact h2, by rw [← hD 0 (by omega)]; exact h3⟩
  · rintro (⟨h1, h2⟩ | ⟨h1, h2, h3⟩)
    · exact Or.inl ⟨h1, by rw [hD 0 h1]; exact h2⟩
    · exact Or.inr ⟨h1, by rw [hD 1 (by omega)]; exact h2, by rw [hD 0 (by omega)]; exact h3⟩
theorem pu_ref.congr {D D' : Nat → Int32} {v R : Int32} {d np : Nat} {us : List (List Int32)} (hD : ∀ j, j < d → D j = D' j) (h : pu_ref v R D d np us) : pu_ref v R D' d np us := by
  unfold pu_ref at h ⊢
  rw [← propext (pu_abs.congr (R := R) hD)]
  exact h
theorem pu_ok.congr {D D' : Nat → Int32} {R : Int32} {d np : Nat} {us : List (List Int32)} (hD : ∀ j, j < d → D j = D' j) (h : pu_ok R D d np us) : pu_ok R D' d np us := by
  unfold pu_ok at h ⊢
  rw [← propext (pu_abs.congr (R := R) hD)]
  exact h
theorem sp_mapD (D : Nat → Int32) (l : List (Nat × Nat)) {j : Nat} (hj : j < l.length) : (l.map (sp_nme D)).getD j [] = sp_nme D (l.getD j (0, 0)) := by
  rw [List.getD_eq_getElem?_getD, List.getD_eq_getElem?_getD, List.getElem?_map, List.getElem?_eq_getElem hj]
  rfl
/-- PATHS are as they must be -/
def pu_P (p : Nat) (PT : Nat → List (List Int32)) : Prop := ∀ j, j < p → 1 ≤ (PT j).length ∧ (PT j).length ≤ 8 ∧ ∀ k, k < (PT j).length → 1 ≤ ((PT j).getD k []).length ∧ ((PT j).getD k []).length ≤ 16
def pu_Tt (t : Nat) (TT : Nat → List Int32) : Prop := ∀ j, j < t → 1 ≤ (TT j).length ∧ (TT j).length ≤ 40
/-- part's answer -/
def pu_part (v : Int32) (p : Nat) (PT : Nat → List (List Int32)) (x y z : Int32) : Prop := (∃ j k i, j < p ∧ x = nI j ∧ k < (PT j).length ∧ y = nI k ∧ i < ((PT j).getD k []).length ∧ z = nI i ∧ v = ((PT j).getD k []).getD i 0) ∨ ((¬ ∃ j k i, j < p ∧ x = nI j ∧ k < (PT j).length ∧ y = nI k ∧ i < ((PT j).getD k []).length ∧ z = nI i) ∧ v = -1)
theorem pu_nI {a b : Nat} (h : nI a = nI b) (ha : a < 2 ^ 31) (hb : b < 2 ^ 31) : a = b := (nI_eq ha hb).mp h
theorem pu_part.det {v v' : Int32} {p : Nat} {PT : Nat → List (List Int32)} {x y z : Int32} (hp : p ≤ 60) (hP : pu_P p PT) (h : pu_part v p PT x y z) (h' : pu_part v' p PT x y z) : v = v' := by
  rcases h with ⟨j, k, i, a1, a2, a3, a4, a5, a6, a7⟩ | ⟨a1, a2⟩ <;> rcases h' with ⟨j', k', i', b1, b2, b3, b4, b5, b6, b7⟩ | ⟨b1, b2⟩
  · obtain rfl := pu_nI (a2.symm.trans b2) (by omega) (by omega)
    have hl := hP j a1
    obtain rfl := pu_nI (a4.symm.trans b4) (by omega) (by omega)
    have hk := hl.2.2 k a3
    obtain rfl := pu_nI (a6.symm.trans b6) (by omega) (by omega)
    rw [a7, b7]
  · exact absurd ⟨j, k, i, a1, a2, a3, a4, a5, a6⟩ b1
  · exact absurd ⟨j', k', i', b1, b2, b3, b4, b5, b6⟩ a1
  · exact a2.trans b2.symm
theorem pu_part.mk {v : Int32} {p j : Nat} {PT : Nat → List (List Int32)} {x y z : Int32} {u : List Int32} (hp : p ≤ 60) (hP : pu_P p PT) (hj : j < p) (hx : x = nI j) (hu : (∃ k, k < (PT j).length ∧ y = nI k ∧ u = (PT j).getD k []) ∨ ((¬ ∃ k, k < (PT j).length ∧ y = nI k) ∧ u = [])) (hv : (∃ i, i < u.length ∧ z = nI i ∧ v = u.getD i 0) ∨ ((¬ ∃ i, i < u.length ∧ z = nI i) ∧ v = -1)) : pu_part v p PT x y z := by
  have hl := hP j hj
  rcases hu with ⟨k, a1, a2, rfl⟩ | ⟨a1, rfl⟩
  · have hk := hl.2.2 k a1
    rcases hv with ⟨i, b1, b2, b3⟩ | ⟨b1, b2⟩
    · exact Or.inl ⟨j, k, i, hj, hx, a1, a2, b1, b2, b3⟩
    · refine Or.inr ⟨?_, b2⟩
      rintro ⟨j', k', i', c1, c2, c3, c4, c5, c6⟩
      obtain rfl := pu_nI (hx.symm.trans c2) (by omega) (by omega)
      obtain rfl := pu_nI (a2.symm.trans c4) (by omega) (by omega)
      exact b1 ⟨i', c5, c6⟩
  · rcases hv with ⟨i, b1, -⟩ | ⟨b1, b2⟩
    · exact absurd b1 (Nat.not_lt_zero _)
    · refine Or.inr ⟨?_, b2⟩
      rintro ⟨j', k', i', c1, c2, c3, c4, c5, c6⟩
      obtain rfl := pu_nI (hx.symm.trans c2) (by omega) (by omega)
      exact a1 ⟨k', c3, c4⟩
theorem pu_part.no {v : Int32} {p : Nat} {PT : Nat → List (List Int32)} {x y z : Int32} (h : ¬ ∃ j, j < p ∧ x = nI j) (hv : v = -1) : pu_part v p PT x y z :=
  Or.inr ⟨fun ⟨j, _, _, h1, h2, _⟩ => h ⟨j, h1, h2⟩, hv⟩
/-- two names are taken as one -/
def pu_al (R : Int32) (u v : List Int32) : Prop := u.length = v.length ∧ ∀ i, i < u.length → (u.getD i 0 = v.getD i 0 ∨ (¬ sp_hr R 2 = 0 ∧ sp_sm (u.getD i 0) = sp_sm (v.getD i 0)))
def pu_mt (R : Int32) (us vs : List (List Int32)) : Prop := us.length = vs.length ∧ ∀ i, i < us.length → pu_al R (us.getD i []) (vs.getD i [])
/-- an entry is as it must be -/
def pu_ent (kd x y : Int32) (z : Int64) (p t : Nat) : Prop := ¬ kd < 0 ∧ kd ≤ 4 ∧ (∃ j, j < p ∧ x = nI j) ∧ (kd = 0 → y = 0 ∨ y = 1) ∧ (kd = 1 → ¬ z < 0 ∧ z ≤ 1099511627776) ∧ (kd = 2 → ∃ j, j < t ∧ y = nI j) ∧ (kd = 3 → ∃ j, j < p ∧ y = nI j)
theorem pu_ent.iff0 {kd x y : Int32} {z : Int64} {p t : Nat} (h : kd = 0) (hx : ∃ j, j < p ∧ x = nI j) : pu_ent kd x y z p t ↔ (y = 0 ∨ y = 1) := by
  subst h
  exact ⟨fun q => q.2.2.2.1 rfl, fun q => ⟨by decide, by decide, hx, fun _ => q, fun z => absurd z (by decide), fun z => absurd z (by decide), fun z => absurd z (by decide)⟩⟩
theorem pu_ent.iff1 {kd x y : Int32} {z : Int64} {p t : Nat} (h : kd = 1) (hx : ∃ j, j < p ∧ x = nI j) : pu_ent kd x y z p t ↔ (¬ z < 0 ∧ z ≤ 1099511627776) := by
  subst h
  exact ⟨fun q => q.2.2.2.2.1 rfl, fun q => ⟨by decide, by decide, hx, fun z => absurd z (by decide), fun _ => q, fun z => absurd z (by decide), fun z => absurd z (by decide)⟩⟩
theorem pu_ent.iff2 {kd x y : Int32} {z : Int64} {p t : Nat} (h : kd = 2) (hx : ∃ j, j < p ∧ x = nI j) : pu_ent kd x y z p t ↔ (∃ j, j < t ∧ y = nI j) := by
  subst h
  exact ⟨fun q => q.2.2.2.2.2.1 rfl, fun q => ⟨by decide, by decide, hx, fun z => absurd z (by decide), fun z => absurd z (by decide), fun _ => q, fun z => absurd z (by decide)⟩⟩
theorem pu_ent.iff3 {kd x y : Int32} {z : Int64} {p t : Nat} (h : kd = 3) (hx : ∃ j, j < p ∧ x = nI j) : pu_ent kd x y z p t ↔ (∃ j, j < p ∧ y = nI j) := by
  subst h
  exact ⟨fun q => q.2.2.2.2.2.2 rfl, fun q => ⟨by decide, by decide, hx, fun z => absurd z (by decide), fun z => absurd z (by decide), fun z => absurd z (by decide), fun _ => q⟩⟩
theorem pu_ent.of4 {kd x y : Int32} {z : Int64} {p t : Nat} (h : kd = 4) (hx : ∃ j, j < p ∧ x = nI j) : pu_ent kd x y z p t := by
  subst h
  exact ⟨by decide, by decide, hx, fun z => absurd z (by decide), fun z => absurd z (by decide), fun z => absurd z (by decide), fun z => absurd z (by decide)⟩
theorem pu_k3 {kd : Int32} (h0 : ¬ kd < 0) (h4 : kd ≤ 4) (n0 : ¬ kd = 0) (n1 : ¬ kd = 1) (n2 : ¬ kd = 2) (n4 : ¬ kd = 4) : kd = 3 := by
  obtain ⟨n, hn, rfl⟩ := nI_of h0
  have h5 : n ≤ 4 := (nI_leI (b := 4) hn (by decide)).mp h4
  have : n ≠ 0 := fun z => n0 (by rw [z]; rfl)
  have : n ≠ 1 := fun z => n1 (by rw [z]; rfl)
  have : n ≠ 2 := fun z => n2 (by rw [z]; rfl)
  have : n ≠ 4 := fun z => n4 (by rw [z]; rfl)
  rw [show n = 3 by omega]
  rfl
theorem pu_cle {a b : Int64} (h : lg_cmp a b ≤ 0) : a ≤ b := by
  unfold lg_cmp at h
  by_cases q : a > b
  · rw [if_pos q] at h; exact absurd h (by decide)
  · exact Int64.not_lt.mp q
theorem pu_cgt {a b : Int64} (h : ¬ lg_cmp a b ≤ 0) : ¬ a ≤ b := by
  unfold lg_cmp at h
  by_cases q : a > b
  · exact Int64.not_le.mpr q
  · rw [if_neg q] at h
    by_cases q2 : a = b
    · rw [if_pos q2] at h; exact absurd (by decide) h
    · rw [if_neg q2] at h; exact absurd (by decide) h
/-- all bytes of a name are bytes -/
def pu_by (u : List Int32) : Prop := ∀ i, i < u.length → 0 ≤ u.getD i 0 ∧ u.getD i 0 ≤ 255
/-- the names of a draft's parts -/
def sp_us (D : Nat → Int32) (R : Int32) (d : Nat) (us : List (List Int32)) : Prop := ∃ ls, sp_TR D R d 0 ls ∧ us = ls.map (sp_nme D)
theorem sp_us.det {D : Nat → Int32} {R : Int32} {d : Nat} {us vs : List (List Int32)} (h : sp_us D R d us) (h' : sp_us D R d vs) : us = vs := by
  obtain ⟨l, h1, rfl⟩ := h
  obtain ⟨l', h2, rfl⟩ := h'
  rw [h1.det h2]
theorem sp_us.congr {D D' : Nat → Int32} {R : Int32} {d : Nat} {us : List (List Int32)} (hD : ∀ j, j < d → D j = D' j) (h : sp_us D R d us) : sp_us D' R d us := by
  obtain ⟨l, h1, rfl⟩ := h
  exact ⟨l, h1.congr hD, sp_nme_congr hD h1⟩
/-- bytes -/
def sp_by (D : Nat → Int32) (d : Nat) : Prop := ∀ j, j < d → 0 ≤ D j ∧ D j ≤ 255
theorem sp_us.by_ {D : Nat → Int32} {R : Int32} {d : Nat} {us : List (List Int32)} (h : sp_us D R d us) (hb : sp_by D d) : ∀ u, u ∈ us → pu_by u := by
  obtain ⟨l, h1, rfl⟩ := h
  intro u hu
  obtain ⟨x, hx, rfl⟩ := List.mem_map.mp hu
  obtain ⟨b, q1, q2, q3, -⟩ := h1.mem x hx
  intro i hi
  rw [sp_nme_len] at hi
  unfold sp_nme
  rw [sp_seg_get _ _ _ hi]
  exact hb _ (by have := q3.1; omega)
theorem sp_us.ne_ {D : Nat → Int32} {R : Int32} {d : Nat} {us : List (List Int32)} (h : sp_us D R d us) : ∀ u, u ∈ us → 0 < u.length := by
  obtain ⟨l, h1, rfl⟩ := h
  intro u hu
  obtain ⟨x, hx, rfl⟩ := List.mem_map.mp hu
  obtain ⟨b, q1, q2, q3, q4⟩ := h1.mem x hx
  rw [sp_nme_len]
  exact q4.1
theorem sp_getD_mem {us : List (List Int32)} {k : Nat} (hk : k < us.length) : us.getD k [] ∈ us := by
  rw [List.getD_eq_getElem?_getD, List.getElem?_eq_getElem hk]
  exact List.getElem_mem hk

/-! THE TREE, pure: kind, shut, dead, gone, over, has, name -/
def pu_N : Type := (Nat → Int32) × (Nat → Int32) × (Nat → Int32) × (Nat → Int32) × (Nat → Nat) × (Nat → Nat) × (Nat → List Int32)
def pu_N.k (T : pu_N) : Nat → Int32 := T.1
def pu_N.s (T : pu_N) : Nat → Int32 := T.2.1
def pu_N.d (T : pu_N) : Nat → Int32 := T.2.2.1
def pu_N.g (T : pu_N) : Nat → Int32 := T.2.2.2.1
def pu_N.o (T : pu_N) : Nat → Nat := T.2.2.2.2.1
def pu_N.h (T : pu_N) : Nat → Nat := T.2.2.2.2.2.1
def pu_N.w (T : pu_N) : Nat → List Int32 := T.2.2.2.2.2.2
/-- what a name is IN a folder -/
def pu_sa (T : pu_N) (n f : Nat) (u : List Int32) (j : Nat) : Prop := j < n ∧ T.g j = 0 ∧ T.o j = f ∧ T.w j = u
def pu_lk (T : pu_N) (n f : Nat) (u : List Int32) (j : Nat) : Prop := j < n ∧ T.g j = 0 ∧ T.o j = f ∧ (T.w j).map sp_sm = u.map sp_sm
def pu_in (R : Int32) (n : Nat) (T : pu_N) (f : Nat) (u : List Int32) (o : Option Nat) : Prop := (∃ j, o = some j ∧ pu_sa T n f u j ∧ ∀ i, i < j → ¬ pu_sa T n f u i) ∨ ((∀ i, ¬ pu_sa T n f u i) ∧ ¬ sp_hr R 2 = 0 ∧ ∃ j, o = some j ∧ pu_lk T n f u j ∧ ∀ i, i < j → ¬ pu_lk T n f u i) ∨ ((∀ i, ¬ pu_sa T n f u i) ∧ (sp_hr R 2 = 0 ∨ ∀ i, ¬ pu_lk T n f u i) ∧ o = none)
theorem pu_in.det {R : Int32} {n : Nat} {T : pu_N} {f : Nat} {u : List Int32} {o o' : Option Nat} (h : pu_in R n T f u o) (h' : pu_in R n T f u o') : o = o' := by
  rcases h with ⟨j, rfl, a1, a2⟩ | ⟨a1, a2, j, rfl, a3, a4⟩ | ⟨a1, a2, rfl⟩ <;> rcases h' with ⟨i, rfl, b1, b2⟩ | ⟨b1, b2, i, rfl, b3, b4⟩ | ⟨b1, b2, rfl⟩
  · rcases Nat.lt_trichotomy j i with q | q | q
    · exact absurd a1 (b2 j q)
    · rw [q]
    · exact absurd b1 (a2 i q)
  · exact absurd a1 (b1 j)
  · exact absurd a1 (b1 j)
  · exact absurd b1 (a1 i)
  · rcases Nat.lt_trichotomy j i with q | q | q
    · exact absurd a3 (b4 j q)
    · rw [q]
    · exact absurd b3 (a4 i q)
  · rcases b2 with q | q
    · exact absurd q a2
    · exact absurd a3 (q j)
  · exact absurd b1 (a1 i)
  · rcases a2 with q | q
    · exact absurd q b2
    · exact absurd b3 (q i)
  · rfl
theorem pu_in.lt {R : Int32} {n : Nat} {T : pu_N} {f j : Nat} {u : List Int32} (h : pu_in R n T f u (some j)) : j < n ∧ T.g j = 0 ∧ T.o j = f := by
  rcases h with ⟨i, e, a1, -⟩ | ⟨-, -, i, e, a1, -⟩ | ⟨-, -, e⟩
  · cases e; exact ⟨a1.1, a1.2.1, a1.2.2.1⟩
  · cases e; exact ⟨a1.1, a1.2.1, a1.2.2.1⟩
  · cases e
/-- the way up -/
def pu_it (o : Nat → Nat) : Nat → Nat → Nat
  | 0, j => j
  | k + 1, j => pu_it o k (o j)
def pu_ins (o : Nat → Nat) (j : Nat) : Prop := ∃ k, pu_it o k j = 1
theorem pu_ins.one (o : Nat → Nat) : pu_ins o 1 := ⟨0, rfl⟩
theorem pu_ins.step {o : Nat → Nat} {j : Nat} (h : j ≠ 1) : pu_ins o j ↔ pu_ins o (o j) := by
  constructor
  · rintro ⟨k, hk⟩
    cases k with
    | zero => exact absurd hk h
    | succ k => exact ⟨k, hk⟩
  · rintro ⟨k, hk⟩
    exact ⟨k + 1, hk⟩
theorem pu_ins.zero {o : Nat → Nat} (h : o 0 = 0) : ¬ pu_ins o 0 := by
  have hz : ∀ k, pu_it o k 0 = 0 := by
    intro k
    induction k with
    | zero => rfl
    | succ k ih => show pu_it o k (o 0) = 0; rw [h]; exact ih
  rintro ⟨k, hk⟩
  rw [hz k] at hk
  omega
/-- what a PATH is from a folder on; le: to the letter -/
def pu_rc (R : Int32) (n : Nat) (T : pu_N) (le : Prop) : Nat → List (List Int32) → Option Nat → Prop
  | f, [], o => o = some f
  | f, u :: us, o => (¬ T.k f = 0 ∧ o = none) ∨ (T.k f = 0 ∧ ((pu_in R n T f u none ∧ o = none) ∨ ∃ j, pu_in R n T f u (some j) ∧ ((le ∧ ¬ T.w j = u ∧ o = none) ∨ (¬ (le ∧ ¬ T.w j = u) ∧ pu_rc R n T le j us o))))
theorem pu_rc.det {R : Int32} {n : Nat} {T : pu_N} {le : Prop} : ∀ {us : List (List Int32)} {f : Nat} {o o' : Option Nat}, pu_rc R n T le f us o → pu_rc R n T le f us o' → o = o'
  | [], f, o, o', h, h' => by rw [show o = some f from h, show o' = some f from h']
  | u :: us, f, o, o', h, h' => by
    rcases h with ⟨a1, a2⟩ | ⟨a1, a2⟩ <;> rcases h' with ⟨b1, b2⟩ | ⟨b1, b2⟩
    · rw [a2, b2]
    · exact absurd b1 a1
    · exact absurd a1 b1
    · rcases a2 with ⟨c1, c2⟩ | ⟨j, c1, c2⟩ <;> rcases b2 with ⟨d1, d2⟩ | ⟨i, d1, d2⟩
      · rw [c2, d2]
      · exact absurd (c1.det d1) (by simp)
      · exact absurd (c1.det d1) (by simp)
      · have e := c1.det d1
        cases e
        rcases c2 with ⟨e1, e2, e3⟩ | ⟨e1, e2⟩ <;> rcases d2 with ⟨f1, f2, f3⟩ | ⟨f1, f2⟩
        · rw [e3, f3]
        · exact absurd ⟨e1, e2⟩ f1
        · exact absurd ⟨f1, f2⟩ e1
        · exact pu_rc.det e2 f2

/-! where a target leads: folder, names below it that aren't there, links gone through, names ahead -/
abbrev pu_S : Type := Nat × Nat × Nat × List (List Int32)
def pu_s2 (T : pu_N) (tp : Nat → List (List Int32)) (tf : Nat → Prop) (f lk : Nat) (r : List (List Int32)) (i : Option Nat) (o : pu_S ⊕ Int32) : Prop := (i = none ∧ o = .inl (f, 1, lk, r)) ∨ ∃ j, i = some j ∧ ((T.k j = 0 ∧ o = .inl (j, 0, lk, r)) ∨ (T.k j = 2 ∧ T.d j = 0 ∧ ((¬ lk < 20 ∧ o = .inr (-3)) ∨ (lk < 20 ∧ ((tf (T.h j) ∧ o = .inl (0, 0, lk + 1, tp (T.h j) ++ r)) ∨ (¬ tf (T.h j) ∧ o = .inl (f, 0, lk + 1, tp (T.h j) ++ r)))))) ∨ ((¬ T.k j = 0 ∧ ¬ (T.k j = 2 ∧ T.d j = 0)) ∧ ((r = [] ∧ o = .inr (nI j)) ∨ (¬ r = [] ∧ o = .inr (-2)))))
def pu_s1 (R : Int32) (n : Nat) (T : pu_N) (tp : Nat → List (List Int32)) (tf : Nat → Prop) (f bl lk : Nat) (u : List Int32) (r : List (List Int32)) (o : pu_S ⊕ Int32) : Prop := (0 < bl ∧ pu_up u ∧ o = .inl (f, bl - 1, lk, r)) ∨ (0 < bl ∧ ¬ pu_up u ∧ o = .inl (f, bl + 1, lk, r)) ∨ (bl = 0 ∧ pu_up u ∧ o = .inl (T.o f, 0, lk, r)) ∨ (bl = 0 ∧ ¬ pu_up u ∧ ∃ i, pu_in R n T f u i ∧ pu_s2 T tp tf f lk r i o)
def pu_st (R : Int32) (n : Nat) (T : pu_N) (tp : Nat → List (List Int32)) (tf : Nat → Prop) (s : pu_S) (o : pu_S ⊕ Int32) : Prop := (¬ pu_ins T.o s.1 ∧ o = .inr (-1)) ∨ (pu_ins T.o s.1 ∧ s.2.2.2 = [] ∧ ((0 < s.2.1 ∧ o = .inr (-2)) ∨ (s.2.1 = 0 ∧ o = .inr (nI s.1)))) ∨ (pu_ins T.o s.1 ∧ ∃ u r, s.2.2.2 = u :: r ∧ pu_s1 R n T tp tf s.1 s.2.1 s.2.2.1 u r o)
theorem pu_s2.det {T : pu_N} {tp : Nat → List (List Int32)} {tf : Nat → Prop} {f lk : Nat} {r : List (List Int32)} {i : Option Nat} {o o' : pu_S ⊕ Int32} (h : pu_s2 T tp tf f lk r i o) (h' : pu_s2 T tp tf f lk r i o') : o = o' := by
  rcases h with ⟨rfl, a⟩ | ⟨j, rfl, a⟩
  · rcases h' with ⟨-, b⟩ | ⟨j, e, -⟩
    · rw [a, b]
    · cases e
  · rcases h' with ⟨e, -⟩ | ⟨j', e, b⟩
    · cases e
    · cases e
      have h02 : ¬ (0 : Int32) = 2 := by decide
      rcases a with ⟨a1, a2⟩ | ⟨a1, a2, a3⟩ | ⟨⟨a1, a2⟩, a3⟩ <;> rcases b with ⟨b1, b2⟩ | ⟨b1, b2, b3⟩ | ⟨⟨b1, b2⟩, b3⟩
      · rw [a2, b2]
      · exact absurd (a1.symm.trans b1) h02
      · exact absurd a1 b1
      · exact absurd (b1.symm.trans a1) h02
      · rcases a3 with ⟨c1, c2⟩ | ⟨c1, c2⟩ <;> rcases b3 with ⟨d1, d2⟩ | ⟨d1, d2⟩
        · rw [c2, d2]
        · exact absurd d1 c1
        · exact absurd c1 d1
        · rcases c2 with ⟨c2, c3⟩ | ⟨c2, c3⟩ <;> rcases d2 with ⟨d2, d3⟩ | ⟨d2, d3⟩
          · rw [c3, d3]
          · exact absurd c2 d2
          · exact absurd d2 c2
          · rw [c3, d3]
      · exact absurd ⟨a1, a2⟩ b2
      · exact absurd b1 a1
      · exact absurd ⟨b1, b2⟩ a2
      · rcases a3 with ⟨c1, c2⟩ | ⟨c1, c2⟩ <;> rcases b3 with ⟨d1, d2⟩ | ⟨d1, d2⟩
        · rw [c2, d2]
        · exact absurd c1 d1
        · exact absurd d1 c1
        · rw [c2, d2]
theorem pu_s1.det {R : Int32} {n : Nat} {T : pu_N} {tp : Nat → List (List Int32)} {tf : Nat → Prop} {f bl lk : Nat} {u : List Int32} {r : List (List Int32)} {o o' : pu_S ⊕ Int32} (h : pu_s1 R n T tp tf f bl lk u r o) (h' : pu_s1 R n T tp tf f bl lk u r o') : o = o' := by
  rcases h with ⟨a1, a2, a3⟩ | ⟨a1, a2, a3⟩ | ⟨a1, a2, a3⟩ | ⟨a1, a2, i, a3, a4⟩ <;> rcases h' with ⟨b1, b2, b3⟩ | ⟨b1, b2, b3⟩ | ⟨b1, b2, b3⟩ | ⟨b1, b2, j, b3, b4⟩
  · rw [a3, b3]
  · exact absurd a2 b2
  · omega
  · omega
  · exact absurd b2 a2
  · rw [a3, b3]
  · omega
  · omega
  · omega
  · omega
  · rw [a3, b3]
  · exact absurd a2 b2
  · omega
  · omega
  · exact absurd b2 a2
  · rw [a3.det b3] at a4
    exact a4.det b4
theorem pu_st.det {R : Int32} {n : Nat} {T : pu_N} {tp : Nat → List (List Int32)} {tf : Nat → Prop} {s : pu_S} {o o' : pu_S ⊕ Int32} (h : pu_st R n T tp tf s o) (h' : pu_st R n T tp tf s o') : o = o' := by
  rcases h with ⟨a1, a2⟩ | ⟨a1, a2, a3⟩ | ⟨a1, u, r, a2, a3⟩ <;> rcases h' with ⟨b1, b2⟩ | ⟨b1, b2, b3⟩ | ⟨b1, v, q, b2, b3⟩
  · rw [a2, b2]
  · exact absurd b1 a1
  · exact absurd b1 a1
  · exact absurd a1 b1
  · rcases a3 with ⟨c1, c2⟩ | ⟨c1, c2⟩ <;> rcases b3 with ⟨d1, d2⟩ | ⟨d1, d2⟩
    · rw [c2, d2]
    · omega
    · omega
    · rw [c2, d2]
  · rw [a2] at b2; cases b2
  · exact absurd a1 b1
  · rw [a2] at b2; cases b2
  · rw [a2] at b2; cases b2
    exact a3.det b3
def pu_LG (R : Int32) (n : Nat) (T : pu_N) (tp : Nat → List (List Int32)) (tf : Nat → Prop) (s : pu_S) (v : Int32) : Prop := ∀ Q : pu_S → Int32 → Prop, (∀ s v, pu_st R n T tp tf s (.inr v) → Q s v) → (∀ s s' v, pu_st R n T tp tf s (.inl s') → Q s' v → Q s v) → Q s v
theorem pu_LG.end_ {R : Int32} {n : Nat} {T : pu_N} {tp : Nat → List (List Int32)} {tf : Nat → Prop} {s : pu_S} {v : Int32} (h : pu_st R n T tp tf s (.inr v)) : pu_LG R n T tp tf s v := fun _ h1 _ => h1 _ _ h
theorem pu_LG.go {R : Int32} {n : Nat} {T : pu_N} {tp : Nat → List (List Int32)} {tf : Nat → Prop} {s s' : pu_S} {v : Int32} (h : pu_st R n T tp tf s (.inl s')) (h' : pu_LG R n T tp tf s' v) : pu_LG R n T tp tf s v := fun Q h1 h2 => h2 _ _ _ h (h' Q h1 h2)
theorem pu_LG.inv {R : Int32} {n : Nat} {T : pu_N} {tp : Nat → List (List Int32)} {tf : Nat → Prop} {s : pu_S} {v : Int32} (h : pu_LG R n T tp tf s v) : pu_st R n T tp tf s (.inr v) ∨ ∃ s', pu_st R n T tp tf s (.inl s') ∧ pu_LG R n T tp tf s' v :=
  (h (fun s v => pu_LG R n T tp tf s v ∧ (pu_st R n T tp tf s (.inr v) ∨ ∃ s', pu_st R n T tp tf s (.inl s') ∧ pu_LG R n T tp tf s' v)) (fun s v h => ⟨pu_LG.end_ h, Or.inl h⟩) (fun s s' v h h' => ⟨pu_LG.go h h'.1, Or.inr ⟨s', h, h'.1⟩⟩)).2
theorem pu_LG.det {R : Int32} {n : Nat} {T : pu_N} {tp : Nat → List (List Int32)} {tf : Nat → Prop} {s : pu_S} {v v' : Int32} (h : pu_LG R n T tp tf s v) (h' : pu_LG R n T tp tf s v') : v = v' := by
  refine h (fun s v => ∀ v', pu_LG R n T tp tf s v' → v = v') (fun s v hs v' h' => ?_) (fun s s' v hs ih v' h' => ?_) v' h'
  · rcases h'.inv with q | ⟨s', q, -⟩
    · have := hs.det q; cases this; rfl
    · have := hs.det q; cases this
  · rcases h'.inv with q | ⟨s2, q, q2⟩
    · have := hs.det q; cases this
    · have := hs.det q
      cases this
      exact ih v' q2
/-- a draft of N bytes has few parts -/
theorem sp_TR.few {D : Nat → Int32} {R : Int32} {N : Nat} : ∀ {l : List (Nat × Nat)} {a : Nat}, sp_TR D R N a l → a ≤ N + 1 → a + 2 * l.length ≤ N + 1
  | [], a, h, ha => by simpa using ha
  | r :: l, a, h, ha => by
    obtain ⟨b, h1, h2, h3, h4, h5⟩ := h.1.get
    have h6 := h5.1
    have h7 := h4.1
    have := sp_TR.few h.2 (by omega)
    simp only [List.length_cons]
    omega
/-! a PATH is walked, part by part: refusal, folder, how many lack, what is there -/
def pu_wk (R : Int32) (n : Nat) (T : pu_N) (mk : Prop) : Nat → Nat → List (List Int32) → Int32 × Nat × Nat × Option Nat → Prop
  | _, _, [], _ => False
  | f, lk, [u], r => ∃ i, ((0 < lk ∧ i = none) ∨ (lk = 0 ∧ pu_in R n T f u i)) ∧ (((∃ j, i = some j ∧ ¬ T.w j = u ∧ sp_hr R 16 = 0) ∧ r.1 = -12) ∨ (¬ (∃ j, i = some j ∧ ¬ T.w j = u ∧ sp_hr R 16 = 0) ∧ r = (0, f, lk, i)))
  | f, lk, u :: us, r => ∃ i, ((0 < lk ∧ i = none) ∨ (lk = 0 ∧ pu_in R n T f u i)) ∧ ((i = none ∧ ((¬ mk ∧ r.1 = -13) ∨ (mk ∧ lk = 0 ∧ ¬ T.s f = 0 ∧ r.1 = -16) ∨ (mk ∧ ¬ (lk = 0 ∧ ¬ T.s f = 0) ∧ pu_wk R n T mk f (lk + 1) us r))) ∨ ∃ j, i = some j ∧ ((¬ T.w j = u ∧ sp_hr R 16 = 0 ∧ r.1 = -12) ∨ (¬ (¬ T.w j = u ∧ sp_hr R 16 = 0) ∧ ((T.k j = 2 ∧ r.1 = -14) ∨ (T.k j = 1 ∧ r.1 = -15) ∨ (T.k j = 0 ∧ pu_wk R n T mk j lk us r)))))

/-- how many j below n have p -/
noncomputable def pu_ct (p : Nat → Prop) : Nat → Nat
  | 0 => 0
  | n + 1 => pu_ct p n + @ite Nat (p n) (Classical.propDecidable (p n)) 1 0
theorem pu_ct_t {p : Nat → Prop} {n : Nat} (h : p n) : pu_ct p (n + 1) = pu_ct p n + 1 := by
  show pu_ct p n + @ite Nat (p n) (Classical.propDecidable (p n)) 1 0 = _
  rw [if_pos h]
theorem pu_ct_f {p : Nat → Prop} {n : Nat} (h : ¬ p n) : pu_ct p (n + 1) = pu_ct p n := by
  show pu_ct p n + @ite Nat (p n) (Classical.propDecidable (p n)) 1 0 = _
  rw [if_neg h]
  rfl
theorem pu_ct_le (p : Nat → Prop) : ∀ n, pu_ct p n ≤ n
  | 0 => Nat.le_refl _
  | n + 1 => by
    have := pu_ct_le p n
    by_cases h : p n
    · rw [pu_ct_t h]; omega
    · rw [pu_ct_f h]; omega

/-- the parts of TARGET t, and whether it is from the top -/
noncomputable def pu_tp (R : Int32) (TT : Nat → List Int32) (t : Nat) : List (List Int32) := Classical.epsilon (fun us => sp_us (fun i => (TT t).getD i 0) R (TT t).length us)
theorem pu_tp.eq {R : Int32} {TT : Nat → List Int32} {t : Nat} {us : List (List Int32)} (h : sp_us (fun i => (TT t).getD i 0) R (TT t).length us) : pu_tp R TT t = us :=
  sp_us.det (Classical.epsilon_spec (p := fun us => sp_us (fun i => (TT t).getD i 0) R (TT t).length us) ⟨us, h⟩) h
def pu_tf (R : Int32) (TT : Nat → List Int32) (t : Nat) : Prop := ¬ sp_pb R ((TT t).getD 0 0) = 0
theorem sp_us.few {D : Nat → Int32} {R : Int32} {d : Nat} {us : List (List Int32)} (h : sp_us D R d us) (hd : d ≤ 40) : us.length ≤ 20 := by
  obtain ⟨ls, h1, h2⟩ := h
  have := sp_TR.few h1 (by omega)
  rw [h2, List.length_map]
  omega
/-- a name that isn't up -/
def pu_go (T : pu_N) (tp : Nat → List (List Int32)) (tf : Nat → Prop) (f bl lk : Nat) (r : List (List Int32)) (i : Option Nat) (o : pu_S ⊕ Int32) : Prop := (0 < bl ∧ o = .inl (f, bl + 1, lk, r)) ∨ (bl = 0 ∧ pu_s2 T tp tf f lk r i o)

theorem pu_wk.cons {R : Int32} {n : Nat} {T : pu_N} {mk : Prop} {f lk : Nat} {u : List Int32} {us : List (List Int32)} (h : us ≠ []) {r : Int32 × Nat × Nat × Option Nat} : pu_wk R n T mk f lk (u :: us) r ↔ ∃ i, ((0 < lk ∧ i = none) ∨ (lk = 0 ∧ pu_in R n T f u i)) ∧ ((i = none ∧ ((¬ mk ∧ r.1 = -13) ∨ (mk ∧ lk = 0 ∧ ¬ T.s f = 0 ∧ r.1 = -16) ∨ (mk ∧ ¬ (lk = 0 ∧ ¬ T.s f = 0) ∧ pu_wk R n T mk f (lk + 1) us r))) ∨ ∃ j, i = some j ∧ ((¬ T.w j = u ∧ sp_hr R 16 = 0 ∧ r.1 = -12) ∨ (¬ (¬ T.w j = u ∧ sp_hr R 16 = 0) ∧ ((T.k j = 2 ∧ r.1 = -14) ∨ (T.k j = 1 ∧ r.1 = -15) ∨ (T.k j = 0 ∧ pu_wk R n T mk j lk us r))))) := by
  cases us with
  | nil => exact absurd rfl h
  | cons v vs => exact Iff.rfl
/-- what an entry's kind asks, once its way is fine: f, lk, th from the way; v the refusal, al what is there already, sh the body it shares, dd whether it is dead -/
def pu_jk (R : Int32) (n : Nat) (T : pu_N) (tp : Nat → List (List Int32)) (tf : Nat → Prop) (kd : Int32) (tg : Nat) (ou : List (List Int32)) (f lk : Nat) (th : Option Nat) (v : Int32) (al sh : Option Nat) (dd : Int32) : Prop :=
  (kd = 4 ∧ v = -20) ∨ (¬ kd = 4 ∧ ((kd = 0 ∧ (∃ j, th = some j ∧ T.k j = 0) ∧ v = 0 ∧ al = th ∧ sh = none ∧ dd = 0) ∨ (¬ (kd = 0 ∧ ∃ j, th = some j ∧ T.k j = 0) ∧ (((∃ j, th = some j ∧ (kd = 0 ∨ T.k j = 0)) ∧ v = -17) ∨ (¬ (∃ j, th = some j ∧ (kd = 0 ∨ T.k j = 0)) ∧ ((lk = 0 ∧ ¬ T.s f = 0 ∧ v = -16) ∨ (¬ (lk = 0 ∧ ¬ T.s f = 0) ∧ ((kd = 2 ∧ ∃ ff x, ((tf tg ∧ ff = 0) ∨ (¬ tf tg ∧ ff = f)) ∧ pu_LG R n T tp tf (ff, lk, 0, tp tg) x ∧ ((x = -1 ∧ sp_hr R 4 = 0 ∧ v = -18) ∨ (x = -1 ∧ ¬ sp_hr R 4 = 0 ∧ v = 0 ∧ al = none ∧ sh = none ∧ dd = 1) ∨ (¬ x = -1 ∧ v = 0 ∧ al = none ∧ sh = none ∧ dd = 0))) ∨ (kd = 3 ∧ ∃ o, pu_rc R n T (sp_hr R 16 = 0) 1 ou o ∧ ((¬ (∃ j, o = some j ∧ T.k j = 1) ∧ v = -19) ∨ ∃ j, o = some j ∧ T.k j = 1 ∧ v = 0 ∧ sh = some (T.h j) ∧ dd = 0 ∧ ((th = some j ∧ al = some j) ∨ (¬ th = some j ∧ al = none)))) ∨ (¬ kd = 2 ∧ ¬ kd = 3 ∧ v = 0 ∧ al = none ∧ sh = none ∧ dd = 0)))))))))

/-- the limits: md nodes made, lk + 1 more -/
def pu_lm (n md lk : Nat) (kd : Int32) (sz szs l0 l1 : Int64) (v : Int32) : Prop := ((¬ (nI (md + (lk + 1))).toInt64 ≤ l0 ∨ (kd = 1 ∧ ¬ szs + sz ≤ l1)) ∧ v = -21) ∨ (((nI (md + (lk + 1))).toInt64 ≤ l0 ∧ (kd = 1 → szs + sz ≤ l1)) ∧ ((200 < n + (lk + 1) ∧ v = -6) ∨ (n + (lk + 1) ≤ 200 ∧ v = 0)))

/-- an entry judged: its way, its kind, the limits -/
def pu_jd (R : Int32) (n : Nat) (T : pu_N) (tp : Nat → List (List Int32)) (tf : Nat → Prop) (kd : Int32) (tg : Nat) (ou us : List (List Int32)) (lm : Nat → Int32 → Prop) (v : Int32) (f lk : Nat) (th al sh : Option Nat) (dd : Int32) : Prop := ∃ r, pu_wk R n T (¬ sp_hr R 32 = 0) 1 0 us r ∧ ((¬ r.1 = 0 ∧ v = r.1) ∨ (r = (0, f, lk, th) ∧ ∃ v1, pu_jk R n T tp tf kd tg ou f lk th v1 al sh dd ∧ ((¬ v1 = 0 ∧ v = v1) ∨ (v1 = 0 ∧ ((¬ al = none ∧ v = 0) ∨ (al = none ∧ lm lk v))))))

/-- a node more -/
def pu_add (T : pu_N) (n : Nat) (k d : Int32) (o h : Nat) (u : List Int32) : pu_N := (fun j => if j = n then k else T.k j, fun j => if j = n then 0 else T.s j, fun j => if j = n then d else T.d j, fun j => if j = n then 0 else T.g j, fun j => if j = n then o else T.o j, fun j => if j = n then h else T.h j, fun j => if j = n then u else T.w j)
/-- a node GONE -/
def pu_gone (T : pu_N) (i : Nat) : pu_N := (T.k, T.s, T.d, fun j => if j = i then 1 else T.g j, T.o, T.h, T.w)
/-- folders, one below the other: the tree, the count, the last folder -/
def pu_many : pu_N → Nat → Nat → List (List Int32) → pu_N × Nat × Nat
  | T, n, f, [] => (T, n, f)
  | T, n, f, u :: us => pu_many (pu_add T n 0 0 f 0 u) (n + 1) n us
theorem pu_it.congr {o o' : Nat → Nat} {n : Nat} (hc : ∀ j, j < n → o j < n ∧ o' j = o j) : ∀ k j, j < n → pu_it o' k j = pu_it o k j
  | 0, _, _ => rfl
  | k + 1, j, hj => by
    show pu_it o' k (o' j) = pu_it o k (o j)
    rw [(hc j hj).2]
    exact pu_it.congr hc k (o j) (hc j hj).1
theorem pu_ins.congr {o o' : Nat → Nat} {n : Nat} (hc : ∀ j, j < n → o j < n ∧ o' j = o j) {j : Nat} (hj : j < n) : pu_ins o' j ↔ pu_ins o j := by
  constructor
  · rintro ⟨k, hk⟩
    exact ⟨k, by rw [← pu_it.congr hc k j hj]; exact hk⟩
  · rintro ⟨k, hk⟩
    exact ⟨k, by rw [pu_it.congr hc k j hj]; exact hk⟩

/-- the tree is as it must be -/
def pu_W (n b t : Nat) (T : pu_N) : Prop := (4 ≤ n ∧ n ≤ 200) ∧ T.o 0 = 0 ∧ (∀ j, 0 < j → j < n → T.o j < j) ∧ (∀ j, j < n → T.k j = 0 ∨ (T.k j = 1 ∧ T.h j < b) ∨ (T.k j = 2 ∧ T.h j < t)) ∧ T.w 0 = [] ∧ (∀ j, 0 < j → j < n → 1 ≤ (T.w j).length ∧ (T.w j).length ≤ 16) ∧ (T.o 1 = 0 ∧ T.o 2 = 0 ∧ T.o 3 = 2) ∧ (T.k 0 = 0 ∧ T.k 1 = 0 ∧ T.k 2 = 0 ∧ T.k 3 = 1) ∧ (T.g 0 = 0 ∧ T.g 1 = 0 ∧ T.g 2 = 0 ∧ T.g 3 = 0) ∧ (T.s 0 = 0 ∧ T.s 2 = 0) ∧ T.h 3 = 0 ∧ ∀ k, 4 ≤ k → k < n → pu_ins T.o k
theorem pu_W.lt {n b t : Nat} {T : pu_N} (h : pu_W n b t T) {j : Nat} (hj : j < n) : T.o j < n := by
  by_cases q : j = 0
  · rw [q, h.2.1]; have := h.1.1; omega
  · have := h.2.2.1 j (by omega) hj; omega
theorem pu_W.add {n b t o h : Nat} {T : pu_N} {k d : Int32} {u : List Int32} (hW : pu_W n b t T) (hn : n < 200) (ho : o < n) (hk : k = 0 ∨ (k = 1 ∧ h < b) ∨ (k = 2 ∧ h < t)) (hu : 1 ≤ u.length ∧ u.length ≤ 16) (hi : pu_ins T.o o) : pu_W (n + 1) b t (pu_add T n k d o h u) := by
  obtain ⟨⟨a1, a2⟩, a3, a4, a5, a6, a7, ⟨b1, b2, b3⟩, ⟨c0, c1, c2, c3⟩, ⟨g0, g1, g2, g3⟩, ⟨s0, s2⟩, h3, hin⟩ := id hW
  have E : ∀ j, j < n → (pu_add T n k d o h u).k j = T.k j ∧ (pu_add T n k d o h u).s j = T.s j ∧ (pu_add T n k d o h u).g j = T.g j ∧ (pu_add T n k d o h u).o j = T.o j ∧ (pu_add T n k d o h u).h j = T.h j ∧ (pu_add T n k d o h u).w j = T.w j := fun j hj => ⟨if_neg (by omega), if_neg (by omega), if_neg (by omega), if_neg (by omega), if_neg (by omega), if_neg (by omega)⟩
  have N : (pu_add T n k d o h u).k n = k ∧ (pu_add T n k d o h u).o n = o ∧ (pu_add T n k d o h u).h n = h ∧ (pu_add T n k d o h u).w n = u := ⟨if_pos rfl, if_pos rfl, if_pos rfl, if_pos rfl⟩
  have hc : ∀ j, j < n → T.o j < n ∧ (pu_add T n k d o h u).o j = T.o j := fun j hj => ⟨hW.lt hj, (E j hj).2.2.2.1⟩
  refine ⟨⟨by omega, by omega⟩, ?_, fun j h0 hj => ?_, fun j hj => ?_, ?_, fun j h0 hj => ?_, ⟨?_, ?_, ?_⟩, ⟨?_, ?_, ?_, ?_⟩, ⟨?_, ?_, ?_, ?_⟩, ⟨?_, ?_⟩, ?_, fun j h4 hj => ?_⟩
  · rw [(E 0 (by omega)).2.2.2.1]; exact a3
  · by_cases q : j = n
    · rw [q, N.2.1]; exact ho
    · rw [(E j (by omega)).2.2.2.1]; exact a4 j h0 (by omega)
  · by_cases q : j = n
    · rw [q, N.1, N.2.2.1]; exact hk
    · rw [(E j (by omega)).1, (E j (by omega)).2.2.2.2.1]; exact a5 j (by omega)
  · rw [(E 0 (by omega)).2.2.2.2.2]; exact a6
  · by_cases q : j = n
    · rw [q, N.2.2.2]; exact hu
    · rw [(E j (by omega)).2.2.2.2.2]; exact a7 j h0 (by omega)
  · rw [(E 1 (by omega)).2.2.2.1]; exact b1
  · rw [(E 2 (by omega)).2.2.2.1]; exact b2
  · rw [(E 3 (by omega)).2.2.2.1]; exact b3
  · rw [(E 0 (by omega)).1]; exact c0
  · rw [(E 1 (by omega)).1]; exact c1
  · rw [(E 2 (by omega)).1]; exact c2
  · rw [(E 3 (by omega)).1]; exact c3
  · rw [(E 0 (by omega)).2.2.1]; exact g0
  · rw [(E 1 (by omega)).2.2.1]; exact g1
  · rw [(E 2 (by omega)).2.2.1]; exact g2
  · rw [(E 3 (by omega)).2.2.1]; exact g3
  · rw [(E 0 (by omega)).2.1]; exact s0
  · rw [(E 2 (by omega)).2.1]; exact s2
  · rw [(E 3 (by omega)).2.2.2.2.1]; exact h3
  · by_cases q : j = n
    · rw [q]
      refine (pu_ins.step (by omega)).mpr ?_
      rw [N.2.1]
      exact (pu_ins.congr hc ho).mpr hi
    · exact (pu_ins.congr hc (by omega)).mpr (hin j h4 (by omega))

/-- a new node's kind, what it has -/
def pu_kk (kd : Int32) : Int32 := if kd = 0 then 0 else if kd = 2 then 2 else 1
def pu_hh (kd : Int32) (nb tg : Nat) (sh : Option Nat) : Nat := if kd = 1 then nb else if kd = 2 then tg else sh.getD 0
def pu_go1 (T : pu_N) (th : Option Nat) : pu_N := match th with | none => T | some j => pu_gone T j
def pu_nb (kd : Int32) (nb : Nat) : Nat := if kd = 1 then nb + 1 else nb
theorem pu_kk0 : pu_kk 0 = 0 := by decide
theorem pu_kk1 : pu_kk 1 = 1 := by decide
theorem pu_kk2 : pu_kk 2 = 2 := by decide
theorem pu_kk3 : pu_kk 3 = 1 := by decide
theorem pu_h1 {nb tg : Nat} {sh : Option Nat} : pu_hh 1 nb tg sh = nb := if_pos rfl
theorem pu_h2 {nb tg : Nat} {sh : Option Nat} : pu_hh 2 nb tg sh = tg := (if_neg (by decide)).trans (if_pos rfl)
theorem pu_h3 {nb tg : Nat} {sh : Option Nat} : pu_hh 3 nb tg sh = sh.getD 0 := (if_neg (by decide)).trans (if_neg (by decide))
theorem pu_nb1 {nb : Nat} : pu_nb 1 nb = nb + 1 := if_pos rfl
theorem pu_nb3 {nb : Nat} : pu_nb 3 nb = nb := if_neg (by decide)
/-- the folders that lack, what is there goes, the node -/
def pu_br (T : pu_N) (n f lk : Nat) (us : List (List Int32)) (th : Option Nat) (k d : Int32) (h : Nat) : pu_N := pu_add (pu_go1 (pu_many T n f ((us.take (us.length - 1)).drop (us.length - 1 - lk))).1 th) (n + lk) k d (pu_many T n f ((us.take (us.length - 1)).drop (us.length - 1 - lk))).2.2 h (us.getD (us.length - 1) [])
theorem pu_many.n : ∀ (us : List (List Int32)) (T : pu_N) (n f : Nat), (pu_many T n f us).2.1 = n + us.length
  | [], _, _, _ => rfl
  | u :: us, T, n, f => by
    show (pu_many (pu_add T n 0 0 f 0 u) (n + 1) n us).2.1 = _
    rw [pu_many.n us, List.length_cons]
    omega
theorem pu_drop {us : List (List Int32)} {d : Nat} (hd : d + 1 < us.length) : (us.take (us.length - 1)).drop (us.length - 1 - (d + 1)) = us.getD (us.length - 1 - (d + 1)) [] :: (us.take (us.length - 1)).drop (us.length - 1 - d) := by
  have hl : (us.take (us.length - 1)).length = us.length - 1 := by rw [List.length_take]; omega
  rw [List.drop_eq_getElem_cons (by rw [hl]; omega), List.getElem_take, List.getD_eq_getElem?_getD, List.getElem?_eq_getElem (by omega), show us.length - 1 - (d + 1) + 1 = us.length - 1 - d by omega]
  rfl
theorem pu_drop0 {us : List (List Int32)} : (us.take (us.length - 1)).drop (us.length - 1 - 0) = [] := by
  apply List.drop_eq_nil_of_le
  rw [List.length_take]
  omega
theorem pu_W.gone {n b t i : Nat} {T : pu_N} (hW : pu_W n b t T) (hi : 4 ≤ i) : pu_W n b t (pu_gone T i) := by
  obtain ⟨⟨a1, a2⟩, a3, a4, a5, a6, a7, b3, c3, ⟨g0, g1, g2, g3⟩, s2, h3, hin⟩ := hW
  exact ⟨⟨a1, a2⟩, a3, a4, a5, a6, a7, b3, c3, ⟨(if_neg (by omega)).trans g0, (if_neg (by omega)).trans g1, (if_neg (by omega)).trans g2, (if_neg (by omega)).trans g3⟩, s2, h3, hin⟩

/-! NOTES: (folder, right), in the order of the calls -/
def pu_set (T : pu_N) (i : Nat) (v : Int32) : pu_N := (T.k, fun j => if j = i then v else T.s j, T.d, T.g, T.o, T.h, T.w)
def pu_fin (T : pu_N) (ns : List (Nat × Int32)) : pu_N := ns.foldl (fun T x => pu_set T x.1 x.2) T
/-- the last right noted for j -/
def pu_last (ns : List (Nat × Int32)) (j : Nat) : Option Int32 := ns.foldl (fun a x => if j = x.1 then some x.2 else a) none
theorem pu_last.snoc (ns : List (Nat × Int32)) (x : Nat × Int32) (j : Nat) : pu_last (ns ++ [x]) j = if j = x.1 then some x.2 else pu_last ns j := by
  unfold pu_last
  rw [List.foldl_append]
  rfl
theorem pu_fin.snoc (T : pu_N) (ns : List (Nat × Int32)) (x : Nat × Int32) : pu_fin T (ns ++ [x]) = pu_set (pu_fin T ns) x.1 x.2 := by
  unfold pu_fin
  rw [List.foldl_append]
  rfl
theorem pu_fin.s_gen (S : Int32) (j : Nat) : ∀ (ns : List (Nat × Int32)) (T : pu_N) (a : Option Int32), T.s j = a.getD S → (ns.foldl (fun T x => pu_set T x.1 x.2) T).s j = (ns.foldl (fun a x => if j = x.1 then some x.2 else a) a).getD S
  | [], T, a, h => h
  | x :: ns, T, a, h => by
    show (ns.foldl _ (pu_set T x.1 x.2)).s j = (ns.foldl _ (if j = x.1 then some x.2 else a)).getD S
    refine pu_fin.s_gen S j ns _ _ ?_
    show (if j = x.1 then x.2 else T.s j) = _
    split
    · rfl
    · exact h
theorem pu_fin.s (T : pu_N) (ns : List (Nat × Int32)) (j : Nat) : (pu_fin T ns).s j = (pu_last ns j).getD (T.s j) := pu_fin.s_gen (T.s j) j ns T none rfl
theorem pu_fin.rest : ∀ (ns : List (Nat × Int32)) (T : pu_N), (pu_fin T ns).k = T.k ∧ (pu_fin T ns).d = T.d ∧ (pu_fin T ns).g = T.g ∧ (pu_fin T ns).o = T.o ∧ (pu_fin T ns).h = T.h ∧ (pu_fin T ns).w = T.w
  | [], T => ⟨rfl, rfl, rfl, rfl, rfl, rfl⟩
  | x :: ns, T => pu_fin.rest ns (pu_set T x.1 x.2)
/-- the notes are of folders inside, rights 0 or 1 -/
def pu_Q (n : Nat) (ns : List (Nat × Int32)) : Prop := ∀ i, i < ns.length → 4 ≤ (ns.getD i (0, 0)).1 ∧ (ns.getD i (0, 0)).1 < n ∧ ((ns.getD i (0, 0)).2 = 0 ∨ (ns.getD i (0, 0)).2 = 1)
theorem pu_W.set {n b t i : Nat} {T : pu_N} {v : Int32} (hW : pu_W n b t T) (hi : 4 ≤ i) : pu_W n b t (pu_set T i v) := by
  obtain ⟨a1, a3, a4, a5, a6, a7, b3, c3, g3, ⟨s0, s2⟩, h3⟩ := hW
  exact ⟨a1, a3, a4, a5, a6, a7, b3, c3, g3, ⟨(if_neg (by omega)).trans s0, (if_neg (by omega)).trans s2⟩, h3⟩
theorem pu_W.take {n b t : Nat} {T : pu_N} {ns : List (Nat × Int32)} (hW : pu_W n b t T) (hQ : pu_Q n ns) : ∀ i, i ≤ ns.length → pu_W n b t (pu_fin T (ns.take i))
  | 0, _ => hW
  | i + 1, hi => by
    rw [List.take_add_one, List.getElem?_eq_getElem (by omega)]
    show pu_W n b t (pu_fin T (ns.take i ++ [ns[i]]))
    rw [pu_fin.snoc]
    refine (pu_W.take hW hQ i (by omega)).set ?_
    have := (hQ i (by omega)).1
    rw [List.getD_eq_getElem?_getD, List.getElem?_eq_getElem (by omega)] at this
    exact this
theorem pu_take1 {ns : List (Nat × Int32)} {i : Nat} (h : i < ns.length) : ns.take (i + 1) = ns.take i ++ [ns.getD i (0, 0)] := by
  rw [List.take_add_one, List.getD_eq_getElem?_getD, List.getElem?_eq_getElem h]
  rfl
theorem pu_Q.snoc {n j : Nat} {v : Int32} {ns : List (Nat × Int32)} (h : pu_Q n ns) (hj : 4 ≤ j ∧ j < n) (hv : v = 0 ∨ v = 1) : pu_Q n (ns ++ [(j, v)]) := by
  intro i hi
  rw [List.length_append, List.length_singleton] at hi
  by_cases z : i < ns.length
  · rw [List.getD_eq_getElem?_getD, List.getElem?_append_left z, ← List.getD_eq_getElem?_getD]
    exact h i z
  · obtain rfl : i = ns.length := by omega
    rw [List.getD_eq_getElem?_getD, List.getElem?_append_right (Nat.le_refl _), Nat.sub_self]
    exact ⟨hj.1, hj.2, hv⟩
theorem pu_Q.mono {n n' : Nat} {ns : List (Nat × Int32)} (h : pu_Q n ns) (hn : n ≤ n') : pu_Q n' ns := fun i hi => ⟨(h i hi).1, by have := (h i hi).2.1; omega, (h i hi).2.2⟩
/-! the state of the taking: nodes, tree, bodies (sizes, values), sizes, notes -/
def pu_Z : Type := Nat × pu_N × Nat × (Nat → Int64) × (Nat → Int32) × Int64 × List (Nat × Int32)
def pu_Z.n (Z : pu_Z) : Nat := Z.1
def pu_Z.T (Z : pu_Z) : pu_N := Z.2.1
def pu_Z.b (Z : pu_Z) : Nat := Z.2.2.1
def pu_Z.S (Z : pu_Z) : Nat → Int64 := Z.2.2.2.1
def pu_Z.V (Z : pu_Z) : Nat → Int32 := Z.2.2.2.2.1
def pu_Z.z (Z : pu_Z) : Int64 := Z.2.2.2.2.2.1
def pu_Z.q (Z : pu_Z) : List (Nat × Int32) := Z.2.2.2.2.2.2
def pu_ZW (t : Nat) (Z : pu_Z) : Prop := pu_W Z.n Z.b t Z.T ∧ pu_Q Z.n Z.q ∧ Z.b ≤ Z.n
/-- what comes, but the note -/
def pu_out0 (Z : pu_Z) (kd va : Int32) (sz : Int64) (us : List (List Int32)) (tg f lk : Nat) (th al sh : Option Nat) (dd : Int32) : pu_Z := match al with
  | some _ => Z
  | none => (Z.n + lk + 1, pu_br Z.T Z.n f lk us th (pu_kk kd) dd (pu_hh kd Z.b tg sh), pu_nb kd Z.b, fun j => if j = Z.b then sz else Z.S j, fun j => if j = Z.b then va else Z.V j, (if kd = 1 then Z.z + sz else Z.z), Z.q)
def pu_nt (Z : pu_Z) (kd va : Int32) (i : Nat) : pu_Z := (Z.n, Z.T, Z.b, Z.S, Z.V, Z.z, if kd = 0 then Z.q ++ [(i, if va = 1 then 1 else 0)] else Z.q)
/-- the node that an entry becomes -/
def pu_nn (Z : pu_Z) (lk : Nat) (al : Option Nat) : Nat := al.getD (Z.n + lk)
def pu_out (Z : pu_Z) (kd va : Int32) (sz : Int64) (us : List (List Int32)) (tg f lk : Nat) (th al sh : Option Nat) (dd : Int32) : pu_Z := pu_nt (pu_out0 Z kd va sz us tg f lk th al sh dd) kd va (pu_nn Z lk al)
theorem pu_nt.W {t i : Nat} {Z : pu_Z} {kd va : Int32} (h : pu_ZW t Z) (hi : 4 ≤ i ∧ i < Z.n) : pu_ZW t (pu_nt Z kd va i) := by
  refine ⟨h.1, ?_, h.2.2⟩
  show pu_Q Z.n (if kd = 0 then Z.q ++ [(i, if va = 1 then 1 else 0)] else Z.q)
  split
  · exact h.2.1.snoc hi (by split; exact Or.inr rfl; exact Or.inl rfl)
  · exact h.2.1

/-! the calls, in pure words -/
def pu_find (v R : Int32) (n : Nat) (T : pu_N) (p : Nat) (PT : Nat → List (List Int32)) (a : Int32) : Prop := ((¬ ∃ j, j < p ∧ a = nI j) ∧ v = -7) ∨ ∃ j, j < p ∧ a = nI j ∧ ∃ o, pu_rc R n T False 1 (PT j) o ∧ ((o = none ∧ v = -2) ∨ ∃ i, o = some i ∧ v = nI i)
theorem pu_find.det {v v' R : Int32} {n : Nat} {T : pu_N} {p : Nat} {PT : Nat → List (List Int32)} {a : Int32} (hp : p ≤ 60) (h : pu_find v R n T p PT a) (h' : pu_find v' R n T p PT a) : v = v' := by
  rcases h with ⟨a1, a2⟩ | ⟨j, a1, a2, o, a3, a4⟩ <;> rcases h' with ⟨b1, b2⟩ | ⟨k, b1, b2, q, b3, b4⟩
  · exact a2.trans b2.symm
  · exact absurd ⟨k, b1, b2⟩ a1
  · exact absurd ⟨j, a1, a2⟩ b1
  · obtain rfl := pu_nI (a2.symm.trans b2) (by omega) (by omega)
    obtain rfl := a3.det b3
    rcases a4 with ⟨c1, c2⟩ | ⟨i, c1, c2⟩ <;> rcases b4 with ⟨d1, d2⟩ | ⟨i', d1, d2⟩
    · exact c2.trans d2.symm
    · rw [c1] at d1; cases d1
    · rw [c1] at d1; cases d1
    · rw [c1] at d1; cases d1; exact c2.trans d2.symm
def pu_name (v : Int32) (n : Nat) (T : pu_N) (a b : Int32) : Prop := (∃ j i, j < n ∧ a = nI j ∧ i < (T.w j).length ∧ b = nI i ∧ v = (T.w j).getD i 0) ∨ ((¬ ∃ j i, j < n ∧ a = nI j ∧ i < (T.w j).length ∧ b = nI i) ∧ v = -1)
theorem pu_name.det {v v' : Int32} {n : Nat} {T : pu_N} {a b : Int32} (hn : n ≤ 200) (hw : ∀ j, j < n → (T.w j).length ≤ 16) (h : pu_name v n T a b) (h' : pu_name v' n T a b) : v = v' := by
  rcases h with ⟨j, i, a1, a2, a3, a4, a5⟩ | ⟨a1, a2⟩ <;> rcases h' with ⟨k, l, b1, b2, b3, b4, b5⟩ | ⟨b1, b2⟩
  · obtain rfl := pu_nI (a2.symm.trans b2) (by omega) (by omega)
    have := hw j a1
    obtain rfl := pu_nI (a4.symm.trans b4) (by omega) (by omega)
    exact a5.trans b5.symm
  · exact absurd ⟨j, i, a1, a2, a3, a4⟩ b1
  · exact absurd ⟨k, l, b1, b2, b3, b4⟩ a1
  · exact a2.trans b2.symm
/-- how many files have body j -/
noncomputable def pu_fw (Z : pu_Z) (j : Nat) : Nat := pu_ct (fun q => Z.T.g q = 0 ∧ Z.T.k q = 1 ∧ Z.T.h q = j) Z.n
/-- how many folders are shut -/
noncomputable def pu_cs (Z : pu_Z) : Nat := pu_ct (fun q => Z.T.g q = 0 ∧ Z.T.k q = 0 ∧ ¬ Z.T.s q = 0) Z.n
def pu_body (v : Int64) (Z : pu_Z) (a b : Int32) : Prop := ((¬ (∃ j, j < Z.b ∧ a = nI j) ∨ ¬ (b = 0 ∨ b = 1 ∨ b = 2)) ∧ v = -7) ∨ ∃ j, j < Z.b ∧ a = nI j ∧ ((b = 0 ∧ v = Z.S j) ∨ (b = 1 ∧ v = (Z.V j).toInt64) ∨ (b = 2 ∧ v = (nI (pu_fw Z j)).toInt64))
theorem pu_body.det {v v' : Int64} {Z : pu_Z} {a b : Int32} (hn : Z.b ≤ 300) (h : pu_body v Z a b) (h' : pu_body v' Z a b) : v = v' := by
  rcases h with ⟨a1, a2⟩ | ⟨j, a1, a2, a3⟩ <;> rcases h' with ⟨b1, b2⟩ | ⟨k, b1, b2, b3⟩
  · exact a2.trans b2.symm
  · rcases a1 with z | z
    · exact absurd ⟨k, b1, b2⟩ z
    · exact absurd (by rcases b3 with w | w | w; exact Or.inl w.1; exact Or.inr (Or.inl w.1); exact Or.inr (Or.inr w.1)) z
  · rcases b1 with z | z
    · exact absurd ⟨j, a1, a2⟩ z
    · exact absurd (by rcases a3 with w | w | w; exact Or.inl w.1; exact Or.inr (Or.inl w.1); exact Or.inr (Or.inr w.1)) z
  · obtain rfl := pu_nI (a2.symm.trans b2) (by omega) (by omega)
    rcases a3 with ⟨c1, c2⟩ | ⟨c1, c2⟩ | ⟨c1, c2⟩ <;> rcases b3 with ⟨d1, d2⟩ | ⟨d1, d2⟩ | ⟨d1, d2⟩
    · exact c2.trans d2.symm
    · rw [c1] at d1; exact absurd d1 (by decide)
    · rw [c1] at d1; exact absurd d1 (by decide)
    · rw [c1] at d1; exact absurd d1 (by decide)
    · exact c2.trans d2.symm
    · rw [c1] at d1; exact absurd d1 (by decide)
    · rw [c1] at d1; exact absurd d1 (by decide)
    · rw [c1] at d1; exact absurd d1 (by decide)
    · exact c2.trans d2.symm
/-- told: ls how many were listed -/
def pu_tl (v n b p t e md ls q a : Int32) : Prop := (a = 0 ∧ v = n) ∨ (a = 1 ∧ v = b) ∨ (a = 2 ∧ v = p) ∨ (a = 3 ∧ v = t) ∨ (a = 4 ∧ v = e) ∨ (a = 5 ∧ v = md) ∨ (a = 6 ∧ v = ls) ∨ (a = 7 ∧ v = q) ∨ ((¬ a = 0 ∧ ¬ a = 1 ∧ ¬ a = 2 ∧ ¬ a = 3 ∧ ¬ a = 4 ∧ ¬ a = 5 ∧ ¬ a = 6 ∧ ¬ a = 7) ∧ v = -7)
def pu_told (v : Int32) (Z : pu_Z) (p t e : Nat) (ls a : Int32) : Prop := pu_tl v (nI Z.n) (nI Z.b) (nI p) (nI t) (nI e) (nI (Z.n - 4)) ls (nI Z.q.length) a
theorem pu_told.det {v v' : Int32} {Z : pu_Z} {p t e : Nat} {ls a : Int32} (h : pu_told v Z p t e ls a) (h' : pu_told v' Z p t e ls a) : v = v' := by
  unfold pu_told pu_tl at h h'
  by_cases h0 : a = 0
  · subst h0; simp at h h'; rw [h, h']
  by_cases h1 : a = 1
  · subst h1; simp at h h'; rw [h, h']
  by_cases h2 : a = 2
  · subst h2; simp at h h'; rw [h, h']
  by_cases h3 : a = 3
  · subst h3; simp at h h'; rw [h, h']
  by_cases h4 : a = 4
  · subst h4; simp at h h'; rw [h, h']
  by_cases h5 : a = 5
  · subst h5; simp at h h'; rw [h, h']
  by_cases h6 : a = 6
  · subst h6; simp at h h'; rw [h, h']
  by_cases h7 : a = 7
  · subst h7; simp at h h'; rw [h, h']
  · simp [h0, h1, h2, h3, h4, h5, h6, h7] at h h'; rw [h, h']
def pu_lead (v R : Int32) (n : Nat) (T : pu_N) (tp : Nat → List (List Int32)) (tf : Nat → Prop) (a : Int32) : Prop := ((¬ ∃ j, j < n ∧ a = nI j ∧ T.g j = 0) ∧ v = -7) ∨ ∃ j, j < n ∧ a = nI j ∧ T.g j = 0 ∧ ((¬ T.k j = 2 ∧ v = nI j) ∨ (T.k j = 2 ∧ ((¬ T.d j = 0 ∧ v = -2) ∨ (T.d j = 0 ∧ ∃ ff, ((tf (T.h j) ∧ ff = 0) ∨ (¬ tf (T.h j) ∧ ff = T.o j)) ∧ pu_LG R n T tp tf (ff, 0, 0, tp (T.h j)) v))))
theorem pu_lead.det {v v' R : Int32} {n : Nat} {T : pu_N} {tp : Nat → List (List Int32)} {tf : Nat → Prop} {a : Int32} (hn : n ≤ 200) (h : pu_lead v R n T tp tf a) (h' : pu_lead v' R n T tp tf a) : v = v' := by
  rcases h with ⟨a1, a2⟩ | ⟨j, a1, a2, a3, a4⟩ <;> rcases h' with ⟨b1, b2⟩ | ⟨k, b1, b2, b3, b4⟩
  · exact a2.trans b2.symm
  · exact absurd ⟨k, b1, b2, b3⟩ a1
  · exact absurd ⟨j, a1, a2, a3⟩ b1
  · obtain rfl := pu_nI (a2.symm.trans b2) (by omega) (by omega)
    rcases a4 with ⟨c1, c2⟩ | ⟨c1, c2⟩ <;> rcases b4 with ⟨d1, d2⟩ | ⟨d1, d2⟩
    · exact c2.trans d2.symm
    · exact absurd d1 c1
    · exact absurd c1 d1
    · rcases c2 with ⟨e1, e2⟩ | ⟨e1, f1, e2, e3⟩ <;> rcases d2 with ⟨g1, g2⟩ | ⟨g1, f2, g2, g3⟩
      · exact e2.trans g2.symm
      · exact absurd g1 e1
      · exact absurd e1 g1
      · have hf : f1 = f2 := by
          rcases e2 with ⟨x1, x2⟩ | ⟨x1, x2⟩ <;> rcases g2 with ⟨y1, y2⟩ | ⟨y1, y2⟩
          · rw [x2, y2]
          · exact absurd x1 y1
          · exact absurd y1 x1
          · rw [x2, y2]
        rw [hf] at e3
        exact e3.det g3

/-! entries: kind, path, what it is with (TARGET or PATH, else its own PATH), with, size -/
def pu_E : Type := (Nat → Int32) × (Nat → Nat) × (Nat → Nat) × (Nat → Int32) × (Nat → Int64)
def pu_E.K (E : pu_E) : Nat → Int32 := E.1
def pu_E.P (E : pu_E) : Nat → Nat := E.2.1
def pu_E.X (E : pu_E) : Nat → Nat := E.2.2.1
def pu_E.W (E : pu_E) : Nat → Int32 := E.2.2.2.1
def pu_E.S (E : pu_E) : Nat → Int64 := E.2.2.2.2
def pu_EW (p t e : Nat) (E : pu_E) : Prop := ∀ j, j < e → (E.K j = 0 ∨ E.K j = 1 ∨ E.K j = 2 ∨ E.K j = 3 ∨ E.K j = 4) ∧ E.P j < p ∧ (E.K j = 2 → E.X j < t ∧ E.W j = nI (E.X j)) ∧ (E.K j = 3 → E.X j < p ∧ E.W j = nI (E.X j)) ∧ (E.K j = 0 → E.W j = 0 ∨ E.W j = 1) ∧ (¬ E.K j = 2 → E.X j < p)
/-- entry j judged -/
def pu_j0 (R : Int32) (Z : pu_Z) (PT : Nat → List (List Int32)) (TT : Nat → List Int32) (E : pu_E) (l0 l1 : Int64) (j : Nat) (v : Int32) (f lk : Nat) (th al sh : Option Nat) (dd : Int32) : Prop := pu_jd R Z.n Z.T (pu_tp R TT) (pu_tf R TT) (E.K j) (E.X j) (PT (E.X j)) (PT (E.P j)) (fun lk v => pu_lm Z.n (Z.n - 4) lk (E.K j) (E.S j) Z.z l0 l1 v) v f lk th al sh dd
def pu_tk (v R : Int32) (Z Z' : pu_Z) (ls ls' : Int32) (PT : Nat → List (List Int32)) (TT : Nat → List Int32) (ne : Nat) (E : pu_E) (l0 l1 : Int64) (a : Int32) : Prop := ((¬ ∃ j, j < ne ∧ a = nI j) ∧ v = -7 ∧ Z' = Z ∧ ls' = ls) ∨ ∃ j, j < ne ∧ a = nI j ∧ ∃ v1 f lk th al sh dd, pu_j0 R Z PT TT E l0 l1 j v1 f lk th al sh dd ∧ ((¬ v1 = 0 ∧ v = v1 ∧ Z' = Z ∧ ls' = if v1 = -20 then ls + 1 else ls) ∨ (v1 = 0 ∧ v = nI (pu_nn Z lk al) ∧ Z' = pu_out Z (E.K j) (E.W j) (E.S j) (PT (E.P j)) (E.X j) f lk th al sh dd ∧ ls' = ls))
def pu_dry (v R : Int32) (Z : pu_Z) (PT : Nat → List (List Int32)) (TT : Nat → List Int32) (ne : Nat) (E : pu_E) (l0 l1 : Int64) (a : Int32) : Prop := ((¬ ∃ j, j < ne ∧ a = nI j) ∧ v = -7) ∨ ∃ j, j < ne ∧ a = nI j ∧ ∃ f lk th al sh dd, pu_j0 R Z PT TT E l0 l1 j v f lk th al sh dd
/-- the rights are set -/
def pu_fn (Z : pu_Z) : pu_Z := (Z.n, pu_fin Z.T Z.q, Z.b, Z.S, Z.V, Z.z, [])
theorem pu_wk.det {R : Int32} {n : Nat} {T : pu_N} {mk : Prop} : ∀ {us : List (List Int32)} {f lk : Nat} {r r' : Int32 × Nat × Nat × Option Nat}, pu_wk R n T mk f lk us r → pu_wk R n T mk f lk us r' → r.1 = r'.1 ∧ (r.1 = 0 → r = r')
  | [], f, lk, r, r', h, h' => h.elim
  | [u], f, lk, r, r', h, h' => by
    obtain ⟨i, a1, a2⟩ := h
    obtain ⟨i', b1, b2⟩ := h'
    have e : i = i' := by
      rcases a1 with ⟨c1, c2⟩ | ⟨c1, c2⟩ <;> rcases b1 with ⟨d1, d2⟩ | ⟨d1, d2⟩
      · rw [c2, d2]
      · omega
      · omega
      · exact c2.det d2
    subst e
    rcases a2 with ⟨c1, c2⟩ | ⟨c1, c2⟩ <;> rcases b2 with ⟨d1, d2⟩ | ⟨d1, d2⟩
    · exact ⟨c2.trans d2.symm, fun z => by rw [c2] at z; exact absurd z (by decide)⟩
    · exact absurd c1 d1
    · exact absurd d1 c1
    · rw [c2, d2]; exact ⟨rfl, fun _ => rfl⟩
  | u :: x :: us, f, lk, r, r', h, h' => by
    obtain ⟨i, a1, a2⟩ := (pu_wk.cons (List.cons_ne_nil x us)).mp h
    obtain ⟨i', b1, b2⟩ := (pu_wk.cons (List.cons_ne_nil x us)).mp h'
    have e : i = i' := by
      rcases a1 with ⟨c1, c2⟩ | ⟨c1, c2⟩ <;> rcases b1 with ⟨d1, d2⟩ | ⟨d1, d2⟩
      · rw [c2, d2]
      · omega
      · omega
      · exact c2.det d2
    subst e
    have hz : ∀ {x y : Int32}, x = y → ¬ y = 0 → ∀ {r'' : Int32 × Nat × Nat × Option Nat}, r''.1 = y → r.1 = x → r.1 = r''.1 ∧ (r.1 = 0 → r = r'') := fun e1 e2 r'' e3 e4 => ⟨by rw [e4, e3, e1], fun z => absurd (e1 ▸ e4 ▸ z) e2⟩
    rcases a2 with ⟨c1, c2⟩ | ⟨j, c1, c2⟩ <;> rcases b2 with ⟨d1, d2⟩ | ⟨j', d1, d2⟩
    · rcases c2 with ⟨e1, e2⟩ | ⟨e1, e2, e3, e4⟩ | ⟨e1, e2, e3⟩ <;> rcases d2 with ⟨g1, g2⟩ | ⟨g1, g2, g3, g4⟩ | ⟨g1, g2, g3⟩
      · exact hz rfl (by decide) g2 e2
      · exact absurd g1 e1
      · exact absurd g1 e1
      · exact absurd e1 g1
      · exact hz rfl (by decide) g4 e4
      · exact absurd ⟨e2, e3⟩ g2
      · exact absurd e1 g1
      · exact absurd ⟨g2, g3⟩ e2
      · exact pu_wk.det e3 g3
    · rw [c1] at d1; cases d1
    · rw [c1] at d1; cases d1
    · rw [c1] at d1; cases d1
      have k01 : ¬ (0 : Int32) = 1 := by decide
      have k02 : ¬ (0 : Int32) = 2 := by decide
      have k12 : ¬ (1 : Int32) = 2 := by decide
      rcases c2 with ⟨e1, e2, e3⟩ | ⟨e1, e2⟩ <;> rcases d2 with ⟨g1, g2, g3⟩ | ⟨g1, g2⟩
      · exact hz rfl (by decide) g3 e3
      · exact absurd ⟨e1, e2⟩ g1
      · exact absurd ⟨g1, g2⟩ e1
      · rcases e2 with ⟨x1, x2⟩ | ⟨x1, x2⟩ | ⟨x1, x2⟩ <;> rcases g2 with ⟨y1, y2⟩ | ⟨y1, y2⟩ | ⟨y1, y2⟩
        · exact hz rfl (by decide) y2 x2
        · exact absurd (y1.symm.trans x1) k12
        · exact absurd (y1.symm.trans x1) k02
        · exact absurd (x1.symm.trans y1) k12
        · exact hz rfl (by decide) y2 x2
        · exact absurd (y1.symm.trans x1) k01
        · exact absurd (x1.symm.trans y1) k02
        · exact absurd (x1.symm.trans y1) k01
        · exact pu_wk.det x2 y2
theorem pu_lm.det {n md lk : Nat} {kd : Int32} {sz szs l0 l1 : Int64} {v v' : Int32} (h : pu_lm n md lk kd sz szs l0 l1 v) (h' : pu_lm n md lk kd sz szs l0 l1 v') : v = v' := by
  have key : ∀ {q : Prop}, (¬ (nI (md + (lk + 1))).toInt64 ≤ l0 ∨ (kd = 1 ∧ ¬ szs + sz ≤ l1)) → ((nI (md + (lk + 1))).toInt64 ≤ l0 ∧ (kd = 1 → szs + sz ≤ l1)) → q := fun a b => by
    rcases a with z | z
    · exact absurd b.1 z
    · exact absurd (b.2 z.1) z.2
  rcases h with ⟨a1, a2⟩ | ⟨a1, a2⟩ <;> rcases h' with ⟨b1, b2⟩ | ⟨b1, b2⟩
  · exact a2.trans b2.symm
  · exact key a1 b1
  · exact key b1 a1
  · rcases a2 with ⟨c1, c2⟩ | ⟨c1, c2⟩ <;> rcases b2 with ⟨d1, d2⟩ | ⟨d1, d2⟩
    · exact c2.trans d2.symm
    · omega
    · omega
    · exact c2.trans d2.symm
theorem pu_jk.det {R : Int32} {n : Nat} {T : pu_N} {tp : Nat → List (List Int32)} {tf : Nat → Prop} {kd : Int32} {tg : Nat} {ou : List (List Int32)} {f lk : Nat} {th : Option Nat} {v v' : Int32} {al al' sh sh' : Option Nat} {dd dd' : Int32} (h : pu_jk R n T tp tf kd tg ou f lk th v al sh dd) (h' : pu_jk R n T tp tf kd tg ou f lk th v' al' sh' dd') : v = v' ∧ (v = 0 → al = al' ∧ sh = sh' ∧ dd = dd') := by
  have hz : ∀ {x : Int32}, ¬ x = 0 → v = x → v' = x → v = v' ∧ (v = 0 → al = al' ∧ sh = sh' ∧ dd = dd') := fun e1 e2 e3 => ⟨e2.trans e3.symm, fun z => absurd (e2.symm.trans z) e1⟩
  rcases h with ⟨a1, a2⟩ | ⟨a1, a2⟩ <;> rcases h' with ⟨b1, b2⟩ | ⟨b1, b2⟩
  · exact hz (by decide) a2 b2
  · exact absurd a1 b1
  · exact absurd b1 a1
  rcases a2 with ⟨a2, a3, a4, a5, a6, a7⟩ | ⟨a2, a3⟩ <;> rcases b2 with ⟨b2, b3, b4, b5, b6, b7⟩ | ⟨b2, b3⟩
  · exact ⟨a4.trans b4.symm, fun _ => ⟨a5.trans b5.symm, a6.trans b6.symm, a7.trans b7.symm⟩⟩
  · exact absurd ⟨a2, a3⟩ b2
  · exact absurd ⟨b2, b3⟩ a2
  rcases a3 with ⟨a3, a4⟩ | ⟨a3, a4⟩ <;> rcases b3 with ⟨b3, b4⟩ | ⟨b3, b4⟩
  · exact hz (by decide) a4 b4
  · exact absurd a3 b3
  · exact absurd b3 a3
  rcases a4 with ⟨a4, a5, a6⟩ | ⟨a4, a5⟩ <;> rcases b4 with ⟨b4, b5, b6⟩ | ⟨b4, b5⟩
  · exact hz (by decide) a6 b6
  · exact absurd ⟨a4, a5⟩ b4
  · exact absurd ⟨b4, b5⟩ a4
  have k23 : ¬ (2 : Int32) = 3 := by decide
  rcases a5 with ⟨a5, f1, x1, a6, a7, a8⟩ | ⟨a5, o1, a6, a7⟩ | ⟨a5, a6, a7, a8, a9, a10⟩ <;> rcases b5 with ⟨b5, f2, x2, b6, b7, b8⟩ | ⟨b5, o2, b6, b7⟩ | ⟨b5, b6, b7, b8, b9, b10⟩
  · have hf : f1 = f2 := by
      rcases a6 with ⟨c1, c2⟩ | ⟨c1, c2⟩ <;> rcases b6 with ⟨d1, d2⟩ | ⟨d1, d2⟩
      · rw [c2, d2]
      · exact absurd c1 d1
      · exact absurd d1 c1
      · rw [c2, d2]
    rw [hf] at a7
    obtain rfl := a7.det b7
    rcases a8 with ⟨c1, c2, c3⟩ | ⟨c1, c2, c3, c4, c5, c6⟩ | ⟨c1, c2, c3, c4, c5⟩ <;> rcases b8 with ⟨d1, d2, d3⟩ | ⟨d1, d2, d3, d4, d5, d6⟩ | ⟨d1, d2, d3, d4, d5⟩
    · exact hz (by decide) c3 d3
    · exact absurd c2 d2
    · exact absurd c1 d1
    · exact absurd d2 c2
    · exact ⟨c3.trans d3.symm, fun _ => ⟨c4.trans d4.symm, c5.trans d5.symm, c6.trans d6.symm⟩⟩
    · exact absurd c1 d1
    · exact absurd d1 c1
    · exact absurd d1 c1
    · exact ⟨c2.trans d2.symm, fun _ => ⟨c3.trans d3.symm, c4.trans d4.symm, c5.trans d5.symm⟩⟩
  · exact absurd (a5.symm.trans b5) k23
  · exact absurd a5 b5
  · exact absurd (b5.symm.trans a5) k23
  · obtain rfl := a6.det b6
    rcases a7 with ⟨c1, c2⟩ | ⟨j, c1, c2, c3, c4, c5, c6⟩ <;> rcases b7 with ⟨d1, d2⟩ | ⟨j', d1, d2, d3, d4, d5, d6⟩
    · exact hz (by decide) c2 d2
    · exact absurd ⟨j', d1, d2⟩ c1
    · exact absurd ⟨j, c1, c2⟩ d1
    · rw [c1] at d1; cases d1
      refine ⟨c3.trans d3.symm, fun _ => ⟨?_, c4.trans d4.symm, c5.trans d5.symm⟩⟩
      rcases c6 with ⟨x1, x2⟩ | ⟨x1, x2⟩ <;> rcases d6 with ⟨y1, y2⟩ | ⟨y1, y2⟩
      · rw [x2, y2]
      · exact absurd x1 y1
      · exact absurd y1 x1
      · rw [x2, y2]
  · exact absurd a5 b6
  · exact absurd b5 a5
  · exact absurd b5 a6
  · exact ⟨a7.trans b7.symm, fun _ => ⟨a8.trans b8.symm, a9.trans b9.symm, a10.trans b10.symm⟩⟩
theorem pu_jd.det {R : Int32} {n : Nat} {T : pu_N} {tp : Nat → List (List Int32)} {tf : Nat → Prop} {kd : Int32} {tg : Nat} {ou us : List (List Int32)} {lm : Nat → Int32 → Prop} {v v' : Int32} {f f' lk lk' : Nat} {th th' al al' sh sh' : Option Nat} {dd dd' : Int32} (hlm : ∀ lk v v', lm lk v → lm lk v' → v = v') (h : pu_jd R n T tp tf kd tg ou us lm v f lk th al sh dd) (h' : pu_jd R n T tp tf kd tg ou us lm v' f' lk' th' al' sh' dd') : v = v' ∧ (v = 0 → f = f' ∧ lk = lk' ∧ th = th' ∧ al = al' ∧ sh = sh' ∧ dd = dd') := by
  obtain ⟨r, a1, a2⟩ := h
  obtain ⟨r', b1, b2⟩ := h'
  obtain ⟨e1, e2⟩ := a1.det b1
  rcases a2 with ⟨a2, a3⟩ | ⟨a2, v1, a3, a4⟩ <;> rcases b2 with ⟨b2, b3⟩ | ⟨b2, v2, b3, b4⟩
  · exact ⟨a3.trans (e1.trans b3.symm), fun z => absurd (a3.symm.trans z) a2⟩
  · rw [b2] at e1; exact absurd e1 a2
  · rw [a2] at e1; exact absurd e1.symm b2
  · rw [a2] at e2
    have e3 := e2 rfl
    rw [b2] at e3
    cases e3
    obtain ⟨g1, g2⟩ := a3.det b3
    subst g1
    rcases a4 with ⟨c1, c2⟩ | ⟨c1, c2⟩ <;> rcases b4 with ⟨d1, d2⟩ | ⟨d1, d2⟩
    · exact ⟨c2.trans d2.symm, fun z => absurd (c2.symm.trans z) c1⟩
    · exact absurd d1 c1
    · exact absurd c1 d1
    · obtain ⟨rfl, rfl, rfl⟩ := g2 c1
      rcases c2 with ⟨c2, c3⟩ | ⟨c2, c3⟩ <;> rcases d2 with ⟨d2, d3⟩ | ⟨d2, d3⟩
      · exact ⟨c3.trans d3.symm, fun _ => ⟨rfl, rfl, rfl, rfl, rfl, rfl⟩⟩
      · exact absurd d2 c2
      · exact absurd c2 d2
      · exact ⟨hlm _ _ _ c3 d3, fun _ => ⟨rfl, rfl, rfl, rfl, rfl, rfl⟩⟩
theorem pu_j0.det {R : Int32} {Z : pu_Z} {PT : Nat → List (List Int32)} {TT : Nat → List Int32} {E : pu_E} {l0 l1 : Int64} {j : Nat} {v v' : Int32} {f f' lk lk' : Nat} {th th' al al' sh sh' : Option Nat} {dd dd' : Int32} (h : pu_j0 R Z PT TT E l0 l1 j v f lk th al sh dd) (h' : pu_j0 R Z PT TT E l0 l1 j v' f' lk' th' al' sh' dd') : v = v' ∧ (v = 0 → f = f' ∧ lk = lk' ∧ th = th' ∧ al = al' ∧ sh = sh' ∧ dd = dd') := by
  unfold pu_j0 at h h'
  refine pu_jd.det ?_ h h'
  intro lk v v' a b
  exact pu_lm.det a b
theorem pu_tk.det {v v' R : Int32} {Z Z1 Z2 : pu_Z} {ls ls1 ls2 : Int32} {PT : Nat → List (List Int32)} {TT : Nat → List Int32} {ne : Nat} {E : pu_E} {l0 l1 : Int64} {a : Int32} (hn : ne ≤ 100) (h : pu_tk v R Z Z1 ls ls1 PT TT ne E l0 l1 a) (h' : pu_tk v' R Z Z2 ls ls2 PT TT ne E l0 l1 a) : v = v' ∧ Z1 = Z2 ∧ ls1 = ls2 := by
  rcases h with ⟨a1, a2, a3, a4⟩ | ⟨j, a1, a2, v1, f, lk, th, al, sh, dd, a3, a4⟩ <;> rcases h' with ⟨b1, b2, b3, b4⟩ | ⟨k, b1, b2, v2, f', lk', th', al', sh', dd', b3, b4⟩
  · exact ⟨a2.trans b2.symm, a3.trans b3.symm, a4.trans b4.symm⟩
  · exact absurd ⟨k, b1, b2⟩ a1
  · exact absurd ⟨j, a1, a2⟩ b1
  · obtain rfl := pu_nI (a2.symm.trans b2) (by omega) (by omega)
    obtain ⟨rfl, g2⟩ := a3.det b3
    rcases a4 with ⟨c1, c2, c3, c4⟩ | ⟨c1, c2, c3, c4⟩ <;> rcases b4 with ⟨d1, d2, d3, d4⟩ | ⟨d1, d2, d3, d4⟩
    · exact ⟨c2.trans d2.symm, c3.trans d3.symm, c4.trans d4.symm⟩
    · exact absurd d1 c1
    · exact absurd c1 d1
    · obtain ⟨rfl, rfl, rfl, rfl, rfl, rfl⟩ := g2 c1
      exact ⟨c2.trans d2.symm, c3.trans d3.symm, c4.trans d4.symm⟩
theorem pu_dry.det {v v' R : Int32} {Z : pu_Z} {PT : Nat → List (List Int32)} {TT : Nat → List Int32} {ne : Nat} {E : pu_E} {l0 l1 : Int64} {a : Int32} (hn : ne ≤ 100) (h : pu_dry v R Z PT TT ne E l0 l1 a) (h' : pu_dry v' R Z PT TT ne E l0 l1 a) : v = v' := by
  rcases h with ⟨a1, a2⟩ | ⟨j, a1, a2, f, lk, th, al, sh, dd, a3⟩ <;> rcases h' with ⟨b1, b2⟩ | ⟨k, b1, b2, f', lk', th', al', sh', dd', b3⟩
  · exact a2.trans b2.symm
  · exact absurd ⟨k, b1, b2⟩ a1
  · exact absurd ⟨j, a1, a2⟩ b1
  · obtain rfl := pu_nI (a2.symm.trans b2) (by omega) (by omega)
    exact (a3.det b3).1
/-- one note more at most -/
theorem pu_tk.q {v R : Int32} {Z Z' : pu_Z} {ls ls' : Int32} {PT : Nat → List (List Int32)} {TT : Nat → List Int32} {ne : Nat} {E : pu_E} {l0 l1 : Int64} {a : Int32} (h : pu_tk v R Z Z' ls ls' PT TT ne E l0 l1 a) : Z'.q.length ≤ Z.q.length + 1 := by
  rcases h with ⟨-, -, rfl, -⟩ | ⟨j, -, -, v1, f, lk, th, al, sh, dd, -, ⟨-, -, rfl, -⟩ | ⟨-, -, rfl, -⟩⟩
  · omega
  · omega
  · have e : (pu_out0 Z (E.K j) (E.W j) (E.S j) (PT (E.P j)) (E.X j) f lk th al sh dd).q = Z.q := by unfold pu_out0; cases al <;> rfl
    show (if E.K j = 0 then (pu_out0 Z (E.K j) (E.W j) (E.S j) (PT (E.P j)) (E.X j) f lk th al sh dd).q ++ [_] else (pu_out0 Z (E.K j) (E.W j) (E.S j) (PT (E.P j)) (E.X j) f lk th al sh dd).q).length ≤ _
    rw [e]
    split
    · rw [List.length_append, List.length_singleton]; exact Nat.le_refl _
    · omega
/-- a child of a folder inside is inside, and none of the first four -/
theorem pu_W.kid {n b t f j : Nat} {T : pu_N} (hW : pu_W n b t T) (hf : pu_ins T.o f) (hj : T.o j = f) : 4 ≤ j := by
  have h0 := pu_ins.zero hW.2.1
  obtain ⟨o1, o2, o3⟩ := hW.2.2.2.2.2.2.1
  have h2 : ¬ pu_ins T.o 2 := fun z => by
    have := (pu_ins.step (by omega)).mp z
    rw [o2] at this
    exact h0 this
  rcases Nat.lt_or_ge j 4 with q | q
  · exfalso
    have : j = 0 ∨ j = 1 ∨ j = 2 ∨ j = 3 := by omega
    rcases this with rfl | rfl | rfl | rfl
    · rw [hW.2.1] at hj; rw [← hj] at hf; exact h0 hf
    · rw [o1] at hj; rw [← hj] at hf; exact h0 hf
    · rw [o2] at hj; rw [← hj] at hf; exact h0 hf
    · rw [o3] at hj; rw [← hj] at hf; exact h2 hf
  · exact q
theorem pu_wk.fine {R : Int32} {n b t : Nat} {T : pu_N} {mk : Prop} (hW : pu_W n b t T) : ∀ {us : List (List Int32)} {f0 lk0 f lk : Nat} {th : Option Nat}, pu_wk R n T mk f0 lk0 us (0, f, lk, th) → f0 < n → pu_ins T.o f0 → lk < lk0 + us.length ∧ f < n ∧ pu_ins T.o f ∧ ∀ j, th = some j → 4 ≤ j ∧ j < n
  | [], _, _, _, _, _, h, _, _ => h.elim
  | [u], f0, lk0, f, lk, th, h, h1, h2 => by
    obtain ⟨i, a1, a2⟩ := h
    rcases a2 with ⟨-, c2⟩ | ⟨-, c2⟩
    · exact absurd (show (0 : Int32) = -12 from c2) (by decide)
    · cases c2
      refine ⟨by simp, h1, h2, fun j hj => ?_⟩
      rcases a1 with ⟨-, z⟩ | ⟨-, z⟩
      · rw [z] at hj; cases hj
      · rw [hj] at z
        exact ⟨hW.kid h2 z.lt.2.2, z.lt.1⟩
  | u :: x :: us, f0, lk0, f, lk, th, h, h1, h2 => by
    obtain ⟨i, a1, a2⟩ := (pu_wk.cons (List.cons_ne_nil x us)).mp h
    have hl : (u :: x :: us).length = (x :: us).length + 1 := rfl
    rw [hl]
    rcases a2 with ⟨c1, c2⟩ | ⟨j, c1, c2⟩
    · rcases c2 with ⟨-, e2⟩ | ⟨-, -, -, e4⟩ | ⟨-, -, e3⟩
      · exact absurd (show (0 : Int32) = -13 from e2) (by decide)
      · exact absurd (show (0 : Int32) = -16 from e4) (by decide)
      · have := pu_wk.fine hW e3 h1 h2
        exact ⟨by omega, this.2⟩
    · rcases c2 with ⟨-, -, e3⟩ | ⟨-, e2⟩
      · exact absurd (show (0 : Int32) = -12 from e3) (by decide)
      · rcases e2 with ⟨-, x2⟩ | ⟨-, x2⟩ | ⟨x1, x2⟩
        · exact absurd (show (0 : Int32) = -14 from x2) (by decide)
        · exact absurd (show (0 : Int32) = -15 from x2) (by decide)
        · have hin : pu_in R n T f0 u (some j) := by
            rcases a1 with ⟨-, z⟩ | ⟨-, z⟩
            · rw [c1] at z; cases z
            · rw [c1] at z; exact z
          have h4 := hW.kid h2 hin.lt.2.2
          have := pu_wk.fine hW x2 hin.lt.1 ((pu_ins.step (by omega)).mpr (by rw [hin.lt.2.2]; exact h2))
          exact ⟨by omega, this.2⟩
theorem pu_jd.fine {R : Int32} {n b t md : Nat} {T : pu_N} {tp : Nat → List (List Int32)} {tf : Nat → Prop} {kd : Int32} {tg : Nat} {ou us : List (List Int32)} {sz szs l0 l1 : Int64} {f lk : Nat} {th al sh : Option Nat} {dd : Int32} (hW : pu_W n b t T) (h : pu_jd R n T tp tf kd tg ou us (fun lk v => pu_lm n md lk kd sz szs l0 l1 v) 0 f lk th al sh dd) : lk < us.length ∧ pu_ins T.o f ∧ (∀ j, th = some j → 4 ≤ j ∧ j < n) ∧ (∀ j, al = some j → 4 ≤ j ∧ j < n) ∧ (al = none → n + lk + 1 ≤ 200 ∧ (kd = 3 → ∃ q, sh = some q) ∧ (kd = 0 ∨ kd = 2 → sh = none)) ∧ ¬ kd = 4 := by
  obtain ⟨r, a1, a2⟩ := h
  rcases a2 with ⟨a2, a3⟩ | ⟨a2, v1, a3, a4⟩
  · exact absurd a3.symm a2
  rw [a2] at a1
  obtain ⟨w1, w2, w3, w4⟩ := pu_wk.fine hW a1 (by have := hW.1.1; omega) (pu_ins.one _)
  have hv1 : v1 = 0 := by
    rcases a4 with ⟨c1, c2⟩ | ⟨c1, -⟩
    · exact absurd c2.symm c1
    · exact c1
  subst hv1
  have hlm : al = none → n + lk + 1 ≤ 200 := fun z => by
    rcases a4 with ⟨c1, -⟩ | ⟨-, ⟨c2, -⟩ | ⟨-, c2⟩⟩
    · exact absurd rfl c1
    · exact absurd z c2
    · rcases c2 with ⟨-, q⟩ | ⟨-, ⟨-, q⟩ | ⟨q, -⟩⟩
      · exact absurd q (by decide)
      · exact absurd q (by decide)
      · omega
  refine ⟨by omega, w3, w4, ?_⟩
  rcases a3 with ⟨-, b2⟩ | ⟨b1, b2⟩
  · exact absurd b2 (by decide)
  have k02 : ¬ (0 : Int32) = 2 := by decide
  have k03 : ¬ (0 : Int32) = 3 := by decide
  have k32 : ¬ (3 : Int32) = 2 := by decide
  rcases b2 with ⟨b2, b3, -, b5, b6, -⟩ | ⟨b2, b3⟩
  · exact ⟨fun j hj => w4 j (by rw [← b5]; exact hj), fun z => ⟨hlm z, fun w => by rw [w] at b2; exact absurd b2.symm k03, fun _ => b6⟩, b1⟩
  rcases b3 with ⟨-, b4⟩ | ⟨b3, b4⟩
  · exact absurd b4 (by decide)
  rcases b4 with ⟨-, -, b4⟩ | ⟨-, b5⟩
  · exact absurd b4 (by decide)
  rcases b5 with ⟨b5, f1, x1, -, -, b8⟩ | ⟨b5, o1, b6, b7⟩ | ⟨b5, b6, -, b8, b9, -⟩
  · have hn : al = none ∧ sh = none := by
      rcases b8 with ⟨-, -, c3⟩ | ⟨-, -, -, c4, c5, -⟩ | ⟨-, -, c3, c4, -⟩
      · exact absurd c3 (by decide)
      · exact ⟨c4, c5⟩
      · exact ⟨c3, c4⟩
    exact ⟨fun j hj => (by rw [hn.1] at hj; cases hj), fun z => ⟨hlm z, fun w => by rw [w] at b5; exact absurd b5 k32, fun _ => hn.2⟩, b1⟩
  · rcases b7 with ⟨-, c2⟩ | ⟨j, c1, c2, -, c4, -, c6⟩
    · exact absurd c2 (by decide)
    · refine ⟨fun i hi => ?_, fun z => ⟨hlm z, fun _ => ⟨_, c4⟩, fun w => ?_⟩, b1⟩
      · rcases c6 with ⟨x1, x2⟩ | ⟨-, x2⟩
        · rw [x2] at hi; cases hi; exact w4 _ x1
        · rw [x2] at hi; cases hi
      · rcases w with w | w
        · rw [w] at b5; exact absurd b5 k03
        · rw [w] at b5; exact absurd b5.symm k32
  · exact ⟨fun j hj => (by rw [b8] at hj; cases hj), fun z => ⟨hlm z, fun w => absurd w b6, fun _ => b9⟩, b1⟩
theorem pu_jk.ou {R : Int32} {n : Nat} {T : pu_N} {tp : Nat → List (List Int32)} {tf : Nat → Prop} {kd : Int32} {tg : Nat} {ou ou' : List (List Int32)} {f lk : Nat} {th : Option Nat} {v : Int32} {al sh : Option Nat} {dd : Int32} (h3 : kd = 3 → ou = ou') (h : pu_jk R n T tp tf kd tg ou f lk th v al sh dd) : pu_jk R n T tp tf kd tg ou' f lk th v al sh dd := by
  rcases h with h | ⟨a1, h | ⟨a2, h | ⟨a3, h | ⟨a4, h | ⟨a5, h⟩ | h⟩⟩⟩⟩
  · exact Or.inl h
  · exact Or.inr ⟨a1, Or.inl h⟩
  · exact Or.inr ⟨a1, Or.inr ⟨a2, Or.inl h⟩⟩
  · exact Or.inr ⟨a1, Or.inr ⟨a2, Or.inr ⟨a3, Or.inl h⟩⟩⟩
  · exact Or.inr ⟨a1, Or.inr ⟨a2, Or.inr ⟨a3, Or.inr ⟨a4, Or.inl h⟩⟩⟩⟩
  · rw [h3 a5] at h
    exact Or.inr ⟨a1, Or.inr ⟨a2, Or.inr ⟨a3, Or.inr ⟨a4, Or.inr (Or.inl ⟨a5, h⟩)⟩⟩⟩⟩
  · exact Or.inr ⟨a1, Or.inr ⟨a2, Or.inr ⟨a3, Or.inr ⟨a4, Or.inr (Or.inr h)⟩⟩⟩⟩
theorem pu_jd.ou {R : Int32} {n : Nat} {T : pu_N} {tp : Nat → List (List Int32)} {tf : Nat → Prop} {kd : Int32} {tg : Nat} {ou ou' us : List (List Int32)} {lm : Nat → Int32 → Prop} {v : Int32} {f lk : Nat} {th al sh : Option Nat} {dd : Int32} (h3 : kd = 3 → ou = ou') (h : pu_jd R n T tp tf kd tg ou us lm v f lk th al sh dd) : pu_jd R n T tp tf kd tg ou' us lm v f lk th al sh dd := by
  obtain ⟨r, a1, a2⟩ := h
  refine ⟨r, a1, a2.imp id (fun ⟨b1, v1, b2, b3⟩ => ⟨b1, v1, b2.ou h3, b3⟩)⟩

/-- the first tree -/
def pu_T0 : pu_N := (fun j => if j = 3 then 1 else 0, fun _ => 0, fun _ => 0, fun _ => 0, fun j => if j = 3 then 2 else 0, fun _ => 0, fun j => if j = 1 then [111, 117, 116] else if j = 2 then [104, 111, 109, 101] else if j = 3 then [107, 101, 121] else [])
def pu_Z0 : pu_Z := (4, pu_T0, 1, fun _ => 8, fun _ => 42, 0, [])
theorem pu_Z0.W (t : Nat) : pu_ZW t pu_Z0 := by
  refine ⟨⟨⟨by decide, by decide⟩, rfl, fun j h0 hj => ?_, fun j hj => ?_, rfl, fun j h0 hj => ?_, ⟨rfl, rfl, rfl⟩, ⟨rfl, rfl, rfl, rfl⟩, ⟨rfl, rfl, rfl, rfl⟩, ⟨rfl, rfl⟩, rfl, fun k h4 hk => ?_⟩, fun i hi => absurd hi (Nat.not_lt_zero _), by decide⟩
  · have hj : j < 4 := hj
    have : j = 1 ∨ j = 2 ∨ j = 3 := by omega
    rcases this with rfl | rfl | rfl
    · show (0 : Nat) < 1; omega
    · show (0 : Nat) < 2; omega
    · show (2 : Nat) < 3; omega
  · have hj : j < 4 := hj
    have : j = 0 ∨ j = 1 ∨ j = 2 ∨ j = 3 := by omega
    rcases this with rfl | rfl | rfl | rfl
    · exact Or.inl rfl
    · exact Or.inl rfl
    · exact Or.inl rfl
    · exact Or.inr (Or.inl ⟨rfl, by decide⟩)
  · have hj : j < 4 := hj
    have : j = 1 ∨ j = 2 ∨ j = 3 := by omega
    rcases this with rfl | rfl | rfl
    · exact ⟨by decide, by decide⟩
    · exact ⟨by decide, by decide⟩
    · exact ⟨by decide, by decide⟩
  · have hk : k < 4 := hk
    omega

theorem pu_Q.last {n j : Nat} : ∀ {ns : List (Nat × Int32)} {r : Int32}, pu_Q n ns → pu_last ns j = some r → r = 0 ∨ r = 1 := by
  intro ns r hQ h
  have key : ∀ (l : List (Nat × Int32)) (a : Option Int32), (∀ x, x ∈ l → x.2 = 0 ∨ x.2 = 1) → (∀ r, a = some r → r = 0 ∨ r = 1) → ∀ r, l.foldl (fun a x => if j = x.1 then some x.2 else a) a = some r → r = 0 ∨ r = 1 := by
    intro l
    induction l with
    | nil => intro a _ ha r hr; exact ha r hr
    | cons x l ih =>
      intro a hl ha r hr
      refine ih _ (fun y hy => hl y (List.mem_cons_of_mem _ hy)) (fun r' hr' => ?_) r hr
      dsimp only at hr'
      split at hr'
      · cases hr'; exact hl x List.mem_cons_self
      · exact ha r' hr'
  refine key ns none (fun x hx => ?_) (fun r z => by cases z) r h
  obtain ⟨i, hi, rfl⟩ := List.getElem_of_mem hx
  have := (hQ i hi).2.2
  rw [List.getD_eq_getElem?_getD, List.getElem?_eq_getElem hi] at this
  exact this

theorem pu_wk.m12 {R : Int32} {n : Nat} {T : pu_N} {mk : Prop} {f lk j : Nat} {u : List Int32} {us : List (List Int32)} {r : Int32 × Nat × Nat × Option Nat} (h1 : (0 < lk ∧ some j = none) ∨ (lk = 0 ∧ pu_in R n T f u (some j))) (h2 : ¬ T.w j = u) (h3 : sp_hr R 16 = 0) (hr : r.1 = -12) : pu_wk R n T mk f lk (u :: us) r := by
  cases us with
  | nil => exact ⟨some j, h1, Or.inl ⟨⟨j, rfl, h2, h3⟩, hr⟩⟩
  | cons x us => exact ⟨some j, h1, Or.inr ⟨j, rfl, Or.inl ⟨h2, h3, hr⟩⟩⟩
/-- a PATH walked with no folder to be made, against what it is -/
theorem pu_wk.rc {R : Int32} {n : Nat} {T : pu_N} {mk : Prop} (hmk : ¬ mk) : ∀ {us : List (List Int32)} {f : Nat} {r : Int32 × Nat × Nat × Option Nat}, T.k f = 0 → pu_wk R n T mk f 0 us r → ∃ o, pu_rc R n T (sp_hr R 16 = 0) f us o ∧ ∀ j, T.k j = 1 → (o = some j ↔ (r.1 = 0 ∧ r.2.2.2 = some j))
  | [], _, _, _, h => h.elim
  | [u], f, r, hf, ⟨i, a1, a2⟩ => by
    have hin : pu_in R n T f u i := by
      rcases a1 with ⟨z, -⟩ | ⟨-, z⟩
      · omega
      · exact z
    rcases a2 with ⟨⟨j, b1, b2, b3⟩, b4⟩ | ⟨b1, b2⟩
    · refine ⟨none, Or.inr ⟨hf, Or.inr ⟨j, by rw [← b1]; exact hin, Or.inl ⟨b3, b2, rfl⟩⟩⟩, fun k _ => ⟨fun z => (by cases z), fun z => ?_⟩⟩
      rw [b4] at z
      exact absurd z.1 (by decide)
    · cases i with
      | none =>
        refine ⟨none, Or.inr ⟨hf, Or.inl ⟨hin, rfl⟩⟩, fun k _ => ⟨fun z => (by cases z), fun z => ?_⟩⟩
        rw [b2] at z
        exact z.2
      | some j =>
        refine ⟨some j, Or.inr ⟨hf, Or.inr ⟨j, hin, Or.inr ⟨fun z => b1 ⟨j, rfl, z.2, z.1⟩, rfl⟩⟩⟩, fun k _ => ?_⟩
        rw [b2]
        exact ⟨fun z => ⟨rfl, z⟩, fun z => z.2⟩
  | u :: x :: us, f, r, hf, h => by
    obtain ⟨i, a1, a2⟩ := (pu_wk.cons (List.cons_ne_nil x us)).mp h
    have hin : pu_in R n T f u i := by
      rcases a1 with ⟨z, -⟩ | ⟨-, z⟩
      · omega
      · exact z
    have no : ∀ c : Int32, ¬ c = 0 → r.1 = c → ∀ k, T.k k = 1 → ((none : Option Nat) = some k ↔ (r.1 = 0 ∧ r.2.2.2 = some k)) := fun c hc hr k _ => ⟨fun z => (by cases z), fun z => absurd (hr.symm.trans z.1) hc⟩
    rcases a2 with ⟨rfl, a2⟩ | ⟨j, rfl, a2⟩
    · rcases a2 with ⟨-, b2⟩ | ⟨b1, -⟩ | ⟨b1, -⟩
      · exact ⟨none, Or.inr ⟨hf, Or.inl ⟨hin, rfl⟩⟩, no _ (by decide) b2⟩
      · exact absurd b1 hmk
      · exact absurd b1 hmk
    · rcases a2 with ⟨b1, b2, b3⟩ | ⟨b1, b2⟩
      · exact ⟨none, Or.inr ⟨hf, Or.inr ⟨j, hin, Or.inl ⟨b2, b1, rfl⟩⟩⟩, no _ (by decide) b3⟩
      · have hle : ¬ (sp_hr R 16 = 0 ∧ ¬ T.w j = u) := fun z => b1 ⟨z.2, z.1⟩
        rcases b2 with ⟨c1, c2⟩ | ⟨c1, c2⟩ | ⟨c1, c2⟩
        · exact ⟨none, Or.inr ⟨hf, Or.inr ⟨j, hin, Or.inr ⟨hle, Or.inl ⟨by rw [c1]; decide, rfl⟩⟩⟩⟩, no _ (by decide) c2⟩
        · exact ⟨none, Or.inr ⟨hf, Or.inr ⟨j, hin, Or.inr ⟨hle, Or.inl ⟨by rw [c1]; decide, rfl⟩⟩⟩⟩, no _ (by decide) c2⟩
        · obtain ⟨o, d1, d2⟩ := pu_wk.rc hmk c1 c2
          exact ⟨o, Or.inr ⟨hf, Or.inr ⟨j, hin, Or.inr ⟨hle, d1⟩⟩⟩, d2⟩
theorem pu_last.no {n j : Nat} {ns : List (Nat × Int32)} (hQ : pu_Q n ns) (hj : n ≤ j) : pu_last ns j = none := by
  have key : ∀ (l : List (Nat × Int32)), (∀ x, x ∈ l → x.1 < n) → l.foldl (fun a x => if j = x.1 then some x.2 else a) (none : Option Int32) = none := by
    intro l
    induction l with
    | nil => intro _; rfl
    | cons x l ih =>
      intro hl
      show l.foldl _ (if j = x.1 then some x.2 else none) = none
      rw [if_neg (by have := hl x List.mem_cons_self; omega)]
      exact ih (fun y hy => hl y (List.mem_cons_of_mem _ hy))
  refine key ns (fun x hx => ?_)
  obtain ⟨i, hi, rfl⟩ := List.getElem_of_mem hx
  have := (hQ i hi).2.1
  rw [List.getD_eq_getElem?_getD, List.getElem?_eq_getElem hi] at this
  exact this

theorem pu_wk.ref {R : Int32} {n : Nat} {T : pu_N} {mk : Prop} : ∀ {us : List (List Int32)} {f lk : Nat} {r : Int32 × Nat × Nat × Option Nat}, pu_wk R n T mk f lk us r → ¬ r.1 = 0 → ¬ r.1 = -20 ∧ r.1 ≤ 0
  | [], _, _, _, h, _ => h.elim
  | [u], f, lk, r, ⟨i, a1, a2⟩, h0 => by
    rcases a2 with ⟨-, b⟩ | ⟨-, b⟩
    · rw [b]; exact ⟨by decide, by decide⟩
    · rw [b] at h0; exact absurd rfl h0
  | u :: x :: us, f, lk, r, h, h0 => by
    obtain ⟨i, a1, a2⟩ := (pu_wk.cons (List.cons_ne_nil x us)).mp h
    rcases a2 with ⟨-, ⟨-, b⟩ | ⟨-, -, -, b⟩ | ⟨-, -, b⟩⟩ | ⟨j, -, ⟨-, -, b⟩ | ⟨-, ⟨-, b⟩ | ⟨-, b⟩ | ⟨-, b⟩⟩⟩
    · rw [b]; exact ⟨by decide, by decide⟩
    · rw [b]; exact ⟨by decide, by decide⟩
    · exact pu_wk.ref b h0
    · rw [b]; exact ⟨by decide, by decide⟩
    · rw [b]; exact ⟨by decide, by decide⟩
    · rw [b]; exact ⟨by decide, by decide⟩
    · exact pu_wk.ref b h0
theorem pu_j0.neg {R : Int32} {Z : pu_Z} {PT : Nat → List (List Int32)} {TT : Nat → List Int32} {E : pu_E} {l0 l1 : Int64} {j : Nat} {v : Int32} {f lk : Nat} {th al sh : Option Nat} {dd : Int32} (h : pu_j0 R Z PT TT E l0 l1 j v f lk th al sh dd) (hv : ¬ v = 0) : v ≤ 0 := by
  obtain ⟨r, a1, a2⟩ := h
  rcases a2 with ⟨a2, a3⟩ | ⟨a2, v1, a3, a4⟩
  · rw [a3]; exact (a1.ref a2).2
  · have k : ¬ v1 = 0 → v1 ≤ 0 := fun z => by
      rcases a3 with ⟨-, b⟩ | ⟨-, b | ⟨-, ⟨-, b⟩ | ⟨-, ⟨-, -, b⟩ | ⟨-, ⟨-, ff, x, -, -, ⟨-, -, b⟩ | ⟨-, -, b, -⟩ | ⟨-, b, -⟩⟩ | ⟨-, o, -, ⟨-, b⟩ | ⟨i, -, -, b, -⟩⟩ | ⟨-, -, b, -⟩⟩⟩⟩⟩
      · rw [b]; decide
      · exact absurd b.2.2.1 z
      · rw [b]; decide
      · rw [b]; decide
      · rw [b]; decide
      · exact absurd b z
      · exact absurd b z
      · rw [b]; decide
      · exact absurd b z
      · exact absurd b z
    rcases a4 with ⟨c1, c2⟩ | ⟨-, ⟨-, c2⟩ | ⟨-, c2⟩⟩
    · rw [c2]; exact k c1
    · exact absurd c2 hv
    · rcases c2 with ⟨-, c2⟩ | ⟨-, ⟨-, c2⟩ | ⟨-, c2⟩⟩
      · rw [c2]; decide
      · rw [c2]; decide
      · exact absurd c2 hv

/-- an entry more -/
def pu_Em (E : pu_E) (e : Nat) (k : Int32) (q x : Nat) (v : Int32) (s : Int64) : pu_E := (fun j => if j = e then k else E.K j, fun j => if j = e then q else E.P j, fun j => if j = e then x else E.X j, fun j => if j = e then v else E.W j, fun j => if j = e then s else E.S j)
theorem pu_Em.new {E : pu_E} {e q x : Nat} {k v : Int32} {s : Int64} : (pu_Em E e k q x v s).K e = k ∧ (pu_Em E e k q x v s).P e = q ∧ (pu_Em E e k q x v s).X e = x ∧ (pu_Em E e k q x v s).W e = v ∧ (pu_Em E e k q x v s).S e = s := ⟨if_pos rfl, if_pos rfl, if_pos rfl, if_pos rfl, if_pos rfl⟩
theorem pu_Em.old {E : pu_E} {e q x j : Nat} {k v : Int32} {s : Int64} (h : ¬ j = e) : (pu_Em E e k q x v s).K j = E.K j ∧ (pu_Em E e k q x v s).P j = E.P j ∧ (pu_Em E e k q x v s).X j = E.X j ∧ (pu_Em E e k q x v s).W j = E.W j ∧ (pu_Em E e k q x v s).S j = E.S j := ⟨if_neg h, if_neg h, if_neg h, if_neg h, if_neg h⟩
theorem pu_EW.mono {p t p' t' e : Nat} {E : pu_E} (h : pu_EW p t e E) (hp : p ≤ p') (ht : t ≤ t') : pu_EW p' t' e E := fun j hj => by
  obtain ⟨w1, w2, w3, w4, w5, w6⟩ := h j hj
  exact ⟨w1, by omega, fun z => ⟨by have := (w3 z).1; omega, (w3 z).2⟩, fun z => ⟨by have := (w4 z).1; omega, (w4 z).2⟩, w5, fun z => by have := w6 z; omega⟩
theorem pu_ZW.mono {t t' : Nat} {Z : pu_Z} (h : pu_ZW t Z) (ht : t ≤ t') : pu_ZW t' Z := by
  obtain ⟨⟨a1, a2, a3, a4, a5⟩, h2, h3⟩ := h
  refine ⟨⟨a1, a2, a3, fun j hj => ?_, a5⟩, h2, h3⟩
  rcases a4 j hj with z | z | ⟨z, z2⟩
  · exact Or.inl z
  · exact Or.inr (Or.inl z)
  · exact Or.inr (Or.inr ⟨z, by omega⟩)
theorem pu_EW.more {p t e q x : Nat} {E : pu_E} {k v : Int32} {s : Int64} (h : pu_EW p t e E) (hk : k = 0 ∨ k = 1 ∨ k = 2 ∨ k = 3 ∨ k = 4) (hq : q < p) (h2 : k = 2 → x < t ∧ v = nI x) (h3 : k = 3 → x < p ∧ v = nI x) (h0 : k = 0 → v = 0 ∨ v = 1) (hx : ¬ k = 2 → x < p) : pu_EW p t (e + 1) (pu_Em E e k q x v s) := fun j hj => by
  by_cases z : j = e
  · subst z
    obtain ⟨e1, e2, e3, e4, e5⟩ := pu_Em.new (E := E) (e := j) (q := q) (x := x) (k := k) (v := v) (s := s)
    rw [e1, e2, e3, e4]
    exact ⟨hk, hq, h2, h3, h0, hx⟩
  · obtain ⟨e1, e2, e3, e4, e5⟩ := pu_Em.old (E := E) (e := e) (q := q) (x := x) (k := k) (v := v) (s := s) z
    rw [e1, e2, e3, e4]
    exact h j (by omega)
