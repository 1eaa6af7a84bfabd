/-! THE HEAP AND THE MEMORY: what is known of the start, and what of the cells -/
/-- classes' numbers and slots; array classes; where the new heap begins; the old heap; kinds, lengths, ints of the old arrays; statics; the text constants' cells and their bytes' cells; the class object of Object[] -/
def sp_G : Type := va_G × sp_Y × Nat × Heap × (Nat → Nat) × (Nat → Nat) × (Nat → Nat → Int32) × List (String × String × String × Value) × (Nat → Nat) × (Nat → Nat) × Nat
def sp_G.D (G : sp_G) : va_G := G.1
def sp_G.Y (G : sp_G) : sp_Y := G.2.1
def sp_G.base (G : sp_G) : Nat := G.2.2.1
def sp_G.H0 (G : sp_G) : Heap := G.2.2.2.1
def sp_G.oty (G : sp_G) : Nat → Nat := G.2.2.2.2.1
def sp_G.oln (G : sp_G) : Nat → Nat := G.2.2.2.2.2.1
def sp_G.oI (G : sp_G) : Nat → Nat → Int32 := G.2.2.2.2.2.2.1
def sp_G.st (G : sp_G) : List (String × String × String × Value) := G.2.2.2.2.2.2.2.1
def sp_G.sk (G : sp_G) : Nat → Nat := G.2.2.2.2.2.2.2.2.1
def sp_G.sv (G : sp_G) : Nat → Nat := G.2.2.2.2.2.2.2.2.2.1
def sp_G.mi (G : sp_G) : Nat := G.2.2.2.2.2.2.2.2.2.2
abbrev sp_tys (y : sp_Y) : List (ClassId × FieldType) := [(y.1, .int), (y.2.1, .long), (y.2.2.1, .boolean), (y.2.2.2, .object "java/lang/Object")]
def sp_tyf : Nat → Nat → FieldType
  | 0 => tyJx4a65c
  | 1 => tyX0
  | 2 => tyX1
  | 3 => tyX2
  | 4 => tyX3
  | 5 => tyX4
  | 6 => tyX5
  | 7 => tyX6
  | 8 => tyX7
  | 9 => tyX8
  | 10 => tyX9
  | 11 => tyX10
  | 12 => tyX11
  | _ => tyX12
def sp_Cn (c : Nat) : String := (vwCl.getD c ("", fun _ => ("", "", "", false), 0)).1
def sp_Ct (c : Nat) : u_T := (vwCl.getD c ("", fun _ => ("", "", "", false), 0)).2.1
def sp_Cl (c : Nat) : Nat := (vwCl.getD c ("", fun _ => ("", "", "", false), 0)).2.2
theorem sp_cl_get {c : Nat} (hc : c < 14) : vwCl[c]? = some (sp_Cn c, sp_Ct c, sp_Cl c) := by
  match c, hc with
  | 0, _ => rfl
  | 1, _ => rfl
  | 2, _ => rfl
  | 3, _ => rfl
  | 4, _ => rfl
  | 5, _ => rfl
  | 6, _ => rfl
  | 7, _ => rfl
  | 8, _ => rfl
  | 9, _ => rfl
  | 10, _ => rfl
  | 11, _ => rfl
  | 12, _ => rfl
  | 13, _ => rfl
  | n + 14, h => exact absurd h (by omega)
theorem sp_cl_in : ∀ c, c < 14 → ∀ w ∈ u_ws (sp_Cn c) (sp_Ct c) (sp_Cl c), w ∈ lw_tbl := by decide +kernel
theorem sp_cl_ty : ∀ c, c < 14 → ∀ k, k < sp_Cl c → parseFieldDescriptor (sp_Ct c k).2.2.1 = some (sp_tyf c k) := by decide +kernel
theorem sp_cl_nm : ∀ c, c < 14 → ∀ a, a < sp_Cl c → ∀ b, b < sp_Cl c → a ≠ b → (sp_Ct c a).2.1 ≠ (sp_Ct c b).2.1 := by decide +kernel
theorem sp_cl_len : ∀ c, c < 14 → (sp_ft c).length = sp_Cl c := by decide +kernel
theorem sp_cl_ft : ∀ c, c < 14 → ∀ k, k < sp_Cl c → ((sp_ft c)[k]? = some 0 ∧ (sp_tyf c k = .int ∨ sp_tyf c k = .boolean)) ∨ ((sp_ft c)[k]? = some 1 ∧ sp_tyf c k = .long) ∨ ((sp_ft c)[k]? = some 2 ∧ (sp_tyf c k).isReference = true) := by decide +kernel
/-- the cells as the memory has them -/
def sp_H (G : sp_G) (m : sp_M) (H : Heap) : Prop := H.size = m.nx ∧ G.base ≤ m.nx ∧ (∀ q : Nat, q < G.base → H[q]? = G.H0[q]?) ∧ ∀ a : Nat, m.ty a ≠ 0 → (a < G.base ∧ 24 ≤ m.ty a ∧ m.ty a = G.oty a ∧ m.ln a = G.oln a ∧ ∀ j, m.aI a j = G.oI a j) ∨ (G.base ≤ a ∧ (m.ty a < 15 ∨ 20 ≤ m.ty a ∧ m.ty a < 24) ∧ va_at G.D vwCl (a, sp_e G.Y m a) H)
theorem sp_H.lt {G : sp_G} {m : sp_M} {H : Heap} (h : sp_H G m H) {a : Nat} (ha : m.ty a ≠ 0) : a < m.nx := by
  rcases h.2.2.2 a ha with h1 | h1
  · exact Nat.lt_of_lt_of_le h1.1 h.2.1
  · rw [← h.1]
    exact h1.2.2.lt
theorem sp_H.obj {G : sp_G} {m : sp_M} {H : Heap} (h : sp_H G m H) {a c : Nat} (ha : m.ty a = c + 1) (hc : c < 14) : G.base ≤ a ∧ t_OB a (G.D.1 c) (sp_Cl c) (G.D.2 c) H (vp_V (sp_fs m c a)) := by
  rcases h.2.2.2 a (by omega) with h1 | h1
  · omega
  · refine ⟨h1.1, ?_⟩
    have h2 := h1.2.2
    rw [show sp_e G.Y m a = .inr (c, sp_fs m c a) by
      unfold sp_e
      rw [if_neg (by omega), if_neg (by omega), if_neg (by omega), if_neg (by omega), ha]
      rfl] at h2
    obtain ⟨r, h3, h4⟩ := h2
    have h5 := h3.symm.trans (sp_cl_get hc)
    cases h5
    exact h4
theorem sp_fs_get {m : sp_M} {c a i t : Nat} (ht : (sp_ft c)[i]? = some t) : (sp_fs m c a)[i]? = some (sp_fv m t (64 * c + i) a) := by
  unfold sp_fs
  rw [List.getElem?_mapIdx, ht]
  rfl
theorem sp_fs_len (m : sp_M) (c a : Nat) : (sp_fs m c a).length = (sp_ft c).length := by
  unfold sp_fs
  rw [List.length_mapIdx]
/-- a cell of the memory is written: the others stay -/
theorem sp_H.upd {G : sp_G} {m m' : sp_M} {H H1 : Heap} {a : Nat} (h : sp_H G m H) (z : H1.size = H.size) (oq : ∀ q : Nat, q ≠ a → H1[q]? = H[q]?) (ha : G.base ≤ a) (h1 : m'.nx = m.nx) (h2 : m'.ty = m.ty) (h3 : m'.ln = m.ln) (h4 : ∀ b, b ≠ a → m'.aI b = m.aI b) (h5 : ∀ b, b ≠ a → sp_e G.Y m' b = sp_e G.Y m b) (he : va_at G.D vwCl (a, sp_e G.Y m' a) H1) : sp_H G m' H1 := by
  refine ⟨by rw [z, h1]; exact h.1, by rw [h1]; exact h.2.1, fun q hq => by rw [oq q (by omega)]; exact h.2.2.1 q hq, fun b hb => ?_⟩
  rw [h2] at hb
  rcases h.2.2.2 b hb with g | g
  · left
    rw [h2, h3, h4 b (by omega)]
    exact g
  · right
    refine ⟨g.1, by rw [h2]; exact g.2.1, ?_⟩
    by_cases hba : b = a
    · subst hba
      exact he
    · rw [h5 b hba]
      exact g.2.2.kept (oq b hba)
/-- a cell comes -/
theorem sp_H.new {G : sp_G} {m m' : sp_M} {H H1 : Heap} (h : sp_H G m H) (z : H1.size = H.size + 1) (oq : ∀ q : Nat, q < H.size → H1[q]? = H[q]?) (h1 : m'.nx = m.nx + 1) (h2 : ∀ b, b ≠ m.nx → m'.ty b = m.ty b) (h3 : ∀ b, b ≠ m.nx → m'.ln b = m.ln b) (h4 : ∀ b, b ≠ m.nx → m'.aI b = m.aI b) (h5 : ∀ b, b ≠ m.nx → sp_e G.Y m' b = sp_e G.Y m b) (ht : m'.ty m.nx < 15 ∨ 20 ≤ m'.ty m.nx ∧ m'.ty m.nx < 24) (he : va_at G.D vwCl (m.nx, sp_e G.Y m' m.nx) H1) : sp_H G m' H1 := by
  have hs := h.1
  have hbs := h.2.1
  refine ⟨by rw [z, h1, hs], by omega, fun q hq => by rw [oq q (by omega)]; exact h.2.2.1 q hq, fun b hb => ?_⟩
  by_cases hba : b = m.nx
  · subst hba
    exact Or.inr ⟨hbs, ht, he⟩
  · rw [h2 b hba] at hb ⊢
    rcases h.2.2.2 b hb with g | g
    · left
      rw [h3 b hba, h4 b hba]
      exact g
    · right
      refine ⟨g.1, g.2.1, ?_⟩
      rw [h5 b hba]
      exact g.2.2.kept (oq b (by have := g.2.2.lt; exact this))
theorem sp_e_pI {y : sp_Y} {m : sp_M} {k a b : Nat} {v : Int32} (hb : b ≠ a) : sp_e y (m.pI k a v) b = sp_e y m b := by
  have : ∀ c, sp_fs (m.pI k a v) c b = sp_fs m c b := fun c => by
    unfold sp_fs
    congr 1
    funext i t
    unfold sp_fv
    rw [sp_pI_fI, if_neg (by rintro ⟨-, h⟩; exact hb h)]
    rfl
  unfold sp_e
  rw [this]
  rfl
theorem sp_e_pL {y : sp_Y} {m : sp_M} {k a b : Nat} {v : Int64} (hb : b ≠ a) : sp_e y (m.pL k a v) b = sp_e y m b := by
  have : ∀ c, sp_fs (m.pL k a v) c b = sp_fs m c b := fun c => by
    unfold sp_fs
    congr 1
    funext i t
    unfold sp_fv
    rw [sp_pL_fL, if_neg (by rintro ⟨-, h⟩; exact hb h)]
    rfl
  unfold sp_e
  rw [this]
  rfl
theorem sp_e_pR {y : sp_Y} {m : sp_M} {k a b : Nat} {v : Option Nat} (hb : b ≠ a) : sp_e y (m.pR k a v) b = sp_e y m b := by
  have : ∀ c, sp_fs (m.pR k a v) c b = sp_fs m c b := fun c => by
    unfold sp_fs
    congr 1
    funext i t
    unfold sp_fv
    rw [sp_pR_fR, if_neg (by rintro ⟨-, h⟩; exact hb h)]
    rfl
  unfold sp_e
  rw [this]
  rfl
theorem sp_e_obj {y : sp_Y} {m : sp_M} {a c : Nat} (ha : m.ty a = c + 1) (hc : c < 14) : sp_e y m a = .inr (c, sp_fs m c a) := by
  unfold sp_e
  rw [if_neg (by omega), if_neg (by omega), if_neg (by omega), if_neg (by omega), ha]
  rfl
/-- the object's fields behind a write of its field i -/
theorem sp_fs_pI {m : sp_M} {c a i : Nat} {v : Int32} (ht : (sp_ft c)[i]? = some 0) : sp_fs (m.pI (64 * c + i) a v) c a = (sp_fs m c a).set i (.int v) := by
  apply List.ext_getElem?
  intro j
  rw [List.getElem?_set]
  unfold sp_fs
  rw [List.getElem?_mapIdx, List.getElem?_mapIdx, List.length_mapIdx]
  by_cases hj : i = j
  · subst hj
    rw [if_pos rfl, if_pos (List.getElem?_eq_some_iff.mp ht).1, ht]
    simp [sp_fv, sp_pI_fI]
  · rw [if_neg hj]
    cases (sp_ft c)[j]? with
    | none => rfl
    | some t =>
      simp only [Option.map_some]
      unfold sp_fv
      rw [sp_pI_fI, if_neg (by rintro ⟨h, -⟩; omega)]
      rfl
theorem sp_fs_pL {m : sp_M} {c a i : Nat} {v : Int64} (ht : (sp_ft c)[i]? = some 1) : sp_fs (m.pL (64 * c + i) a v) c a = (sp_fs m c a).set i (.long v) := by
  apply List.ext_getElem?
  intro j
  rw [List.getElem?_set]
  unfold sp_fs
  rw [List.getElem?_mapIdx, List.getElem?_mapIdx, List.length_mapIdx]
  by_cases hj : i = j
  · subst hj
    rw [if_pos rfl, if_pos (List.getElem?_eq_some_iff.mp ht).1, ht]
    simp [sp_fv, sp_pL_fL]
  · rw [if_neg hj]
    cases (sp_ft c)[j]? with
    | none => rfl
    | some t =>
      simp only [Option.map_some]
      unfold sp_fv
      rw [sp_pL_fL, if_neg (by rintro ⟨h, -⟩; omega)]
      rfl
theorem sp_fs_pR {m : sp_M} {c a i : Nat} {v : Option Nat} (ht : (sp_ft c)[i]? = some 2) : sp_fs (m.pR (64 * c + i) a v) c a = (sp_fs m c a).set i (va_rf v) := by
  apply List.ext_getElem?
  intro j
  rw [List.getElem?_set]
  unfold sp_fs
  rw [List.getElem?_mapIdx, List.getElem?_mapIdx, List.length_mapIdx]
  by_cases hj : i = j
  · subst hj
    rw [if_pos rfl, if_pos (List.getElem?_eq_some_iff.mp ht).1, ht]
    simp [sp_fv, sp_pR_fR]
  · rw [if_neg hj]
    cases (sp_ft c)[j]? with
    | none => rfl
    | some t =>
      simp only [Option.map_some]
      unfold sp_fv
      rw [sp_pR_fR, if_neg (by rintro ⟨h, -⟩; omega)]
      rfl
/-- a field of an object is written -/
theorem sp_H.fld {G : sp_G} {m m' : sp_M} {H H1 : Heap} {a c i : Nat} {v : Value} (h : sp_H G m H) (ha : m.ty a = c + 1) (hc : c < 14) (hi : i < sp_Cl c) (hap : ∀ x y, x < sp_Cl c → y < sp_Cl c → x ≠ y → (G.D.2 c) x ≠ (G.D.2 c) y) (z : H1.size = H.size) (oq : ∀ q : Nat, q ≠ a → H1[q]? = H[q]?) {cell : Cell} (h0 : H[a]? = some cell) (hs : H1[a]? = some (cell.setSlot (G.D.2 c i) v))
    (h1 : m'.nx = m.nx) (h2 : m'.ty = m.ty) (h3 : m'.ln = m.ln) (h4 : m'.aI = m.aI) (h5 : ∀ b, b ≠ a → sp_e G.Y m' b = sp_e G.Y m b) (h6 : sp_fs m' c a = (sp_fs m c a).set i v) : sp_H G m' H1 := by
  obtain ⟨hb, hO⟩ := h.obj ha hc
  refine h.upd z oq hb h1 h2 h3 (fun b _ => by rw [h4]) h5 ?_
  rw [sp_e_obj (by rw [h2]; exact ha) hc, h6]
  obtain ⟨cell', q1, q2, q3, q4⟩ := hO
  have hce := q1.symm.trans h0
  cases hce
  refine ⟨_, sp_cl_get hc, t_OB.to (V := updV (vp_V (sp_fs m c a)) i v) ⟨_, hs, q2, q3, t_set q4 hap hi v⟩ (fun j _ => vp_updV_set (by rw [sp_fs_len, sp_cl_len c hc]; exact hi) v j)⟩
