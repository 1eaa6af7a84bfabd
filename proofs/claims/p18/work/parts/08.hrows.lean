/-! ROWS OF THE HEAP -/
section SPH
variable {l : Launch} {G : sp_G} {own : String} {cc : ByteArray} {nL : Nat} {init : Bool} {ret : Option FieldType} {R : Room} {Qo : Option (Option Value → sp_M → Prop)} {w : sp_T}
variable {k n : Nat} {m : sp_M} {pc : Nat} {lv : sp_L} {rest : List Value}
/-- a link of a field: the pool's own, or a nest mate's; by the name of its own class, or of a class that has the same field -/
def sp_fl (own : String) (idx : Nat) (dc nm ds : String) : Prop := ∃ ref, (ref = dc ∨ Cond.sameField ref dc nm ds ∈ lw_tbl) ∧ (Cond.fieldLink own idx ref nm ds ∈ lw_tbl ∨ ∃ host, Cond.fieldLinkNest own idx ref nm ds host ∈ lw_tbl)
theorem sp_same {s : State} (hK : sp_K G s) {ref dc nm ds : String} (h : ref = dc ∨ Cond.sameField ref dc nm ds ∈ lw_tbl) {x : ClassId × Class × Nat × Field} (hx : s.fieldFound? dc nm ds = some x) : s.fieldFound? ref nm ds = some x := by
  rcases h with h | h
  · rw [h]
    exact hx
  · exact u_same (hK.w h rfl #[]) x hx
theorem sp_gf_core {s : State} {H : Heap} (hK : sp_K G s) (hH : sp_H G m H) {a c i t : Nat} (hty : m.ty a = c + 1) (hc : c < 14) (ht : (sp_ft c)[i]? = some t) : ∃ (cell : Cell) (cf : ClassId) (kf : Class) (fi : Nat) (f : Field), i < sp_Cl c ∧ H[a]? = some cell ∧ cell.cls = G.D.1 c ∧ cell.vm = .none ∧ s.fieldFound? (sp_Ct c i).1 (sp_Ct c i).2.1 (sp_Ct c i).2.2.1 = some (cf, kf, fi, f) ∧ f.isStatic = false ∧ f.slot = G.D.2 c i ∧ cell.slots[f.slot]? = some (sp_fv m t (64 * c + i) a) := by
  obtain ⟨hb, cell, q1, q2, q3, q4⟩ := hH.obj hty hc
  have hi : i < sp_Cl c := by
    rw [← sp_cl_len c hc]
    exact (List.getElem?_eq_some_iff.mp ht).1
  obtain ⟨hS, hfc, kC, hkC, hkind⟩ := hK.1.1 c _ (sp_cl_get hc)
  obtain ⟨cf, kf, fi, f, hf, hsl⟩ := hS i hi
  refine ⟨cell, cf, kf, fi, f, hi, q1, q2, q3, hf, (u_facts hfc hkC (sp_lays hK hc hi #[]) hf).1, hsl, ?_⟩
  rw [hsl, q4 i hi]
  simp [vp_V, sp_fs_get ht]
theorem sp_getfield (X : sp_X l G own cc nL init ret R Qo w) {r : Option Nat} {a c i t idx : Nat} {v : Value} (hr : r = some a) (hty : m.ty a = c + 1) (hc : c < 14) (ht : (sp_ft c)[i]? = some t) (hv : sp_fv m t (64 * c + i) a = v) (hl0 : sp_fl own idx (sp_Ct c i).1 (sp_Ct c i).2.1 (sp_Ct c i).2.2.1) (hdg : decode cc pc = .ok (.getfield idx, 3)) (kk : w k n m (pc + 3) lv (v :: rest)) : w k n m pc lv (va_rf r :: rest) := by
  subst hr
  subst hv

  obtain ⟨p, e, s, mm, args, below, meth, cd, Q, hx, hb, hml, hown, hlocks, hret, hini, hK, hQ, rfl⟩ := X
  intro hk0 hn0 H locs ls hH hL hl
  obtain ⟨cell, cf, kf, fi, f, hi, q1, q2, q3, hf, hst, hsl, hs⟩ := sp_gf_core hK hH hty hc ht
  obtain ⟨ref0, hs0, hl0⟩ := hl0
  have hf0 := sp_same hK hs0 hf
  rcases hl0 with h0 | ⟨host, h0⟩
  · exact W.getf hx hb hown (hK.w h0 rfl _) hf0 hst q1 (by rw [q3]; exact fun h => by cases h) hs rfl rfl hdg (kk hk0 hn0 H locs ls hH hL hl)
  · exact va_Wgetf hx hb hown (hK.w h0 rfl _) hf0 hst q1 (by rw [q3]; exact fun h => by cases h) hs rfl rfl hdg (kk hk0 hn0 H locs ls hH hL hl)
/-- a field's value fits -/
def sp_fit (ty : FieldType) (v : Value) : Prop := narrow ty v = v ∧ fits ty v = true
theorem sp_fit_rf {ty : FieldType} (h : ty.isReference = true) (r : Option Nat) : sp_fit ty (va_rf r) := by
  cases ty <;> first | (cases h; done) | (cases r <;> exact ⟨rfl, rfl⟩)
theorem sp_pf_core {s : State} {H H1 : Heap} {m' : sp_M} (hK : sp_K G s) (hH : sp_H G m H) {a c i : Nat} {v : Value} {cell : Cell} {f : Field} (hty : m.ty a = c + 1) (hc : c < 14) (hi : i < sp_Cl c) (q1 : H[a]? = some cell) (hsl : f.slot = G.D.2 c i) (e1 : H1[a]? = some (cell.setSlot f.slot v)) (e2 : H1.size = H.size) (e3 : ∀ q, q ≠ a → H1[q]? = H[q]?)
    (h1 : m'.nx = m.nx) (h2 : m'.ty = m.ty) (h3 : m'.ln = m.ln) (h4 : m'.aI = m.aI) (h5 : ∀ b, b ≠ a → sp_e G.Y m' b = sp_e G.Y m b) (h6 : sp_fs m' c a = (sp_fs m c a).set i v) : sp_H G m' H1 :=
  hH.fld hty hc hi (sp_apart hK hc) e2 e3 q1 (by rw [← hsl]; exact e1) h1 h2 h3 h4 h5 h6
theorem sp_putfield (X : sp_X l G own cc nL init ret R Qo w) {r : Option Nat} {a c i t idx : Nat} {v : Value} {m' : sp_M} (hr : r = some a) (hty : m.ty a = c + 1) (hc : c < 14) (ht : (sp_ft c)[i]? = some t) (hfin : (sp_Ct c i).2.2.2 = false ∨ (init = true ∧ (sp_Ct c i).2.2.2 = true ∧ (sp_Ct c i).1 = own)) (hfit : sp_fit (sp_tyf c i) v) (hl0 : sp_fl own idx (sp_Ct c i).1 (sp_Ct c i).2.1 (sp_Ct c i).2.2.1) (hdg : decode cc pc = .ok (.putfield idx, 3))
    (h1 : m'.nx = m.nx) (h2 : m'.ty = m.ty) (h3 : m'.ln = m.ln) (h4 : m'.aI = m.aI) (h5 : ∀ b, b ≠ a → sp_e G.Y m' b = sp_e G.Y m b) (h6 : sp_fs m' c a = (sp_fs m c a).set i v) (kk : w k n m' (pc + 3) lv rest) : w k n m pc lv (v :: va_rf r :: rest) := by
  subst hr
  obtain ⟨p, e, s, mm, args, below, meth, cd, Q, hx, hb, hml, hown, hlocks, hret, hini, hK, hQ, rfl⟩ := X
  intro hk0 hn0 H locs ls hH hL hl
  obtain ⟨cell, cf, kf, fi, f, hi, q1, q2, q3, hf, hst, hsl, hs⟩ := sp_gf_core hK hH hty hc ht
  obtain ⟨hS, hfc, kC, hkC, hkind⟩ := hK.1.1 c _ (sp_cl_get hc)
  obtain ⟨ref0, hs0, hl0⟩ := hl0
  have hf0 := sp_same hK hs0 hf
  have hlt : f.slot < cell.slots.size := (Array.getElem?_eq_some_iff.mp hs).1
  have hty2 := sp_cl_ty c hc i hi
  have hba : G.base ≤ a := (hH.obj hty hc).1
  have hLL : ∀ q ∈ locs ++ [(⟨a, f.slot⟩ : Loc)], G.base ≤ q.base := fun q hq => by
    rcases List.mem_append.mp hq with h | h
    · exact hL q h
    · rw [List.mem_singleton.mp h]
      exact hba
  rcases hfin with hfin | ⟨hin, hfin, hdc⟩
  · have h6' := u_store hfc hkC hkind (sp_lay1 hK hc hi args hfin) hf hty2 hfit.1 hfit.2
    rcases hl0 with h0 | ⟨host, h0⟩
    · refine W.putK hx hb (f := f) ⟨hown, hK.w h0 rfl _, ⟨_, _, _, hf0⟩, hst⟩ (by rw [q2]; exact h6') q1 q3 hlt rfl rfl hdg fun H' e1 e2 e3 => ?_
      exact kk hk0 hn0 H' _ ls (sp_pf_core hK hH hty hc hi q1 hsl e1 e2 e3 h1 h2 h3 h4 h5 h6) hLL hl
    · refine va_WputK hx hb (f := f) hown (hK.w h0 rfl _) hf0 hst (by rw [q2]; exact h6') q1 q3 hlt rfl rfl hdg fun H' e1 e2 e3 => ?_
      exact kk hk0 hn0 H' _ ls (sp_pf_core hK hH hty hc hi q1 hsl e1 e2 e3 h1 h2 h3 h4 h5 h6) hLL hl
  · have hlay := sp_layF hK hc hi args hfin
    have hcf : mm.cls = cf := by
      obtain ⟨_, _, c', _, _, _, -, -, hf', -, -, -, hown2, -⟩ := Cond.laysFinal_spec hlay
      have e1 : c' = cf := by have := hf.symm.trans hf'; simp at this; exact this.1.symm
      rw [hdc] at hown2
      rw [← e1]; exact Option.some.inj (hown.symm.trans hown2)
    have h6' := u_fits hfc hkC hkind (Or.inr hlay) hf hty2 hfit.1 hfit.2
    rcases hl0 with h0 | ⟨host, h0⟩
    · refine W.putFinK hx hb hown (hK.w h0 rfl _) hf0 hst hcf (hini hin) (by rw [q2]; exact h6') q1 q3 hlt rfl rfl hdg fun H' e1 e2 e3 => ?_
      exact kk hk0 hn0 H' _ ls (sp_pf_core hK hH hty hc hi q1 hsl e1 e2 e3 h1 h2 h3 h4 h5 h6) hLL hl
    · refine va_Wputf hx hb hown (hK.w h0 rfl _) hf0 hst (Or.inr ⟨hcf, hini hin⟩) q1 (by rw [q3]; exact fun h => by cases h) hlt h6'.1 (by rw [q3, q2]; exact h6'.2) rfl rfl hdg ?_
      have ha : a < H.size := (Array.getElem?_eq_some_iff.mp q1).1
      exact kk hk0 hn0 _ _ ls (sp_pf_core (H1 := H.setIfInBounds a (cell.setSlot f.slot v)) hK hH hty hc hi q1 hsl (by simp [Array.getElem?_setIfInBounds, ha]) (by simp) (fun q hq => by simp [Array.getElem?_setIfInBounds, Ne.symm hq]) h1 h2 h3 h4 h5 h6) hLL hl
theorem sp_putI (X : sp_X l G own cc nL init ret R Qo w) {r : Option Nat} {a c i idx q : Nat} {v : Int32} (hr : r = some a) (hty : m.ty a = c + 1) (hc : c < 14) (ht : (sp_ft c)[i]? = some 0) (hq : 64 * c + i = q) (hfin : (sp_Ct c i).2.2.2 = false ∨ (init = true ∧ (sp_Ct c i).2.2.2 = true ∧ (sp_Ct c i).1 = own)) (hfit : sp_fit (sp_tyf c i) (.int v)) (hl0 : sp_fl own idx (sp_Ct c i).1 (sp_Ct c i).2.1 (sp_Ct c i).2.2.1) (hdg : decode cc pc = .ok (.putfield idx, 3)) (kk : w k n (m.pI q a v) (pc + 3) lv rest) : w k n m pc lv (.int v :: va_rf r :: rest) := by
  subst hq
  exact sp_putfield (m' := m.pI (64 * c + i) a v) X hr hty hc ht hfin hfit hl0 hdg rfl rfl rfl rfl (fun b hb => sp_e_pI hb) (sp_fs_pI ht) kk
theorem sp_putL (X : sp_X l G own cc nL init ret R Qo w) {r : Option Nat} {a c i idx q : Nat} {v : Int64} (hr : r = some a) (hty : m.ty a = c + 1) (hc : c < 14) (ht : (sp_ft c)[i]? = some 1) (hq : 64 * c + i = q) (hfin : (sp_Ct c i).2.2.2 = false ∨ (init = true ∧ (sp_Ct c i).2.2.2 = true ∧ (sp_Ct c i).1 = own)) (hl0 : sp_fl own idx (sp_Ct c i).1 (sp_Ct c i).2.1 (sp_Ct c i).2.2.1) (hdg : decode cc pc = .ok (.putfield idx, 3)) (kk : w k n (m.pL q a v) (pc + 3) lv rest) : w k n m pc lv (.long v :: va_rf r :: rest) := by
  subst hq
  have hi : i < sp_Cl c := by
    rw [← sp_cl_len c hc]
    exact (List.getElem?_eq_some_iff.mp ht).1
  have hfit : sp_fit (sp_tyf c i) (.long v) := by
    rcases sp_cl_ft c hc i hi with h | h | h
    · rw [ht] at h; cases h.1
    · rw [h.2]; exact ⟨rfl, rfl⟩
    · rw [ht] at h; cases h.1
  exact sp_putfield (m' := m.pL (64 * c + i) a v) X hr hty hc ht hfin hfit hl0 hdg rfl rfl rfl rfl (fun b hb => sp_e_pL hb) (sp_fs_pL ht) kk
theorem sp_putR (X : sp_X l G own cc nL init ret R Qo w) {r v : Option Nat} {a c i idx q : Nat} (hr : r = some a) (hty : m.ty a = c + 1) (hc : c < 14) (ht : (sp_ft c)[i]? = some 2) (hq : 64 * c + i = q) (hfin : (sp_Ct c i).2.2.2 = false ∨ (init = true ∧ (sp_Ct c i).2.2.2 = true ∧ (sp_Ct c i).1 = own)) (hl0 : sp_fl own idx (sp_Ct c i).1 (sp_Ct c i).2.1 (sp_Ct c i).2.2.1) (hdg : decode cc pc = .ok (.putfield idx, 3)) (kk : w k n (m.pR q a v) (pc + 3) lv rest) : w k n m pc lv (va_rf v :: va_rf r :: rest) := by
  subst hq
  have hi : i < sp_Cl c := by
    rw [← sp_cl_len c hc]
    exact (List.getElem?_eq_some_iff.mp ht).1
  have hfit : sp_fit (sp_tyf c i) (va_rf v) := by
    rcases sp_cl_ft c hc i hi with h | h | h
    · rw [ht] at h; cases h.1
    · rw [ht] at h; cases h.1
    · exact sp_fit_rf h.2 v
  exact sp_putfield (m' := m.pR (64 * c + i) a v) X hr hty hc ht hfin hfit hl0 hdg rfl rfl rfl rfl (fun b hb => sp_e_pR hb) (sp_fs_pR ht) kk
end SPH
